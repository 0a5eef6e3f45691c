/-! told, odds: both ways alike -/
def NxR (L : Int32) (b b2 : Int32 × Int32) : Prop := (b = (-5, 257) ∧ b2 = (-5, L)) ∨ b = b2
theorem NxR.step {L : Int32} {b b2 : Int32 × Int32} (h : NxR L b b2) {l ix : Int32} {q : Nat} (hl : l = nI q) (hq : q ≤ 256) (hL : l < L) : NxR L (if l < b.2 then ix else b.1, mnI l b.2) (if l < b2.2 then (ix, l) else b2) := by
  right
  rcases h with ⟨rfl, rfl⟩ | rfl
  · simp only
    rw [if_pos (show l < 257 from hl ▸ nI_lt (b := 257) (by omega) (by omega)), if_pos hL]
    unfold mnI
    rw [if_neg (fun z => absurd (nLt (a := 257) (by omega) (by omega) (hl ▸ z)) (by omega))]
  · unfold mnI
    by_cases z : l < b.2
    · rw [if_pos z, if_pos z, if_neg (fun y => Int32.lt_irrefl (Int32.lt_trans z y))]
    · rw [if_neg z, if_neg z]
      by_cases y : b.2 < l
      · rw [if_pos y]
      · rw [if_neg y, Int32.le_antisymm (Int32.not_lt.mp z) (Int32.not_lt.mp y) |>.symm]
theorem lfJ_nat {s : fT} {fit : Nat → Bool} (h : FIv s fit) (f : Nat) (v : Int32) : ∃ q, q ≤ 256 ∧ lfJ s f v = nI q ∧ lfJ s f v < szF s + 1 := by
  have hc := cntN_le fit 256
  unfold lfJ
  rw [h.sz]
  split
  · exact ⟨_, hc, rfl, by rw [nI_1]; exact nI_lt (by omega) (by omega)⟩
  · have e : nI (cntN fit 256) / 2 = nI (cntN fit 256 / 2) := by rw [show (2 : Int32) = nI 2 from rfl, pk_div (by omega) (by omega) (by omega)]
    exact ⟨cntN fit 256 / 2, by omega, e, by rw [e, nI_1]; exact nI_lt (by omega) (by omega)⟩
theorem nx_eq {s : fT} {fit : Nat → Bool} (h : FIv s fit) (hs : s.1 = true) (S : xSem) (G : Nat → Int32) : ∀ n, NxR (szF s + 1) (nxA fit S G n) (njA s S G n) := by
  intro n
  induction n with
  | zero => exact Or.inl ⟨rfl, rfl⟩
  | succ n ih =>
    rw [nxA_succ, njA_succ]
    have key : ∀ k, k ≤ 8 → NxR (szF s + 1) (nx1 fit S G n (nxA fit S G n) k) (nj1 s S G n (njA s S G n) k) := by
      intro k
      induction k with
      | zero => intro _; rw [nx1_zero, nj1_0]; exact ih
      | succ k ih2 =>
        intro hk
        rw [nx1_succ, nj1_succ]
        unfold nx2 nj2
        rw [h.most hs (by omega)]
        obtain ⟨q, hq, e, hL⟩ := lfJ_nat h k (voc (Clr S n (pV G n) k))
        exact (ih2 (by omega)).step e hq hL
    exact key 8 (Nat.le_refl _)
theorem next_eq {s : fT} {fit : Nat → Bool} (h : FIv s fit) (S : xSem) (G : Nat → Int32) (n : Nat) : nextV fit S G n = nxJ s S G n := by
  unfold nextV nxJ
  rw [cntF_N, h.cnt]
  cases hs : s.1 with
  | false =>
    simp only [Bool.false_eq_true, if_false]
    rw [if_pos (show nI 0 ≤ 0 by decide)]
  | true =>
    have hp := pr_pos (kn_ s) 8
    have hl := pr_le (kn_ s) 8
    simp only [if_true]
    rw [if_neg (show ¬ nI (pr (kn_ s) 8) ≤ 0 from fun z => absurd (nLe (b := 0) (by omega) (by omega) z) (by omega))]
    rcases nx_eq h hs S G n with ⟨e1, e2⟩ | e
    · rw [e1, e2]
    · rw [e]
theorem rng10 {w : Int32} : rng (w - 10) 0 7 ↔ (10 ≤ w ∧ w < 18) := by
  constructor
  · intro h
    obtain ⟨j, hj, e⟩ := rng_nat (m := 7) (by omega) h
    have ew : w = nI (j + 10) := by
      have : w - 10 + 10 = nI j + 10 := by rw [e]
      rw [Int32.sub_add_cancel] at this
      rw [this]; exact nI_add j 10
    rw [ew]
    exact ⟨nI_le (a := 10) (by omega) (by omega), nI_lt (b := 18) (by omega) (by omega)⟩
  · rintro ⟨h1, h2⟩
    obtain ⟨j, hj, rfl⟩ := nI_of (x := w) (fun z => absurd (Int32.lt_of_le_of_lt h1 z) (by decide))
    have a1 := nLe (a := 10) (by omega) hj h1
    have a2 := nLt (b := 18) hj (by omega) h2
    rw [show nI j - 10 = nI (j - 10) from pk_sub (b := 10) a1]
    exact rng_nI (m := 7) (by omega) (by omega)
theorem told_eq (S : xSem) (G : Nat → Int32) (n m : Nat) (w : Int32) (h1 : HRo G m) (h3 : H3i G m) : toldJ S G n m w = toldV S G n m w := by
  have h := FIv.all S G m h1 h3
  unfold toldJ toldV
  by_cases hr : 10 ≤ w ∧ w < 18
  · have hn : ∀ c : Nat, c < 10 → ¬ w = nI c := fun c hc e => by
      rw [e] at hr
      exact absurd (nLe (a := 10) (by omega) (by omega) hr.1) (by omega)
    rw [if_pos hr, if_neg (c := w = 0) (hn 0 (by omega)), if_neg (c := w = 1) (hn 1 (by omega)), if_neg (c := w = 2) (hn 2 (by omega)), if_neg (c := w = 3) (hn 3 (by omega)), if_neg (c := w = 4) (hn 4 (by omega)), if_neg (c := w = 5) (hn 5 (by omega)), if_neg (c := w = 6) (hn 6 (by omega)), if_neg (c := w = 7) (hn 7 (by omega)), if_pos (rng10.mpr hr)]
  · rw [if_neg hr, if_neg (c := rng (w - 10) 0 7) (fun z => hr (rng10.mp z))]
    unfold tofJ
    rw [cntF_N, ← h.sz, h.lst, h.or, next_eq h]
    have e5 : (if szF (gfF S G m) = 0 then 0 else andF (fitR S G m) 256) = if (gfF S G m).1 = true then (gfF S G m).2.2 else 0 := by
      rw [h.sz, h.cnt]
      cases hs : (gfF S G m).1 with
      | false =>
        simp only [Bool.false_eq_true, if_false]
        rw [if_pos (show nI 0 = 0 from rfl)]
      | true =>
        have hp := pr_pos (kn_ (gfF S G m)) 8
        have hl := pr_le (kn_ (gfF S G m)) 8
        simp only [if_true]
        rw [if_neg (show ¬ nI (pr (kn_ (gfF S G m)) 8) = 0 from fun z => absurd (nEq (b := 0) (by omega) (by omega) z) (by omega)), h.and hs]
    rw [e5]
theorem odd_eq {s : fT} {fit : Nat → Bool} (h : FIv s fit) (f pt : Int32) : oddJ s f pt = oddsV fit f pt := by
  unfold oddJ oddsV
  by_cases hr : rng f 0 7 ∧ rng pt 0 1
  · rw [if_pos hr, if_pos hr]
    obtain ⟨g, hg, rfl⟩ := rng_nat (m := 7) (by omega) hr.1
    obtain ⟨p, hp, rfl⟩ := rng_nat (m := 1) (by omega) hr.2
    rw [cN_nI (by omega)]
    cases hs : s.1 with
    | false =>
      simp only [Bool.false_eq_true, if_false]
      rw [if_pos (show cntN fit 256 = 0 by rw [h.cnt, hs]; rfl)]
    | true =>
      have hP : cntN fit 256 = pr (kn_ s) 8 := by rw [h.cnt, if_pos hs]
      have hpos := pr_pos (kn_ s) 8
      have hsm : somN fit g 256 = cntN (fun w => fB (kn_ s) (so_ s) 8 w && (w.testBit g == true)) 256 := by
        unfold somN cntN
        refine nS_cg 256 (fun w hw => ?_)
        rw [h.2.2 w hw, hs, Bool.true_and]
        have eb : bitN w g = bN (w.testBit g) := by unfold bitN; rw [bit_w (by omega)]; cases w.testBit g <;> rfl
        rw [eb]
        show _ = bN (fB (kn_ s) (so_ s) 8 w && (w.testBit g == true))
        cases fB (kn_ s) (so_ s) 8 w <;> cases w.testBit g <;> rfl
      simp only [if_true]
      rw [hP, if_neg (show ¬ pr (kn_ s) 8 = 0 by omega), hsm]
      have hK : bit s.2.1 g = bI (kn_ s g) := bt_bit _ (by omega)
      have hZ : bit s.2.2 g = bI (so_ s g) := bt_bit _ (by omega)
      rw [hK, hZ]
      unfold frV
      cases hk : kn_ s g with
      | false =>
        have c2 := cnt_more (so := so_ s) true (by omega : g < 8) hk
        generalize cntN (fun w => fB (kn_ s) (so_ s) 8 w && (w.testBit g == true)) 256 = x at c2 ⊢
        rw [← c2]
        rw [← c2] at hpos
        rw [Nat.gcd_mul_left_right, Nat.div_self (by omega), Nat.mul_div_cancel _ (by omega)]
        match p, hp with
        | 0, _ => rfl
        | 1, _ => rfl
      | true =>
        rw [cnt_kn true (by omega) hk]
        cases hz : so_ s g with
        | true =>
          rw [if_pos rfl, Nat.gcd_self, Nat.div_self hpos]
          match p, hp with
          | 0, _ => rfl
          | 1, _ => rfl
        | false =>
          rw [if_neg (show ¬ false = true by decide), Nat.gcd_zero_left, Nat.zero_div, Nat.div_self hpos]
          match p, hp with
          | 0, _ => rfl
          | 1, _ => rfl
  · rw [if_neg hr, if_neg hr]
