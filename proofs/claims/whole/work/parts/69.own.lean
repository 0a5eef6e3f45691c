/-! facts with a pot of their own: as many both ways -/
theorem mx_fold {c : Nat → Bool} {v : Nat → Nat} {a : Nat} : ∀ k, (a ≤ iF (fun f m => if c f = true then max m (v f) else m) a k ∧ ∀ f, f < k → c f = true → v f ≤ iF (fun f m => if c f = true then max m (v f) else m) a k) ∧ (iF (fun f m => if c f = true then max m (v f) else m) a k = a ∨ ∃ f, f < k ∧ c f = true ∧ iF (fun f m => if c f = true then max m (v f) else m) a k = v f) := by
  intro k
  induction k with
  | zero => exact ⟨⟨Nat.le_refl _, fun f hf => by omega⟩, Or.inl rfl⟩
  | succ k ih =>
    obtain ⟨⟨h1, h2⟩, h3⟩ := ih
    rw [iF_succ]
    by_cases hc : c k = true
    · rw [if_pos hc]
      refine ⟨⟨by omega, fun f hf hcf => ?_⟩, ?_⟩
      · by_cases e : f = k
        · subst e; omega
        · have := h2 f (by omega) hcf; omega
      · by_cases hm : v k ≤ iF (fun f m => if c f = true then max m (v f) else m) a k
        · rw [Nat.max_eq_left hm]
          rcases h3 with h | ⟨f, hf, h⟩
          · exact Or.inl h
          · exact Or.inr ⟨f, by omega, h⟩
        · rw [Nat.max_eq_right (by omega)]
          exact Or.inr ⟨k, by omega, hc, rfl⟩
    · rw [if_neg hc]
      refine ⟨⟨h1, fun f hf hcf => ?_⟩, ?_⟩
      · by_cases e : f = k
        · subst e; exact absurd hcf hc
        · exact h2 f (by omega) hcf
      · rcases h3 with h | ⟨f, hf, h⟩
        · exact Or.inl h
        · exact Or.inr ⟨f, by omega, h⟩
def owN (Tb : Nat → Nat → Bool) (n : Nat) : Nat → (Nat → Bool) → Nat
  | 0, _ => 0
  | r + 1, Fs => iF (fun f m => if (Fs f && Tb (n - (r + 1)) f) = true then max m (1 + owN Tb n r (fun g => Fs g && !(g == f))) else m) (owN Tb n r Fs) 8
theorem owN_le (Tb : Nat → Nat → Bool) (n : Nat) : ∀ r Fs, owN Tb n r Fs ≤ r := by
  intro r
  induction r with
  | zero => intro Fs; exact Nat.le_refl _
  | succ r ih =>
    intro Fs
    unfold owN
    rcases (mx_fold (c := fun f => Fs f && Tb (n - (r + 1)) f) (v := fun f => 1 + owN Tb n r (fun g => Fs g && !(g == f))) (a := owN Tb n r Fs) 8).2 with h | ⟨f, -, -, h⟩
    · rw [h]; have := ih Fs; omega
    · rw [h]; have := ih (fun g => Fs g && !(g == f)); omega
theorem and_one (x : Int32) {f : Nat} (hf : f < 32) : x &&& one_ f = 0 ↔ bt x f = false := by
  constructor
  · intro z
    have this : bt (x &&& one_ f) f = bt 0 f := congrArg (fun y => bt y f) z
    rw [b_and, bt_one f hf f hf, b_0] at this
    simpa using this
  · intro z
    apply b_ext
    intro i hi
    rw [b_and, bt_one f hf i hi, b_0]
    by_cases q : i = f
    · subst q; rw [z]; rfl
    · simp [q]
theorem bt_less (F : Int32) {f : Nat} (hf : f < 32) : (fun g => bt (F &&& (one_ f ^^^ (-1))) g) = fun g => bt F g && !(g == f) := by
  funext g
  by_cases hg : g < 32
  · rw [b_and, b_xor, b_m1 g hg, bt_one f hf g hg, Bool.xor_true]; rfl
  · rw [b_big (by omega), b_big (by omega)]; rfl
theorem ow_eq (tell : Nat → Int32) {n : Nat} (hn : n ≤ 6) : ∀ r, r ≤ 6 → ∀ F, owF tell n r F = nI (owN (fun i f => bt (tell i) f) n r (fun f => bt F f)) := by
  intro r
  induction r with
  | zero => intro _ F; rfl
  | succ r ih =>
    intro hr F
    unfold owF owN
    have key : ∀ k, k ≤ 8 → iF (fun f m => if F &&& tell (n - (r + 1)) &&& one_ f = 0 then m else mxI m (1 + owF tell n r (F &&& (one_ f ^^^ (-1))))) (owF tell n r F) k = nI (iF (fun f m => if (bt F f && bt (tell (n - (r + 1))) f) = true then max m (1 + owN (fun i f => bt (tell i) f) n r (fun g => bt F g && !(g == f))) else m) (owN (fun i f => bt (tell i) f) n r (fun f => bt F f)) k) ∧ iF (fun f m => if (bt F f && bt (tell (n - (r + 1))) f) = true then max m (1 + owN (fun i f => bt (tell i) f) n r (fun g => bt F g && !(g == f))) else m) (owN (fun i f => bt (tell i) f) n r (fun f => bt F f)) k ≤ r + 1 := by
      intro k
      induction k with
      | zero => intro _; exact ⟨ih (by omega) F, Nat.le_succ_of_le (owN_le _ n r _)⟩
      | succ k ih2 =>
        intro hk
        obtain ⟨a1, a2⟩ := ih2 (by omega)
        have ol := owN_le (fun i f => bt (tell i) f) n r (fun g => bt F g && !(g == k))
        rw [iF_succ, iF_succ]
        by_cases hc : F &&& tell (n - (r + 1)) &&& one_ k = 0
        · have hb := (and_one _ (by omega)).mp hc
          rw [b_and] at hb
          rw [if_pos hc, if_neg (by rw [hb]; decide)]
          exact ⟨a1, a2⟩
        · have hb : (bt F k && bt (tell (n - (r + 1))) k) = true := by
            rw [← b_and]
            cases q : bt (F &&& tell (n - (r + 1))) k with
            | true => rfl
            | false => exact absurd ((and_one _ (by omega)).mpr q) hc
          rw [if_neg hc, if_pos hb, a1, ih (by omega), bt_less F (by omega), show (1 : Int32) = nI 1 from rfl, nI_add, mxI_nI (by omega) (by omega)]
          exact ⟨rfl, by omega⟩
    exact (key 8 (Nat.le_refl _)).1
def pset (φ : Nat → Option Nat) (i : Nat) (v : Option Nat) : Nat → Option Nat := fun j => if j = i then v else φ j
theorem pset_eq {φ : Nat → Option Nat} {i j : Nat} {v : Option Nat} (h : j = i) : pset φ i v j = v := if_pos h
theorem pset_ne {φ : Nat → Option Nat} {i j : Nat} {v : Option Nat} (h : ¬ j = i) : pset φ i v j = φ j := if_neg h
def pcut (φ : Nat → Option Nat) (n : Nat) : Nat → Option Nat := fun j => if j < n then φ j else none
theorem pcut_lt {φ : Nat → Option Nat} {n j : Nat} (h : j < n) : pcut φ n j = φ j := if_pos h
theorem pcut_ge {φ : Nat → Option Nat} {n j : Nat} (h : ¬ j < n) : pcut φ n j = none := if_neg h
/-- pots from lo on have facts of their own -/
def Va (Tb : Nat → Nat → Bool) (lo n : Nat) (Fs : Nat → Bool) (φ : Nat → Option Nat) : Prop := ∀ i, lo ≤ i → i < n → ∀ f, φ i = some f → f < 8 ∧ Fs f = true ∧ Tb i f = true ∧ ∀ j, lo ≤ j → j < n → φ j = some f → j = i
def sz_ (φ : Nat → Option Nat) (n : Nat) : Nat → Nat
  | 0 => 0
  | r + 1 => sz_ φ n r + bN (φ (n - (r + 1))).isSome
theorem sz_succ (φ : Nat → Option Nat) (n r : Nat) : sz_ φ n (r + 1) = sz_ φ n r + bN (φ (n - (r + 1))).isSome := rfl
theorem sz_cg {φ ψ : Nat → Option Nat} {n : Nat} : ∀ r, r ≤ n → (∀ i, n - r ≤ i → i < n → φ i = ψ i) → sz_ φ n r = sz_ ψ n r := by
  intro r
  induction r with
  | zero => intro _ _; rfl
  | succ r ih => intro hr h; unfold sz_; rw [ih (by omega) (fun i h1 h2 => h i (by omega) h2), h (n - (r + 1)) (by omega) (by omega)]
theorem ow_up (Tb : Nat → Nat → Bool) (n : Nat) : ∀ r, r ≤ n → ∀ Fs φ, Va Tb (n - r) n Fs φ → sz_ φ n r ≤ owN Tb n r Fs := by
  intro r
  induction r with
  | zero => intro _ Fs φ _; exact Nat.le_refl _
  | succ r ih =>
    intro hr Fs φ h
    have M := (mx_fold (c := fun f => Fs f && Tb (n - (r + 1)) f) (v := fun f => 1 + owN Tb n r (fun g => Fs g && !(g == f))) (a := owN Tb n r Fs) 8).1
    unfold owN sz_
    cases hφ : φ (n - (r + 1)) with
    | none =>
      have := ih (by omega) Fs φ (fun i h1 h2 f hf => by
        obtain ⟨a1, a2, a3, a4⟩ := h i (by omega) h2 f hf
        exact ⟨a1, a2, a3, fun j h3 h4 hj => a4 j (by omega) h4 hj⟩)
      exact Nat.le_trans this M.1
    | some f =>
      obtain ⟨a1, a2, a3, a4⟩ := h (n - (r + 1)) (Nat.le_refl _) (by omega) f hφ
      have := ih (by omega) (fun g => Fs g && !(g == f)) φ (fun i h1 h2 g hg => by
        obtain ⟨b1, b2, b3, b4⟩ := h i (by omega) h2 g hg
        refine ⟨b1, ?_, b3, fun j h3 h4 hj => b4 j (by omega) h4 hj⟩
        have hne : ¬ g = f := fun e => by
          subst e
          have := a4 i (by omega) h2 hg
          omega
        simp [b2, hne])
      have m2 := M.2 f a1 (by simp [a2, a3])
      show sz_ φ n r + 1 ≤ _
      omega
theorem ow_dn (Tb : Nat → Nat → Bool) (n : Nat) : ∀ r, r ≤ n → ∀ Fs, ∃ φ, Va Tb (n - r) n Fs φ ∧ sz_ φ n r = owN Tb n r Fs := by
  intro r
  induction r with
  | zero => intro _ Fs; exact ⟨fun _ => none, fun i _ _ f hf => (by cases hf), rfl⟩
  | succ r ih =>
    intro hr Fs
    unfold owN
    rcases (mx_fold (c := fun f => Fs f && Tb (n - (r + 1)) f) (v := fun f => 1 + owN Tb n r (fun g => Fs g && !(g == f))) (a := owN Tb n r Fs) 8).2 with h | ⟨f, hf8, hc, h⟩
    · obtain ⟨φ, h1, h2⟩ := ih (by omega) Fs
      refine ⟨pset φ (n - (r + 1)) none, fun i q1 q2 f hf => ?_, ?_⟩
      · by_cases e : i = n - (r + 1)
        · rw [pset_eq e] at hf; cases hf
        · rw [pset_ne e] at hf
          obtain ⟨a1, a2, a3, a4⟩ := h1 i (by omega) q2 f hf
          refine ⟨a1, a2, a3, fun j q3 q4 hj => ?_⟩
          by_cases e2 : j = n - (r + 1)
          · rw [pset_eq e2] at hj; cases hj
          · rw [pset_ne e2] at hj; exact a4 j (by omega) q4 hj
      · rw [h, ← h2]
        rw [sz_succ, sz_cg (ψ := φ) r (by omega) (fun i q1 q2 => pset_ne (by omega)), pset_eq rfl]
        rfl
    · obtain ⟨φ, h1, h2⟩ := ih (by omega) (fun g => Fs g && !(g == f))
      rw [Bool.and_eq_true] at hc
      refine ⟨pset φ (n - (r + 1)) (some f), fun i q1 q2 g hg => ?_, ?_⟩
      · by_cases e : i = n - (r + 1)
        · rw [pset_eq e] at hg
          cases hg
          refine ⟨hf8, hc.1, by rw [e]; exact hc.2, fun j q3 q4 hj => ?_⟩
          by_cases e2 : j = n - (r + 1)
          · omega
          · rw [pset_ne e2] at hj
            have := (h1 j (by omega) q4 f hj).2.1
            simp at this
        · rw [pset_ne e] at hg
          obtain ⟨a1, a2, a3, a4⟩ := h1 i (by omega) q2 g hg
          simp only [Bool.and_eq_true] at a2
          refine ⟨a1, a2.1, a3, fun j q3 q4 hj => ?_⟩
          by_cases e2 : j = n - (r + 1)
          · rw [pset_eq e2] at hj
            cases hj
            simp at a2
          · rw [pset_ne e2] at hj; exact a4 j (by omega) q4 hj
      · rw [h, ← h2]
        rw [sz_succ, sz_cg (ψ := φ) r (by omega) (fun i q1 q2 => pset_ne (by omega)), pset_eq rfl]
        show sz_ φ n r + 1 = 1 + sz_ φ n r
        omega
/-- a set of pots that the facts below k can be given -/
def MkP (F : Int32) (sp : Nat → Int32) (n k s : Nat) (φ : Nat → Option Nat) : Prop := (∀ i f, φ i = some f → i < n ∧ f < k ∧ bt F f = true ∧ bt (sp i) f = true) ∧ (∀ i j f, φ i = some f → φ j = some f → i = j) ∧ ∀ i, s.testBit i = (φ i).isSome
theorem b6_g0 : ∀ s, s < 64 → b6 1 s = decide (s = 0) := b6_1
theorem gv_iff (F : Int32) (sp : Nat → Int32) {n : Nat} (hn : n ≤ 6) : ∀ k, k ≤ 8 → ∀ s, s < 64 → (b6 (gvF F sp n k) s = true ↔ ∃ φ, MkP F sp n k s φ) := by
  intro k
  induction k with
  | zero =>
    intro _ s hs
    rw [show gvF F sp n 0 = 1 from rfl, b6_g0 s hs]
    constructor
    · intro z
      have z : s = 0 := by simpa using z
      subst z
      exact ⟨fun _ => none, fun i f h => (by cases h), fun i j f h => (by cases h), fun i => (by simp)⟩
    · rintro ⟨φ, h1, h2, h3⟩
      apply decide_eq_true
      apply Nat.eq_of_testBit_eq
      intro i
      rw [h3 i]
      cases q : φ i with
      | none => simp
      | some f => have := (h1 i f q).2.1; omega
  | succ k ih =>
    intro hk s hs
    have e : gvF F sp n (k + 1) = if bit F k = 0 then gvF F sp n k else gvF F sp n k ||| gmO (gvF F sp n k) sp k n := rfl
    have up : ∀ φ, MkP F sp n k s φ → MkP F sp n (k + 1) s φ := fun φ h => ⟨fun i f hf => by obtain ⟨a1, a2, a3, a4⟩ := h.1 i f hf; exact ⟨a1, by omega, a3, a4⟩, h.2.1, h.2.2⟩
    have dn : ∀ φ, MkP F sp n (k + 1) s φ → (∀ i, ¬ φ i = some k) → MkP F sp n k s φ := fun φ h hno => ⟨fun i f hf => by
      obtain ⟨a1, a2, a3, a4⟩ := h.1 i f hf
      refine ⟨a1, ?_, a3, a4⟩
      by_cases q : f = k
      · subst q; exact absurd hf (hno i)
      · omega, h.2.1, h.2.2⟩
    rw [e]
    by_cases hc : bit F k = 0
    · rw [if_pos hc, ih (by omega) s hs]
      have hF := (bit_0 F (by omega)).mp hc
      constructor
      · rintro ⟨φ, h⟩; exact ⟨φ, up φ h⟩
      · rintro ⟨φ, h⟩
        exact ⟨φ, dn φ h (fun i hi => by have := (h.1 i k hi).2.2.1; rw [hF] at this; cases this)⟩
    · have hF : bt F k = true := by
        cases q : bt F k with
        | true => rfl
        | false => exact absurd ((bit_0 F (by omega)).mpr q) hc
      rw [if_neg hc, b6_or, Bool.or_eq_true, ih (by omega) s hs, gmO_b6 _ sp (by omega) n hn s hs]
      constructor
      · rintro (⟨φ, h⟩ | ⟨i, hi, hsp, t, ht, hg, hti, rfl⟩)
        · exact ⟨φ, up φ h⟩
        · obtain ⟨φ, h1, h2, h3⟩ := (ih (by omega) t ht).mp hg
          refine ⟨pset φ i (some k), fun j f hj => ?_, fun a b f ha hb => ?_, fun j => ?_⟩
          · by_cases q : j = i
            · rw [pset_eq q] at hj; cases hj; subst q; exact ⟨hi, by omega, hF, hsp⟩
            · rw [pset_ne q] at hj; obtain ⟨a1, a2, a3, a4⟩ := h1 j f hj; exact ⟨a1, by omega, a3, a4⟩
          · by_cases qa : a = i
            · by_cases qb : b = i
              · omega
              · rw [pset_eq qa] at ha; rw [pset_ne qb] at hb
                cases ha
                have := (h1 b k hb).2.1; omega
            · by_cases qb : b = i
              · rw [pset_ne qa] at ha; rw [pset_eq qb] at hb
                cases hb
                have := (h1 a k ha).2.1; omega
              · rw [pset_ne qa] at ha; rw [pset_ne qb] at hb; exact h2 a b f ha hb
          · rw [Nat.testBit_or]
            by_cases q : j = i
            · subst q; rw [Nat.testBit_two_pow_self, pset_eq rfl]; simp
            · rw [Nat.testBit_two_pow_of_ne (Ne.symm q), Bool.or_false, pset_ne q]; exact h3 j
      · rintro ⟨φ, h⟩
        by_cases hex : ∃ i, φ i = some k
        · obtain ⟨i, hi⟩ := hex
          obtain ⟨a1, a2, a3, a4⟩ := h.1 i k hi
          have hsi : s.testBit i = true := by rw [h.2.2 i, hi]; rfl
          have hlt : s ^^^ 2 ^ i < 64 := Nat.xor_lt_two_pow (n := 6) hs (Nat.pow_lt_pow_right (by omega) (by omega))
          have tb : ∀ j, (s ^^^ 2 ^ i).testBit j = if j = i then false else s.testBit j := by
            intro j
            rw [Nat.testBit_xor]
            by_cases q : j = i
            · subst q; rw [Nat.testBit_two_pow_self, hsi, if_pos rfl]; rfl
            · rw [Nat.testBit_two_pow_of_ne (Ne.symm q), if_neg q, Bool.xor_false]
          right
          refine ⟨i, a1, a4, s ^^^ 2 ^ i, hlt, ?_, by rw [tb, if_pos rfl], ?_⟩
          · refine (ih (by omega) _ hlt).mpr ⟨pset φ i none, fun j f hj => ?_, fun a b f ha hb => ?_, fun j => ?_⟩
            · by_cases q : j = i
              · rw [pset_eq q] at hj; cases hj
              · rw [pset_ne q] at hj
                obtain ⟨b1, b2, b3, b4⟩ := h.1 j f hj
                refine ⟨b1, ?_, b3, b4⟩
                by_cases q2 : f = k
                · subst q2; exact absurd (h.2.1 j i f hj hi) q
                · omega
            · by_cases qa : a = i
              · rw [pset_eq qa] at ha; cases ha
              · by_cases qb : b = i
                · rw [pset_eq qb] at hb; cases hb
                · rw [pset_ne qa] at ha; rw [pset_ne qb] at hb; exact h.2.1 a b f ha hb
            · rw [tb]
              by_cases q : j = i
              · rw [if_pos q, pset_eq q]; rfl
              · rw [if_neg q, pset_ne q]; exact h.2.2 j
          · apply Nat.eq_of_testBit_eq
            intro j
            rw [Nat.testBit_or, tb]
            by_cases q : j = i
            · subst q; rw [Nat.testBit_two_pow_self, hsi, if_pos rfl]; rfl
            · rw [Nat.testBit_two_pow_of_ne (Ne.symm q), if_neg q, Bool.or_false]
        · exact Or.inl ⟨φ, dn φ h (fun i hi => hex ⟨i, hi⟩)⟩
theorem jBC64 : ∀ s, s < 64 → jBC (nI s) = nI (cntN (fun i => s.testBit i) 6) := by decide +kernel
theorem mst_eq (g : Int64) : ∀ k, k ≤ 64 → mstF g k = nI (iF (fun s m => if b6 g s = true then max m (cntN (fun i => s.testBit i) 6) else m) 0 k) ∧ iF (fun s m => if b6 g s = true then max m (cntN (fun i => s.testBit i) 6) else m) 0 k ≤ 6 := by
  intro k
  induction k with
  | zero => intro _; exact ⟨rfl, by show (0 : Nat) ≤ 6; omega⟩
  | succ k ih =>
    intro hk
    obtain ⟨a1, a2⟩ := ih (by omega)
    have cl := cntN_le (fun i => k.testBit i) 6
    have e : mstF g (k + 1) = if lb1 g k then mxI (mstF g k) (jBC (nI k)) else mstF g k := rfl
    rw [e, iF_succ]
    by_cases hc : lb1 g k
    · rw [if_pos hc, if_pos ((lb1_iff (by omega)).mp hc), a1, jBC64 k (by omega), mxI_nI (by omega) (by omega)]
      exact ⟨rfl, by omega⟩
    · rw [if_neg hc, if_neg (fun z => hc ((lb1_iff (by omega)).mpr z))]
      exact ⟨a1, a2⟩
theorem sz_cnt (φ : Nat → Option Nat) (n : Nat) : ∀ r, r ≤ n → sz_ φ n r + cntN (fun i => (φ i).isSome) (n - r) = cntN (fun i => (φ i).isSome) n := by
  intro r
  induction r with
  | zero => intro _; show 0 + _ = _; simp
  | succ r ih =>
    intro hr
    have := ih (by omega)
    unfold sz_
    have e : cntN (fun i => (φ i).isSome) (n - r) = cntN (fun i => (φ i).isSome) (n - (r + 1)) + bN (φ (n - (r + 1))).isSome := by
      rw [show n - r = (n - (r + 1)) + 1 by omega]; rfl
    omega
theorem cnt_none {p : Nat → Bool} {n : Nat} (hp : ∀ i, n ≤ i → p i = false) : ∀ m, n ≤ m → cntN p m = cntN p n := by
  intro m
  induction m with
  | zero =>
    intro h
    have e : n = 0 := by omega
    rw [e]
  | succ m ih =>
    intro h
    by_cases e : n = m + 1
    · rw [e]
    · show cntN p m + bN (p m) = _
      rw [ih (by omega), hp m (by omega)]; rfl
theorem mask_ex (p : Nat → Bool) : ∀ n, ∃ s, s < 2 ^ n ∧ ∀ i, s.testBit i = (decide (i < n) && p i) := by
  intro n
  induction n with
  | zero => exact ⟨0, by decide, fun i => by simp⟩
  | succ n ih =>
    obtain ⟨s, h1, h2⟩ := ih
    cases hp : p n with
    | false =>
      refine ⟨s, by rw [Nat.pow_succ]; omega, fun i => ?_⟩
      rw [h2 i]
      by_cases e : i = n
      · subst e; simp [hp]
      · rw [show decide (i < n + 1) = decide (i < n) from decide_eq_decide.mpr (by omega)]
    | true =>
      refine ⟨s ||| 2 ^ n, Nat.or_lt_two_pow (by rw [Nat.pow_succ]; omega) (Nat.pow_lt_pow_right (by omega) (by omega)), fun i => ?_⟩
      rw [Nat.testBit_or, h2 i]
      by_cases e : i = n
      · subst e; rw [Nat.testBit_two_pow_self]; simp [hp]
      · rw [Nat.testBit_two_pow_of_ne (Ne.symm e), Bool.or_false, show decide (i < n + 1) = decide (i < n) from decide_eq_decide.mpr (by omega)]
theorem own_eq {F : Int32} {sp tell : Nat → Int32} (h : SpT F sp tell) {n : Nat} (hn : n ≤ 6) : mstF (gvF F sp n 8) 64 = owF tell n n F := by
  rw [(mst_eq _ 64 (Nat.le_refl _)).1, ow_eq tell hn n hn]
  congr 1
  have M := mx_fold (c := fun s => b6 (gvF F sp n 8) s) (v := fun s => cntN (fun i => s.testBit i) 6) (a := 0) 64
  apply Nat.le_antisymm
  · rcases M.2 with e | ⟨s, hs, hc, e⟩
    · rw [e]; exact Nat.zero_le _
    · rw [e]
      obtain ⟨φ, h1, h2, h3⟩ := (gv_iff F sp hn 8 (Nat.le_refl _) s hs).mp hc
      have u := ow_up (fun i f => bt (tell i) f) n n (Nat.le_refl _) (fun f => bt F f) φ (fun i _ hi f hf => by
        obtain ⟨a1, a2, a3, a4⟩ := h1 i f hf
        rw [h i f (by omega), a3, Bool.true_and] at a4
        exact ⟨a2, a3, a4, fun j _ _ hj => h2 j i f hj hf⟩)
      have c := sz_cnt φ n n (Nat.le_refl _)
      rw [Nat.sub_self] at c
      have e2 : cntN (fun i => s.testBit i) 6 = cntN (fun i => (φ i).isSome) n := by
        rw [cntN_cg (g := fun i => (φ i).isSome) (fun i _ => h3 i)]
        refine cnt_none (fun i hi => ?_) 6 hn
        cases q : φ i with
        | none => rfl
        | some f => have := (h1 i f q).1; omega
      rw [e2, ← c]
      show sz_ φ n n + 0 ≤ _
      exact u
  · obtain ⟨φ, h1, h2⟩ := ow_dn (fun i f => bt (tell i) f) n n (Nat.le_refl _) (fun f => bt F f)
    obtain ⟨s, hs, hb⟩ := mask_ex (fun i => (φ i).isSome) n
    have hs6 : s < 64 := Nat.lt_of_lt_of_le hs (Nat.pow_le_pow_right (n := 2) (by omega) hn)
    have hm : MkP F sp n 8 s (pcut φ n) := by
      refine ⟨fun i f hf => ?_, fun i j f hi hj => ?_, fun i => ?_⟩
      · by_cases q : i < n
        · rw [pcut_lt q] at hf
          obtain ⟨a1, a2, a3, a4⟩ := h1 i (by omega) q f hf
          exact ⟨q, a1, a2, by rw [h i f (by omega), show bt F f = true from a2, show bt (tell i) f = true from a3]; rfl⟩
        · rw [pcut_ge q] at hf; cases hf
      · by_cases q : i < n
        · by_cases q2 : j < n
          · rw [pcut_lt q] at hi; rw [pcut_lt q2] at hj
            exact ((h1 i (by omega) q f hi).2.2.2 j (by omega) q2 hj).symm
          · rw [pcut_ge q2] at hj; cases hj
        · rw [pcut_ge q] at hi; cases hi
      · rw [hb i]
        by_cases q : i < n
        · rw [pcut_lt q, decide_eq_true q]; rfl
        · rw [pcut_ge q, decide_eq_false q]; rfl
    have k := M.1.2 s hs6 ((gv_iff F sp hn 8 (Nat.le_refl _) s hs6).mpr ⟨_, hm⟩)
    have c := sz_cnt φ n n (Nat.le_refl _)
    rw [Nat.sub_self] at c
    have e2 : cntN (fun i => s.testBit i) 6 = cntN (fun i => (φ i).isSome) n := by
      rw [cnt_none (p := fun i => s.testBit i) (n := n) (fun i hi => by rw [hb i, decide_eq_false (by omega)]; rfl) 6 hn]
      exact cntN_cg (fun i hi => by rw [hb i, decide_eq_true hi]; rfl)
    rw [e2, ← c, h2] at k
    exact k
theorem cas_eq (S : xSem) (G : Nat → Int32) {n : Nat} (hn : n ≤ 6) (F w : Int32) : casJ S G n F w = casesV S G n F w := by
  unfold casJ casesV
  have h := SpT.all S G F
  rw [own_eq h hn]
  rcases en_eq h hn (2 ^ n) (Nat.pow_le_pow_right (n := 2) (i := n) (j := 6) (by omega) hn) with ⟨e1, e2⟩ | ⟨t, -, e1, e2⟩
  · rw [e1, e2]
  · rw [e1, e2]
