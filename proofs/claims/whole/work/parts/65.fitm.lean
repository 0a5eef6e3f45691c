/-! worlds that fit: the 256 looked at, and what JamOath knows of them -/
theorem bt_bit (x : Int32) {f : Nat} (hf : f < 32) : bit x f = bI (bt x f) := by
  unfold bit
  apply b_ext2
  · rw [b_and, b_sshr f hf _ (by omega), bt_10.1, bt_b0, if_pos (by omega)]; simp
  · intro j hj; rw [b_and, bt_10.2 j hj, bt_bs _ j hj]; simp
theorem bt_one : ∀ f, f < 32 → ∀ i, i < 32 → bt (one_ f) i = decide (i = f) := by decide +kernel
theorem bt_255 : ∀ i, i < 32 → bt 255 i = decide (i < 8) := by decide +kernel
theorem bit_w {w f : Nat} (hf : f < 32) : bit (nI w) f = bI (w.testBit f) := by rw [bt_bit _ hf, bt_nI _ hf]
theorem bN_eq (b : Bool) : bI b = nI (bN b) := bI_bN b
/-- a world fits: what is known is so in it -/
def fB (kn so : Nat → Bool) : Nat → Nat → Bool
  | 0, _ => true
  | f + 1, w => fB kn so f w && (!kn f || (w.testBit f == so f))
theorem fB_iff {kn so : Nat → Bool} : ∀ (k w : Nat), fB kn so k w = true ↔ ∀ f, f < k → kn f = true → w.testBit f = so f := by
  intro k
  induction k with
  | zero => intro w; exact ⟨fun _ f hf => by omega, fun _ => rfl⟩
  | succ k ih =>
    intro w
    unfold fB
    rw [Bool.and_eq_true, ih]
    constructor
    · rintro ⟨h1, h2⟩ f hf hk
      by_cases e : f = k
      · subst e; rw [hk] at h2; simpa using h2
      · exact h1 f (by omega) hk
    · intro h
      refine ⟨fun f hf hk => h f (by omega) hk, ?_⟩
      cases hk : kn k with
      | false => rfl
      | true => rw [h k (by omega) hk]; simp
def pr (kn : Nat → Bool) : Nat → Nat
  | 0 => 1
  | k + 1 => (if kn k = true then 1 else 2) * pr kn k
theorem nS_add (f : Nat → Nat) (a : Nat) : ∀ b, nS f (a + b) = nS f a + nS (fun w => f (a + w)) b := by
  intro b
  induction b with
  | zero => rfl
  | succ b ih => show nS f (a + b) + f (a + b) = _; rw [ih]; show _ = nS f a + (nS (fun w => f (a + w)) b + f (a + b)); omega
theorem nS_cg {f g : Nat → Nat} : ∀ n, (∀ i, i < n → f i = g i) → nS f n = nS g n := by
  intro n
  induction n with
  | zero => intro _; rfl
  | succ n ih => intro h; show nS f n + f n = nS g n + g n; rw [ih (fun i hi => h i (by omega)), h n (by omega)]
theorem cntN_cg {f g : Nat → Bool} {n : Nat} (h : ∀ i, i < n → f i = g i) : cntN f n = cntN g n := nS_cg n (fun i hi => by rw [h i hi])
theorem cntN_0 : ∀ n, cntN (fun _ => false) n = 0 := by
  intro n
  induction n with
  | zero => rfl
  | succ n ih => show nS _ n + 0 = 0; exact ih
theorem fB_hi {kn so : Nat → Bool} {k w : Nat} : fB kn so k (2 ^ k + w) = fB kn so k w := by
  have h : ∀ j, j ≤ k → fB kn so j (2 ^ k + w) = fB kn so j w := by
    intro j
    induction j with
    | zero => intro _; rfl
    | succ j ih => intro hj; unfold fB; rw [ih (by omega), Nat.testBit_two_pow_add_gt (by omega)]
  exact h k (Nat.le_refl _)
theorem fB_cnt (kn so : Nat → Bool) : ∀ k, cntN (fB kn so k) (2 ^ k) = pr kn k := by
  intro k
  induction k with
  | zero => rfl
  | succ k ih =>
    have e : 2 ^ (k + 1) = 2 ^ k + 2 ^ k := by rw [Nat.pow_succ]; omega
    have lo : ∀ w, w < 2 ^ k → fB kn so (k + 1) w = (fB kn so k w && (!kn k || !so k)) := by
      intro w hw
      show (fB kn so k w && (!kn k || (w.testBit k == so k))) = _
      rw [Nat.testBit_lt_two_pow hw]
      cases so k <;> rfl
    have hi : ∀ w, w < 2 ^ k → fB kn so (k + 1) (2 ^ k + w) = (fB kn so k w && (!kn k || so k)) := by
      intro w hw
      show (fB kn so k (2 ^ k + w) && (!kn k || ((2 ^ k + w).testBit k == so k))) = _
      rw [fB_hi, Nat.testBit_two_pow_add_eq, Nat.testBit_lt_two_pow hw]
      cases so k <;> rfl
    unfold cntN
    rw [e, nS_add]
    rw [nS_cg (g := fun w => bN (fB kn so k w && (!kn k || !so k))) _ (fun w hw => by rw [lo w hw])]
    rw [nS_cg (g := fun w => bN (fB kn so k w && (!kn k || so k))) (f := fun w => bN (fB kn so (k + 1) (2 ^ k + w))) _ (fun w hw => by rw [hi w hw])]
    have z : nS (fun _ => bN false) (2 ^ k) = 0 := cntN_0 _
    unfold cntN at ih
    unfold pr
    cases kn k <;> cases so k <;> simp only [Bool.not_true, Bool.not_false, Bool.or_true, Bool.true_or, Bool.false_or, Bool.or_false, Bool.and_true, Bool.and_false, z, ih] <;> simp <;> omega
theorem pr_pos (kn : Nat → Bool) : ∀ k, 0 < pr kn k := by
  intro k
  induction k with
  | zero => exact Nat.one_pos
  | succ k ih => unfold pr; split <;> omega
theorem pr_le (kn : Nat → Bool) : ∀ k, pr kn k ≤ 2 ^ k := by
  intro k
  induction k with
  | zero => exact Nat.le_refl _
  | succ k ih => unfold pr; rw [Nat.pow_succ]; split <;> omega
theorem pr_upd {kn : Nat → Bool} {f : Nat} (hk : kn f = false) : ∀ k, (k ≤ f → pr (fun g => g == f || kn g) k = pr kn k) ∧ (f < k → 2 * pr (fun g => g == f || kn g) k = pr kn k) := by
  intro k
  induction k with
  | zero => exact ⟨fun _ => rfl, fun h => by omega⟩
  | succ k ih =>
    refine ⟨fun h => ?_, fun h => ?_⟩
    · unfold pr
      rw [ih.1 (by omega), show (k == f) = false by simp; omega, Bool.false_or]
    · unfold pr
      by_cases e : k = f
      · subst e
        rw [ih.1 (Nat.le_refl _), hk]; simp
      · rw [← ih.2 (by omega), show (k == f) = false by simp; omega, Bool.false_or]
        cases kn k <;> simp <;> omega
theorem pr_cg {kn k2 : Nat → Bool} : ∀ k, (∀ f, f < k → kn f = k2 f) → pr kn k = pr k2 k := by
  intro k
  induction k with
  | zero => intro _; rfl
  | succ k ih => intro h; unfold pr; rw [ih (fun f hf => h f (by omega)), h k (by omega)]
/-- with one fact more -/
theorem fB_more {kn so : Nat → Bool} {f : Nat} {b : Bool} (hf : f < 8) (hk : kn f = false) (w : Nat) : fB (fun g => g == f || kn g) (fun g => if g = f then b else so g) 8 w = (fB kn so 8 w && (w.testBit f == b)) := by
  rw [Bool.eq_iff_iff, Bool.and_eq_true, fB_iff, fB_iff, beq_iff_eq]
  constructor
  · intro h
    refine ⟨fun g hg hkg => ?_, ?_⟩
    · have := h g hg (by simp [hkg])
      rw [if_neg (fun z => by subst z; rw [hk] at hkg; cases hkg)] at this
      exact this
    · have := h f hf (by simp)
      rw [if_pos rfl] at this; exact this
  · rintro ⟨h1, h2⟩ g hg hkg
    by_cases e : g = f
    · subst e; rw [if_pos rfl]; exact h2
    · rw [if_neg e]
      refine h1 g hg ?_
      simpa [e] using hkg
theorem cnt_more {kn so : Nat → Bool} {f : Nat} (b : Bool) (hf : f < 8) (hk : kn f = false) : 2 * cntN (fun w => fB kn so 8 w && (w.testBit f == b)) 256 = pr kn 8 := by
  rw [← (pr_upd hk 8).2 hf, ← fB_cnt _ (fun g => if g = f then b else so g) 8, cntN_cg (n := 256) (fun w _ => (fB_more hf hk w).symm)]
theorem cnt_kn {kn so : Nat → Bool} {f : Nat} (b : Bool) (hf : f < 8) (hk : kn f = true) : cntN (fun w => fB kn so 8 w && (w.testBit f == b)) 256 = if so f = b then pr kn 8 else 0 := by
  by_cases e : so f = b
  · rw [if_pos e, ← fB_cnt kn so 8]
    refine cntN_cg (fun w _ => ?_)
    cases h : fB kn so 8 w with
    | false => rfl
    | true => rw [(fB_iff 8 w).mp h f hf hk, e]; simp
  · rw [if_neg e, ← cntN_0 256]
    refine cntN_cg (fun w _ => ?_)
    cases h : fB kn so 8 w with
    | false => rfl
    | true => rw [(fB_iff 8 w).mp h f hf hk]; simpa using e
/-- what JamOath knows, by its bits -/
abbrev kn_ (s : fT) (f : Nat) : Bool := bt s.2.1 f
abbrev so_ (s : fT) (f : Nat) : Bool := bt s.2.2 f
def H3i (G : Nat → Int32) (m : Nat) : Prop := ∀ r, r < m → G (59 + 3 * r + 2) = -1 ∨ G (59 + 3 * r + 2) = 0 ∨ G (59 + 3 * r + 2) = 1
def FIv (s : fT) (fit : Nat → Bool) : Prop := (∀ i, 8 ≤ i → i < 32 → bt s.2.1 i = false) ∧ (∀ i, i < 32 → bt s.2.2 i = true → bt s.2.1 i = true) ∧ ∀ w, w < 256 → fit w = (s.1 && fB (kn_ s) (so_ s) 8 w)
theorem fB_cg {kn so k2 s2 : Nat → Bool} : ∀ k, (∀ f, f < k → kn f = k2 f ∧ so f = s2 f) → ∀ w, fB kn so k w = fB k2 s2 k w := by
  intro k
  induction k with
  | zero => intro _ w; rfl
  | succ k ih => intro h w; unfold fB; rw [ih (fun f hf => h f (by omega)) w, (h k (by omega)).1, (h k (by omega)).2]
theorem voc_1 {c : Int32} (h : voc c = 1) : 4 ≤ c := by
  unfold voc at h
  split at h
  · assumption
  · split at h <;> exact absurd h (by decide)
theorem voc_m {c : Int32} (h : voc c = -1) : ¬ 4 ≤ c ∧ c < 0 := by
  unfold voc at h
  split at h
  · exact absurd h (by decide)
  · split at h
    · exact ⟨by assumption, by assumption⟩
    · exact absurd h (by decide)
theorem voc_0 {c : Int32} (h : voc c = 0) : ¬ 4 ≤ c ∧ ¬ c < 0 := by
  unfold voc at h
  split at h
  · exact absurd h (by decide)
  · split at h
    · exact absurd h (by decide)
    · exact ⟨by assumption, by assumption⟩
theorem voc_c (c : Int32) : voc c = 1 ∨ voc c = -1 ∨ voc c = 0 := by
  unfold voc
  split
  · exact Or.inl rfl
  · split
    · exact Or.inr (Or.inl rfl)
    · exact Or.inr (Or.inr rfl)
/-- what a pot says of a world, by its voice -/
theorem syB_v {c : Int32} {f w : Nat} (hf : f < 8) : syB c f (nI w) = if voc c = 0 then -5 else bI (if voc c = 1 then w.testBit f else !w.testBit f) := by
  unfold syB
  rcases voc_c c with h | h | h
  · rw [if_pos (voc_1 h), h, if_neg (by decide), if_pos rfl, bit_w (by omega)]
  · rw [if_neg (voc_m h).1, if_pos (voc_m h).2, h, if_neg (by decide), if_neg (by decide), bit_w (by omega)]
    cases w.testBit f <;> rfl
  · rw [if_neg (voc_0 h).1, if_neg (voc_0 h).2, h, if_pos rfl]
theorem bI_inj {a b : Bool} : bI a = bI b ↔ a = b := by cases a <;> cases b <;> decide
/-- a heard row narrows -/
theorem FIv.step {s : fT} {fit : Nat → Bool} {c h : Int32} {f : Nat} (hI : FIv s fit) (hf : f < 8) (hh : h = -1 ∨ h = 0 ∨ h = 1) : FIv (nrw s f (voc c) h) (fun w => fit w && decide (syB c f (nI w) = said h)) := by
  obtain ⟨i1, i2, i3⟩ := hI
  by_cases hv : voc c = 0 ∨ h < 0
  · have e : nrw s f (voc c) h = (s.1 && decide (voc c = 0) && decide (h < 0), s.2.1, s.2.2) := by unfold nrw; rw [if_pos hv]
    rw [e]
    refine ⟨i1, i2, fun w hw => ?_⟩
    simp only
    rw [i3 w hw, syB_v hf]
    show ((s.1 && fB (kn_ s) (so_ s) 8 w) && _) = (_ && fB (kn_ s) (so_ s) 8 w)
    by_cases hz : voc c = 0
    · rw [if_pos hz, decide_eq_true hz]
      rcases hh with rfl | rfl | rfl
      · simp [said]
      · simp [said]
      · simp [said]
    · have hneg : h = -1 := by
        rcases hh with rfl | rfl | rfl
        · rfl
        · exact absurd (hv.resolve_left hz) (by decide)
        · exact absurd (hv.resolve_left hz) (by decide)
      subst hneg
      rw [if_neg hz, decide_eq_false hz]
      have : decide (bI (if voc c = 1 then w.testBit f else !w.testBit f) = said (-1)) = false := by
        apply decide_eq_false
        generalize (if voc c = 1 then w.testBit f else !w.testBit f) = q
        cases q <;> decide
      rw [this]; simp
  · have hz : ¬ voc c = 0 := fun z => hv (Or.inl z)
    have hn : ¬ h < 0 := fun z => hv (Or.inr z)
    obtain ⟨hb, ehb⟩ : ∃ hb : Bool, h = bI hb := by
      rcases hh with rfl | rfl | rfl
      · exact absurd (by decide) hn
      · exact ⟨false, rfl⟩
      · exact ⟨true, rfl⟩
    have eis : isF f (voc c) h = if (voc c = 1) = (hb = true) then one_ f else 0 := by
      unfold isF
      rcases voc_c c with q | q | q
      · rw [q, ehb]; cases hb <;> simp [bI]
      · rw [q, ehb]; cases hb <;> simp [bI]
      · exact absurd q hz
    obtain ⟨b, hbv, eb⟩ : ∃ b : Bool, isF f (voc c) h = (if b = true then one_ f else 0) ∧ ∀ w : Nat, decide (syB c f (nI w) = said h) = (w.testBit f == b) := by
      rcases voc_c c with q | q | q
      · refine ⟨hb, ?_, fun w => ?_⟩
        · rw [eis, q]; cases hb <;> simp
        · rw [syB_v hf, if_neg hz, if_pos q, ehb, show said (bI hb) = bI hb by cases hb <;> rfl]
          cases w.testBit f <;> cases hb <;> decide
      · refine ⟨!hb, ?_, fun w => ?_⟩
        · rw [eis, q]; cases hb <;> simp
        · rw [syB_v hf, if_neg hz, if_neg (by rw [q]; decide), ehb, show said (bI hb) = bI hb by cases hb <;> rfl]
          cases w.testBit f <;> cases hb <;> decide
      · exact absurd q hz
    have e : nrw s f (voc c) h = (s.1 && !(decide (¬ s.2.1 &&& one_ f = 0) && decide (¬ s.2.2 &&& one_ f = isF f (voc c) h)), s.2.1 ||| one_ f, s.2.2 ||| isF f (voc c) h) := by unfold nrw; rw [if_neg hv]
    have m1 : ∀ x : Int32, x &&& one_ f = 0 ↔ bt x f = false := by
      intro x
      constructor
      · intro z
        have this : bt (x &&& one_ f) f = bt 0 f := congrArg (fun y => bt y f) z
        rw [b_and, bt_one f (by omega) f (by omega), b_0] at this
        simpa using this
      · intro z
        apply b_ext
        intro i hi
        rw [b_and, bt_one f (by omega) i hi, b_0]
        by_cases q : i = f
        · subst q; rw [z]; rfl
        · simp [q]
    have m2 : s.2.2 &&& one_ f = isF f (voc c) h ↔ bt s.2.2 f = b := by
      rw [hbv]
      cases b with
      | false => exact m1 _
      | true =>
        simp only [if_true]
        constructor
        · intro z
          have this : bt (s.2.2 &&& one_ f) f = bt (one_ f) f := congrArg (fun y => bt y f) z
          rw [b_and, bt_one f (by omega) f (by omega)] at this
          simpa using this
        · intro z
          apply b_ext
          intro i hi
          rw [b_and, bt_one f (by omega) i hi]
          by_cases q : i = f
          · subst q; rw [z]; rfl
          · simp [q]
    have bf : ∀ i, i < 32 → bt (isF f (voc c) h) i = (decide (i = f) && b) := by
      intro i hi
      rw [hbv]
      cases b with
      | false => simp [b_0]
      | true => simp [bt_one f (by omega) i hi]
    rw [e]
    refine ⟨fun i h8 hi => ?_, fun i hi z => ?_, fun w hw => ?_⟩
    · show bt (s.2.1 ||| one_ f) i = false
      rw [b_or, i1 i h8 hi, bt_one f (by omega) i hi]; simp; omega
    · show bt (s.2.1 ||| one_ f) i = true
      have z : bt (s.2.2 ||| isF f (voc c) h) i = true := z
      rw [b_or, bf i hi] at z
      rw [b_or, bt_one f (by omega) i hi]
      cases q : bt s.2.2 i with
      | true => rw [i2 i hi q]; rfl
      | false => rw [q] at z; simp at z; simp [z.1]
    · simp only
      rw [i3 w hw, eb w]
      have k1 : ∀ g, g < 8 → kn_ (s.1 && !(decide (¬ s.2.1 &&& one_ f = 0) && decide (¬ s.2.2 &&& one_ f = isF f (voc c) h)), s.2.1 ||| one_ f, s.2.2 ||| isF f (voc c) h) g = (g == f || kn_ s g) := by
        intro g hg
        show bt (s.2.1 ||| one_ f) g = _
        rw [b_or, bt_one f (by omega) g (by omega), Bool.or_comm]; rfl
      have k2 : ∀ g, g < 8 → so_ (s.1 && !(decide (¬ s.2.1 &&& one_ f = 0) && decide (¬ s.2.2 &&& one_ f = isF f (voc c) h)), s.2.1 ||| one_ f, s.2.2 ||| isF f (voc c) h) g = (so_ s g || (decide (g = f) && b)) := by
        intro g hg
        show bt (s.2.2 ||| isF f (voc c) h) g = _
        rw [b_or, bf g (by omega)]
      rw [fB_cg 8 (fun g hg => ⟨k1 g hg, k2 g hg⟩) w]
      show ((s.1 && fB (kn_ s) (so_ s) 8 w) && (w.testBit f == b)) = ((s.1 && !(decide (¬ s.2.1 &&& one_ f = 0) && decide (¬ s.2.2 &&& one_ f = isF f (voc c) h))) && _)
      rw [decide_not, decide_not, show decide (s.2.1 &&& one_ f = 0) = decide (bt s.2.1 f = false) from decide_eq_decide.mpr (m1 s.2.1), show decide (s.2.2 &&& one_ f = isF f (voc c) h) = decide (bt s.2.2 f = b) from decide_eq_decide.mpr m2]
      rcases (show bt s.2.1 f = false ∨ bt s.2.1 f = true by cases bt s.2.1 f <;> simp) with hk | hk
      · rw [show decide (bt s.2.1 f = false) = true from decide_eq_true hk]
        have hs : bt s.2.2 f = false := by
          cases q : bt s.2.2 f with
          | false => rfl
          | true => rw [i2 f (by omega) q] at hk; cases hk
        rw [Bool.and_assoc, ← fB_more (b := b) hf hk w]
        simp only [Bool.not_true, Bool.false_and, Bool.not_false, Bool.and_true]
        rw [fB_cg 8 (k2 := fun g => g == f || kn_ s g) (s2 := fun g => so_ s g || (decide (g = f) && b)) (fun g hg => ⟨rfl, by
          by_cases q : g = f
          · subst q; simp [so_, hs]
          · simp [q]⟩) w]
      · rw [show decide (bt s.2.1 f = false) = false from decide_eq_false (by rw [hk]; decide)]
        have ek : ∀ g, g < 8 → (g == f || kn_ s g) = kn_ s g := by
          intro g hg
          by_cases q : g = f
          · subst q; simp [kn_, hk]
          · simp [q]
        cases hfb : fB (kn_ s) (so_ s) 8 w with
        | false =>
          rw [Bool.and_false, Bool.false_and]
          by_cases q : bt s.2.2 f = b
          · rw [fB_cg 8 (k2 := kn_ s) (s2 := so_ s) (fun g hg => ⟨ek g hg, by
              by_cases q2 : g = f
              · subst q2; simp [so_, q]
              · simp [q2]⟩) w, hfb]; simp
          · simp [q]
        | true =>
          have hw2 := (fB_iff 8 w).mp hfb f hf hk
          by_cases q : bt s.2.2 f = b
          · rw [fB_cg 8 (k2 := kn_ s) (s2 := so_ s) (fun g hg => ⟨ek g hg, by
              by_cases q2 : g = f
              · subst q2; simp [so_, q]
              · simp [q2]⟩) w, hfb, hw2]
            simp [so_, q]
          · rw [hw2]; simp [so_, q]
theorem FIv.all (S : xSem) (G : Nat → Int32) : ∀ m, HRo G m → H3i G m → FIv (gfF S G m) (fitR S G m) := by
  intro m
  induction m with
  | zero =>
    intro _ _
    refine ⟨fun i _ _ => b_0 i, fun i _ z => ?_, fun w _ => ?_⟩
    · rw [show (gfF S G 0).2.2 = 0 from rfl, b_0] at z; cases z
    · show true = (true && fB _ _ 8 w)
      rw [Bool.true_and, eq_comm, fB_iff]
      intro f hf hk
      rw [show kn_ (gfF S G 0) f = bt 0 f from rfl, b_0] at hk; cases hk
  | succ m ih =>
    intro h1 h3
    obtain ⟨-, f, hf, ef⟩ := h1 m (by omega)
    rw [gfF_succ]
    have := (ih (fun r hr => h1 r (by omega)) (fun r hr => h3 r (by omega))).step (c := clH S G m) (h := G (59 + 3 * m + 2)) (f := f) hf (h3 m (by omega))
    rw [ef, cN_nI (by omega)]
    refine ⟨this.1, this.2.1, fun w hw => ?_⟩
    rw [← this.2.2 w hw]
    show (fitR S G m w && decide (syB (clH S G m) (cN (G (59 + 3 * m + 1))) (nI w) = said (G (59 + 3 * m + 2)))) = _
    rw [ef, cN_nI (by omega)]
