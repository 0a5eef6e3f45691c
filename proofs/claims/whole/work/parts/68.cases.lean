/-! cases: which pots are enough; how many facts have a pot of their own -/
theorem syB_5 {c w : Int32} {f : Nat} : syB c f w = -5 ↔ voc c = 0 := by
  unfold syB
  rcases voc_c c with h | h | h
  · rw [if_pos (voc_1 h), h]
    exact ⟨fun z => (by rcases bit01 w f with q | q <;> rw [q] at z <;> exact absurd z (by decide)), fun z => absurd z (by decide)⟩
  · rw [if_neg (voc_m h).1, if_pos (voc_m h).2, h]
    exact ⟨fun z => (by rcases bit01 w f with q | q <;> rw [q] at z <;> exact absurd z (by decide)), fun z => absurd z (by decide)⟩
  · rw [if_neg (voc_0 h).1, if_neg (voc_0 h).2, h]; simp
theorem tlB_bt (S : xSem) (G : Nat → Int32) (i : Nat) : ∀ k, k ≤ 8 → ∀ f, f < 32 → bt (tlB S G i k) f = (decide (f < k) && !decide (voc (Clr S i (pV G i) f) = 0)) := by
  intro k
  induction k with
  | zero => intro _ f hf; rw [show tlB S G i 0 = 0 from rfl, b_0]; simp
  | succ k ih =>
    intro hk f hf
    rw [tlB_succ, b_or, ih (by omega) f hf]
    by_cases e : f = k
    · subst e
      by_cases z : voc (Clr S i (pV G i) f) = 0
      · rw [if_pos (syB_5.mpr z), b_0, decide_eq_true z]; simp
      · rw [if_neg (fun y => z (syB_5.mp y)), bt_one f (by omega) f hf, decide_eq_false z]; simp
    · have : bt (if syB (Clr S i (pV G i) k) k (G 55) = -5 then 0 else one_ k) f = false := by
        split
        · exact b_0 f
        · rw [bt_one k (by omega) f hf]; simp [e]
      rw [this, Bool.or_false, show decide (f < k + 1) = decide (f < k) from decide_eq_decide.mpr (by omega)]
theorem bit_0 (x : Int32) {f : Nat} (hf : f < 32) : bit x f = 0 ↔ bt x f = false := by rw [bt_bit x hf]; exact bI_eq0
theorem spB_bt (S : xSem) (G : Nat → Int32) (i : Nat) (F : Int32) : ∀ k, k ≤ 8 → ∀ f, f < 32 → bt (spB S G i F k) f = (decide (f < k) && (bt F f && !decide (voc (Clr S i (pV G i) f) = 0))) := by
  intro k
  induction k with
  | zero => intro _ f hf; rw [show spB S G i F 0 = 0 from rfl, b_0]; simp
  | succ k ih =>
    intro hk f hf
    rw [spB_succ]
    by_cases e : f = k
    · subst e
      by_cases z1 : bit F f = 0
      · rw [if_pos z1, ih (by omega) f hf, (bit_0 F hf).mp z1]; simp
      · have z1' : bt F f = true := by
          cases q : bt F f with
          | true => rfl
          | false => exact absurd ((bit_0 F hf).mpr q) z1
        rw [if_neg z1]
        by_cases z : voc (Clr S i (pV G i) f) = 0
        · rw [if_pos z, ih (by omega) f hf, decide_eq_true z]; simp
        · rw [if_neg z, b_or, bt_one f (by omega) f hf, decide_eq_false z, z1']; simp
    · rw [show decide (f < k + 1) = decide (f < k) from decide_eq_decide.mpr (by omega), ← ih (by omega) f hf]
      split
      · rfl
      · split
        · rfl
        · rw [b_or, bt_one k (by omega) f hf]; simp [e]
/-- what JamOath keeps of what a pot speaks of: the facts asked for -/
def SpT (F : Int32) (sp tell : Nat → Int32) : Prop := ∀ i f, f < 32 → bt (sp i) f = (bt F f && bt (tell i) f)
theorem SpT.all (S : xSem) (G : Nat → Int32) (F : Int32) : SpT F (fun i => spB S G i F 8) (fun i => tlB S G i 8) := by
  intro i f hf
  rw [spB_bt S G i F 8 (Nat.le_refl _) f hf, tlB_bt S G i 8 (Nat.le_refl _) f hf]
  cases bt F f <;> simp
theorem tdB_bt (t : Nat → Int32) {set : Nat} : ∀ k, k ≤ 6 → ∀ f, f < 32 → (bt (tdB t set k) f = true ↔ ∃ i, i < k ∧ set.testBit i = true ∧ bt (t i) f = true) := by
  intro k
  induction k with
  | zero =>
    intro _ f hf
    rw [show tdB t set 0 = 0 from rfl, b_0]
    exact ⟨fun z => (by cases z), fun z => (by obtain ⟨i, hi, _⟩ := z; omega)⟩
  | succ k ih =>
    intro hk f hf
    rw [tdB_succ, b_or, Bool.or_eq_true, ih (by omega) f hf, bit_w (by omega)]
    constructor
    · rintro (⟨i, hi, h1, h2⟩ | h)
      · exact ⟨i, by omega, h1, h2⟩
      · cases q : set.testBit k with
        | true => rw [q, if_pos (show bI true = 1 from rfl)] at h; exact ⟨k, by omega, q, h⟩
        | false => rw [q, if_neg (by decide), b_0] at h; cases h
    · rintro ⟨i, hi, h1, h2⟩
      by_cases e : i = k
      · subst e; right; rw [h1, if_pos (show bI true = 1 from rfl)]; exact h2
      · exact Or.inl ⟨i, by omega, h1, h2⟩
theorem and_not0 {F x : Int32} : F &&& (x ^^^ (-1)) = 0 ↔ ∀ f, f < 32 → bt F f = true → bt x f = true := by
  constructor
  · intro z f hf h
    have e : bt (F &&& (x ^^^ (-1))) f = bt 0 f := congrArg (fun y => bt y f) z
    rw [b_and, b_xor, b_m1 f hf, b_0, h] at e
    simpa using e
  · intro h
    apply b_ext
    intro f hf
    rw [b_and, b_xor, b_m1 f hf, b_0]
    cases q : bt F f with
    | false => rfl
    | true => rw [h f hf q]; rfl
theorem enC {F : Int32} {sp tell : Nat → Int32} (h : SpT F sp tell) {n set : Nat} (hn : n ≤ 6) : F &&& (tdB sp set n ^^^ (-1)) = 0 ↔ F &&& (tdB tell set n ^^^ (-1)) = 0 := by
  rw [and_not0, and_not0]
  constructor
  · intro z f hf hF
    obtain ⟨i, h1, h2, h3⟩ := (tdB_bt sp n hn f hf).mp (z f hf hF)
    rw [h i f hf, hF, Bool.true_and] at h3
    exact (tdB_bt tell n hn f hf).mpr ⟨i, h1, h2, h3⟩
  · intro z f hf hF
    obtain ⟨i, h1, h2, h3⟩ := (tdB_bt tell n hn f hf).mp (z f hf hF)
    exact (tdB_bt sp n hn f hf).mpr ⟨i, h1, h2, by rw [h i f hf, hF, h3]; rfl⟩
theorem mMany64 : ∀ t, t < 64 → mMany (nI t) = jBC (nI t) ∧ jBC (nI t) < 7 ∧ ¬ nI t = -5 := by decide +kernel
def EnR (a : Int32) (b : Int32 × Int32) : Prop := (a = -5 ∧ b = (-5, 7)) ∨ ∃ t, t < 64 ∧ a = nI t ∧ b = (nI t, jBC (nI t))
theorem en_eq {F : Int32} {sp tell : Nat → Int32} (h : SpT F sp tell) {n : Nat} (hn : n ≤ 6) : ∀ k, k ≤ 64 → EnR (enF tell n F k) (jeF sp n F k) := by
  intro k
  induction k with
  | zero => intro _; exact Or.inl ⟨rfl, rfl⟩
  | succ k ih =>
    intro hk
    rw [enF_succ, show jeF sp n F (k + 1) = jeS sp n F k (jeF sp n F k) from rfl]
    obtain ⟨m1, m2, m3⟩ := mMany64 k (by omega)
    have E := enC h (set := k) hn
    unfold enS jeS
    by_cases hc : F &&& (tdB tell k n ^^^ (-1)) = 0
    · rcases ih (by omega) with ⟨e1, e2⟩ | ⟨t, ht, e1, e2⟩
      · rw [e1, e2, if_pos ⟨hc, Or.inl rfl⟩, if_pos ⟨m2, E.mpr hc⟩]
        exact Or.inr ⟨k, by omega, rfl, rfl⟩
      · obtain ⟨t1, t2, t3⟩ := mMany64 t ht
        rw [e1, e2]
        by_cases z : jBC (nI k) < jBC (nI t)
        · rw [if_pos ⟨hc, Or.inr (by rw [m1, t1]; exact z)⟩, if_pos ⟨z, E.mpr hc⟩]
          exact Or.inr ⟨k, by omega, rfl, rfl⟩
        · rw [if_neg (fun y => by rcases y.2 with q | q; exact t3 q; rw [m1, t1] at q; exact z q), if_neg (fun y => z y.1)]
          exact Or.inr ⟨t, ht, rfl, rfl⟩
    · rw [if_neg (fun y => hc y.1), if_neg (fun y => hc (E.mp y.2))]
      exact ih (by omega)
/-! Int64 by its bits -/
def b6 (x : Int64) (i : Nat) : Bool := x.toBitVec.getLsbD i
theorem b6_ext {x y : Int64} (h : ∀ i, i < 64 → b6 x i = b6 y i) : x = y := Int64.toBitVec_inj.mp (BitVec.eq_of_getLsbD_eq (fun i hi => h i hi))
theorem b6_or (x y : Int64) (i : Nat) : b6 (x ||| y) i = (b6 x i || b6 y i) := by unfold b6; rw [Int64.toBitVec_or, BitVec.getLsbD_or]
theorem b6_and (x y : Int64) (i : Nat) : b6 (x &&& y) i = (b6 x i && b6 y i) := by unfold b6; rw [Int64.toBitVec_and, BitVec.getLsbD_and]
theorem b6_1 : ∀ i, i < 64 → b6 1 i = decide (i = 0) := by decide +kernel
theorem s6_l : ∀ n, n < 64 → (((nI n).toInt64 &&& 63).toBitVec.smod 64).toNat = n := by decide +kernel
theorem b6_sshr0 (n : Nat) (hn : n < 64) (x : Int64) : b6 (x >>> ((nI n).toInt64 &&& 63)) 0 = b6 x n := by
  unfold b6
  rw [Int64.toBitVec_shiftRight]
  show (x.toBitVec.sshiftRight (((nI n).toInt64 &&& 63).toBitVec.smod 64).toNat).getLsbD 0 = _
  rw [s6_l n hn, BitVec.getLsbD_sshiftRight]
  simp [hn]
theorem lb1_iff {g : Int64} {s : Nat} (hs : s < 64) : lb1 g s ↔ b6 g s = true := by
  show g >>> ((nI s).toInt64 &&& 63) &&& 1 = 1 ↔ _
  rw [← b6_sshr0 s hs g]
  generalize g >>> ((nI s).toInt64 &&& 63) = y
  constructor
  · intro z
    have e : b6 (y &&& 1) 0 = b6 1 0 := congrArg (fun q => b6 q 0) z
    rw [b6_and, b6_1 0 (by omega)] at e
    simpa using e
  · intro z
    apply b6_ext
    intro i hi
    rw [b6_and, b6_1 i hi]
    by_cases e : i = 0
    · subst e; rw [z]; rfl
    · simp [e]
theorem b6_one : ∀ t, t < 64 → ∀ u, u < 64 → b6 (1 <<< ((nI t).toInt64 &&& 63)) u = decide (u = t) := by decide +kernel
theorem or_one : ∀ i, i < 6 → ∀ s, s < 64 → nI s ||| one_ i = nI (s ||| 2 ^ i) ∧ s ||| 2 ^ i < 64 := by decide +kernel
theorem gmI_b6 (g : Int64) {i : Nat} (hi : i < 6) (m0 : Int64) : ∀ k, k ≤ 64 → ∀ u, u < 64 → (b6 (gmI g i m0 k) u = true ↔ b6 m0 u = true ∨ ∃ s, s < k ∧ b6 g s = true ∧ s.testBit i = false ∧ u = s ||| 2 ^ i) := by
  intro k
  induction k with
  | zero => intro _ u hu; exact ⟨fun z => Or.inl z, fun z => (by rcases z with z | ⟨s, hs, _⟩; exact z; omega)⟩
  | succ k ih =>
    intro hk u hu
    have e : gmI g i m0 (k + 1) = if lb1 g k ∧ bit (nI k) i = 0 then gmI g i m0 k ||| (1 <<< ((nI k ||| one_ i).toInt64 &&& 63)) else gmI g i m0 k := rfl
    obtain ⟨o1, o2⟩ := or_one i hi k (by omega)
    have ec : (lb1 g k ∧ bit (nI k) i = 0) ↔ (b6 g k = true ∧ k.testBit i = false) := by
      rw [lb1_iff (by omega), bit_0 _ (by omega), bt_nI _ (by omega)]
    rw [e]
    by_cases hc : lb1 g k ∧ bit (nI k) i = 0
    · rw [if_pos hc, b6_or, Bool.or_eq_true, ih (by omega) u hu, o1, b6_one _ o2 u hu]
      constructor
      · rintro ((h | ⟨s, hs, h⟩) | h)
        · exact Or.inl h
        · exact Or.inr ⟨s, by omega, h⟩
        · exact Or.inr ⟨k, by omega, (ec.mp hc).1, (ec.mp hc).2, by simpa using h⟩
      · rintro (h | ⟨s, hs, h1, h2, h3⟩)
        · exact Or.inl (Or.inl h)
        · by_cases q : s = k
          · subst q; right; exact decide_eq_true h3
          · exact Or.inl (Or.inr ⟨s, by omega, h1, h2, h3⟩)
    · rw [if_neg hc, ih (by omega) u hu]
      constructor
      · rintro (h | ⟨s, hs, h⟩)
        · exact Or.inl h
        · exact Or.inr ⟨s, by omega, h⟩
      · rintro (h | ⟨s, hs, h1, h2, h3⟩)
        · exact Or.inl h
        · by_cases q : s = k
          · subst q; exact absurd (ec.mpr ⟨h1, h2⟩) hc
          · exact Or.inr ⟨s, by omega, h1, h2, h3⟩
theorem gmO_b6 (g : Int64) (sp : Nat → Int32) {f : Nat} (hf : f < 8) : ∀ n, n ≤ 6 → ∀ u, u < 64 → (b6 (gmO g sp f n) u = true ↔ ∃ i, i < n ∧ bt (sp i) f = true ∧ ∃ s, s < 64 ∧ b6 g s = true ∧ s.testBit i = false ∧ u = s ||| 2 ^ i) := by
  intro n
  induction n with
  | zero =>
    intro _ u hu
    have z : ∀ u, u < 64 → b6 0 u = false := by decide +kernel
    rw [show gmO g sp f 0 = 0 from rfl, z u hu]
    exact ⟨fun z => (by cases z), fun z => (by obtain ⟨i, hi, _⟩ := z; omega)⟩
  | succ n ih =>
    intro hn u hu
    have e : gmO g sp f (n + 1) = if bit (sp n) f = 0 then gmO g sp f n else gmI g n (gmO g sp f n) 64 := rfl
    rw [e]
    by_cases hc : bit (sp n) f = 0
    · rw [if_pos hc, ih (by omega) u hu]
      constructor
      · rintro ⟨i, hi, h⟩; exact ⟨i, by omega, h⟩
      · rintro ⟨i, hi, h1, h2⟩
        by_cases q : i = n
        · subst q; rw [(bit_0 _ (by omega)).mp hc] at h1; cases h1
        · exact ⟨i, by omega, h1, h2⟩
    · have hb : bt (sp n) f = true := by
        cases q : bt (sp n) f with
        | true => rfl
        | false => exact absurd ((bit_0 _ (by omega)).mpr q) hc
      rw [if_neg hc, gmI_b6 g (by omega) _ 64 (Nat.le_refl _) u hu, ih (by omega) u hu]
      constructor
      · rintro (⟨i, hi, h⟩ | h)
        · exact ⟨i, by omega, h⟩
        · exact ⟨n, by omega, hb, h⟩
      · rintro ⟨i, hi, h1, h2⟩
        by_cases q : i = n
        · subst q; exact Or.inr h2
        · exact Or.inl ⟨i, by omega, h1, h2⟩
