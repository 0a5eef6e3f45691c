/-! acts, as plain functions: how many bodies ran, and their trace -/
abbrev aT : Type := Nat × (Nat → Int32)
def nt (t : aT) (b : Int32) : aT := (t.1 + 1, if t.1 < 20 then upd t.2 t.1 b else t.2)
/-- the kind, from k on, that has a body for the act -/
def fndK (a : Nat) : Nat → Nat → Nat
  | 0, k => k
  | n + 1, k => if xBODIES (3 * k + a) = 0 then fndK a n (cN (xABOVE k)) else k
def aB (a k : Nat) : Int32 := xBODIES (3 * fndK a 3 k + a)
def aU (a k : Nat) : Nat := cN (xABOVE (fndK a 3 k))
def aF (κ i : Nat) (v : Int32) : Nat → Nat → Nat → Int32 → aT → Int32 × aT
  | 0, _, _, _, t => (0, t)
  | n + 1, k, a, x, t =>
    if aB a k = 10 then (x + nI i, nt t (aB a k))
    else if aB a k = 11 then ((aF κ i v n κ 0 x (nt t (aB a k))).1 - v, (aF κ i v n κ 0 x (nt t (aB a k))).2)
    else if aB a k = 12 then ((aF κ i v n κ 1 x (nt t (aB a k))).1 * 2, (aF κ i v n κ 1 x (nt t (aB a k))).2)
    else if aB a k = 20 then ((aF κ i v n (aU a k) 1 x (nt t (aB a k))).1 ^^^ 6, (aF κ i v n (aU a k) 1 x (nt t (aB a k))).2)
    else if aB a k = 30 then aF κ i v n (aU a k) 0 (x * 3) (nt t (aB a k))
    else if aB a k = 40 then ((aF κ i v n (aU a k) 2 x (nt t (aB a k))).1 + (aF κ i v n κ 1 1 (aF κ i v n (aU a k) 2 x (nt t (aB a k))).2).1, (aF κ i v n κ 1 1 (aF κ i v n (aU a k) 2 x (nt t (aB a k))).2).2)
    else if aB a k = 50 then (-(aF κ i v n (aU a k) 0 x (nt t (aB a k))).1, (aF κ i v n (aU a k) 0 x (nt t (aB a k))).2)
    else if aB a k = 51 then aF κ i v n (aU a k) 1 (x + 1) (nt t (aB a k))
    else if aB a k = 60 then aF κ i v n (aU a k) 2 (x - nI i) (nt t (aB a k))
    else if aB a k = 70 then ((aF κ i v n (aU a k) 1 x (nt t (aB a k))).1 + (aF κ i v n (aU a k) 0 2 (aF κ i v n (aU a k) 1 x (nt t (aB a k))).2).1, (aF κ i v n (aU a k) 0 2 (aF κ i v n (aU a k) 1 x (nt t (aB a k))).2).2)
    else ((aF κ i v n (aU a k) 0 x (nt t (aB a k))).1 ^^^ v, (aF κ i v n (aU a k) 0 x (nt t (aB a k))).2)
/-- n levels are enough -/
def okA (κ : Nat) : Nat → Nat → Nat → Bool
  | 0, _, _ => false
  | n + 1, k, a =>
    if aB a k = 10 then true else if aB a k = 11 then okA κ n κ 0 else if aB a k = 12 then okA κ n κ 1 else if aB a k = 20 then okA κ n (aU a k) 1 else if aB a k = 30 then okA κ n (aU a k) 0
    else if aB a k = 40 then okA κ n (aU a k) 2 && okA κ n κ 1 else if aB a k = 50 then okA κ n (aU a k) 0 else if aB a k = 51 then okA κ n (aU a k) 1 else if aB a k = 60 then okA κ n (aU a k) 2
    else if aB a k = 70 then okA κ n (aU a k) 1 && okA κ n (aU a k) 0 else okA κ n (aU a k) 0
theorem okA_7 : ∀ κ, κ < 7 → ∀ a, a < 3 → okA κ 7 κ a = true := by decide +kernel
theorem fnd_all : ∀ k, k < 7 → ∀ a, a < 3 → (fndK a 3 k = 0 ∧ a = 0) ∨ (fndK a 3 k = 0 ∧ a = 1) ∨ (fndK a 3 k = 0 ∧ a = 2) ∨ (fndK a 3 k = 1 ∧ a = 1) ∨ (fndK a 3 k = 2 ∧ a = 0) ∨ (fndK a 3 k = 3 ∧ a = 2) ∨ (fndK a 3 k = 4 ∧ a = 0) ∨ (fndK a 3 k = 4 ∧ a = 1) ∨ (fndK a 3 k = 5 ∧ a = 2) ∨ (fndK a 3 k = 6 ∧ a = 1) ∨ (fndK a 3 k = 6 ∧ a = 0) := by
  have key : ∀ k, k < 7 → ∀ a, a < 3 → [(0, 0), (0, 1), (0, 2), (1, 1), (2, 0), (3, 2), (4, 0), (4, 1), (5, 2), (6, 1), (6, 0)].contains (fndK a 3 k, a) = true := by decide +kernel
  intro k hk a ha
  have h := key k hk a ha
  simp only [List.contains_cons, List.contains_nil, Bool.or_false, Bool.or_eq_true, beq_iff_eq, Prod.mk.injEq] at h
  exact h
theorem aF_le (κ i : Nat) (v : Int32) : ∀ (n k a : Nat) (x : Int32) (t : aT), (aF κ i v n k a x t).2.1 ≤ t.1 + 3 ^ n := by
  intro n
  induction n with
  | zero => intro k a x t; exact Nat.le_add_right _ _
  | succ n ih =>
    intro k a x t
    have e : ∀ b, (nt t b).1 = t.1 + 1 := fun _ => rfl
    have h3 : 3 ^ (n + 1) = 3 ^ n + 3 ^ n + 3 ^ n := by rw [Nat.pow_succ]; omega
    have hp : 1 ≤ 3 ^ n := Nat.pos_of_ne_zero (by simp)
    have one : ∀ k a x, (aF κ i v n k a x (nt t (aB a k))).2.1 ≤ t.1 + 1 + 3 ^ n := fun k a x => by have := ih k a x (nt t (aB a k)); rw [e] at this; exact this
    have any : ∀ k a x b, (aF κ i v n k a x (nt t b)).2.1 ≤ t.1 + 1 + 3 ^ n := fun k a x b => by have := ih k a x (nt t b); rw [e] at this; exact this
    have two : ∀ k a x k2 a2 x2 b, (aF κ i v n k2 a2 x2 (aF κ i v n k a x (nt t b)).2).2.1 ≤ t.1 + 1 + 3 ^ n + 3 ^ n := fun k a x k2 a2 x2 b => Nat.le_trans (ih _ _ _ _) (Nat.add_le_add_right (any k a x b) _)
    rw [aF, h3]
    repeat' split
    · show t.1 + 1 ≤ _; omega
    all_goals first | exact Nat.le_trans (any _ _ _ _) (by omega) | exact Nat.le_trans (two _ _ _ _ _ _ _) (by omega)
/-- the reference's state while an act runs -/
def aS (σ : xSt) (t : aT) : xSt := xsF (xsA σ 133 t.2) 115 27 (nI t.1)
theorem aS_ran {σ : xSt} {t : aT} : (aS σ t).1 115 27 = nI t.1 := xsF_get
theorem aS_A {σ : xSt} {t : aT} {c : Nat} (h : c ≠ 133) : (aS σ t).2.1 c = σ.2.1 c := by show (xsA σ 133 t.2).2.1 c = _; exact xsA_ne h
theorem aS_tr {σ : xSt} {t : aT} : (aS σ t).2.1 133 = t.2 := xsA_get
theorem xsF_F {σ : xSt} {c j : Nat} {v w : Int32} : xsF (xsF σ c j v) c j w = xsF σ c j w := by
  unfold xsF
  simp only [va_up_self, va_up2]
  rw [show upd (upd (σ.1 c) j v) j w = upd (σ.1 c) j w from by funext i; unfold upd; split <;> rfl]
theorem xsF_xsA {σ : xSt} {c j b : Nat} {v : Int32} {g : Nat → Int32} : xsA (xsF σ c j v) b g = xsF (xsA σ b g) c j v := rfl
theorem aS_note {σ : xSt} {t : aT} {b : Int32} : aS σ (nt t b) = xsF (xsA (aS σ t) 133 (if t.1 < 20 then upd t.2 t.1 b else t.2)) 115 27 (nI t.1 + 1) := by
  unfold aS nt
  rw [nI_1, xsF_xsA, xsA_A, xsF_F]
