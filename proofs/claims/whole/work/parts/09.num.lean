/-! numbers, folds, states -/
theorem nLe {a b : Nat} (ha : a < 2 ^ 31) (hb : b < 2 ^ 31) (h : nI a ≤ nI b) : a ≤ b := (nI_leI ha hb).mp h
theorem nLt {a b : Nat} (ha : a < 2 ^ 31) (hb : b < 2 ^ 31) (h : nI a < nI b) : a < b := (nI_ltI ha hb).mp h
theorem nNle {a b : Nat} (ha : a < 2 ^ 31) (hb : b < 2 ^ 31) (h : ¬ nI a ≤ nI b) : b < a := Nat.lt_of_not_le (fun z => h ((nI_leI ha hb).mpr z))
theorem nNlt {a b : Nat} (ha : a < 2 ^ 31) (hb : b < 2 ^ 31) (h : ¬ nI a < nI b) : b ≤ a := Nat.le_of_not_lt (fun z => h ((nI_ltI ha hb).mpr z))
theorem nEq {a b : Nat} (ha : a < 2 ^ 31) (hb : b < 2 ^ 31) (h : nI a = nI b) : a = b := (nI_eq ha hb).mp h
/-- a fold over 0 .. n - 1 -/
def iF {α : Type} (f : Nat → α → α) (a : α) : Nat → α
  | 0 => a
  | n + 1 => f n (iF f a n)
/-- a sum over 0 .. n - 1 -/
def iS (f : Nat → Int32) : Nat → Int32
  | 0 => 0
  | n + 1 => iS f n + f n
theorem xsA_get {σ : xSt} {c : Nat} {g : Nat → Int32} : (xsA σ c g).2.1 c = g := va_up_self _ _ _
theorem xsA_ne {σ : xSt} {c b : Nat} {g : Nat → Int32} (h : b ≠ c) : (xsA σ c g).2.1 b = σ.2.1 b := va_up_ne _ _ h
theorem xsA_1 {σ : xSt} {c : Nat} {g : Nat → Int32} : (xsA σ c g).1 = σ.1 := rfl
theorem xsA_J {σ : xSt} {c : Nat} {g : Nat → Int32} : (xsA σ c g).2.2 = σ.2.2 := rfl
theorem va_up2 {α : Type} (f : Nat → α) (c : Nat) (g g2 : α) : va_up (va_up f c g) c g2 = va_up f c g2 := by
  funext j; unfold va_up; split <;> rfl
theorem xsA_A {σ : xSt} {c : Nat} {g g2 : Nat → Int32} : xsA (xsA σ c g) c g2 = xsA σ c g2 := by unfold xsA; rw [va_up2]
theorem xsA_self {σ : xSt} {c : Nat} : xsA σ c (σ.2.1 c) = σ := by
  unfold xsA
  have : va_up σ.2.1 c (σ.2.1 c) = σ.2.1 := by funext j; unfold va_up; split <;> simp_all
  rw [this]
theorem xsJ_get {σ : xSt} {c : Nat} {g : Nat → Int64} : (xsJ σ c g).2.2 c = g := va_up_self _ _ _
theorem xsJ_ne {σ : xSt} {c b : Nat} {g : Nat → Int64} (h : b ≠ c) : (xsJ σ c g).2.2 b = σ.2.2 b := va_up_ne _ _ h
theorem xsJ_J {σ : xSt} {c : Nat} {g g2 : Nat → Int64} : xsJ (xsJ σ c g) c g2 = xsJ σ c g2 := by unfold xsJ; rw [va_up2]
theorem xsJ_1 {σ : xSt} {c : Nat} {g : Nat → Int64} : (xsJ σ c g).1 = σ.1 := rfl
theorem xsJ_A {σ : xSt} {c : Nat} {g : Nat → Int64} : (xsJ σ c g).2.1 = σ.2.1 := rfl
theorem xsF_A {σ : xSt} {c j : Nat} {v : Int32} : (xsF σ c j v).2.1 = σ.2.1 := rfl
theorem xsF_J {σ : xSt} {c j : Nat} {v : Int32} : (xsF σ c j v).2.2 = σ.2.2 := rfl
theorem xsF_get {σ : xSt} {c j : Nat} {v : Int32} : (xsF σ c j v).1 c j = v := by simp [xsF, va_up, upd]
theorem xsF_ne {σ : xSt} {c j b i : Nat} {v : Int32} (h : b ≠ c ∨ i ≠ j) : (xsF σ c j v).1 b i = σ.1 b i := by
  by_cases hb : b = c
  · subst hb
    have hi : i ≠ j := by simpa using h
    simp [xsF, va_up, upd, hi]
  · simp [xsF, va_up, hb]
theorem cpy_succ {f g : Nat → Int32} {j : Nat} : upd (va_cpy f g 0 0 j) j (f j) = va_cpy f g 0 0 (j + 1) := by
  funext i
  unfold upd va_cpy
  by_cases h : i = j
  · subst h; simp
  · by_cases h2 : i < j
    · simp [h, h2, show i < j + 1 by omega]
    · simp [h, h2, show ¬ i < j + 1 by omega]
theorem cpy_zero {f g : Nat → Int32} : va_cpy f g 0 0 0 = g := by funext i; simp [va_cpy]
/-- an int array of the pool -/
abbrev xI (c n : Nat) : Prop := c < 138 ∧ xsh c = .inl (0, n, [])
