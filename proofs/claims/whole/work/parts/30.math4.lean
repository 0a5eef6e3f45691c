/-! tapes, counts, traces -/
def traceV (ran : Int32) (tr : Nat → Int32) (i : Int32) : Int32 := if rng i 0 (mnI 20 ran - 1) then tr (cN i) else -1
def countV (G : Nat → Int32) (ru tx ran : Int32) (w : Int32) : Int32 := if w = 0 then G 54 else if w = 1 then ru else if w = 2 then G 58 else if w = 3 then G 77 else if w = 4 then G 98 else if w = 5 then tx else if w = 6 then ran else -2
abbrev tapeBad (s n : Int32) : Prop := ¬ (rng s (-1) 4 ∧ (s < 0 ∨ n ≤ 60))
def tapeV (t s n : Int32) : Int32 := if rng t 0 5 then (if tapeBad s n then -2 else if 0 ≤ s ∧ n < 0 then -14 else 1) else -1
abbrev tapeOk (t s n : Int32) : Prop := rng t 0 5 ∧ ¬ tapeBad s n ∧ ¬ (0 ≤ s ∧ n < 0)
def zeroJ (f : Nat → Int64) (a : Nat) (j : Nat) : Nat → Int64 := fun k => if a ≤ k ∧ k < a + j then 0 else f k
def loB (s : Int32) (v : Int64) : Int64 := if s = 0 then v.toInt32.toInt8.toInt32.toInt64 else if s = 1 then v.toInt32.toInt16.toInt32.toInt64 else if s = 2 then v.toInt32.toInt64 else if s = 3 then v else if v = 0 then 0 else 1
def itemV (so ln : Nat → Int32) (t i : Int32) : Int32 := if rng t 0 5 then (if so (cN t) < 0 then -11 else if rng i 0 (ln (cN t) - 1) then 1 else -13) else -1
def readV (ln : Nat → Int32) (it : Nat → Int64) (t i : Int32) : Int64 := if rng t 0 5 ∧ rng i 0 (ln (cN t) - 1) then it (60 * cN t + cN i) else -9223372036854775808
abbrev shiftPl (ln : Nat → Int32) (t i o j n : Int32) : Prop := n < 0 ∨ i < 0 ∨ j < 0 ∨ ln (cN t) - i < n ∨ ln (cN o) - j < n
def shiftV (so ln : Nat → Int32) (t i o j n : Int32) : Int32 := if rng t 0 5 ∧ rng o 0 5 then (if so (cN t) < 0 ∨ so (cN o) < 0 then -11 else if so (cN t) = so (cN o) then (if shiftPl ln t i o j n then -13 else n) else -12) else -1
abbrev shiftOk (so ln : Nat → Int32) (t i o j n : Int32) : Prop := (rng t 0 5 ∧ rng o 0 5) ∧ ¬ (so (cN t) < 0 ∨ so (cN o) < 0) ∧ so (cN t) = so (cN o) ∧ ¬ shiftPl ln t i o j n
def jgF (w : Int32) (ln : Int32) (it : Nat → Int64) (t i : Int32) : Nat → Nat → Int32
  | 0, _ => -5
  | c + 1, f => if i < 0 ∨ ln.toInt64 ≤ i.toInt64 + (nI f).toInt64 then 100 + nI f else if it (60 * cN t + cN (i.toInt64 + (nI f).toInt64).toInt32) = (bit w f).toInt64 then jgF w ln it t i c (f + 1) else nI f
def judgeV (w : Int32) (so ln : Nat → Int32) (it : Nat → Int64) (t i : Int32) : Int32 := if rng t 0 5 then (if so (cN t) = -1 ∨ so (cN t) = 4 then jgF w (ln (cN t)) it t i 8 0 else -12) else -1
theorem zeroJ_succ {f : Nat → Int64} {a j : Nat} : vp_updL (zeroJ f a j) (a + j) 0 = zeroJ f a (j + 1) := by
  funext k
  unfold vp_updL zeroJ
  by_cases h : k = a + j
  · subst h; simp
  · by_cases h2 : a ≤ k ∧ k < a + j
    · rw [if_neg h, if_pos h2, if_pos (by omega)]
    · rw [if_neg h, if_neg h2, if_neg (by omega)]
theorem zeroJ_0 {f : Nat → Int64} {a : Nat} : zeroJ f a 0 = f := by funext k; unfold zeroJ; rw [if_neg (by omega)]
theorem lg_eq0 {x y : Int64} : lg_cmp x y = 0 ↔ x = y := by
  unfold lg_cmp
  by_cases h : x > y
  · rw [if_pos h]
    constructor
    · intro z; exact absurd z (by decide)
    · intro z; subst z; exact absurd h (by simp)
  · rw [if_neg h]
    by_cases h2 : x = y
    · simp [h2]
    · simp [h2]
theorem lg_lt0 {x y : Int64} : lg_cmp x y < 0 ↔ x < y := by
  have h := lg_cmp_ge x y
  constructor
  · intro z; exact Int64.not_le.mp (fun q => Int32.not_le.mpr z (h.mpr q))
  · intro z; exact Int32.not_le.mp (fun q => Int64.not_le.mpr z (h.mp q))
/-- places of a copy of longs -/
theorem cpyJ_succ {f g : Nat → Int64} {s a j : Nat} : vp_updL (va_cpy f g s a j) (a + j) (f (s + j)) = va_cpy f g s a (j + 1) := by
  funext k
  unfold vp_updL va_cpy
  by_cases h : k = a + j
  · subst h; simp
  · by_cases h2 : a ≤ k ∧ k < a + j
    · rw [if_neg h, if_pos h2, if_pos (by omega)]
    · rw [if_neg h, if_neg h2, if_neg (by omega)]
theorem cpyJ_0 {f g : Nat → Int64} {s a : Nat} : va_cpy f g s a 0 = g := by funext k; unfold va_cpy; rw [if_neg (by omega)]
