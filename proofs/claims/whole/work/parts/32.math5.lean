/-! worlds that fit -/
def clH (S : xSem) (G : Nat → Int32) (r : Nat) : Int32 := Clr S (cN (G (59 + 3 * r))) (pV G (cN (G (59 + 3 * r)))) (cN (G (59 + 3 * r + 1)))
def said (s : Int32) : Int32 := if s = -1 then -5 else s
def fitR (S : xSem) (G : Nat → Int32) : Nat → Nat → Bool
  | 0, _ => true
  | r + 1, w => fitR S G r w && decide (syB (clH S G r) (cN (G (59 + 3 * r + 1))) (nI w) = said (G (59 + 3 * r + 2)))
/-- of the heard rows: pots, facts -/
def HRo (G : Nat → Int32) (m : Nat) : Prop := ∀ r, r < m → (∃ p, p < 6 ∧ G (59 + 3 * r) = nI p) ∧ ∃ f, f < 8 ∧ G (59 + 3 * r + 1) = nI f
def cntF (f : Nat → Bool) (n : Nat) : Int32 := iS (fun w => bI (f w)) n
def lstF (f : Nat → Bool) : Nat → Nat → Int32
  | 0, _ => -5
  | c + 1, w => if f w = true then nI w else lstF f c (w + 1)
def andF (f : Nat → Bool) : Nat → Int32
  | 0 => 255
  | w + 1 => andF f w &&& (if f w = true then nI w else 255)
def orF (f : Nat → Bool) : Nat → Int32
  | 0 => 0
  | w + 1 => orF f w ||| (if f w = true then nI w else 0)
def abI (x : Int32) : Int32 := if 0 ≤ x then x else 0 - x
/-- what one pot counts for a fact -/
def fnd1 (S : xSem) (G : Nat → Int32) (f i : Nat) : Int32 := if syB (Clr S i (pV G i) f) f (G 55) = -5 then 0 else if syB (Clr S i (pV G i) f) f (G 55) = 1 then abI (Clr S i (pV G i) f) else -abI (Clr S i (pV G i) f)
theorem nar_bI (b : Bool) : vp_nar .boolean (bI b) = bI b := by cases b <;> rfl
