/-! more of what is asked -/
def spoonV (S : xSem) (G : Nat → Int32) (p f : Int32) : Int32 := if pOk (G 54) p ∧ rng f 0 7 then syB (Clr S (cN p) (pV G (cN p)) (cN f)) (cN f) (G 55) else -10001
def spoonG (G : Nat → Int32) (p f : Int32) : Nat → Int32 := if pOk (G 54) p ∧ rng f 0 7 then opG G (cN p) else G
def passV (G : Nat → Int32) (m : Int32) : Int32 := if rng m 0 60 then (if G 56 + m ≤ 9999 then G 56 + m else -3) else -2
def passG (kp : Int32) (n : Nat) (G : Nat → Int32) (m : Int32) : Nat → Int32 := if rng m 0 60 ∧ G 56 + m ≤ 9999 then tkGs kp n G (cN m) else G
def hearV (G : Nat → Int32) (p f s : Int32) : Int32 := if p = -1 then 0 else if pOk (G 54) p ∧ rng f 0 7 then (if rng s (-1) 1 then (if G 58 = 6 then -4 else G 58 + 1) else -2) else -1
def hearG1 (G : Nat → Int32) (a : Nat) (p f s : Int32) : Nat → Int32 := upd (upd (upd (upd G (59 + 3 * a) p) (59 + 3 * a + 1) f) (59 + 3 * a + 2) s) 58 (nI (a + 1))
def hearG (G : Nat → Int32) (p f s : Int32) : Nat → Int32 := if p = -1 then upd G 58 0 else if (pOk (G 54) p ∧ rng f 0 7) ∧ rng s (-1) 1 ∧ ¬ G 58 = 6 then hearG1 G (cN (G 58)) p f s else G
abbrev planOk (G : Nat → Int32) (w m : Int32) : Prop := w = 0 ∨ (w = 1 ∧ 0 ≤ m ∧ pOk (G 54) (m / 10) ∧ rng (m - m / 10 * 10) 0 7) ∨ (w = 2 ∧ pOk (G 54) m) ∨ (w = 3 ∧ rng m 0 7)
def planV (G : Nat → Int32) (w m : Int32) : Int32 := if w = -1 then 0 else if planOk G w m then (if G 77 = 10 then -4 else G 77 + 1) else -1
def planG1 (G : Nat → Int32) (a : Nat) (w m : Int32) : Nat → Int32 := upd (upd (upd G (78 + 2 * a) w) (79 + 2 * a) m) 77 (nI (a + 1))
def planG (G : Nat → Int32) (w m : Int32) : Nat → Int32 := if w = -1 then upd G 77 0 else if planOk G w m ∧ ¬ G 77 = 10 then planG1 G (cN (G 77)) w m else G
def bookV (G : Nat → Int32) (p s : Int32) : Int32 := if p = -1 then 0 else if pOk (G 54) p then (if rng s 0 9 then (if G 98 = 8 then -4 else G 98 + 1) else -2) else -1
def bookG1 (G : Nat → Int32) (a : Nat) (p s : Int32) : Nat → Int32 := upd (upd (upd G (99 + 2 * a) p) (100 + 2 * a) s) 98 (nI (a + 1))
def bookG (G : Nat → Int32) (p s : Int32) : Nat → Int32 := if p = -1 then upd G 98 0 else if pOk (G 54) p ∧ rng s 0 9 ∧ ¬ G 98 = 8 then bookG1 G (cN (G 98)) p s else G
def lkF (G : Nat → Int32) : Nat → Nat → Int32
  | 0, _ => -5
  | c + 1, j => if G (9 * cN (G (99 + 2 * j)) + 2) = G (100 + 2 * j) then lkF G c (j + 1) else nI j
def lookedV (G : Nat → Int32) : Int32 := lkF G (cN (G 98)) 0
def unL : Nat → Int32 → Int32 → Int32
  | 0, x, _ => x
  | n + 1, x, k => if x = -1 ∨ x = k then x else unL n (xABOVE (cN x)) k
def takenV (G : Nat → Int32) (p k : Int32) : Int32 := if rng k 0 6 then (if pOk (G 54) p then (if unL 4 (G (9 * cN p)) k = k then G (9 * cN p) else -12) else -11) else -2
