/-! what is asked, as plain functions of the state's row G (its places as the reference has them) -/
abbrev rng (v lo hi : Int32) : Prop := lo ≤ v ∧ v ≤ hi
abbrev pOk (m f : Int32) : Prop := 0 ≤ f ∧ f < m
abbrev cN (x : Int32) : Nat := x.toNatClampNeg
theorem cN_nI {n : Nat} (h : n < 2 ^ 31) : cN (nI n) = n := nI_clamp h
theorem pOk_nat {n : Nat} {f : Int32} (hn : n < 2 ^ 30) (h : pOk (nI n) f) : ∃ i, i < n ∧ f = nI i := by
  obtain ⟨j, hj, rfl⟩ := nI_of (x := f) (fun z => Int32.not_le.mpr z h.1)
  exact ⟨j, nLt hj (by omega) h.2, rfl⟩
theorem rng_nat {m : Nat} {f : Int32} (hm : m < 2 ^ 30) (h : rng f 0 (nI m)) : ∃ i, i ≤ m ∧ f = nI i := by
  obtain ⟨j, hj, rfl⟩ := nI_of (x := f) (fun z => Int32.not_le.mpr z h.1)
  exact ⟨j, nLe hj (by omega) h.2, rfl⟩
theorem pOk_nI {n i : Nat} (hn : n < 2 ^ 30) (hi : i < n) : pOk (nI n) (nI i) := ⟨nI_pos' (by omega), nI_lt hi (by omega)⟩
theorem rng_nI {m i : Nat} (hm : m < 2 ^ 30) (hi : i ≤ m) : rng (nI i) 0 (nI m) := ⟨nI_pos' (by omega), nI_le hi (by omega)⟩
theorem le_pred {n : Nat} {f : Int32} (hn : n < 2 ^ 30) : (0 ≤ f ∧ f ≤ nI n - 1) ↔ pOk (nI n) f := by
  have e : (nI n - 1).toInt = (n : Int) - 1 := by
    rw [show (1 : Int32) = nI 1 from rfl, pk_sub_toInt hn (by omega)]; rfl
  unfold pOk
  rw [Int32.le_iff_toInt_le (x := f), Int32.lt_iff_toInt_lt (x := f), e, nI_toInt (by omega)]
  constructor
  · rintro ⟨h1, h2⟩; exact ⟨h1, by omega⟩
  · rintro ⟨h1, h2⟩; exact ⟨h1, by omega⟩
def potV (G : Nat → Int32) (kd v sg : Int32) : Int32 := if rng kd 0 6 then (if rng v 0 9 ∧ rng sg 0 9 then (if G 54 = 6 then -4 else G 54) else -2) else -1
def potG1 (G : Nat → Int32) (n : Nat) (kd v sg : Int32) : Nat → Int32 := upd (upd (upd (upd (iF (fun k g => upd g (9 * n + k) 0) G 9) (9 * n) kd) (9 * n + 1) v) (9 * n + 2) sg) 54 (nI (n + 1))
def potG (G : Nat → Int32) (kd v sg : Int32) : Nat → Int32 := if rng kd 0 6 ∧ (rng v 0 9 ∧ rng sg 0 9) ∧ ¬ G 54 = 6 then potG1 G (cN (G 54)) kd v sg else G
def worldV (G : Nat → Int32) (f : Int32) : Int32 := if rng f 0 255 then G 55 else -2
def worldG (G : Nat → Int32) (f : Int32) : Nat → Int32 := if rng f 0 255 then upd G 55 f else G
def sugarV (G : Nat → Int32) (p m : Int32) : Int32 := if pOk (G 54) p then (if rng m 0 9 then G (9 * cN p + 2) else -2) else -1
def sugarG (G : Nat → Int32) (p m : Int32) : Nat → Int32 := if pOk (G 54) p ∧ rng m 0 9 then upd G (9 * cN p + 2) m else G
def rowV (G : Nat → Int32) (p t m : Int32) : Int32 := if pOk (G 54) p ∧ rng t 0 3 then (if rng m 0 9 then (if G (9 * cN p) = 6 then G (9 * cN p + (5 + cN t)) else -3) else -2) else -1
def rowG (G : Nat → Int32) (p t m : Int32) : Nat → Int32 := if (pOk (G 54) p ∧ rng t 0 3) ∧ rng m 0 9 ∧ G (9 * cN p) = 6 then upd G (9 * cN p + (5 + cN t)) m else G
def feedV (t s : Int32) : Int32 := if rng s 0 127 then (if t = 100 then -4 else t + 1) else -2
/-- a pot is opened -/
def mnI (a b : Int32) : Int32 := if b < a then b else a
def mxI (a b : Int32) : Int32 := if a < b then b else a
def opG (G : Nat → Int32) (i : Nat) : Nat → Int32 := upd (upd G (9 * i + 4) (mnI 9 (G (9 * i + 4) + 1))) (9 * i + 2) (mxI 0 (G (9 * i + 2) - 1))
