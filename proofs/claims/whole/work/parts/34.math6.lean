/-! which pot to ask next -/
theorem and1 (x : Int32) : x &&& 1 = 0 ∨ x &&& 1 = 1 := by
  have h : (x &&& 1).toBitVec = x.toBitVec &&& 1#32 := rfl
  rw [BitVec.and_one_eq_setWidth_ofBool_getLsbD] at h
  cases hb : x.toBitVec.getLsbD 0 with
  | false => rw [hb] at h; left; exact Int32.toBitVec_inj.mp h
  | true => rw [hb] at h; right; exact Int32.toBitVec_inj.mp h
theorem bit01 (w : Int32) (f : Nat) : bit w f = 0 ∨ bit w f = 1 := and1 _
theorem syB_cases (c : Int32) (f : Nat) (w : Int32) : syB c f w = -5 ∨ syB c f w = 0 ∨ syB c f w = 1 := by
  unfold syB
  split
  · exact Or.inr (bit01 w f)
  · split
    · rcases bit01 w f with h | h <;> rw [h]
      · exact Or.inr (Or.inr rfl)
      · exact Or.inr (Or.inl rfl)
    · exact Or.inl rfl
def sIx (c : Int32) (f w : Nat) : Nat := if syB c f (nI w) = -5 then 2 else cN (syB c f (nI w))
theorem sIx_lt (c : Int32) (f w : Nat) : sIx c f w < 3 := by
  unfold sIx
  split
  · omega
  · rename_i h
    rcases syB_cases c f (nI w) with q | q | q
    · exact absurd q h
    · rw [q]; decide
    · rw [q]; decide
theorem sIx_nI {c : Int32} {f w : Nat} (h : ¬ syB c f (nI w) = -5) : syB c f (nI w) = nI (sIx c f w) := by
  unfold sIx
  rw [if_neg h]
  rcases syB_cases c f (nI w) with q | q | q
  · exact absurd q h
  · rw [q]; rfl
  · rw [q]; rfl
/-- how many of those that fit are left if it says the k-th -/
def lfN (fit : Nat → Bool) (c : Int32) (f k : Nat) (W : Nat) : Int32 := iS (fun w => if sIx c f w = k then bI (fit w) else 0) W
theorem lfN_succ (fit : Nat → Bool) (c : Int32) (f k W : Nat) : lfN fit c f k (W + 1) = lfN fit c f k W + (if sIx c f W = k then bI (fit W) else 0) := rfl
def mostN (fit : Nat → Bool) (c : Int32) (f : Nat) : Int32 := mxI (lfN fit c f 0 256) (mxI (lfN fit c f 1 256) (lfN fit c f 2 256))
def nx2 (fit : Nat → Bool) (S : xSem) (G : Nat → Int32) (i f : Nat) (s : Int32 × Int32) : Int32 × Int32 := (if mostN fit (Clr S i (pV G i) f) f < s.2 then nI (10 * i + f) else s.1, mnI (mostN fit (Clr S i (pV G i) f) f) s.2)
def nx1 (fit : Nat → Bool) (S : xSem) (G : Nat → Int32) (i : Nat) (s : Int32 × Int32) (k : Nat) : Int32 × Int32 := iF (fun f s => nx2 fit S G i f s) s k
def nxA (fit : Nat → Bool) (S : xSem) (G : Nat → Int32) (n : Nat) : Int32 × Int32 := iF (fun i s => nx1 fit S G i s 8) (-5, 257) n
theorem iF_succ {α : Type} (f : Nat → α → α) (a : α) (n : Nat) : iF f a (n + 1) = f n (iF f a n) := rfl
theorem nx1_zero (fit : Nat → Bool) (S : xSem) (G : Nat → Int32) (i : Nat) (s : Int32 × Int32) : nx1 fit S G i s 0 = s := rfl
theorem nx1_succ (fit : Nat → Bool) (S : xSem) (G : Nat → Int32) (i : Nat) (s : Int32 × Int32) (k : Nat) : nx1 fit S G i s (k + 1) = nx2 fit S G i k (nx1 fit S G i s k) := rfl
theorem nxA_zero (fit : Nat → Bool) (S : xSem) (G : Nat → Int32) : nxA fit S G 0 = (-5, 257) := rfl
theorem nxA_succ (fit : Nat → Bool) (S : xSem) (G : Nat → Int32) (i : Nat) : nxA fit S G (i + 1) = nx1 fit S G i (nxA fit S G i) 8 := by simp only [nxA, iF_succ]
def nextV (fit : Nat → Bool) (S : xSem) (G : Nat → Int32) (n : Nat) : Int32 := if cntF fit 256 ≤ 0 then -5 else (nxA fit S G n).1
