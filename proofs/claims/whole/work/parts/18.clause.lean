/-! clauses, as plain functions -/
def xbeg (k : Nat) : Int32 := [(115 : Int32), 104, 107].getD k 0
def xwrd (k : Nat) : Int32 := [(115 : Int32), 119, 101, 101, 116, 104, 97, 122, 101, 0, 107, 101, 101, 112, 0].getD k 0
def xwl (i : Nat) : Nat := if i = 0 then 5 else 4
def pBg (T : Nat → Int32) (sz : Nat) (s : pS) : Option Nat := iF (fun k r => bif pAt T sz s (xbeg k) then some k else r) none 3
def pWd (T : Nat → Int32) (sz i : Nat) (s : pS) : pS := iF (fun k s => pTk T sz s (xwrd (5 * i + k))) s (xwl i)
/-- a clause's number, behind its word and a blank -/
def pCn (T : Nat → Int32) (sz i : Nat) (s : pS) : Int32 × pS := pNm T sz (pTk T sz (pWd T sz i s) 32)
def pCl {α β : Type} (T : Nat → Int32) (sz : Nat) (ay : pS → α × pS) (kp : β → Int32 → β) (sw hz : β → Int32 → α → β) (a : β) (s : pS) : β × pS := match pBg T sz s with
  | none => (a, (s.1, false))
  | some i => if i = 2 then (kp a (pCn T sz i s).1, (pCn T sz i s).2)
    else ((if i = 0 then sw else hz) a (pCn T sz i s).1 (ay (pTk T sz (pCn T sz i s).2 32)).1, (ay (pTk T sz (pCn T sz i s).2 32)).2)
def pCs {β : Type} (T : Nat → Int32) (sz : Nat) (cl : β → pS → β × pS) : Nat → β × pS → β × pS
  | 0, r => r
  | n + 1, r => bif pAt T sz r.2 59 then pCs T sz cl n (cl r.1 (r.2.1 + 1, r.2.2)) else r
/-- all of them -/
def pAl {β : Type} (T : Nat → Int32) (sz : Nat) (cl : β → pS → β × pS) (a : β) : β × pS := pCs T sz cl 9 (cl a (0, true))
def pOk2 (sz : Nat) (s : pS) : Bool := s.2 && decide (s.1 = sz)
/-- the reference's: sum and keep -/
def mSw (a : Int32 × Int32) (n : Int32) (b : Bool) : Int32 × Int32 := (a.1 + (bif b then n else 0), a.2)
def mHz (a : Int32 × Int32) (n : Int32) (b : Bool) : Int32 × Int32 := (a.1 + (bif b then -n else 0), a.2)
def mKp (a : Int32 × Int32) (n : Int32) : Int32 × Int32 := (a.1, n)
def mAy (T nm : Nat → Int32) (sz : Nat) : pS → Bool × pS := pAy T sz and or (mFa T nm sz 4)
def mCl (T nm : Nat → Int32) (sz : Nat) : Int32 × Int32 → pS → (Int32 × Int32) × pS := pCl T sz (mAy T nm sz) mKp mSw mHz
/-- a text read for some names: sum and keep, and where it ended -/
def mRd (T nm : Nat → Int32) (sz : Nat) : (Int32 × Int32) × pS := pAl T sz (mCl T nm sz) (nm 4, 5)
theorem xwrd_ne : ∀ i, i < 3 → ∀ k, k < xwl i → ¬ xwrd (5 * i + k) = 0 := by decide
theorem xwrd_end : ∀ i, i < 3 → xwl i = 5 ∨ (xwl i = 4 ∧ xwrd (5 * i + 4) = 0) := by decide
theorem pBg_lt {T : Nat → Int32} {sz : Nat} {s : pS} {i : Nat} (h : pBg T sz s = some i) : s.1 < sz ∧ s.2 = true ∧ i < 3 ∧ T s.1 = xbeg i := by
  have key : ∀ n, n ≤ 3 → ∀ L, iF (fun k r => bif pAt T sz s (xbeg k) then some k else r) none n = some L → pAt T sz s (xbeg L) = true ∧ L < 3 := by
    intro n
    induction n with
    | zero => intro _ L h; cases h
    | succ n ih =>
      intro hn L h
      unfold iF at h
      cases hp : pAt T sz s (xbeg n) with
      | false => rw [hp] at h; exact ih (by omega) L h
      | true => rw [hp] at h; cases h; exact ⟨hp, by omega⟩
  obtain ⟨h1, h2⟩ := key 3 (Nat.le_refl _) i h
  have h3 := h1
  unfold pAt at h3
  simp at h3
  exact ⟨h3.2.1, h3.1, h2, h3.2.2⟩
theorem pWd_sz' {T : Nat → Int32} {sz i : Nat} {s : pS} (hs : s.1 ≤ sz) : ∀ k, (iF (fun k s => pTk T sz s (xwrd (5 * i + k))) s k).1 ≤ sz := by
  intro k
  induction k with
  | zero => exact hs
  | succ k ih => exact pTk_sz ih
theorem pCn_sz {T : Nat → Int32} {sz i : Nat} {s : pS} (hs : s.1 ≤ sz) : (pCn T sz i s).2.1 ≤ sz := pNm_sz (pTk_sz (pWd_sz' hs _))
theorem pCl_sz {α β : Type} {T : Nat → Int32} {sz : Nat} {ay : pS → α × pS} {kp : β → Int32 → β} {sw hz : β → Int32 → α → β} (ha : ∀ s, s.1 ≤ sz → (ay s).2.1 ≤ sz) {a : β} {s : pS} (hs : s.1 ≤ sz) : (pCl T sz ay kp sw hz a s).2.1 ≤ sz := by
  unfold pCl
  cases h : pBg T sz s with
  | none => exact hs
  | some i =>
    by_cases hi : i = 2
    · simp only [hi, if_true]; exact pCn_sz hs
    · simp only [hi, if_false]; exact ha _ (pTk_sz (pCn_sz hs))
