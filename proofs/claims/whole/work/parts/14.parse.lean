/-! reading a cellar's text, as plain functions: a place, and whether all was well so far -/
abbrev pS : Type := Nat × Bool
def bI (b : Bool) : Int32 := bif b then 1 else 0
theorem bI_eq0 {b : Bool} : bI b = 0 ↔ b = false := by cases b <;> decide
theorem bI_ne0 {b : Bool} : ¬ bI b = 0 ↔ b = true := by cases b <;> decide
theorem bI_nar (b : Bool) : narrow .boolean (.int (bI b)) = .int (bI b) := by cases b <;> rfl
def pAt (T : Nat → Int32) (sz : Nat) (s : pS) (c : Int32) : Bool := s.2 && (decide (s.1 < sz) && decide (T s.1 = c))
def pTk (T : Nat → Int32) (sz : Nat) (s : pS) (c : Int32) : pS := bif pAt T sz s c then (s.1 + 1, s.2) else (s.1, false)
def pDg (T : Nat → Int32) (sz : Nat) (s : pS) : Bool := s.2 && (decide (s.1 < sz) && (decide (48 ≤ T s.1) && decide (T s.1 ≤ 57)))
def pNm (T : Nat → Int32) (sz : Nat) (s : pS) : Int32 × pS := bif pDg T sz s then (bif pDg T sz (s.1 + 1, s.2) then (10 * (T s.1 - 48) + T (s.1 + 1) - 48, (s.1 + 2, s.2)) else (T s.1 - 48, (s.1 + 1, s.2))) else (0, (s.1, false))
def xlet (k : Nat) : Int32 := [(112 : Int32), 107, 118, 102, 115, 97].getD k 0
def pLt (T : Nat → Int32) (sz : Nat) (s : pS) : Option Nat := iF (fun k r => bif pAt T sz s (xlet k) then some k else r) none 6
/-- < 0, = 1, > 2 -/
def pRl (T : Nat → Int32) (sz : Nat) (s : pS) : Nat := bif pAt T sz s 60 then 0 else bif pAt T sz s 62 then 2 else 1
def pRc (r : Nat) : Int32 := [(60 : Int32), 61, 62].getD r 0
section PARSE
variable {α : Type}
def pTs (tst : Nat → Nat → Int32 → α) (bad : α) (T : Nat → Int32) (sz : Nat) (s : pS) : α × pS := match pLt T sz s with
  | none => (bad, (s.1, false))
  | some L => (tst L (pRl T sz (s.1 + 1, s.2)) (pNm T sz (pTk T sz (s.1 + 1, s.2) (pRc (pRl T sz (s.1 + 1, s.2))))).1, (pNm T sz (pTk T sz (s.1 + 1, s.2) (pRc (pRl T sz (s.1 + 1, s.2))))).2)
/-- more of them, with a sign between -/
def pLp (T : Nat → Int32) (sz : Nat) (c : Int32) (op : α → α → α) (f : pS → α × pS) : Nat → α × pS → α × pS
  | 0, r => r
  | n + 1, r => bif pAt T sz r.2 c then pLp T sz c op f n (op r.1 (f (r.2.1 + 1, r.2.2)).1, (f (r.2.1 + 1, r.2.2)).2) else r
def pBt (T : Nat → Int32) (sz : Nat) (an : α → α → α) (f : pS → α × pS) (s : pS) : α × pS := pLp T sz 38 an f 100 (f s)
def pAy (T : Nat → Int32) (sz : Nat) (an or_ : α → α → α) (f : pS → α × pS) (s : pS) : α × pS := pLp T sz 124 or_ (pBt T sz an f) 100 (pBt T sz an f s)
def pFa (T : Nat → Int32) (sz : Nat) (tst : Nat → Nat → Int32 → α) (bad : α) (ng : α → α) (an or_ : α → α → α) : Nat → pS → α × pS
  | 0, s => pTs tst bad T sz s
  | r + 1, s => bif pAt T sz s 33 then (ng (pFa T sz tst bad ng an or_ r (s.1 + 1, s.2)).1, (pFa T sz tst bad ng an or_ r (s.1 + 1, s.2)).2)
    else bif pAt T sz s 40 then ((pAy T sz an or_ (pFa T sz tst bad ng an or_ r) (s.1 + 1, s.2)).1, pTk T sz (pAy T sz an or_ (pFa T sz tst bad ng an or_ r) (s.1 + 1, s.2)).2 41)
    else pTs tst bad T sz s
end PARSE
/-- places never go back -/
theorem pTk_le {T : Nat → Int32} {sz : Nat} {s : pS} {c : Int32} : s.1 ≤ (pTk T sz s c).1 := by
  unfold pTk; cases pAt T sz s c <;> simp
theorem pNm_le {T : Nat → Int32} {sz : Nat} {s : pS} : s.1 ≤ (pNm T sz s).2.1 := by
  unfold pNm; cases pDg T sz s <;> simp; cases pDg T sz (s.1 + 1, s.2) <;> simp
theorem pTs_le {α : Type} {tst : Nat → Nat → Int32 → α} {bad : α} {T : Nat → Int32} {sz : Nat} {s : pS} : s.1 ≤ (pTs tst bad T sz s).2.1 := by
  unfold pTs
  cases pLt T sz s with
  | none => exact Nat.le_refl _
  | some L =>
    refine Nat.le_trans ?_ pNm_le
    exact Nat.le_trans (Nat.le_succ _) (pTk_le (s := (s.1 + 1, s.2)))
theorem pLp_le {α : Type} {T : Nat → Int32} {sz : Nat} {c : Int32} {op : α → α → α} {f : pS → α × pS} (hf : ∀ s, s.1 ≤ (f s).2.1) : ∀ (n : Nat) (r : α × pS), r.2.1 ≤ (pLp T sz c op f n r).2.1 := by
  intro n
  induction n with
  | zero => intro r; exact Nat.le_refl _
  | succ n ih =>
    intro r
    unfold pLp
    cases pAt T sz r.2 c
    · exact Nat.le_refl _
    · refine Nat.le_trans ?_ (ih _)
      exact Nat.le_trans (Nat.le_succ _) (hf (r.2.1 + 1, r.2.2))
theorem pBt_le {α : Type} {T : Nat → Int32} {sz : Nat} {an : α → α → α} {f : pS → α × pS} (hf : ∀ s, s.1 ≤ (f s).2.1) (s : pS) : s.1 ≤ (pBt T sz an f s).2.1 := Nat.le_trans (hf s) (pLp_le hf _ _)
theorem pAy_le {α : Type} {T : Nat → Int32} {sz : Nat} {an or_ : α → α → α} {f : pS → α × pS} (hf : ∀ s, s.1 ≤ (f s).2.1) (s : pS) : s.1 ≤ (pAy T sz an or_ f s).2.1 := Nat.le_trans (pBt_le hf s) (pLp_le (pBt_le hf) _ _)
theorem pFa_le {α : Type} {T : Nat → Int32} {sz : Nat} {tst : Nat → Nat → Int32 → α} {bad : α} {ng : α → α} {an or_ : α → α → α} : ∀ (r : Nat) (s : pS), s.1 ≤ (pFa T sz tst bad ng an or_ r s).2.1 := by
  intro r
  induction r with
  | zero => intro s; exact pTs_le
  | succ r ih =>
    intro s
    unfold pFa
    cases pAt T sz s 33
    · cases pAt T sz s 40
      · exact pTs_le
      · exact Nat.le_trans (Nat.le_trans (Nat.le_succ _) (pAy_le ih (s.1 + 1, s.2))) pTk_le
    · exact Nat.le_trans (Nat.le_succ _) (ih (s.1 + 1, s.2))
theorem pAt_lt {T : Nat → Int32} {sz : Nat} {s : pS} {c : Int32} (h : pAt T sz s c = true) : s.1 < sz := by
  unfold pAt at h; simp at h; exact h.2.1
theorem pDg_lt {T : Nat → Int32} {sz : Nat} {s : pS} (h : pDg T sz s = true) : s.1 < sz := by
  unfold pDg at h; simp at h; exact h.2.1
theorem pTk_sz {T : Nat → Int32} {sz : Nat} {s : pS} {c : Int32} (hs : s.1 ≤ sz) : (pTk T sz s c).1 ≤ sz := by
  unfold pTk
  cases h : pAt T sz s c
  · exact hs
  · exact pAt_lt h
theorem pNm_sz {T : Nat → Int32} {sz : Nat} {s : pS} (hs : s.1 ≤ sz) : (pNm T sz s).2.1 ≤ sz := by
  unfold pNm
  cases h : pDg T sz s
  · exact hs
  · cases h2 : pDg T sz (s.1 + 1, s.2)
    · exact pDg_lt h
    · exact pDg_lt h2
theorem pLt_lt {T : Nat → Int32} {sz : Nat} {s : pS} {L : Nat} (h : pLt T sz s = some L) : s.1 < sz ∧ s.2 = true ∧ L < 6 ∧ T s.1 = xlet L := by
  have key : ∀ n, n ≤ 6 → ∀ L, iF (fun k r => bif pAt T sz s (xlet k) then some k else r) none n = some L → pAt T sz s (xlet L) = true ∧ L < 6 := by
    intro n
    induction n with
    | zero => intro _ L h; cases h
    | succ n ih =>
      intro hn L h
      unfold iF at h
      cases hp : pAt T sz s (xlet n) with
      | false => rw [hp] at h; exact ih (by omega) L h
      | true => rw [hp] at h; cases h; exact ⟨hp, by omega⟩
  obtain ⟨h1, h2⟩ := key 6 (Nat.le_refl _) L h
  have h3 := h1
  unfold pAt at h3
  simp at h3
  exact ⟨h3.2.1, h3.1, h2, h3.2.2⟩
theorem pTs_sz {α : Type} {tst : Nat → Nat → Int32 → α} {bad : α} {T : Nat → Int32} {sz : Nat} {s : pS} (hs : s.1 ≤ sz) : (pTs tst bad T sz s).2.1 ≤ sz := by
  unfold pTs
  cases h : pLt T sz s with
  | none => exact hs
  | some L => exact pNm_sz (pTk_sz (pLt_lt h).1)
theorem pLp_sz {α : Type} {T : Nat → Int32} {sz : Nat} {c : Int32} {op : α → α → α} {f : pS → α × pS} (hf : ∀ s, s.1 ≤ sz → (f s).2.1 ≤ sz) : ∀ (n : Nat) (r : α × pS), r.2.1 ≤ sz → (pLp T sz c op f n r).2.1 ≤ sz := by
  intro n
  induction n with
  | zero => intro r h; exact h
  | succ n ih =>
    intro r h
    unfold pLp
    cases hp : pAt T sz r.2 c
    · exact h
    · exact ih _ (hf _ (pAt_lt hp))
theorem pBt_sz {α : Type} {T : Nat → Int32} {sz : Nat} {an : α → α → α} {f : pS → α × pS} (hf : ∀ s, s.1 ≤ sz → (f s).2.1 ≤ sz) (s : pS) (hs : s.1 ≤ sz) : (pBt T sz an f s).2.1 ≤ sz := pLp_sz hf _ _ (hf s hs)
theorem pAy_sz {α : Type} {T : Nat → Int32} {sz : Nat} {an or_ : α → α → α} {f : pS → α × pS} (hf : ∀ s, s.1 ≤ sz → (f s).2.1 ≤ sz) (s : pS) (hs : s.1 ≤ sz) : (pAy T sz an or_ f s).2.1 ≤ sz := pLp_sz (pBt_sz hf) _ _ (pBt_sz hf s hs)
theorem pFa_sz {α : Type} {T : Nat → Int32} {sz : Nat} {tst : Nat → Nat → Int32 → α} {bad : α} {ng : α → α} {an or_ : α → α → α} : ∀ (r : Nat) (s : pS), s.1 ≤ sz → (pFa T sz tst bad ng an or_ r s).2.1 ≤ sz := by
  intro r
  induction r with
  | zero => intro s hs; exact pTs_sz hs
  | succ r ih =>
    intro s hs
    unfold pFa
    cases h : pAt T sz s 33
    · cases h2 : pAt T sz s 40
      · exact pTs_sz hs
      · exact pTk_sz (pAy_sz ih _ (pAt_lt h2))
    · exact ih _ (pAt_lt h)
/-- once it isn't well, nothing is read -/
theorem pAt_bad {T : Nat → Int32} {sz : Nat} {a : Nat} {c : Int32} : pAt T sz (a, false) c = false := rfl
/-- the reference's reading state -/
def mS (σ : xSt) (s : pS) (w : Nat) (sm kp : Int32) : xSt := (va_up σ.1 115 (fun j => if j = 11 then nI s.1 else if j = 12 then bI s.2 else if j = 13 then nI w else if j = 14 then sm else if j = 15 then kp else σ.1 115 j), σ.2.1, σ.2.2)
section MS
variable {σ : xSt} {s : pS} {w : Nat} {sm kp : Int32}
theorem mS_A : (mS σ s w sm kp).2.1 = σ.2.1 := rfl
theorem mS_J : (mS σ s w sm kp).2.2 = σ.2.2 := rfl
theorem mS_ne {c : Nat} (h : c ≠ 115) : (mS σ s w sm kp).1 c = σ.1 c := va_up_ne _ _ h
theorem mS_f (j : Nat) : (mS σ s w sm kp).1 115 j = if j = 11 then nI s.1 else if j = 12 then bI s.2 else if j = 13 then nI w else if j = 14 then sm else if j = 15 then kp else σ.1 115 j := by
  exact congrFun (va_up_self σ.1 115 (fun j => if j = 11 then nI s.1 else if j = 12 then bI s.2 else if j = 13 then nI w else if j = 14 then sm else if j = 15 then kp else σ.1 115 j)) j
theorem mS_at : (mS σ s w sm kp).1 115 11 = nI s.1 := by rw [mS_f]; rfl
theorem mS_well : (mS σ s w sm kp).1 115 12 = bI s.2 := by rw [mS_f]; rfl
theorem mS_in : (mS σ s w sm kp).1 115 13 = nI w := by rw [mS_f]; rfl
theorem mS_sum : (mS σ s w sm kp).1 115 14 = sm := by rw [mS_f]; rfl
theorem mS_keep : (mS σ s w sm kp).1 115 15 = kp := by rw [mS_f]; rfl
theorem mS_size : (mS σ s w sm kp).1 115 10 = σ.1 115 10 := by rw [mS_f]; rfl
theorem mS_ext {s2 : pS} {w2 : Nat} {sm2 kp2 v : Int32} {i : Nat} (h : ∀ j, upd (fun j => if j = 11 then nI s.1 else if j = 12 then bI s.2 else if j = 13 then nI w else if j = 14 then sm else if j = 15 then kp else σ.1 115 j) i v j = if j = 11 then nI s2.1 else if j = 12 then bI s2.2 else if j = 13 then nI w2 else if j = 14 then sm2 else if j = 15 then kp2 else σ.1 115 j) : xsF (mS σ s w sm kp) 115 i v = mS σ s2 w2 sm2 kp2 := by
  unfold xsF mS
  simp only [va_up_self, va_up2]
  rw [show upd (fun j => if j = 11 then nI s.1 else if j = 12 then bI s.2 else if j = 13 then nI w else if j = 14 then sm else if j = 15 then kp else σ.1 115 j) i v = _ from funext h]
theorem mS_putAt {a : Nat} : xsF (mS σ s w sm kp) 115 11 (nI a) = mS σ (a, s.2) w sm kp := mS_ext (fun j => by simp only [upd]; split <;> simp_all)
theorem mS_putAt1 : xsF (mS σ s w sm kp) 115 11 (nI s.1 + 1) = mS σ (s.1 + 1, s.2) w sm kp := by rw [nI_1]; exact mS_putAt
theorem mS_putBad : xsF (mS σ s w sm kp) 115 12 0 = mS σ (s.1, false) w sm kp := mS_ext (fun j => by simp only [upd]; split <;> simp_all [bI])
theorem mS_putWell : xsF (mS σ s w sm kp) 115 12 1 = mS σ (s.1, true) w sm kp := mS_ext (fun j => by simp only [upd]; split <;> simp_all [bI])
theorem mS_putIn {w2 : Nat} : xsF (mS σ s w sm kp) 115 13 (nI w2) = mS σ s w2 sm kp := mS_ext (fun j => by simp only [upd]; split <;> simp_all)
theorem mS_putSum {v : Int32} : xsF (mS σ s w sm kp) 115 14 v = mS σ s w v kp := mS_ext (fun j => by simp only [upd]; split <;> simp_all)
theorem mS_putKeep {v : Int32} : xsF (mS σ s w sm kp) 115 15 v = mS σ s w sm v := mS_ext (fun j => by simp only [upd]; split <;> simp_all)
end MS
