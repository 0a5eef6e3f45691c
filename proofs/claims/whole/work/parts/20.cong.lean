/-! only the text's own signs and the six names count -/
theorem pAt_cg {T T2 : Nat → Int32} {sz : Nat} (h : ∀ k, k < sz → T k = T2 k) (s : pS) (c : Int32) : pAt T sz s c = pAt T2 sz s c := by
  unfold pAt
  by_cases hs : s.1 < sz
  · rw [h _ hs]
  · simp [hs]
theorem pDg_cg {T T2 : Nat → Int32} {sz : Nat} (h : ∀ k, k < sz → T k = T2 k) (s : pS) : pDg T sz s = pDg T2 sz s := by
  unfold pDg
  by_cases hs : s.1 < sz
  · rw [h _ hs]
  · simp [hs]
theorem pTk_cg {T T2 : Nat → Int32} {sz : Nat} (h : ∀ k, k < sz → T k = T2 k) (s : pS) (c : Int32) : pTk T sz s c = pTk T2 sz s c := by unfold pTk; rw [pAt_cg h]
theorem pNm_cg {T T2 : Nat → Int32} {sz : Nat} (h : ∀ k, k < sz → T k = T2 k) (s : pS) : pNm T sz s = pNm T2 sz s := by
  unfold pNm
  rw [← pDg_cg h, ← pDg_cg h]
  cases h1 : pDg T sz s
  · rfl
  · have e1 := h _ (pDg_lt h1)
    cases h2 : pDg T sz (s.1 + 1, s.2)
    · simp only [cond_true, cond_false, e1]
    · have e2 := h _ (pDg_lt h2)
      simp only at e2
      simp only [cond_true, e1, e2]
theorem pLt_cg {T T2 : Nat → Int32} {sz : Nat} (h : ∀ k, k < sz → T k = T2 k) (s : pS) : pLt T sz s = pLt T2 sz s := by
  unfold pLt
  rw [show (fun (k : Nat) (r : Option Nat) => bif pAt T sz s (xlet k) then some k else r) = (fun k r => bif pAt T2 sz s (xlet k) then some k else r) from by funext k r; rw [pAt_cg h]]
theorem pBg_cg {T T2 : Nat → Int32} {sz : Nat} (h : ∀ k, k < sz → T k = T2 k) (s : pS) : pBg T sz s = pBg T2 sz s := by
  unfold pBg
  rw [show (fun (k : Nat) (r : Option Nat) => bif pAt T sz s (xbeg k) then some k else r) = (fun k r => bif pAt T2 sz s (xbeg k) then some k else r) from by funext k r; rw [pAt_cg h]]
theorem pRl_cg {T T2 : Nat → Int32} {sz : Nat} (h : ∀ k, k < sz → T k = T2 k) (s : pS) : pRl T sz s = pRl T2 sz s := by unfold pRl; rw [pAt_cg h, pAt_cg h]
theorem pTs_cg {α : Type} {T T2 : Nat → Int32} {sz : Nat} (h : ∀ k, k < sz → T k = T2 k) {tst tst2 : Nat → Nat → Int32 → α} (ht : ∀ L, L < 6 → tst L = tst2 L) (bad : α) (s : pS) : pTs tst bad T sz s = pTs tst2 bad T2 sz s := by
  unfold pTs
  rw [← pLt_cg h]
  cases hL : pLt T sz s with
  | none => rfl
  | some L => simp only [ht L (pLt_lt hL).2.2.1, pRl_cg h, pTk_cg h, pNm_cg h]
theorem pLp_cg {α : Type} {T T2 : Nat → Int32} {sz : Nat} (h : ∀ k, k < sz → T k = T2 k) (c : Int32) (op : α → α → α) {f f2 : pS → α × pS} (hf : ∀ s, f s = f2 s) : ∀ (n : Nat) (r : α × pS), pLp T sz c op f n r = pLp T2 sz c op f2 n r := by
  intro n
  induction n with
  | zero => intro r; rfl
  | succ n ih => intro r; unfold pLp; rw [pAt_cg h, hf, ih]
theorem pBt_cg {α : Type} {T T2 : Nat → Int32} {sz : Nat} (h : ∀ k, k < sz → T k = T2 k) (an : α → α → α) {f f2 : pS → α × pS} (hf : ∀ s, f s = f2 s) (s : pS) : pBt T sz an f s = pBt T2 sz an f2 s := by unfold pBt; rw [hf, pLp_cg h _ _ hf]
theorem pAy_cg {α : Type} {T T2 : Nat → Int32} {sz : Nat} (h : ∀ k, k < sz → T k = T2 k) (an or_ : α → α → α) {f f2 : pS → α × pS} (hf : ∀ s, f s = f2 s) (s : pS) : pAy T sz an or_ f s = pAy T2 sz an or_ f2 s := by unfold pAy; rw [pBt_cg h an hf, pLp_cg h _ _ (pBt_cg h an hf)]
theorem pFa_cg {α : Type} {T T2 : Nat → Int32} {sz : Nat} (h : ∀ k, k < sz → T k = T2 k) {tst tst2 : Nat → Nat → Int32 → α} (ht : ∀ L, L < 6 → tst L = tst2 L) (bad : α) (ng : α → α) (an or_ : α → α → α) : ∀ (r : Nat) (s : pS), pFa T sz tst bad ng an or_ r s = pFa T2 sz tst2 bad ng an or_ r s := by
  intro r
  induction r with
  | zero => intro s; exact pTs_cg h ht bad s
  | succ r ih => intro s; unfold pFa; rw [pAt_cg h, pAt_cg h, ih, pAy_cg h an or_ ih, pTk_cg h, pTs_cg h ht]
theorem pWd_cg {T T2 : Nat → Int32} {sz : Nat} (h : ∀ k, k < sz → T k = T2 k) (i : Nat) (s : pS) : pWd T sz i s = pWd T2 sz i s := by
  unfold pWd
  rw [show (fun (k : Nat) (s : pS) => pTk T sz s (xwrd (5 * i + k))) = (fun k s => pTk T2 sz s (xwrd (5 * i + k))) from by funext k s; rw [pTk_cg h]]
theorem pCn_cg {T T2 : Nat → Int32} {sz : Nat} (h : ∀ k, k < sz → T k = T2 k) (i : Nat) (s : pS) : pCn T sz i s = pCn T2 sz i s := by unfold pCn; rw [pWd_cg h, pTk_cg h, pNm_cg h]
theorem pCl_cg {α β : Type} {T T2 : Nat → Int32} {sz : Nat} (h : ∀ k, k < sz → T k = T2 k) {ay ay2 : pS → α × pS} (ha : ∀ s, ay s = ay2 s) (kp : β → Int32 → β) (sw hz : β → Int32 → α → β) (a : β) (s : pS) : pCl T sz ay kp sw hz a s = pCl T2 sz ay2 kp sw hz a s := by
  unfold pCl
  rw [← pBg_cg h]
  cases pBg T sz s with
  | none => rfl
  | some i => simp only [pCn_cg h, pTk_cg h, ha]
theorem pCs_cg {β : Type} {T T2 : Nat → Int32} {sz : Nat} (h : ∀ k, k < sz → T k = T2 k) {cl cl2 : β → pS → β × pS} (hc : ∀ a s, cl a s = cl2 a s) : ∀ (n : Nat) (r : β × pS), pCs T sz cl n r = pCs T2 sz cl2 n r := by
  intro n
  induction n with
  | zero => intro r; rfl
  | succ n ih => intro r; unfold pCs; rw [pAt_cg h, hc, ih]
theorem pAl_cg {β : Type} {T T2 : Nat → Int32} {sz : Nat} (h : ∀ k, k < sz → T k = T2 k) {cl cl2 : β → pS → β × pS} (hc : ∀ a s, cl a s = cl2 a s) (a : β) : pAl T sz cl a = pAl T2 sz cl2 a := by unfold pAl; rw [hc, pCs_cg h hc]
theorem mCl_cg {T T2 nm nm2 : Nat → Int32} {sz : Nat} (h : ∀ k, k < sz → T k = T2 k) (hn : ∀ k, k < 6 → nm k = nm2 k) (a : Int32 × Int32) (s : pS) : mCl T nm sz a s = mCl T2 nm2 sz a s :=
  pCl_cg h (fun s => pAy_cg h and or (pFa_cg h (fun L hL => by funext R n; unfold mTst; rw [hn L hL]) false not and or 4) s) mKp mSw mHz a s
theorem mRd_cg {T T2 nm nm2 : Nat → Int32} {sz : Nat} (h : ∀ k, k < sz → T k = T2 k) (hn : ∀ k, k < 6 → nm k = nm2 k) : mRd T nm sz = mRd T2 nm2 sz := by
  unfold mRd; rw [hn 4 (by omega)]; exact pAl_cg h (mCl_cg h hn) _
/-! what a method of the reference may change that nobody sees -/
abbrev mSc (c : Nat) : Prop := c = 122 ∨ c = 123
def KM (σ σ2 : xSt) : Prop := (∀ c, ¬ mSc c → σ2.2.1 c = σ.2.1 c) ∧ (∀ c, c ≠ 137 → σ2.2.2 c = σ.2.2 c) ∧ (∀ c, c ≠ 115 → σ2.1 c = σ.1 c) ∧ ∀ j, ¬ (10 ≤ j ∧ j ≤ 15) → σ2.1 115 j = σ.1 115 j
theorem KM.rf {σ : xSt} : KM σ σ := ⟨fun _ _ => rfl, fun _ _ => rfl, fun _ _ => rfl, fun _ _ => rfl⟩
theorem KM.tr {a b c : xSt} (h : KM a b) (h2 : KM b c) : KM a c := ⟨fun x hx => (h2.1 x hx).trans (h.1 x hx), fun x hx => (h2.2.1 x hx).trans (h.2.1 x hx), fun x hx => (h2.2.2.1 x hx).trans (h.2.2.1 x hx), fun x hx => (h2.2.2.2 x hx).trans (h.2.2.2 x hx)⟩
theorem KM.A {σ : xSt} {c : Nat} {g : Nat → Int32} (h : mSc c) : KM σ (xsA σ c g) := ⟨fun x hx => xsA_ne (fun z => hx (z ▸ h)), fun _ _ => rfl, fun _ _ => rfl, fun _ _ => rfl⟩
theorem KM.F {σ : xSt} {j : Nat} {v : Int32} (h : 10 ≤ j ∧ j ≤ 15) : KM σ (xsF σ 115 j v) := ⟨fun _ _ => rfl, fun _ _ => rfl, fun x hx => by funext i; exact xsF_ne (Or.inl hx), fun i hi => xsF_ne (Or.inr (fun z => hi (z ▸ h)))⟩
theorem KM.mS {σ : xSt} {s : pS} {w : Nat} {sm kp : Int32} : KM σ (mS σ s w sm kp) := ⟨fun _ _ => rfl, fun _ _ => rfl, fun x hx => mS_ne hx, fun j hj => by rw [mS_f, if_neg (by omega), if_neg (by omega), if_neg (by omega), if_neg (by omega), if_neg (by omega)]⟩
theorem nI_any (x : Int32) : ∃ n : Nat, x = nI n := ⟨x.toBitVec.toNat, by unfold nI; simp⟩
/-- the reading's first state -/
theorem mS_start {σ : xSt} {w : Nat} {v : Int32} (hw : σ.1 115 13 = nI w) : xsF (xsF (xsF (xsF σ 115 11 0) 115 12 1) 115 14 v) 115 15 5 = mS σ (0, true) w v 5 := by
  unfold xsF mS
  simp only [va_up_self, va_up2]
  congr 2
  funext j
  simp only [upd]
  by_cases h15 : j = 15
  · subst h15; simp
  · by_cases h14 : j = 14
    · subst h14; simp
    · by_cases h12 : j = 12
      · subst h12; simp [bI]
      · by_cases h11 : j = 11
        · subst h11; simp; exact nI_0.symm
        · by_cases h13 : j = 13
          · subst h13; simp [hw]
          · simp [h11, h12, h13, h14, h15]
