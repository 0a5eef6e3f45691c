/-! two readings of one text, step by step alike -/
section REL
variable {α β : Type} (R : α → β → Prop)
theorem pTs_rel {tst : Nat → Nat → Int32 → α} {tst2 : Nat → Nat → Int32 → β} {bad : α} {bad2 : β} (ht : ∀ L r n, L < 6 → R (tst L r n) (tst2 L r n)) (hb : R bad bad2) (T : Nat → Int32) (sz : Nat) (s : pS) : R (pTs tst bad T sz s).1 (pTs tst2 bad2 T sz s).1 ∧ (pTs tst bad T sz s).2 = (pTs tst2 bad2 T sz s).2 := by
  unfold pTs
  cases h : pLt T sz s with
  | none => exact ⟨hb, rfl⟩
  | some L => exact ⟨ht _ _ _ (pLt_lt h).2.2.1, rfl⟩
theorem pLp_rel {op : α → α → α} {op2 : β → β → β} (ho : ∀ a b a2 b2, R a a2 → R b b2 → R (op a b) (op2 a2 b2)) (T : Nat → Int32) (sz : Nat) (c : Int32) {f : pS → α × pS} {f2 : pS → β × pS} (hf : ∀ s, R (f s).1 (f2 s).1 ∧ (f s).2 = (f2 s).2) : ∀ (n : Nat) (r : α × pS) (r2 : β × pS), R r.1 r2.1 → r.2 = r2.2 → R (pLp T sz c op f n r).1 (pLp T sz c op2 f2 n r2).1 ∧ (pLp T sz c op f n r).2 = (pLp T sz c op2 f2 n r2).2 := by
  intro n
  induction n with
  | zero => intro r r2 h1 h2; exact ⟨h1, h2⟩
  | succ n ih =>
    intro r r2 h1 h2
    unfold pLp
    rw [h2]
    cases pAt T sz r2.2 c
    · exact ⟨h1, h2⟩
    · exact ih _ _ (ho _ _ _ _ h1 (hf _).1) (hf _).2
theorem pBt_rel {an : α → α → α} {an2 : β → β → β} (ho : ∀ a b a2 b2, R a a2 → R b b2 → R (an a b) (an2 a2 b2)) (T : Nat → Int32) (sz : Nat) {f : pS → α × pS} {f2 : pS → β × pS} (hf : ∀ s, R (f s).1 (f2 s).1 ∧ (f s).2 = (f2 s).2) (s : pS) : R (pBt T sz an f s).1 (pBt T sz an2 f2 s).1 ∧ (pBt T sz an f s).2 = (pBt T sz an2 f2 s).2 := pLp_rel R ho T sz 38 hf 100 _ _ (hf s).1 (hf s).2
theorem pAy_rel {an or_ : α → α → α} {an2 or2 : β → β → β} (ha : ∀ a b a2 b2, R a a2 → R b b2 → R (an a b) (an2 a2 b2)) (ho : ∀ a b a2 b2, R a a2 → R b b2 → R (or_ a b) (or2 a2 b2)) (T : Nat → Int32) (sz : Nat) {f : pS → α × pS} {f2 : pS → β × pS} (hf : ∀ s, R (f s).1 (f2 s).1 ∧ (f s).2 = (f2 s).2) (s : pS) : R (pAy T sz an or_ f s).1 (pAy T sz an2 or2 f2 s).1 ∧ (pAy T sz an or_ f s).2 = (pAy T sz an2 or2 f2 s).2 := pLp_rel R ho T sz 124 (pBt_rel R ha T sz hf) 100 _ _ (pBt_rel R ha T sz hf s).1 (pBt_rel R ha T sz hf s).2
theorem pFa_rel {tst : Nat → Nat → Int32 → α} {tst2 : Nat → Nat → Int32 → β} {bad : α} {bad2 : β} {ng : α → α} {ng2 : β → β} {an or_ : α → α → α} {an2 or2 : β → β → β} (ht : ∀ L r n, L < 6 → R (tst L r n) (tst2 L r n)) (hb : R bad bad2) (hn : ∀ a a2, R a a2 → R (ng a) (ng2 a2)) (ha : ∀ a b a2 b2, R a a2 → R b b2 → R (an a b) (an2 a2 b2)) (ho : ∀ a b a2 b2, R a a2 → R b b2 → R (or_ a b) (or2 a2 b2)) (T : Nat → Int32) (sz : Nat) : ∀ (r : Nat) (s : pS), R (pFa T sz tst bad ng an or_ r s).1 (pFa T sz tst2 bad2 ng2 an2 or2 r s).1 ∧ (pFa T sz tst bad ng an or_ r s).2 = (pFa T sz tst2 bad2 ng2 an2 or2 r s).2 := by
  intro r
  induction r with
  | zero => intro s; exact pTs_rel R ht hb T sz s
  | succ r ih =>
    intro s
    unfold pFa
    cases pAt T sz s 33
    · cases pAt T sz s 40
      · exact pTs_rel R ht hb T sz s
      · have h := pAy_rel R ha ho T sz ih (s.1 + 1, s.2)
        exact ⟨h.1, by simp only [cond_true, cond_false]; rw [h.2]⟩
    · have h := ih (s.1 + 1, s.2)
      exact ⟨hn _ _ h.1, h.2⟩
variable {γ δ : Type} (Q : γ → δ → Prop)
theorem pCl_rel {ay : pS → α × pS} {ay2 : pS → β × pS} (hf : ∀ s, R (ay s).1 (ay2 s).1 ∧ (ay s).2 = (ay2 s).2) {kp : γ → Int32 → γ} {kp2 : δ → Int32 → δ} {sw hz : γ → Int32 → α → γ} {sw2 hz2 : δ → Int32 → β → δ} (hk : ∀ a a2 n, Q a a2 → Q (kp a n) (kp2 a2 n)) (hs : ∀ a a2 n b b2, Q a a2 → R b b2 → Q (sw a n b) (sw2 a2 n b2)) (hh : ∀ a a2 n b b2, Q a a2 → R b b2 → Q (hz a n b) (hz2 a2 n b2)) (T : Nat → Int32) (sz : Nat) (a : γ) (a2 : δ) (h : Q a a2) (s : pS) : Q (pCl T sz ay kp sw hz a s).1 (pCl T sz ay2 kp2 sw2 hz2 a2 s).1 ∧ (pCl T sz ay kp sw hz a s).2 = (pCl T sz ay2 kp2 sw2 hz2 a2 s).2 := by
  unfold pCl
  cases pBg T sz s with
  | none => exact ⟨h, rfl⟩
  | some i =>
    by_cases hi : i = 2
    · simp only [hi, if_true]; exact ⟨hk _ _ _ h, trivial⟩
    · simp only [hi, if_false]
      have q := hf (pTk T sz (pCn T sz i s).2 32)
      refine ⟨?_, q.2⟩
      by_cases h0 : i = 0
      · simp only [h0, if_true]; exact hs _ _ _ _ _ h (h0 ▸ q.1)
      · simp only [h0, if_false]; exact hh _ _ _ _ _ h q.1
theorem pCs_rel {cl : γ → pS → γ × pS} {cl2 : δ → pS → δ × pS} (hc : ∀ a a2 s, Q a a2 → Q (cl a s).1 (cl2 a2 s).1 ∧ (cl a s).2 = (cl2 a2 s).2) (T : Nat → Int32) (sz : Nat) : ∀ (n : Nat) (r : γ × pS) (r2 : δ × pS), Q r.1 r2.1 → r.2 = r2.2 → Q (pCs T sz cl n r).1 (pCs T sz cl2 n r2).1 ∧ (pCs T sz cl n r).2 = (pCs T sz cl2 n r2).2 := by
  intro n
  induction n with
  | zero => intro r r2 h1 h2; exact ⟨h1, h2⟩
  | succ n ih =>
    intro r r2 h1 h2
    unfold pCs
    rw [h2]
    cases pAt T sz r2.2 59
    · exact ⟨h1, h2⟩
    · have q := hc r.1 r2.1 (r2.2.1 + 1, r2.2.2) h1
      exact ih _ _ q.1 q.2
theorem pAl_rel {cl : γ → pS → γ × pS} {cl2 : δ → pS → δ × pS} (hc : ∀ a a2 s, Q a a2 → Q (cl a s).1 (cl2 a2 s).1 ∧ (cl a s).2 = (cl2 a2 s).2) (T : Nat → Int32) (sz : Nat) (a : γ) (a2 : δ) (h : Q a a2) : Q (pAl T sz cl a).1 (pAl T sz cl2 a2).1 ∧ (pAl T sz cl a).2 = (pAl T sz cl2 a2).2 := pCs_rel Q hc T sz 9 _ _ (hc a a2 (0, true) h).1 (hc a a2 (0, true) h).2
end REL
/-- keep, and where the reading ends, don't hang on the names -/
theorem mRd_nm (T nm nm2 : Nat → Int32) (sz : Nat) : (mRd T nm sz).1.2 = (mRd T nm2 sz).1.2 ∧ (mRd T nm sz).2 = (mRd T nm2 sz).2 := by
  have hf : ∀ s, True ∧ (mAy T nm sz s).2 = (mAy T nm2 sz s).2 := fun s => pAy_rel (fun _ _ => True) (fun _ _ _ _ _ _ => trivial) (fun _ _ _ _ _ _ => trivial) T sz (pFa_rel (fun _ _ => True) (fun _ _ _ _ => trivial) trivial (fun _ _ _ => trivial) (fun _ _ _ _ _ _ => trivial) (fun _ _ _ _ _ _ => trivial) T sz 4) s
  have hc : ∀ (a a2 : Int32 × Int32) (s : pS), a.2 = a2.2 → (mCl T nm sz a s).1.2 = (mCl T nm2 sz a2 s).1.2 ∧ (mCl T nm sz a s).2 = (mCl T nm2 sz a2 s).2 := fun a a2 s h => pCl_rel (fun _ _ => True) (fun (a b : Int32 × Int32) => a.2 = b.2) (kp := mKp) (kp2 := mKp) (sw := mSw) (hz := mHz) (sw2 := mSw) (hz2 := mHz) hf (fun _ _ _ _ => rfl) (fun _ _ _ _ _ h _ => h) (fun _ _ _ _ _ h _ => h) T sz a a2 h s
  exact pAl_rel (fun (a b : Int32 × Int32) => a.2 = b.2) (cl := mCl T nm sz) (cl2 := mCl T nm2 sz) hc T sz (nm 4, 5) (nm2 4, 5) rfl
def kpS (S : xSem) : Int32 := (S (fun _ => 0)).2
theorem mSem_kp (σ : xSt) (nm : Nat → Int32) : (mSem σ nm).2 = kpS (mSem σ) := by
  unfold kpS mSem
  split
  · rfl
  · exact (mRd_nm _ _ _ _).1
theorem kpM_eq (σ : xSt) : kpM σ = kpS (mSem σ) := mSem_kp σ _
/-- the row G may change, but for the cellar that holds -/
theorem mSem_set {σ : xSt} {G : Nat → Int32} (h : G 57 = σ.2.1 116 57) : mSem (xsA σ 116 G) = mSem σ := by
  unfold mSem rdT
  rw [xsA_get, h, xsA_ne (by decide), xsA_ne (by decide)]
theorem MCo.set {σ : xSt} {G : Nat → Int32} (h : MCo σ) : MCo (xsA σ 116 G) := by
  unfold MCo
  rw [xsA_ne (by decide), xsA_ne (by decide), xsA_ne (by decide), xsA_ne (by decide), xsA_ne (by decide)]
  exact h
theorem RUo.set {σ : xSt} {G : Nat → Int32} (h : RUo σ) (hg : G 57 = σ.2.1 116 57) : RUo (xsA σ 116 G) := by
  unfold RUo
  rw [xsA_get, hg, xsA_ne (by decide)]
  exact h
theorem tkG_54 {kp : Int32} {n : Nat} {G : Nat → Int32} (h6 : n ≤ 6) : tkG kp n G 54 = G 54 := by unfold tkG; simp only [upd]; rw [if_neg (by decide)]; exact tkN_out n 54 (by omega)
theorem tkG_57 {kp : Int32} {n : Nat} {G : Nat → Int32} (h6 : n ≤ 6) : tkG kp n G 57 = G 57 := by unfold tkG; simp only [upd]; rw [if_neg (by decide)]; exact tkN_out n 57 (by omega)
theorem tkG_56 {kp : Int32} {n : Nat} {G : Nat → Int32} : tkG kp n G 56 = G 56 + 1 := by unfold tkG; simp [upd]
theorem tkG_hi {kp : Int32} {n c : Nat} {G : Nat → Int32} (h6 : n ≤ 6) (hc : 54 ≤ c) (h : c ≠ 56) : tkG kp n G c = G c := by unfold tkG; simp only [upd]; rw [if_neg h]; exact tkN_out n c (by omega)
theorem tkGs_hi {kp : Int32} {n c : Nat} {G : Nat → Int32} (h6 : n ≤ 6) (hc : 54 ≤ c) (h : c ≠ 56) : ∀ m, tkGs kp n G m c = G c := by
  intro m
  induction m with
  | zero => rfl
  | succ m ih => rw [tkGs, tkG_hi h6 hc h, ih]
theorem tkGs_56 {kp : Int32} {n : Nat} {G : Nat → Int32} : ∀ m, tkGs kp n G m 56 = G 56 + nI m := by
  intro m
  induction m with
  | zero => rw [nI_0]; simp [tkGs]
  | succ m ih => rw [tkGs, tkG_56, ih, Int32.add_assoc, nI_1]
theorem tkG_in {kp : Int32} {n i k : Nat} {G : Nat → Int32} (h6 : n ≤ 6) (hi : i < n) (hk : k < 9) : tkG kp n G (9 * i + k) = tkP kp (pV G i) k := by unfold tkG; simp only [upd]; rw [if_neg (by omega)]; exact tkN_in n i k hk hi
/-- m terms for a pot's numbers -/
def tkPs (kp : Int32) (a : Nat → Int32) : Nat → (Nat → Int32)
  | 0 => a
  | m + 1 => tkP kp (tkPs kp a m)
theorem tkP_cg {kp : Int32} {a b : Nat → Int32} (h : ∀ k, k < 9 → a k = b k) : ∀ k, k < 9 → tkP kp a k = tkP kp b k := by
  intro k hk
  unfold tkP
  simp only [upd, h 3 (by omega), h 2 (by omega), h k hk]
theorem tkGs_in {kp : Int32} {n i : Nat} {G : Nat → Int32} (h6 : n ≤ 6) (hi : i < n) : ∀ m k, k < 9 → tkGs kp n G m (9 * i + k) = tkPs kp (pV G i) m k := by
  intro m
  induction m with
  | zero => intro k _; rfl
  | succ m ih =>
    intro k hk
    rw [tkGs, tkG_in h6 hi hk, tkPs]
    exact tkP_cg (fun k hk => ih k hk) k hk
