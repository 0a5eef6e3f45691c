theorem lX9_terms {d : Nat} (hd : 22 ≤ d) {σ : xSt} {Post : Option Value → xSt → Prop} (n : Nat) (hn : σ.2.1 116 54 = nI n) (h6 : n ≤ 6) (hM : MCo σ) (hR : RUo σ) (m : Nat) (hm : m ≤ 60) (h : ∀ σ2, KM (xsA σ 116 (tkGs (kpM σ) n (σ.2.1 116) m)) σ2 → Post none σ2) : ∀ (c j : Nat) (τ : xSt), m + 1 ≤ j + c → j ≤ m → KM (xsA σ 116 (tkGs (kpM σ) n (σ.2.1 116) j)) τ → xEv kX9_terms (d + 1) 2 [some (.ref 115), some (.int (nI m)), some (.int (nI j))] [] τ Post := by
  intro c
  induction c with
  | zero => intro j τ hc hj; omega
  | succ c ih =>
    intro j τ hc hj kt
    have g57 : tkGs (kpM σ) n (σ.2.1 116) j 57 = σ.2.1 116 57 := tkGs_hi h6 (by omega) (by omega) j
    have gt : τ.2.1 116 = tkGs (kpM σ) n (σ.2.1 116) j := by rw [kt.1 116 (by omega), xsA_get]
    have hM2 : MCo τ := (hM.set).km kt
    have hR2 : RUo τ := (hR.set g57).km kt
    have hk2 : kpM τ = kpM σ := by rw [kpM_eq, kpM_eq, mSem.km kt, mSem_set g57]
    have hn2 : τ.2.1 116 54 = nI n := by rw [gt, tkGs_hi h6 (by omega) (by omega)]; exact hn
    refine xe_iload_n dX9_terms_2 rfl ?_
    refine xe_iload_n dX9_terms_3 rfl ?_
    refine xe_icmp_ge (tgt := 17) dX9_terms_4 (by decide) (fun h4 => ?_) (fun h4 => ?_)
    · refine xe_vret dX9_terms_17 rfl ?_
      have e := nLe (a := m) (by omega) (by omega) h4
      obtain rfl : j = m := by omega
      exact h _ kt
    · have e := nNle (a := m) (by omega) (by omega) h4
      refine xe_aload_n dX9_terms_7 rfl ?_
      refine xe_callv (k2 := kX9_term) (vs := []) dX9_terms_8 okX9_term mlX9_199 imX9_term slX9_term (Or.inl ⟨9, _, _, by decide, rfl, rfl, rfl⟩) rfl rfl (Nat.le_of_ble_eq_true rfl) (Nat.le_of_ble_eq_true rfl) (sX9_term (by omega) n hn2 h6 hM2 hR2 (fun σ2 k2 => ?_))
      refine xn_inc (j := j) (lv2 := [_, _, _]) dX9_terms_11 (by decide) rfl rfl ?_
      refine xe_goto (tgt := 2) dX9_terms_14 (by decide) ?_
      refine ih (j + 1) σ2 (by omega) (by omega) ?_
      have q := kt.set (c := 116) (g := tkG (kpM τ) n (τ.2.1 116)) (by omega)
      rw [xsA_A] at q
      rw [gt, hk2] at q k2
      exact q.tr k2

theorem sX9_terms {d : Nat} (hd : 23 ≤ d) {σ : xSt} {Post : Option Value → xSt → Prop} (n : Nat) (hn : σ.2.1 116 54 = nI n) (h6 : n ≤ 6) (m : Nat) (hm : m ≤ 60) (hM : MCo σ) (hR : RUo σ) (h : ∀ σ2, KM (xsA σ 116 (tkGs (kpM σ) n (σ.2.1 116) m)) σ2 → Post none σ2) : xM kX9_terms d [.ref 115, .int (nI m)] σ Post := by
  obtain ⟨d, rfl⟩ : ∃ e, d = e + 1 := ⟨d - 1, by omega⟩
  refine xM_start (lv := [some (.ref 115), some (.int (nI m)), none]) rfl ?_
  refine xe_iconst (v := 0) dX9_terms_0 rfl ?_
  refine xe_istore_n (lv2 := [_, _, _]) dX9_terms_1 (by decide) rfl ?_
  exact lX9_terms (by omega) n hn h6 hM hR m hm h (m + 1) 0 σ (by omega) (by omega) (by rw [show tkGs (kpM σ) n (σ.2.1 116) 0 = σ.2.1 116 from rfl, xsA_self]; exact KM.rf)

/-- the fewest terms behind which a pot is clear enough, from the j-th on; c more are looked at -/
def whF (S : xSem) (i : Nat) (a : Nat → Int32) (f : Nat) : Nat → Nat → Int32
  | 0, _ => -5
  | c + 1, j => if 4 ≤ Clr S i (tkPs (kpS S) a j) f then nI j else whF S i a f c (j + 1)
theorem nmO_cg {i : Nat} {a b : Nat → Int32} {f : Int32} (h : ∀ k, k < 9 → a k = b k) : nmO i a f = nmO i b f := by
  funext k; unfold nmO; rw [h 0 (by omega), h 1 (by omega), h 2 (by omega), h 3 (by omega)]
theorem Clr_cg {S : xSem} {i f : Nat} {a b : Nat → Int32} (h : ∀ k, k < 9 → a k = b k) : Clr S i a f = Clr S i b f := by
  unfold Clr clrF
  rw [nmO_cg h, h 0 (by omega), h 1 (by omega), h 3 (by omega), h 4 (by omega), h (5 + f % 4) (by omega)]
theorem cpy_all {σ : xSt} {a b c : Nat} (hab : a ≠ b) : True := trivial
theorem KM.unmove {σ τ : xSt} {g G : Nat → Int32} (kt : KM (xsA (xsA σ 117 g) 116 G) τ) (hg : ∀ k, k < 115 → g k = σ.2.1 116 k) : True := trivial
