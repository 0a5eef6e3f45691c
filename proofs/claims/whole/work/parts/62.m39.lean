/-! clauses, and a whole text -/
def jKp (a : jA) (n : Int32) : jA := (a.1, n)
def jSw (a : jA) (n : Int32) (c : List (Nat × Nat)) : jA := (a.1 ++ c ++ [(21, cN n)], a.2)
def jHz (a : jA) (n : Int32) (c : List (Nat × Nat)) : jA := (a.1 ++ c ++ [(22, cN n)], a.2)
def jAy (T : Nat → Int32) (sz : Nat) : pS → List (Nat × Nat) × pS := pAy T sz jAn jOr (jFa T sz 4)
def jCl (T : Nat → Int32) (sz : Nat) : jA → pS → jA × pS := pCl T sz (jAy T sz) jKp jSw jHz
def jRd (T : Nat → Int32) (sz : Nat) : jA × pS := pAl T sz (jCl T sz) ([], 5)
theorem wdB : ∀ i, i < 3 → ∀ k, k < xlen.getD i 0 → (xbyt.getD i []).getD k 0 = xwrd (5 * i + k) := by decide
theorem wdL : ∀ i, i < 3 → xlen.getD i 0 = xwl i := by decide
theorem wdN : ∀ i, i < 3 → ∀ k, k < xlen.getD i 0 → ∃ c, c < 128 ∧ xwrd (5 * i + k) = nI c := by
  have key : ∀ i, i < 3 → ∀ k, k < xlen.getD i 0 → cN (xwrd (5 * i + k)) < 128 ∧ xwrd (5 * i + k) = nI (cN (xwrd (5 * i + k))) := by decide
  intro i hi k hk
  exact ⟨_, key i hi k hk⟩
theorem TxR.keep {σ : xSt} {T : Nat → Int32} {sz cc e : Nat} {s : pS} {a : jA} (h : TxR σ T sz cc e s a) (hc : isX cc) (v : Int32) : TxR (xsF σ cc 2 v) T sz cc e s (a.1, v) := by
  obtain ⟨h1, h2, h3, h4, h5, ⟨n, hn, h6⟩, h7⟩ := h
  have h84 := hc.2
  refine ⟨by rw [xsF_ne (Or.inl (by omega))]; exact h1, h2, by rw [xsF_ne (Or.inl (by omega))]; exact h3, by rw [xsF_ne (Or.inl (by omega))]; exact h4, h5, ⟨n, hn, by rw [xsF_ne (Or.inr (by decide))]; exact h6⟩, fun z => ?_⟩
  obtain ⟨q1, q2, q3⟩ := h7 z
  exact ⟨⟨by rw [xsF_ne (Or.inr (by decide))]; exact q1.1, q1.2.1, q1.2.2⟩, q2, xsF_get⟩

theorem lX7_wd {T : Nat → Int32} {sz cc e i : Nat} {s : pS} {a : jA} (hT : ToK T sz) (hc : isX cc) (hi : i < 3) (v2 : Int32) {d : Nat} (hd : 3 ≤ d) {Post : Option Value → xSt → Prop} : ∀ (q k : Nat) (σ : xSt), k + q = xlen.getD i 0 → TxR σ T sz cc e (iF (fun k s => pTk T sz s (xwrd (5 * i + k))) s k) a → (∀ τ, Un (xC cc) σ τ → TxR τ T sz cc e (pWd T sz i s) a → xEv kX7_clause (d + 1) 58 [some (.ref 81), some (.ref cc), some (.int v2), some (.ref (210 + i)), some (.int (nI (xlen.getD i 0)))] [] τ Post) → xEv kX7_clause (d + 1) 33 [some (.ref 81), some (.ref cc), some (.int v2), some (.ref (210 + i)), some (.int (nI k))] [] σ Post := by
  have h6 := ln6 i (by omega)
  intro q
  induction q with
  | zero =>
    intro k σ hq hR h
    obtain rfl : k = xlen.getD i 0 := by omega
    refine xe_iload dX7_clause_33 rfl ?_
    refine xe_aload_n dX7_clause_35 rfl ?_
    refine xe_callv (k2 := kJ0_length_8abf5) (vs := []) dX7_clause_36 okJ0_length_8abf5 mlX7_51 imJ0_length_8abf5 slJ0_length_8abf5 (Or.inr ⟨rfl, i, by omega, rfl⟩) rfl rfl (Nat.le_of_ble_eq_true rfl) (Nat.le_of_ble_eq_true rfl) (sJ0_length_8abf5 (i := i) (by omega) (by omega) ?_)
    refine xe_icmp_ge (tgt := 58) dX7_clause_39 (by decide) (fun h39 => ?_) (fun h39 => absurd (Int32.le_refl _) h39)
    refine h σ Un.rf ?_
    unfold pWd
    rw [← wdL i hi]
    exact hR
  | succ q ih =>
    intro k σ hq hR h
    obtain ⟨c, hcl, ec⟩ := wdN i hi k (by omega)
    refine xe_iload dX7_clause_33 rfl ?_
    refine xe_aload_n dX7_clause_35 rfl ?_
    refine xe_callv (k2 := kJ0_length_8abf5) (vs := []) dX7_clause_36 okJ0_length_8abf5 mlX7_51 imJ0_length_8abf5 slJ0_length_8abf5 (Or.inr ⟨rfl, i, by omega, rfl⟩) rfl rfl (Nat.le_of_ble_eq_true rfl) (Nat.le_of_ble_eq_true rfl) (sJ0_length_8abf5 (i := i) (by omega) (by omega) ?_)
    refine xe_icmp_ge (tgt := 58) dX7_clause_39 (by decide) (fun h39 => absurd h39 (nI_ge (by omega) (by omega))) (fun h39 => ?_)
    refine xe_aload_n dX7_clause_42 rfl ?_
    refine xe_aload_n dX7_clause_43 rfl ?_
    refine xe_iload dX7_clause_44 rfl ?_
    refine xe_callv (k2 := kJ0_charAt_5068e) (vs := [_]) dX7_clause_46 okJ0_charAt_5068e mlX7_53 imJ0_charAt_5068e slJ0_charAt_5068e (Or.inr ⟨rfl, i, by omega, rfl⟩) rfl rfl (Nat.le_of_ble_eq_true rfl) (Nat.le_of_ble_eq_true rfl) (sJ0_charAt_5068e (i := i) (by omega) k (by omega) (by omega) ?_)
    rw [wdB i hi k (by omega), ec]
    refine xe_callv (k2 := kX7_expect) (vs := [_]) dX7_clause_49 okX7_expect mlX7_57 imX7_expect slX7_expect (Or.inl ⟨7, _, _, by decide, rfl, rfl, rfl⟩) rfl rfl (Nat.le_of_ble_eq_true rfl) (Nat.le_of_ble_eq_true rfl) (sX7_expect (by omega) c hT hc hR hcl (fun τ hu hR2 => ?_))
    refine xn_inc (j := k) (lv2 := [_, _, _, _, _]) dX7_clause_52 (by decide) rfl rfl ?_
    refine xe_goto (tgt := 33) dX7_clause_55 (by decide) ?_
    rw [← ec] at hR2
    exact ih (k + 1) _ (by omega) (hR2.wk (by omega)) (fun τ2 hu2 hR3 => h τ2 (hu.tr hu2) hR3)

theorem pTk_bad {T : Nat → Int32} {sz : Nat} {s : pS} {c : Int32} (h : s.2 = false) : pTk T sz s c = (s.1, false) := pTk_f (fun z => by have := pAt_ok z; rw [h] at this; cases this)
theorem pBg_n {T : Nat → Int32} {sz : Nat} {s : pS} (h : pBg T sz s = none) : (pCn T sz 2 s).2 = (s.1, false) := by
  have h7 : ¬ pAt T sz s 107 = true := by
    intro z
    unfold pBg at h
    simp only [iF] at h
    rw [show xbeg 2 = 107 from rfl, z] at h
    cases h
  have e : pWd T sz 2 s = (s.1, false) := by
    show pTk T sz (pTk T sz (pTk T sz (pTk T sz s 107) 101) 101) 112 = _
    rw [pTk_f h7, pTk_bad rfl, pTk_bad rfl, pTk_bad rfl]
  unfold pCn
  rw [e, pTk_bad rfl, pNm_bad rfl]
/-- which word comes, by the first sign -/
theorem pBg_w {T : Nat → Int32} {sz : Nat} {s : pS} : (jNx T sz s = 115 → pBg T sz s = some 0) ∧ (jNx T sz s = 104 → pBg T sz s = some 1) ∧ (¬ jNx T sz s = 115 → ¬ jNx T sz s = 104 → pBg T sz s = none ∨ pBg T sz s = some 2) := by
  have k0 := jNx_at (T := T) (sz := sz) (s := s) 115 (by omega)
  have k1 := jNx_at (T := T) (sz := sz) (s := s) 104 (by omega)
  have e : pBg T sz s = bif pAt T sz s 107 then some 2 else bif pAt T sz s 104 then some 1 else bif pAt T sz s 115 then some 0 else none := rfl
  have x1 : ∀ c c2 : Int32, ¬ c = c2 → pAt T sz s c = true → pAt T sz s c2 = false := by
    intro c c2 hc h
    cases q : pAt T sz s c2 with
    | false => rfl
    | true =>
      unfold pAt at h q
      simp at h q
      exact absurd (h.2.2.symm.trans q.2.2) hc
  refine ⟨fun h => ?_, fun h => ?_, fun h1 h2 => ?_⟩
  · have z : pAt T sz s 115 = true := k0.mp h
    rw [e, x1 115 107 (by decide) z, x1 115 104 (by decide) z, z]; rfl
  · have z : pAt T sz s 104 = true := k1.mp h
    rw [e, x1 104 107 (by decide) z, z]; rfl
  · have z1 : pAt T sz s 115 = false := by
      cases q : pAt T sz s 115 with
      | false => rfl
      | true => exact absurd (k0.mpr q) h1
    have z2 : pAt T sz s 104 = false := by
      cases q : pAt T sz s 104 with
      | false => rfl
      | true => exact absurd (k1.mpr q) h2
    rw [e, z1, z2]
    cases pAt T sz s 107
    · exact Or.inl rfl
    · exact Or.inr rfl
theorem jCl_n {T : Nat → Int32} {sz : Nat} {s : pS} {a : jA} (h : pBg T sz s = none) : jCl T sz a s = (a, (s.1, false)) := by unfold jCl pCl; rw [h]
theorem jCl_k {T : Nat → Int32} {sz : Nat} {s : pS} {a : jA} (h : pBg T sz s = some 2) : jCl T sz a s = (jKp a (pCn T sz 2 s).1, (pCn T sz 2 s).2) := by unfold jCl pCl; rw [h]; rfl
theorem jCl_0 {T : Nat → Int32} {sz : Nat} {s : pS} {a : jA} (h : pBg T sz s = some 0) : jCl T sz a s = (jSw a (pCn T sz 0 s).1 (jAy T sz (pTk T sz (pCn T sz 0 s).2 32)).1, (jAy T sz (pTk T sz (pCn T sz 0 s).2 32)).2) := by unfold jCl pCl; rw [h]; rfl
theorem jCl_1 {T : Nat → Int32} {sz : Nat} {s : pS} {a : jA} (h : pBg T sz s = some 1) : jCl T sz a s = (jHz a (pCn T sz 1 s).1 (jAy T sz (pTk T sz (pCn T sz 1 s).2 32)).1, (jAy T sz (pTk T sz (pCn T sz 1 s).2 32)).2) := by unfold jCl pCl; rw [h]; rfl

theorem lX7_cl58k {d : Nat} {σ : xSt} {Post : Option Value → xSt → Prop} {T : Nat → Int32} {sz cc e : Nat} {s : pS} {a : jA} (hd : 19 ≤ d) (hT : ToK T sz) (hc : isX cc) (v2 : Int32) (hn5 : ¬ v2 = 115) (hn4 : ¬ v2 = 104) (hR : TxR σ T sz cc e (pWd T sz 2 s) a) (h : ∀ τ, Un (xC cc) σ τ → TxR τ T sz cc e (pCn T sz 2 s).2 (a.1, (pCn T sz 2 s).1) → Post none τ) : xEv kX7_clause (d + 1) 58 [some (.ref 81), some (.ref cc), some (.int v2), some (.ref (210 + 2)), some (.int (nI (xlen.getD 2 0)))] [] σ Post := by
  refine xe_aload_n dX7_clause_58 rfl ?_
  refine xe_bipush (v := 32) dX7_clause_59 rfl ?_
  refine xe_callv (k2 := kX7_expect) (vs := [_]) dX7_clause_61 okX7_expect mlX7_57 imX7_expect slX7_expect (Or.inl ⟨7, _, _, by decide, rfl, rfl, rfl⟩) rfl rfl (Nat.le_of_ble_eq_true rfl) (Nat.le_of_ble_eq_true rfl) (sX7_expect (by omega) 32 hT hc hR (by omega) (fun τ hu hR2 => ?_))
  refine xe_aload_n dX7_clause_64 rfl ?_
  refine xe_callv (k2 := kX7_expectNumber) (vs := []) dX7_clause_65 okX7_expectNumber mlX7_61 imX7_expectNumber slX7_expectNumber (Or.inl ⟨7, _, _, by decide, rfl, rfl, rfl⟩) rfl rfl (Nat.le_of_ble_eq_true rfl) (Nat.le_of_ble_eq_true rfl) (sX7_expectNumber (by omega) hT hc hR2 (fun τ2 hu2 hR3 => ?_))
  refine xe_istore (lv2 := [_, _, _, _, _]) dX7_clause_68 (by decide) rfl ?_
  refine xe_iload_n dX7_clause_70 rfl ?_
  refine xe_bipush (v := 115) dX7_clause_71 rfl ?_
  refine xe_icmp_eq (tgt := 89) dX7_clause_73 (by decide) (fun h73 => absurd h73 hn5) (fun h73 => ?_)
  refine xe_iload_n dX7_clause_76 rfl ?_
  refine xe_bipush (v := 104) dX7_clause_77 rfl ?_
  refine xe_icmp_eq (tgt := 89) dX7_clause_79 (by decide) (fun h79 => absurd h79 hn4) (fun h79 => ?_)
  refine xe_aload_n dX7_clause_82 rfl ?_
  refine xe_iload dX7_clause_83 rfl ?_
  refine xe_putf dX7_clause_85 flX7_64 hc.1.1.1 hc.1.1.2 rfl rfl rfl ?_
  refine xe_vret dX7_clause_88 rfl ?_
  exact h _ ((hu.tr hu2).tr (Un.F (Or.inr (Or.inl rfl)))) ((hR3.keep hc _).wk (by omega))

theorem lX7_cl58_0 {d : Nat} {σ : xSt} {Post : Option Value → xSt → Prop} {T : Nat → Int32} {sz cc e : Nat} {s : pS} {a : jA} (hd : 19 ≤ d) (hT : ToK T sz) (hc : isX cc) (v2 : Int32) (hv : v2 = 115) (hR : TxR σ T sz cc e (pWd T sz 0 s) a) (h : ∀ τ, Un (xC cc) σ τ → TxR τ T sz cc e (jAy T sz (pTk T sz (pCn T sz 0 s).2 32)).2 (jSw a (pCn T sz 0 s).1 (jAy T sz (pTk T sz (pCn T sz 0 s).2 32)).1) → Post none τ) : xEv kX7_clause (d + 1) 58 [some (.ref 81), some (.ref cc), some (.int v2), some (.ref (210 + 0)), some (.int (nI (xlen.getD 0 0)))] [] σ Post := by
  subst hv
  obtain ⟨n, hn, en⟩ := pNm_nat hT (pTk T sz (pWd T sz 0 s) (nI 32))
  refine xe_aload_n dX7_clause_58 rfl ?_
  refine xe_bipush (v := 32) dX7_clause_59 rfl ?_
  refine xe_callv (k2 := kX7_expect) (vs := [_]) dX7_clause_61 okX7_expect mlX7_57 imX7_expect slX7_expect (Or.inl ⟨7, _, _, by decide, rfl, rfl, rfl⟩) rfl rfl (Nat.le_of_ble_eq_true rfl) (Nat.le_of_ble_eq_true rfl) (sX7_expect (by omega) 32 hT hc hR (by omega) (fun τ hu hR2 => ?_))
  refine xe_aload_n dX7_clause_64 rfl ?_
  refine xe_callv (k2 := kX7_expectNumber) (vs := []) dX7_clause_65 okX7_expectNumber mlX7_61 imX7_expectNumber slX7_expectNumber (Or.inl ⟨7, _, _, by decide, rfl, rfl, rfl⟩) rfl rfl (Nat.le_of_ble_eq_true rfl) (Nat.le_of_ble_eq_true rfl) (sX7_expectNumber (by omega) hT hc hR2 (fun τ2 hu2 hR3 => ?_))
  refine xe_istore (lv2 := [_, _, _, _, _]) dX7_clause_68 (by decide) rfl ?_
  refine xe_iload_n dX7_clause_70 rfl ?_
  refine xe_bipush (v := 115) dX7_clause_71 rfl ?_
  refine xe_icmp_eq (tgt := 89) dX7_clause_73 (by decide) (fun h73 => ?_) (fun h73 => absurd (by decide) h73)
  refine xe_aload_n dX7_clause_89 rfl ?_
  refine xe_bipush (v := 32) dX7_clause_90 rfl ?_
  refine xe_callv (k2 := kX7_expect) (vs := [_]) dX7_clause_92 okX7_expect mlX7_57 imX7_expect slX7_expect (Or.inl ⟨7, _, _, by decide, rfl, rfl, rfl⟩) rfl rfl (Nat.le_of_ble_eq_true rfl) (Nat.le_of_ble_eq_true rfl) (sX7_expect (by omega) 32 hT hc hR3 (by omega) (fun τ3 hu3 hR4 => ?_))
  refine xe_aload_n dX7_clause_95 rfl ?_
  refine xe_aload_n dX7_clause_96 rfl ?_
  refine xe_iconst (v := 0) dX7_clause_97 rfl ?_
  refine xe_callv (k2 := kX7_either) (vs := [_, _]) dX7_clause_98 okX7_either mlX7_66 imX7_either slX7_either (Or.inl ⟨7, _, _, by decide, rfl, rfl, rfl⟩) rfl rfl (Nat.le_of_ble_eq_true rfl) (Nat.le_of_ble_eq_true rfl) (sX7_eitherA hT hc d _ (e + 1) _ a _ (by omega) (hR4.wk (by omega)) (fun τ4 hu4 hR5 => ?_))
  refine xe_aload_n dX7_clause_101 rfl ?_
  refine xe_iload_n dX7_clause_102 rfl ?_
  refine xe_bipush (v := 115) dX7_clause_103 rfl ?_
  refine xe_icmp_ne (tgt := 113) dX7_clause_105 (by decide) (fun h105 => absurd rfl h105) (fun h105 => ?_)
  refine xe_bipush (v := 21) dX7_clause_108 rfl ?_
  refine xe_goto (tgt := 115) dX7_clause_110 (by decide) ?_
  refine xe_iload dX7_clause_115 rfl ?_
  rw [en]
  refine xe_callv (k2 := kX1_append) (vs := [_, _]) dX7_clause_117 okX1_append mlX7_70 imX1_append slX1_append (Or.inl ⟨1, _, _, hc.1.1.1, hc.1.1.2, rfl, rfl⟩) rfl rfl (Nat.le_of_ble_eq_true rfl) (Nat.le_of_ble_eq_true rfl) (sX1_append (by omega) 21 n hT hc (by omega) hn hR5 (fun τ5 hu5 hR6 => ?_))
  refine xe_vret dX7_clause_120 rfl ?_
  refine h _ ((((hu.tr hu2).tr hu3).tr hu4).tr hu5) (hR6.cg rfl ?_)
  show (a.1 ++ _ ++ [(21, n)], a.2) = (a.1 ++ _ ++ [(21, cN (pNm T sz (pTk T sz (pWd T sz 0 s) (nI 32))).1)], a.2)
  rw [en, cN_nI (by omega)]
  rfl

theorem lX7_cl58_1 {d : Nat} {σ : xSt} {Post : Option Value → xSt → Prop} {T : Nat → Int32} {sz cc e : Nat} {s : pS} {a : jA} (hd : 19 ≤ d) (hT : ToK T sz) (hc : isX cc) (v2 : Int32) (hv : v2 = 104) (hR : TxR σ T sz cc e (pWd T sz 1 s) a) (h : ∀ τ, Un (xC cc) σ τ → TxR τ T sz cc e (jAy T sz (pTk T sz (pCn T sz 1 s).2 32)).2 (jHz a (pCn T sz 1 s).1 (jAy T sz (pTk T sz (pCn T sz 1 s).2 32)).1) → Post none τ) : xEv kX7_clause (d + 1) 58 [some (.ref 81), some (.ref cc), some (.int v2), some (.ref (210 + 1)), some (.int (nI (xlen.getD 1 0)))] [] σ Post := by
  subst hv
  obtain ⟨n, hn, en⟩ := pNm_nat hT (pTk T sz (pWd T sz 1 s) (nI 32))
  refine xe_aload_n dX7_clause_58 rfl ?_
  refine xe_bipush (v := 32) dX7_clause_59 rfl ?_
  refine xe_callv (k2 := kX7_expect) (vs := [_]) dX7_clause_61 okX7_expect mlX7_57 imX7_expect slX7_expect (Or.inl ⟨7, _, _, by decide, rfl, rfl, rfl⟩) rfl rfl (Nat.le_of_ble_eq_true rfl) (Nat.le_of_ble_eq_true rfl) (sX7_expect (by omega) 32 hT hc hR (by omega) (fun τ hu hR2 => ?_))
  refine xe_aload_n dX7_clause_64 rfl ?_
  refine xe_callv (k2 := kX7_expectNumber) (vs := []) dX7_clause_65 okX7_expectNumber mlX7_61 imX7_expectNumber slX7_expectNumber (Or.inl ⟨7, _, _, by decide, rfl, rfl, rfl⟩) rfl rfl (Nat.le_of_ble_eq_true rfl) (Nat.le_of_ble_eq_true rfl) (sX7_expectNumber (by omega) hT hc hR2 (fun τ2 hu2 hR3 => ?_))
  refine xe_istore (lv2 := [_, _, _, _, _]) dX7_clause_68 (by decide) rfl ?_
  refine xe_iload_n dX7_clause_70 rfl ?_
  refine xe_bipush (v := 115) dX7_clause_71 rfl ?_
  refine xe_icmp_eq (tgt := 89) dX7_clause_73 (by decide) (fun h73 => absurd h73 (by decide)) (fun h73 => ?_)
  refine xe_iload_n dX7_clause_76 rfl ?_
  refine xe_bipush (v := 104) dX7_clause_77 rfl ?_
  refine xe_icmp_eq (tgt := 89) dX7_clause_79 (by decide) (fun h79 => ?_) (fun h79 => absurd (by decide) h79)
  refine xe_aload_n dX7_clause_89 rfl ?_
  refine xe_bipush (v := 32) dX7_clause_90 rfl ?_
  refine xe_callv (k2 := kX7_expect) (vs := [_]) dX7_clause_92 okX7_expect mlX7_57 imX7_expect slX7_expect (Or.inl ⟨7, _, _, by decide, rfl, rfl, rfl⟩) rfl rfl (Nat.le_of_ble_eq_true rfl) (Nat.le_of_ble_eq_true rfl) (sX7_expect (by omega) 32 hT hc hR3 (by omega) (fun τ3 hu3 hR4 => ?_))
  refine xe_aload_n dX7_clause_95 rfl ?_
  refine xe_aload_n dX7_clause_96 rfl ?_
  refine xe_iconst (v := 0) dX7_clause_97 rfl ?_
  refine xe_callv (k2 := kX7_either) (vs := [_, _]) dX7_clause_98 okX7_either mlX7_66 imX7_either slX7_either (Or.inl ⟨7, _, _, by decide, rfl, rfl, rfl⟩) rfl rfl (Nat.le_of_ble_eq_true rfl) (Nat.le_of_ble_eq_true rfl) (sX7_eitherA hT hc d _ (e + 1) _ a _ (by omega) (hR4.wk (by omega)) (fun τ4 hu4 hR5 => ?_))
  refine xe_aload_n dX7_clause_101 rfl ?_
  refine xe_iload_n dX7_clause_102 rfl ?_
  refine xe_bipush (v := 115) dX7_clause_103 rfl ?_
  refine xe_icmp_ne (tgt := 113) dX7_clause_105 (by decide) (fun h105 => ?_) (fun h105 => absurd h105 (by decide))
  refine xe_bipush (v := 22) dX7_clause_113 rfl ?_
  refine xe_iload dX7_clause_115 rfl ?_
  rw [en]
  refine xe_callv (k2 := kX1_append) (vs := [_, _]) dX7_clause_117 okX1_append mlX7_70 imX1_append slX1_append (Or.inl ⟨1, _, _, hc.1.1.1, hc.1.1.2, rfl, rfl⟩) rfl rfl (Nat.le_of_ble_eq_true rfl) (Nat.le_of_ble_eq_true rfl) (sX1_append (by omega) 22 n hT hc (by omega) hn hR5 (fun τ5 hu5 hR6 => ?_))
  refine xe_vret dX7_clause_120 rfl ?_
  refine h _ ((((hu.tr hu2).tr hu3).tr hu4).tr hu5) (hR6.cg rfl ?_)
  show (a.1 ++ _ ++ [(22, n)], a.2) = (a.1 ++ _ ++ [(22, cN (pNm T sz (pTk T sz (pWd T sz 1 s) (nI 32))).1)], a.2)
  rw [en, cN_nI (by omega)]
  rfl

theorem sX7_clause {d : Nat} (hd : 20 ≤ d) {σ : xSt} {Post : Option Value → xSt → Prop} {T : Nat → Int32} {sz cc e : Nat} {s : pS} {a : jA} (hT : ToK T sz) (hc : isX cc) (hR : TxR σ T sz cc e s a) (h : ∀ τ, Un (xC cc) σ τ → TxR τ T sz cc e (jCl T sz a s).2 (jCl T sz a s).1 → Post none τ) : xM kX7_clause d [.ref 81, .ref cc] σ Post := by
  obtain ⟨d, rfl⟩ : ∃ e, d = e + 1 := ⟨d - 1, by omega⟩
  refine xM_start (lv := [some (.ref 81), some (.ref cc), none, none, none]) rfl ?_
  refine xe_aload_n dX7_clause_0 rfl ?_
  refine xe_callv (k2 := kX7_next) (vs := []) dX7_clause_1 okX7_next mlX7_35 imX7_next slX7_next (Or.inl ⟨7, _, _, by decide, rfl, rfl, rfl⟩) rfl rfl (Nat.le_of_ble_eq_true rfl) (Nat.le_of_ble_eq_true rfl) (sX7_next (by omega) hT hc hR ?_)
  refine xe_istore_n (lv2 := [_, _, _, _, _]) dX7_clause_4 (by decide) rfl ?_
  refine xe_iload_n dX7_clause_5 rfl ?_
  refine xe_bipush (v := 115) dX7_clause_6 rfl ?_
  refine xe_icmp_ne (tgt := 16) dX7_clause_8 (by decide) (fun h8 => ?_) (fun h8 => ?_)
  · refine xe_iload_n dX7_clause_16 rfl ?_
    refine xe_bipush (v := 104) dX7_clause_17 rfl ?_
    refine xe_icmp_ne (tgt := 27) dX7_clause_19 (by decide) (fun h19 => ?_) (fun h19 => ?_)
    · refine xe_text2 rfl dX7_clause_27 ?_
      refine xe_astore_n (lv2 := [_, _, _, _, _]) dX7_clause_29 (by decide) rfl ?_
      refine xe_iconst (v := 0) dX7_clause_30 rfl ?_
      refine xe_istore (lv2 := [_, _, _, _, _]) dX7_clause_31 (by decide) rfl ?_
      first
      | exact lX7_wd (d := d) (i := 0) (s := s) hT hc (by omega) _ (by omega) (xlen.getD 0 0) 0 _ (Nat.zero_add _) hR (fun τ hu hR1 => lX7_cl58_0 (by omega) hT hc _ h8 hR1 (fun τ2 hu2 hR2 => h τ2 (hu.tr hu2) (by rw [jCl_0 (pBg_w.1 h8)]; exact hR2)))
      | exact lX7_wd (d := d) (i := 1) (s := s) hT hc (by omega) _ (by omega) (xlen.getD 1 0) 0 _ (Nat.zero_add _) hR (fun τ hu hR1 => lX7_cl58_1 (by omega) hT hc _ h19 hR1 (fun τ2 hu2 hR2 => h τ2 (hu.tr hu2) (by rw [jCl_1 (pBg_w.2.1 h19)]; exact hR2)))
      | (refine lX7_wd (d := d) (i := 2) (s := s) hT hc (by omega) _ (by omega) (xlen.getD 2 0) 0 _ (Nat.zero_add _) hR (fun τ hu hR1 => lX7_cl58k (by omega) hT hc _ h8 h19 hR1 (fun τ2 hu2 hR2 => h τ2 (hu.tr hu2) ?_))
         rcases pBg_w.2.2 h8 h19 with q | q
         · rw [pBg_n q] at hR2; rw [jCl_n q]; exact hR2.bad rfl
         · rw [jCl_k q]; exact hR2)
    · refine xe_text1 rfl dX7_clause_22 ?_
      refine xe_goto (tgt := 29) dX7_clause_24 (by decide) ?_
      refine xe_astore_n (lv2 := [_, _, _, _, _]) dX7_clause_29 (by decide) rfl ?_
      refine xe_iconst (v := 0) dX7_clause_30 rfl ?_
      refine xe_istore (lv2 := [_, _, _, _, _]) dX7_clause_31 (by decide) rfl ?_
      first
      | exact lX7_wd (d := d) (i := 0) (s := s) hT hc (by omega) _ (by omega) (xlen.getD 0 0) 0 _ (Nat.zero_add _) hR (fun τ hu hR1 => lX7_cl58_0 (by omega) hT hc _ h8 hR1 (fun τ2 hu2 hR2 => h τ2 (hu.tr hu2) (by rw [jCl_0 (pBg_w.1 h8)]; exact hR2)))
      | exact lX7_wd (d := d) (i := 1) (s := s) hT hc (by omega) _ (by omega) (xlen.getD 1 0) 0 _ (Nat.zero_add _) hR (fun τ hu hR1 => lX7_cl58_1 (by omega) hT hc _ h19 hR1 (fun τ2 hu2 hR2 => h τ2 (hu.tr hu2) (by rw [jCl_1 (pBg_w.2.1 h19)]; exact hR2)))
      | (refine lX7_wd (d := d) (i := 2) (s := s) hT hc (by omega) _ (by omega) (xlen.getD 2 0) 0 _ (Nat.zero_add _) hR (fun τ hu hR1 => lX7_cl58k (by omega) hT hc _ h8 h19 hR1 (fun τ2 hu2 hR2 => h τ2 (hu.tr hu2) ?_))
         rcases pBg_w.2.2 h8 h19 with q | q
         · rw [pBg_n q] at hR2; rw [jCl_n q]; exact hR2.bad rfl
         · rw [jCl_k q]; exact hR2)
  · refine xe_text0 rfl dX7_clause_11 ?_
    refine xe_goto (tgt := 29) dX7_clause_13 (by decide) ?_
    refine xe_astore_n (lv2 := [_, _, _, _, _]) dX7_clause_29 (by decide) rfl ?_
    refine xe_iconst (v := 0) dX7_clause_30 rfl ?_
    refine xe_istore (lv2 := [_, _, _, _, _]) dX7_clause_31 (by decide) rfl ?_
    first
    | exact lX7_wd (d := d) (i := 0) (s := s) hT hc (by omega) _ (by omega) (xlen.getD 0 0) 0 _ (Nat.zero_add _) hR (fun τ hu hR1 => lX7_cl58_0 (by omega) hT hc _ h8 hR1 (fun τ2 hu2 hR2 => h τ2 (hu.tr hu2) (by rw [jCl_0 (pBg_w.1 h8)]; exact hR2)))
    | exact lX7_wd (d := d) (i := 1) (s := s) hT hc (by omega) _ (by omega) (xlen.getD 1 0) 0 _ (Nat.zero_add _) hR (fun τ hu hR1 => lX7_cl58_1 (by omega) hT hc _ h19 hR1 (fun τ2 hu2 hR2 => h τ2 (hu.tr hu2) (by rw [jCl_1 (pBg_w.2.1 h19)]; exact hR2)))
    | (refine lX7_wd (d := d) (i := 2) (s := s) hT hc (by omega) _ (by omega) (xlen.getD 2 0) 0 _ (Nat.zero_add _) hR (fun τ hu hR1 => lX7_cl58k (by omega) hT hc _ h8 h19 hR1 (fun τ2 hu2 hR2 => h τ2 (hu.tr hu2) ?_))
       rcases pBg_w.2.2 h8 h19 with q | q
       · rw [pBg_n q] at hR2; rw [jCl_n q]; exact hR2.bad rfl
       · rw [jCl_k q]; exact hR2)

theorem sX1_startAnew {d : Nat} (hd : 0 ≤ d) {σ : xSt} {Post : Option Value → xSt → Prop} {cc : Nat} (hc : isX cc) (h : Post none (xsF (xsF σ cc 1 0) cc 2 5)) : xM kX1_startAnew d [.ref cc] σ Post := by
  refine xM_start (lv := [some (.ref cc)]) rfl ?_
  refine xe_aload_n dX1_startAnew_0 rfl ?_
  refine xe_iconst (v := 0) dX1_startAnew_1 rfl ?_
  refine xe_putf dX1_startAnew_2 flX1_15 hc.1.1.1 hc.1.1.2 rfl rfl rfl ?_
  refine xe_aload_n dX1_startAnew_5 rfl ?_
  refine xe_iconst (v := 5) dX1_startAnew_6 rfl ?_
  refine xe_putf dX1_startAnew_7 flX1_19 hc.1.1.1 hc.1.1.2 rfl rfl rfl ?_
  refine xe_vret dX1_startAnew_10 rfl ?_
  exact h

theorem pCs_t {β : Type} {T : Nat → Int32} {sz : Nat} {cl : β → pS → β × pS} {n : Nat} {x : β} {s : pS} (hp : pAt T sz s 59 = true) : pCs T sz cl (n + 1) (x, s) = pCs T sz cl n (cl x (s.1 + 1, s.2)) := by rw [pCs]; simp only [hp, cond_true]
theorem pCs_f {β : Type} {T : Nat → Int32} {sz : Nat} {cl : β → pS → β × pS} {n : Nat} {x : β} {s : pS} (hp : ¬ pAt T sz s 59 = true) : pCs T sz cl (n + 1) (x, s) = (x, s) := by rw [pCs]; simp only [show pAt T sz s 59 = false by simpa using hp, cond_false]
/-- how a reading ends -/
def rdV (sz : Nat) (s : pS) : Int32 := bif pOk2 sz s then -1 else nI s.1

theorem lX7_rd57 {d : Nat} {σ : xSt} {Post : Option Value → xSt → Prop} {T : Nat → Int32} {sz cc : Nat} {s : pS} {a : jA} (hT : ToK T sz) (hc : isX cc) (hR : TxR σ T sz cc 0 s a) (v2 : Int32) (h : ∀ τ, Un (xC cc) σ τ → τ.1 81 1 = 0 → (pOk2 sz (a, s).2 = true → RepC τ cc (a, s).1.1 ∧ τ.1 cc 2 = (a, s).1.2) → Post (some (.int (rdV sz (a, s).2))) τ) : xEv kX7_readInto d 57 [some (.ref 81), some (.ref cc), some (.int v2)] [] σ Post := by
  have h84 := hc.2
  have hsz := hT.1
  have hle := hR.2.2.2.2.1
  have hu : Un (fun b => b = 81) σ (xsF σ 81 1 0) := Un.F rfl
  refine xe_aload_n dX7_readInto_57 rfl ?_
  refine xe_getf dX7_readInto_58 flX7_22 (by decide) rfl rfl ?_
  refine xe_if_ne (tgt := 79) dX7_readInto_61 (by decide) (fun h61 => ?_) (fun h61 => ?_)
  · have hf : pOk2 sz s = false := by
      unfold pOk2
      first
      | (have z := h61; rw [hR.2.2.2.1] at z; cases q : s.2 <;> rw [q] at z <;> first | rfl | exact absurd rfl z)
      | (rw [show decide (s.1 = sz) = false from decide_eq_false (fun z => h72 (by rw [z]))]; cases s.2 <;> rfl)
    refine xe_iconst (v := 0) dX7_readInto_79 rfl ?_
    refine xe_istore_n (lv2 := [_, _, _]) dX7_readInto_80 (by decide) rfl ?_
    refine xe_aload_n dX7_readInto_81 rfl ?_
    refine xe_iconst (v := 0) dX7_readInto_82 rfl ?_
    refine xe_putf dX7_readInto_83 flX7_15 (by decide) rfl rfl rfl rfl ?_
    refine xe_iload_n dX7_readInto_86 rfl ?_
    refine xe_if_eq (tgt := 94) dX7_readInto_87 (by decide) (fun h87 => ?_) (fun h87 => ?_)
    · first
      | exact absurd h87 (by decide)
      | skip
        refine xe_aload_n dX7_readInto_94 rfl ?_
        refine xe_getf dX7_readInto_95 flX7_19 (by decide) rfl rfl ?_
        refine xe_iret dX7_readInto_98 rfl rfl ?_
        first
        | (have K := h _ (Un.F (Or.inl rfl)) xsF_get (fun z => ⟨((hR.2.2.2.2.2.2 hok).1).un hu (by omega) (by omega), by rw [xsF_ne (Or.inl (by omega))]; exact (hR.2.2.2.2.2.2 hok).2.2⟩); rw [rdV, hf] at K; exact K)
        | (have K := h _ (Un.F (Or.inl rfl)) xsF_get (fun z => by rw [hf] at z; cases z); rw [rdV, hf] at K; rw [xsF_ne (Or.inr (by decide)), hR.2.2.1]; exact K)
    · first
      | exact absurd h87 (by decide)
      | skip
        refine xe_iconst (v := -1) dX7_readInto_90 rfl ?_
        refine xe_goto (tgt := 98) dX7_readInto_91 (by decide) ?_
        refine xe_iret dX7_readInto_98 rfl rfl ?_
        first
        | (have K := h _ (Un.F (Or.inl rfl)) xsF_get (fun z => ⟨((hR.2.2.2.2.2.2 hok).1).un hu (by omega) (by omega), by rw [xsF_ne (Or.inl (by omega))]; exact (hR.2.2.2.2.2.2 hok).2.2⟩); rw [rdV, hf] at K; exact K)
        | (have K := h _ (Un.F (Or.inl rfl)) xsF_get (fun z => by rw [hf] at z; cases z); rw [rdV, hf] at K; rw [xsF_ne (Or.inr (by decide)), hR.2.2.1]; exact K)
  · have hok : s.2 = true := by have z := h61; rw [hR.2.2.2.1] at z; cases q : s.2 <;> rw [q] at z <;> first | rfl | exact absurd z (by decide)
    refine xe_aload_n dX7_readInto_64 rfl ?_
    refine xe_getf dX7_readInto_65 flX7_19 (by decide) rfl rfl ?_
    refine xe_aload_n dX7_readInto_68 rfl ?_
    refine xe_getf dX7_readInto_69 flX7_15 (by decide) rfl rfl ?_
    rw [hR.2.2.1, hR.1]
    refine xe_icmp_ne (tgt := 79) dX7_readInto_72 (by decide) (fun h72 => ?_) (fun h72 => ?_)
    · have hf : pOk2 sz s = false := by
        unfold pOk2
        first
        | (have z := h61; rw [hR.2.2.2.1] at z; cases q : s.2 <;> rw [q] at z <;> first | rfl | exact absurd rfl z)
        | (rw [show decide (s.1 = sz) = false from decide_eq_false (fun z => h72 (by rw [z]))]; cases s.2 <;> rfl)
      refine xe_iconst (v := 0) dX7_readInto_79 rfl ?_
      refine xe_istore_n (lv2 := [_, _, _]) dX7_readInto_80 (by decide) rfl ?_
      refine xe_aload_n dX7_readInto_81 rfl ?_
      refine xe_iconst (v := 0) dX7_readInto_82 rfl ?_
      refine xe_putf dX7_readInto_83 flX7_15 (by decide) rfl rfl rfl rfl ?_
      refine xe_iload_n dX7_readInto_86 rfl ?_
      refine xe_if_eq (tgt := 94) dX7_readInto_87 (by decide) (fun h87 => ?_) (fun h87 => ?_)
      · first
        | exact absurd h87 (by decide)
        | skip
          refine xe_aload_n dX7_readInto_94 rfl ?_
          refine xe_getf dX7_readInto_95 flX7_19 (by decide) rfl rfl ?_
          refine xe_iret dX7_readInto_98 rfl rfl ?_
          first
          | (have K := h _ (Un.F (Or.inl rfl)) xsF_get (fun z => ⟨((hR.2.2.2.2.2.2 hok).1).un hu (by omega) (by omega), by rw [xsF_ne (Or.inl (by omega))]; exact (hR.2.2.2.2.2.2 hok).2.2⟩); rw [rdV, hf] at K; exact K)
          | (have K := h _ (Un.F (Or.inl rfl)) xsF_get (fun z => by rw [hf] at z; cases z); rw [rdV, hf] at K; rw [xsF_ne (Or.inr (by decide)), hR.2.2.1]; exact K)
      · first
        | exact absurd h87 (by decide)
        | skip
          refine xe_iconst (v := -1) dX7_readInto_90 rfl ?_
          refine xe_goto (tgt := 98) dX7_readInto_91 (by decide) ?_
          refine xe_iret dX7_readInto_98 rfl rfl ?_
          first
          | (have K := h _ (Un.F (Or.inl rfl)) xsF_get (fun z => ⟨((hR.2.2.2.2.2.2 hok).1).un hu (by omega) (by omega), by rw [xsF_ne (Or.inl (by omega))]; exact (hR.2.2.2.2.2.2 hok).2.2⟩); rw [rdV, hf] at K; exact K)
          | (have K := h _ (Un.F (Or.inl rfl)) xsF_get (fun z => by rw [hf] at z; cases z); rw [rdV, hf] at K; rw [xsF_ne (Or.inr (by decide)), hR.2.2.1]; exact K)
    · have hf : pOk2 sz s = true := by unfold pOk2; rw [hok, nEq (by omega) (by omega) h72]; simp
      refine xe_iconst (v := 1) dX7_readInto_75 rfl ?_
      refine xe_goto (tgt := 80) dX7_readInto_76 (by decide) ?_
      refine xe_istore_n (lv2 := [_, _, _]) dX7_readInto_80 (by decide) rfl ?_
      refine xe_aload_n dX7_readInto_81 rfl ?_
      refine xe_iconst (v := 0) dX7_readInto_82 rfl ?_
      refine xe_putf dX7_readInto_83 flX7_15 (by decide) rfl rfl rfl rfl ?_
      refine xe_iload_n dX7_readInto_86 rfl ?_
      refine xe_if_eq (tgt := 94) dX7_readInto_87 (by decide) (fun h87 => ?_) (fun h87 => ?_)
      · first
        | exact absurd h87 (by decide)
        | skip
          refine xe_aload_n dX7_readInto_94 rfl ?_
          refine xe_getf dX7_readInto_95 flX7_19 (by decide) rfl rfl ?_
          refine xe_iret dX7_readInto_98 rfl rfl ?_
          first
          | (have K := h _ (Un.F (Or.inl rfl)) xsF_get (fun z => ⟨((hR.2.2.2.2.2.2 hok).1).un hu (by omega) (by omega), by rw [xsF_ne (Or.inl (by omega))]; exact (hR.2.2.2.2.2.2 hok).2.2⟩); rw [rdV, hf] at K; exact K)
          | (have K := h _ (Un.F (Or.inl rfl)) xsF_get (fun z => by rw [hf] at z; cases z); rw [rdV, hf] at K; rw [xsF_ne (Or.inr (by decide)), hR.2.2.1]; exact K)
      · first
        | exact absurd h87 (by decide)
        | skip
          refine xe_iconst (v := -1) dX7_readInto_90 rfl ?_
          refine xe_goto (tgt := 98) dX7_readInto_91 (by decide) ?_
          refine xe_iret dX7_readInto_98 rfl rfl ?_
          first
          | (have K := h _ (Un.F (Or.inl rfl)) xsF_get (fun z => ⟨((hR.2.2.2.2.2.2 hok).1).un hu (by omega) (by omega), by rw [xsF_ne (Or.inl (by omega))]; exact (hR.2.2.2.2.2.2 hok).2.2⟩); rw [rdV, hf] at K; exact K)
          | (have K := h _ (Un.F (Or.inl rfl)) xsF_get (fun z => by rw [hf] at z; cases z); rw [rdV, hf] at K; rw [xsF_ne (Or.inr (by decide)), hR.2.2.1]; exact K)

theorem lX7_rd21 {T : Nat → Int32} {sz cc : Nat} (hT : ToK T sz) (hc : isX cc) {d : Nat} (hd : 20 ≤ d) {Post : Option Value → xSt → Prop} : ∀ (q j : Nat) (σ : xSt) (a : jA) (s : pS), j + q = 10 → TxR σ T sz cc 0 s a → (∀ τ, Un (xC cc) σ τ → τ.1 81 1 = 0 → (pOk2 sz (pCs T sz (jCl T sz) q (a, s)).2 = true → RepC τ cc (pCs T sz (jCl T sz) q (a, s)).1.1 ∧ τ.1 cc 2 = (pCs T sz (jCl T sz) q (a, s)).1.2) → Post (some (.int (rdV sz (pCs T sz (jCl T sz) q (a, s)).2))) τ) → xEv kX7_readInto (d + 1) 21 [some (.ref 81), some (.ref cc), some (.int (nI j))] [] σ Post := by
  intro q
  induction q with
  | zero =>
    intro j σ a s hq hR h
    refine xe_iload_n dX7_readInto_21 rfl ?_
    refine xe_bipush (v := 10) dX7_readInto_22 rfl ?_
    refine xe_icmp_ge (tgt := 57) dX7_readInto_24 (by decide) (fun h24 => ?_) (fun h24 => absurd (show nI 10 ≤ nI j from nI_le (by omega) (by omega)) h24)
    exact lX7_rd57 (d := d + 1) hT hc hR _ h
  | succ q ih =>
    intro j σ a s hq hR h
    refine xe_iload_n dX7_readInto_21 rfl ?_
    refine xe_bipush (v := 10) dX7_readInto_22 rfl ?_
    refine xe_icmp_ge (tgt := 57) dX7_readInto_24 (by decide) (fun h24 => absurd h24 (show ¬ nI 10 ≤ nI j from nI_ge (by omega) (by omega))) (fun h24 => ?_)
    refine xe_aload_n dX7_readInto_27 rfl ?_
    refine xe_callv (k2 := kX7_next) (vs := []) dX7_readInto_28 okX7_next mlX7_35 imX7_next slX7_next (Or.inl ⟨7, _, _, by decide, rfl, rfl, rfl⟩) rfl rfl (Nat.le_of_ble_eq_true rfl) (Nat.le_of_ble_eq_true rfl) (sX7_next (by omega) hT hc hR ?_)
    refine xe_bipush (v := 59) dX7_readInto_31 rfl ?_
    refine xe_icmp_ne (tgt := 57) dX7_readInto_33 (by decide) (fun h33 => ?_) (fun h33 => ?_)
    · rw [pCs_f (fun z => h33 ((jNx_at 59 (by omega)).mpr z))] at h
      exact lX7_rd57 (d := d + 1) hT hc hR _ h
    · have hp : pAt T sz s 59 = true := (jNx_at 59 (by omega)).mp h33
      rw [pCs_t hp] at h
      refine xe_aload_n dX7_readInto_36 rfl ?_
      refine xe_dup dX7_readInto_37 rfl ?_
      refine xe_getf dX7_readInto_38 flX7_19 (by decide) rfl rfl ?_
      rw [hR.2.2.1]
      refine xe_iconst (v := 1) dX7_readInto_41 rfl ?_
      refine xe_iadd dX7_readInto_42 ?_
      refine xe_putf dX7_readInto_43 flX7_19 (by decide) rfl rfl rfl rfl ?_
      rw [nI_1]
      have hR2 := hR.at hc (pAt_lt hp)
      refine xe_aload_n dX7_readInto_46 rfl ?_
      refine xe_aload_n dX7_readInto_47 rfl ?_
      refine xe_callv (k2 := kX7_clause) (vs := [_]) dX7_readInto_48 okX7_clause mlX7_31 imX7_clause slX7_clause (Or.inl ⟨7, _, _, by decide, rfl, rfl, rfl⟩) rfl rfl (Nat.le_of_ble_eq_true rfl) (Nat.le_of_ble_eq_true rfl) (sX7_clause (by omega) hT hc (hR2.wk (Nat.zero_le _)) (fun τ hu hR3 => ?_))
      refine xn_inc (j := j) (lv2 := [_, _, _]) dX7_readInto_51 (by decide) rfl rfl ?_
      refine xe_goto (tgt := 21) dX7_readInto_54 (by decide) ?_
      exact ih (j + 1) _ _ _ (by omega) hR3 (fun τ2 hu2 z1 z2 => h τ2 (((Un.F (P := xC cc) (Or.inl rfl)).tr hu).tr hu2) z1 z2)

theorem sX7_readInto {d : Nat} (hd : 21 ≤ d) {σ : xSt} {Post : Option Value → xSt → Prop} {T : Nat → Int32} {sz cc : Nat} (hT : ToK T sz) (hc : isX cc) (hz : σ.1 81 1 = nI sz) (hTx : ∀ k, k < sz → σ.2.1 82 k = T k) (h : ∀ τ, Un (xC cc) σ τ → τ.1 81 1 = 0 → (pOk2 sz (jRd T sz).2 = true → RepC τ cc (jRd T sz).1.1 ∧ τ.1 cc 2 = (jRd T sz).1.2) → Post (some (.int (rdV sz (jRd T sz).2))) τ) : xM kX7_readInto d [.ref 81, .ref cc] σ Post := by
  obtain ⟨d, rfl⟩ : ∃ e, d = e + 1 := ⟨d - 1, by omega⟩
  refine xM_start (lv := [some (.ref 81), some (.ref cc), none]) rfl ?_
  have h84 := hc.2
  have hU : Un (xC cc) σ (xsF (xsF (xsF (xsF σ cc 1 0) cc 2 5) 81 2 0) 81 3 0) := (((Un.F (P := xC cc) (Or.inr (Or.inl rfl))).tr (Un.F (Or.inr (Or.inl rfl)))).tr (Un.F (Or.inl rfl))).tr (Un.F (Or.inl rfl))
  have hR : TxR (xsF (xsF (xsF (xsF σ cc 1 0) cc 2 5) 81 2 0) 81 3 0) T sz cc 0 (0, true) ([], 5) := by
    have n1 : (81 : Nat) ≠ cc := by omega
    have n2 : cc ≠ 81 := by omega
    refine ⟨?_, hTx, ?_, xsF_get, Nat.zero_le _, ⟨0, by omega, ?_⟩, fun _ => ⟨⟨?_, by simp, fun j q n z => by simp at z⟩, by simp, ?_⟩⟩
    · rw [xsF_ne (Or.inr (by decide)), xsF_ne (Or.inr (by decide)), xsF_ne (Or.inl n1), xsF_ne (Or.inl n1)]; exact hz
    · rw [xsF_ne (Or.inr (by decide)), xsF_get]; rfl
    · rw [xsF_ne (Or.inl n2), xsF_ne (Or.inl n2), xsF_ne (Or.inr (by decide)), xsF_get]; rfl
    · rw [xsF_ne (Or.inl n2), xsF_ne (Or.inl n2), xsF_ne (Or.inr (by decide)), xsF_get]; rfl
    · rw [xsF_ne (Or.inl n2), xsF_ne (Or.inl n2), xsF_get]
  refine xe_aload_n dX7_readInto_0 rfl ?_
  refine xe_callv (k2 := kX1_startAnew) (vs := []) dX7_readInto_1 okX1_startAnew mlX7_26 imX1_startAnew slX1_startAnew (Or.inl ⟨1, _, _, hc.1.1.1, hc.1.1.2, rfl, rfl⟩) rfl rfl (Nat.le_of_ble_eq_true rfl) (Nat.le_of_ble_eq_true rfl) (sX1_startAnew (by omega) hc ?_)
  refine xe_aload_n dX7_readInto_4 rfl ?_
  refine xe_iconst (v := 0) dX7_readInto_5 rfl ?_
  refine xe_putf dX7_readInto_6 flX7_19 (by decide) rfl rfl rfl rfl ?_
  refine xe_aload_n dX7_readInto_9 rfl ?_
  refine xe_iconst (v := 0) dX7_readInto_10 rfl ?_
  refine xe_putf dX7_readInto_11 flX7_22 (by decide) rfl rfl (by first | rfl | decide | assumption | exact bI_nar _ | exact xb_narrow rfl | exact xb_narrow (by assumption)) rfl ?_
  refine xe_aload_n dX7_readInto_14 rfl ?_
  refine xe_aload_n dX7_readInto_15 rfl ?_
  refine xe_callv (k2 := kX7_clause) (vs := [_]) dX7_readInto_16 okX7_clause mlX7_31 imX7_clause slX7_clause (Or.inl ⟨7, _, _, by decide, rfl, rfl, rfl⟩) rfl rfl (Nat.le_of_ble_eq_true rfl) (Nat.le_of_ble_eq_true rfl) (sX7_clause (by omega) hT hc hR (fun τ hu hR1 => ?_))
  refine xe_iconst (v := 1) dX7_readInto_19 rfl ?_
  refine xe_istore_n (lv2 := [_, _, _]) dX7_readInto_20 (by decide) rfl ?_
  exact lX7_rd21 (d := d) hT hc (by omega) 9 1 _ _ _ (by omega) hR1 (fun τ2 hu2 z1 z2 => h τ2 ((hU.tr hu).tr hu2) z1 z2)
