/-! THE TEXT and how a cellar is read from it into steps -/
abbrev xC (cc b : Nat) : Prop := b = 81 ∨ b = cc ∨ b = cc + 1
def isX (cc : Nat) : Prop := isC cc ∧ 84 ≤ cc
/-- steps so far, and keep -/
abbrev jA : Type := List (Nat × Nat) × Int32
def TxR (σ : xSt) (T : Nat → Int32) (sz cc e : Nat) (s : pS) (a : jA) : Prop := σ.1 81 1 = nI sz ∧ (∀ k, k < sz → σ.2.1 82 k = T k) ∧ σ.1 81 2 = nI s.1 ∧ σ.1 81 3 = bI (!s.2) ∧ s.1 ≤ sz ∧ (∃ n, n ≤ 100 ∧ σ.1 cc 1 = nI n) ∧ (s.2 = true → RepC σ cc a.1 ∧ a.1.length + e ≤ s.1 ∧ σ.1 cc 2 = a.2)
def ToK (T : Nat → Int32) (sz : Nat) : Prop := sz ≤ 100 ∧ ∀ k, k < sz → ∃ t, t < 128 ∧ T k = nI t
section TXR
variable {σ : xSt} {T : Nat → Int32} {sz cc e : Nat} {s : pS} {a : jA}
theorem TxR.at (h : TxR σ T sz cc e s a) (hc : isX cc) (hs : s.1 < sz) : TxR (xsF σ 81 2 (nI (s.1 + 1))) T sz cc (e + 1) (s.1 + 1, s.2) a := by
  obtain ⟨h1, h2, h3, h4, h5, ⟨n, hn, h6⟩, h7⟩ := h
  have h84 := hc.2
  have hu : Un (fun b => b = 81) σ (xsF σ 81 2 (nI (s.1 + 1))) := Un.F rfl
  refine ⟨by rw [xsF_ne (Or.inr (by decide))]; exact h1, h2, xsF_get, by rw [xsF_ne (Or.inr (by decide))]; exact h4, hs, ⟨n, hn, by rw [xsF_ne (Or.inl (by omega))]; exact h6⟩, fun z => ?_⟩
  obtain ⟨q1, q2, q3⟩ := h7 z
  refine ⟨q1.un hu (by omega) (by omega), ?_, by rw [xsF_ne (Or.inl (by omega))]; exact q3⟩
  show a.1.length + (e + 1) ≤ s.1 + 1
  omega
theorem TxR.fail (h : TxR σ T sz cc e s a) (hc : isX cc) {e2 : Nat} {a2 : jA} : TxR (xsF σ 81 3 1) T sz cc e2 (s.1, false) a2 := by
  obtain ⟨h1, h2, h3, h4, h5, ⟨n, hn, h6⟩, h7⟩ := h
  have h84 := hc.2
  exact ⟨by rw [xsF_ne (Or.inr (by decide))]; exact h1, h2, by rw [xsF_ne (Or.inr (by decide))]; exact h3, xsF_get, h5, ⟨n, hn, by rw [xsF_ne (Or.inl (by omega))]; exact h6⟩, fun z => by cases z⟩
theorem TxR.ok (h : TxR σ T sz cc e s a) (hc : isX cc) (hs : s.2 = true) : TxR (xsF σ 81 3 0) T sz cc e s a := by
  obtain ⟨h1, h2, h3, h4, h5, ⟨n, hn, h6⟩, h7⟩ := h
  have h84 := hc.2
  have hu : Un (fun b => b = 81) σ (xsF σ 81 3 0) := Un.F rfl
  refine ⟨by rw [xsF_ne (Or.inr (by decide))]; exact h1, h2, by rw [xsF_ne (Or.inr (by decide))]; exact h3, by rw [xsF_get, hs]; rfl, h5, ⟨n, hn, by rw [xsF_ne (Or.inl (by omega))]; exact h6⟩, fun z => ?_⟩
  obtain ⟨q1, q2, q3⟩ := h7 z
  exact ⟨q1.un hu (by omega) (by omega), q2, by rw [xsF_ne (Or.inl (by omega))]; exact q3⟩
theorem TxR.wk (h : TxR σ T sz cc e s a) {e2 : Nat} (he : e2 ≤ e) : TxR σ T sz cc e2 s a := ⟨h.1, h.2.1, h.2.2.1, h.2.2.2.1, h.2.2.2.2.1, h.2.2.2.2.2.1, fun z => ⟨(h.2.2.2.2.2.2 z).1, by have := (h.2.2.2.2.2.2 z).2.1; omega, (h.2.2.2.2.2.2 z).2.2⟩⟩
theorem TxR.bad (h : TxR σ T sz cc e s a) (hb : s.2 = false) {e2 : Nat} {a2 : jA} : TxR σ T sz cc e2 s a2 := ⟨h.1, h.2.1, h.2.2.1, h.2.2.2.1, h.2.2.2.2.1, h.2.2.2.2.2.1, fun z => by rw [hb] at z; cases z⟩
theorem TxR.cg (h : TxR σ T sz cc e s a) {s2 : pS} {a2 : jA} (hs : s = s2) (ha : a = a2) : TxR σ T sz cc e s2 a2 := hs ▸ ha ▸ h
end TXR
def jNx (T : Nat → Int32) (sz : Nat) (s : pS) : Int32 := if s.2 = true ∧ s.1 < sz then T s.1 else -1
theorem neg1_nI : ∀ c, c < 128 → ¬ (-1 : Int32) = nI c := by decide
theorem jNx_at {T : Nat → Int32} {sz : Nat} {s : pS} (c : Nat) (hc : c < 128) : jNx T sz s = nI c ↔ pAt T sz s (nI c) = true := by
  unfold jNx pAt
  by_cases h : s.2 = true ∧ s.1 < sz
  · rw [if_pos h]; simp [h.1, h.2]
  · rw [if_neg h]
    constructor
    · intro z; exact absurd z (neg1_nI c hc)
    · intro z; simp at z; exact absurd ⟨z.1, z.2.1⟩ h
theorem jNx_dg {T : Nat → Int32} {sz : Nat} {s : pS} : (48 ≤ jNx T sz s ∧ jNx T sz s ≤ 57) ↔ pDg T sz s = true := by
  unfold jNx pDg
  by_cases h : s.2 = true ∧ s.1 < sz
  · rw [if_pos h]; simp [h.1, h.2]
  · rw [if_neg h]
    constructor
    · intro z; exact absurd z.1 (by decide)
    · intro z; simp at z; exact absurd ⟨z.1, z.2.1⟩ h
theorem jNx_T {T : Nat → Int32} {sz : Nat} {s : pS} (h : pDg T sz s = true) : jNx T sz s = T s.1 := by
  unfold pDg at h; simp at h; unfold jNx; rw [if_pos ⟨h.1, h.2.1⟩]
theorem pDg_ok {T : Nat → Int32} {sz : Nat} {s : pS} (h : pDg T sz s = true) : s.2 = true := by unfold pDg at h; simp at h; exact h.1
theorem pAt_ok {T : Nat → Int32} {sz : Nat} {s : pS} {c : Int32} (h : pAt T sz s c = true) : s.2 = true := by unfold pAt at h; simp at h; exact h.1
theorem pTk_t {T : Nat → Int32} {sz : Nat} {s : pS} {c : Int32} (h : pAt T sz s c = true) : pTk T sz s c = (s.1 + 1, s.2) := by unfold pTk; rw [h]; rfl
theorem pTk_f {T : Nat → Int32} {sz : Nat} {s : pS} {c : Int32} (h : ¬ pAt T sz s c = true) : pTk T sz s c = (s.1, false) := by unfold pTk; rw [show pAt T sz s c = false by simpa using h]; rfl
/-- a number is 0 .. 99 -/
theorem pNm_nat {T : Nat → Int32} {sz : Nat} (hT : ToK T sz) (s : pS) : ∃ n, n ≤ 99 ∧ (pNm T sz s).1 = nI n := by
  have key : ∀ s : pS, pDg T sz s = true → ∃ t, 48 ≤ t ∧ t ≤ 57 ∧ T s.1 = nI t := by
    intro s h
    obtain ⟨t, ht, e⟩ := hT.2 s.1 (pDg_lt h)
    unfold pDg at h
    simp [e] at h
    exact ⟨t, nLe (a := 48) (by omega) (by omega) h.2.2.1, nLe (b := 57) (by omega) (by omega) h.2.2.2, e⟩
  unfold pNm
  cases h1 : pDg T sz s with
  | false => exact ⟨0, by omega, rfl⟩
  | true =>
    obtain ⟨t, a1, a2, e1⟩ := key s h1
    cases h2 : pDg T sz (s.1 + 1, s.2) with
    | false => exact ⟨t - 48, by omega, by simp only [cond_true, cond_false, e1]; exact pk_sub (b := 48) (by omega)⟩
    | true =>
      obtain ⟨t2, b1, b2, e2⟩ := key (s.1 + 1, s.2) h2
      simp only at e2
      refine ⟨10 * (t - 48) + t2 - 48, by omega, ?_⟩
      simp only [cond_true, e1, e2]
      rw [show nI t - 48 = nI (t - 48) from pk_sub (b := 48) (by omega), show (10 : Int32) = nI 10 from rfl, pk_mul, nI_add]
      exact pk_sub (b := 48) (by omega)

theorem sX7_next {d : Nat} (hd : 0 ≤ d) {σ : xSt} {Post : Option Value → xSt → Prop} {T : Nat → Int32} {sz cc e : Nat} {s : pS} {a : jA} (hT : ToK T sz) (hc : isX cc) (hR : TxR σ T sz cc e s a) (h : Post (some (.int (jNx T sz s))) σ) : xM kX7_next d [.ref 81] σ Post := by
  refine xM_start (lv := [some (.ref 81)]) rfl ?_
  have hsz := hT.1
  have hle := hR.2.2.2.2.1
  have e3 := hR.2.2.2.1; have e2 := hR.2.2.1; have e1 := hR.1
  refine xe_aload_n dX7_next_0 rfl ?_
  refine xe_getf dX7_next_1 flX7_22 (by decide) rfl rfl ?_
  refine xe_if_ne (tgt := 18) dX7_next_4 (by decide) (fun h4 => ?_) (fun h4 => ?_)
  · rw [jNx, if_neg (by first | (intro z; rw [e3, z.1] at h4; exact h4 rfl) | (intro z; exact h15 (nI_lt z.2 (by omega))))] at h
    refine xe_iconst (v := -1) dX7_next_18 rfl ?_
    refine xe_goto (tgt := 31) dX7_next_19 (by decide) ?_
    first | rw [hR.2.1 _ hlt] | skip
    refine xe_iret dX7_next_31 rfl rfl ?_
    exact h
  · refine xe_aload_n dX7_next_7 rfl ?_
    refine xe_getf dX7_next_8 flX7_19 (by decide) rfl rfl ?_
    refine xe_aload_n dX7_next_11 rfl ?_
    refine xe_getf dX7_next_12 flX7_15 (by decide) rfl rfl ?_
    rw [e2, e1]
    refine xe_icmp_lt (tgt := 22) dX7_next_15 (by decide) (fun h15 => ?_) (fun h15 => ?_)
    · have hlt := nLt (by omega) (by omega) h15
      have hok : s.2 = true := by rw [e3] at h4; cases q : s.2 <;> rw [q] at h4 <;> first | rfl | exact absurd h4 (by decide)
      rw [jNx, if_pos ⟨hok, hlt⟩] at h
      refine xe_aload_n dX7_next_22 rfl ?_
      refine xe_getr dX7_next_23 flX7_11 (by decide) rfl rfl ?_
      refine xe_aload_n dX7_next_26 rfl ?_
      refine xe_getf dX7_next_27 flX7_19 (by decide) rfl rfl ?_
      rw [e2]
      refine xn_baload (j := s.1) dX7_next_30 (by decide) rfl (by first | with_reducible rfl | (simp only [xl, pk_mul, nI_add, nI_1]; done) | (simp only [xl, pk_mul, nI_add, nI_1]; rfl)) (by omega) (by first | decide | omega) ?_
      first | rw [hR.2.1 _ hlt] | skip
      refine xe_iret dX7_next_31 rfl rfl ?_
      exact h
    · rw [jNx, if_neg (by first | (intro z; rw [e3, z.1] at h4; exact h4 rfl) | (intro z; exact h15 (nI_lt z.2 (by omega))))] at h
      refine xe_iconst (v := -1) dX7_next_18 rfl ?_
      refine xe_goto (tgt := 31) dX7_next_19 (by decide) ?_
      first | rw [hR.2.1 _ hlt] | skip
      refine xe_iret dX7_next_31 rfl rfl ?_
      exact h

theorem sX7_expect {d : Nat} (hd : 1 ≤ d) {σ : xSt} {Post : Option Value → xSt → Prop} {T : Nat → Int32} {sz cc e : Nat} {s : pS} {a : jA} (c : Nat) (hT : ToK T sz) (hc : isX cc) (hR : TxR σ T sz cc e s a) (hcc : c < 128) (h : ∀ τ, Un (xC cc) σ τ → TxR τ T sz cc (e + 1) (pTk T sz s (nI c)) a → Post none τ) : xM kX7_expect d [.ref 81, .int (nI c)] σ Post := by
  obtain ⟨d, rfl⟩ : ∃ e, d = e + 1 := ⟨d - 1, by omega⟩
  refine xM_start (lv := [some (.ref 81), some (.int (nI c))]) rfl ?_
  refine xe_aload_n dX7_expect_0 rfl ?_
  refine xe_callv (k2 := kX7_next) (vs := []) dX7_expect_1 okX7_next mlX7_35 imX7_next slX7_next (Or.inl ⟨7, _, _, by decide, rfl, rfl, rfl⟩) rfl rfl (Nat.le_of_ble_eq_true rfl) (Nat.le_of_ble_eq_true rfl) (sX7_next (by omega) hT hc hR ?_)
  refine xe_iload_n dX7_expect_4 rfl ?_
  refine xe_icmp_ne (tgt := 21) dX7_expect_5 (by decide) (fun h5 => ?_) (fun h5 => ?_)
  · have hp : ¬ pAt T sz s (nI c) = true := fun z => h5 ((jNx_at c hcc).mpr z)
    rw [pTk_f hp] at h
    refine xe_aload_n dX7_expect_21 rfl ?_
    refine xe_iconst (v := 1) dX7_expect_22 rfl ?_
    refine xe_putf dX7_expect_23 flX7_22 (by decide) rfl rfl (by first | rfl | decide | assumption | exact bI_nar _ | exact xb_narrow rfl | exact xb_narrow (by assumption)) rfl ?_
    refine xe_vret dX7_expect_26 rfl ?_
    first
    | exact h _ (Un.F (Or.inl rfl)) (hR.at hc (pAt_lt hp))
    | exact h _ (Un.F (Or.inl rfl)) (hR.fail hc)
  · have hp := (jNx_at c hcc).mp h5
    rw [pTk_t hp] at h
    refine xe_aload_n dX7_expect_8 rfl ?_
    refine xe_dup dX7_expect_9 rfl ?_
    refine xe_getf dX7_expect_10 flX7_19 (by decide) rfl rfl ?_
    rw [hR.2.2.1]
    refine xe_iconst (v := 1) dX7_expect_13 rfl ?_
    refine xe_iadd dX7_expect_14 ?_
    refine xe_putf dX7_expect_15 flX7_19 (by decide) rfl rfl rfl rfl ?_
    rw [nI_1]
    refine xe_goto (tgt := 26) dX7_expect_18 (by decide) ?_
    refine xe_vret dX7_expect_26 rfl ?_
    first
    | exact h _ (Un.F (Or.inl rfl)) (hR.at hc (pAt_lt hp))
    | exact h _ (Un.F (Or.inl rfl)) (hR.fail hc)

theorem lX7_num57a {d : Nat} {σ : xSt} {Post : Option Value → xSt → Prop} {T : Nat → Int32} {sz cc e : Nat} {s : pS} {a : jA} (hc : isX cc) (hR : TxR σ T sz cc e s a) (v3 : Option Value) (h : ∀ τ, Un (xC cc) σ τ → TxR τ T sz cc e (s.1, false) a → Post (some (.int 0)) τ) : xEv kX7_expectNumber d 57 [some (.ref 81), some (.int (0)), some (.int (0)), v3] [] σ Post := by
  refine xe_aload_n dX7_expectNumber_57 rfl ?_
  refine xe_aload_n dX7_expectNumber_58 rfl ?_
  refine xe_getf dX7_expectNumber_59 flX7_22 (by decide) rfl rfl ?_
  refine xe_if_ne (tgt := 69) dX7_expectNumber_62 (by decide) (fun h62 => ?_) (fun h62 => ?_)
  · refine xe_iconst (v := 1) dX7_expectNumber_69 rfl ?_
    refine xe_goto (tgt := 74) dX7_expectNumber_70 (by decide) ?_
    refine xe_putf dX7_expectNumber_74 flX7_22 (by decide) rfl rfl (by first | rfl | decide | assumption | exact bI_nar _ | exact xb_narrow rfl | exact xb_narrow (by assumption)) rfl ?_
    refine xe_iload_n dX7_expectNumber_77 rfl ?_
    refine xe_iret dX7_expectNumber_78 rfl rfl ?_
    exact h _ (Un.F (Or.inl rfl)) (hR.fail hc)
  · refine xe_iload_n dX7_expectNumber_65 rfl ?_
    refine xe_if_ne (tgt := 73) dX7_expectNumber_66 (by decide) (fun h66 => absurd rfl h66) (fun h66 => ?_)
    refine xe_iconst (v := 1) dX7_expectNumber_69 rfl ?_
    refine xe_goto (tgt := 74) dX7_expectNumber_70 (by decide) ?_
    refine xe_putf dX7_expectNumber_74 flX7_22 (by decide) rfl rfl (by first | rfl | decide | assumption | exact bI_nar _ | exact xb_narrow rfl | exact xb_narrow (by assumption)) rfl ?_
    refine xe_iload_n dX7_expectNumber_77 rfl ?_
    refine xe_iret dX7_expectNumber_78 rfl rfl ?_
    exact h _ (Un.F (Or.inl rfl)) (hR.fail hc)

theorem lX7_num57b {d : Nat} {σ : xSt} {Post : Option Value → xSt → Prop} {T : Nat → Int32} {sz cc e : Nat} {s : pS} {a : jA} (hc : isX cc) (hR : TxR σ T sz cc e s a) (hs : s.2 = true) (n x : Int32) (hx : ¬ x = 0) (v3 : Option Value) (h : ∀ τ, Un (xC cc) σ τ → TxR τ T sz cc e s a → Post (some (.int n)) τ) : xEv kX7_expectNumber d 57 [some (.ref 81), some (.int (n)), some (.int (x)), v3] [] σ Post := by
  refine xe_aload_n dX7_expectNumber_57 rfl ?_
  refine xe_aload_n dX7_expectNumber_58 rfl ?_
  refine xe_getf dX7_expectNumber_59 flX7_22 (by decide) rfl rfl ?_
  refine xe_if_ne (tgt := 69) dX7_expectNumber_62 (by decide) (fun h62 => absurd (by rw [hR.2.2.2.1, hs]; rfl) h62) (fun h62 => ?_)
  refine xe_iload_n dX7_expectNumber_65 rfl ?_
  refine xe_if_ne (tgt := 73) dX7_expectNumber_66 (by decide) (fun h66 => ?_) (fun h66 => absurd h66 hx)
  refine xe_iconst (v := 0) dX7_expectNumber_73 rfl ?_
  refine xe_putf dX7_expectNumber_74 flX7_22 (by decide) rfl rfl (by first | rfl | decide | assumption | exact bI_nar _ | exact xb_narrow rfl | exact xb_narrow (by assumption)) rfl ?_
  refine xe_iload_n dX7_expectNumber_77 rfl ?_
  refine xe_iret dX7_expectNumber_78 rfl rfl ?_
  exact h _ (Un.F (Or.inl rfl)) (hR.ok hc hs)

theorem lX7_num9c {d : Nat} {σ : xSt} {Post : Option Value → xSt → Prop} {T : Nat → Int32} {sz cc e : Nat} {s : pS} {a : jA} (hc : isX cc) (hR : TxR σ T sz cc e s a) (hs : s.2 = true) (n : Int32) (v3 : Int32) (h : ∀ τ, Un (xC cc) σ τ → TxR τ T sz cc e s a → Post (some (.int n)) τ) : xEv kX7_expectNumber d 9 [some (.ref 81), some (.int (n)), some (.int (2)), some (.int v3)] [] σ Post := by
  refine xe_iload_n dX7_expectNumber_9 rfl ?_
  refine xe_iconst (v := 2) dX7_expectNumber_10 rfl ?_
  refine xe_icmp_ge (tgt := 57) dX7_expectNumber_11 (by decide) (fun h11 => ?_) (fun h11 => absurd (by decide) h11)
  exact lX7_num57b (d := d) hc hR hs n 2 (by decide) _ h

theorem lX7_num9b {d : Nat} {σ : xSt} {Post : Option Value → xSt → Prop} {T : Nat → Int32} {sz cc e : Nat} {s : pS} {a : jA} (hT : ToK T sz) (hc : isX cc) (hR : TxR σ T sz cc e s a) (hs : s.2 = true) (n : Int32) (h : ∀ τ, Un (xC cc) σ τ → TxR τ T sz cc e (bif pDg T sz s then (s.1 + 1, s.2) else s) a → Post (some (.int (bif pDg T sz s then 10 * n + T s.1 - 48 else n))) τ) : xEv kX7_expectNumber (d + 1) 9 [some (.ref 81), some (.int (n)), some (.int (1)), some (.int (jNx T sz s))] [] σ Post := by
  refine xe_iload_n dX7_expectNumber_9 rfl ?_
  refine xe_iconst (v := 2) dX7_expectNumber_10 rfl ?_
  refine xe_icmp_ge (tgt := 57) dX7_expectNumber_11 (by decide) (fun h11 => absurd h11 (by decide)) (fun h11 => ?_)
  refine xe_iload_n dX7_expectNumber_14 rfl ?_
  refine xe_bipush (v := 48) dX7_expectNumber_15 rfl ?_
  refine xe_icmp_lt (tgt := 57) dX7_expectNumber_17 (by decide) (fun h17 => ?_) (fun h17 => ?_)
  · have hdf : pDg T sz s = false := by
      cases q : pDg T sz s with
      | false => rfl
      | true => first | exact absurd (jNx_dg.mpr q).1 (Int32.not_le.mpr h17) | exact absurd (jNx_dg.mpr q).2 (Int32.not_le.mpr h23)
    rw [hdf] at h
    exact lX7_num57b (d := d + 1) hc hR hs n 1 (by decide) _ h
  · refine xe_iload_n dX7_expectNumber_20 rfl ?_
    refine xe_bipush (v := 57) dX7_expectNumber_21 rfl ?_
    refine xe_icmp_gt (tgt := 57) dX7_expectNumber_23 (by decide) (fun h23 => ?_) (fun h23 => ?_)
    · have hdf : pDg T sz s = false := by
        cases q : pDg T sz s with
        | false => rfl
        | true => first | exact absurd (jNx_dg.mpr q).1 (Int32.not_le.mpr h17) | exact absurd (jNx_dg.mpr q).2 (Int32.not_le.mpr h23)
      rw [hdf] at h
      exact lX7_num57b (d := d + 1) hc hR hs n 1 (by decide) _ h
    · have hp : pDg T sz s = true := jNx_dg.mp ⟨Int32.not_lt.mp h17, Int32.not_lt.mp h23⟩
      rw [hp] at h
      simp only [cond_true] at h
      rw [jNx_T hp]
      refine xe_bipush (v := 10) dX7_expectNumber_26 rfl ?_
      refine xe_iload_n dX7_expectNumber_28 rfl ?_
      refine xe_imul dX7_expectNumber_29 ?_
      refine xe_iload_n dX7_expectNumber_30 rfl ?_
      refine xe_iadd dX7_expectNumber_31 ?_
      refine xe_bipush (v := 48) dX7_expectNumber_32 rfl ?_
      refine xe_isub dX7_expectNumber_34 ?_
      refine xe_istore_n (lv2 := [_, _, _, _]) dX7_expectNumber_35 (by decide) rfl ?_
      refine xe_iinc (v := 2) (lv2 := [_, _, _, _]) dX7_expectNumber_36 (by decide) rfl (by decide) rfl ?_
      refine xe_aload_n dX7_expectNumber_39 rfl ?_
      refine xe_dup dX7_expectNumber_40 rfl ?_
      refine xe_getf dX7_expectNumber_41 flX7_19 (by decide) rfl rfl ?_
      rw [hR.2.2.1]
      refine xe_iconst (v := 1) dX7_expectNumber_44 rfl ?_
      refine xe_iadd dX7_expectNumber_45 ?_
      refine xe_putf dX7_expectNumber_46 flX7_19 (by decide) rfl rfl rfl rfl ?_
      rw [nI_1]
      have hR2 := hR.at hc (pDg_lt hp)
      refine xe_aload_n dX7_expectNumber_49 rfl ?_
      refine xe_callv (k2 := kX7_next) (vs := []) dX7_expectNumber_50 okX7_next mlX7_35 imX7_next slX7_next (Or.inl ⟨7, _, _, by decide, rfl, rfl, rfl⟩) rfl rfl (Nat.le_of_ble_eq_true rfl) (Nat.le_of_ble_eq_true rfl) (sX7_next (by omega) hT hc hR2 ?_)
      refine xe_istore_n (lv2 := [_, _, _, _]) dX7_expectNumber_53 (by decide) rfl ?_
      refine xe_goto (tgt := 9) dX7_expectNumber_54 (by decide) ?_
      exact lX7_num9c (d := d + 1) hc (hR2.wk (Nat.le_succ _)) hs _ _ (fun τ hu hτ => h τ ((Un.F (Or.inl rfl)).tr hu) hτ)

theorem sX7_expectNumber {d : Nat} (hd : 1 ≤ d) {σ : xSt} {Post : Option Value → xSt → Prop} {T : Nat → Int32} {sz cc e : Nat} {s : pS} {a : jA} (hT : ToK T sz) (hc : isX cc) (hR : TxR σ T sz cc e s a) (h : ∀ τ, Un (xC cc) σ τ → TxR τ T sz cc e (pNm T sz s).2 a → Post (some (.int (pNm T sz s).1)) τ) : xM kX7_expectNumber d [.ref 81] σ Post := by
  obtain ⟨d, rfl⟩ : ∃ e, d = e + 1 := ⟨d - 1, by omega⟩
  refine xM_start (lv := [some (.ref 81), none, none, none]) rfl ?_
  refine xe_iconst (v := 0) dX7_expectNumber_0 rfl ?_
  refine xe_istore_n (lv2 := [_, _, _, _]) dX7_expectNumber_1 (by decide) rfl ?_
  refine xe_iconst (v := 0) dX7_expectNumber_2 rfl ?_
  refine xe_istore_n (lv2 := [_, _, _, _]) dX7_expectNumber_3 (by decide) rfl ?_
  refine xe_aload_n dX7_expectNumber_4 rfl ?_
  refine xe_callv (k2 := kX7_next) (vs := []) dX7_expectNumber_5 okX7_next mlX7_35 imX7_next slX7_next (Or.inl ⟨7, _, _, by decide, rfl, rfl, rfl⟩) rfl rfl (Nat.le_of_ble_eq_true rfl) (Nat.le_of_ble_eq_true rfl) (sX7_next (by omega) hT hc hR ?_)
  refine xe_istore_n (lv2 := [_, _, _, _]) dX7_expectNumber_8 (by decide) rfl ?_
  refine xe_iload_n dX7_expectNumber_9 rfl ?_
  refine xe_iconst (v := 2) dX7_expectNumber_10 rfl ?_
  refine xe_icmp_ge (tgt := 57) dX7_expectNumber_11 (by decide) (fun h11 => absurd h11 (by decide)) (fun h11 => ?_)
  refine xe_iload_n dX7_expectNumber_14 rfl ?_
  refine xe_bipush (v := 48) dX7_expectNumber_15 rfl ?_
  refine xe_icmp_lt (tgt := 57) dX7_expectNumber_17 (by decide) (fun h17 => ?_) (fun h17 => ?_)
  · have hdf : pDg T sz s = false := by
      cases q : pDg T sz s with
      | false => rfl
      | true => first | exact absurd (jNx_dg.mpr q).1 (Int32.not_le.mpr h17) | exact absurd (jNx_dg.mpr q).2 (Int32.not_le.mpr h23)
    rw [pNm, hdf] at h
    exact lX7_num57a (d := d + 1) hc hR _ h
  · refine xe_iload_n dX7_expectNumber_20 rfl ?_
    refine xe_bipush (v := 57) dX7_expectNumber_21 rfl ?_
    refine xe_icmp_gt (tgt := 57) dX7_expectNumber_23 (by decide) (fun h23 => ?_) (fun h23 => ?_)
    · have hdf : pDg T sz s = false := by
        cases q : pDg T sz s with
        | false => rfl
        | true => first | exact absurd (jNx_dg.mpr q).1 (Int32.not_le.mpr h17) | exact absurd (jNx_dg.mpr q).2 (Int32.not_le.mpr h23)
      rw [pNm, hdf] at h
      exact lX7_num57a (d := d + 1) hc hR _ h
    · have hp : pDg T sz s = true := jNx_dg.mp ⟨Int32.not_lt.mp h17, Int32.not_lt.mp h23⟩
      rw [jNx_T hp]
      refine xe_bipush (v := 10) dX7_expectNumber_26 rfl ?_
      refine xe_iload_n dX7_expectNumber_28 rfl ?_
      refine xe_imul dX7_expectNumber_29 ?_
      refine xe_iload_n dX7_expectNumber_30 rfl ?_
      refine xe_iadd dX7_expectNumber_31 ?_
      refine xe_bipush (v := 48) dX7_expectNumber_32 rfl ?_
      refine xe_isub dX7_expectNumber_34 ?_
      refine xe_top (x2 := T s.1 - 48) (by rw [show (10 : Int32) * 0 = 0 from rfl, Int32.zero_add]) ?_
      refine xe_istore_n (lv2 := [_, _, _, _]) dX7_expectNumber_35 (by decide) rfl ?_
      refine xe_iinc (v := 1) (lv2 := [_, _, _, _]) dX7_expectNumber_36 (by decide) rfl (by decide) rfl ?_
      refine xe_aload_n dX7_expectNumber_39 rfl ?_
      refine xe_dup dX7_expectNumber_40 rfl ?_
      refine xe_getf dX7_expectNumber_41 flX7_19 (by decide) rfl rfl ?_
      rw [hR.2.2.1]
      refine xe_iconst (v := 1) dX7_expectNumber_44 rfl ?_
      refine xe_iadd dX7_expectNumber_45 ?_
      refine xe_putf dX7_expectNumber_46 flX7_19 (by decide) rfl rfl rfl rfl ?_
      rw [nI_1]
      have hR2 := hR.at hc (pDg_lt hp)
      refine xe_aload_n dX7_expectNumber_49 rfl ?_
      refine xe_callv (k2 := kX7_next) (vs := []) dX7_expectNumber_50 okX7_next mlX7_35 imX7_next slX7_next (Or.inl ⟨7, _, _, by decide, rfl, rfl, rfl⟩) rfl rfl (Nat.le_of_ble_eq_true rfl) (Nat.le_of_ble_eq_true rfl) (sX7_next (by omega) hT hc hR2 ?_)
      refine xe_istore_n (lv2 := [_, _, _, _]) dX7_expectNumber_53 (by decide) rfl ?_
      refine xe_goto (tgt := 9) dX7_expectNumber_54 (by decide) ?_
      refine lX7_num9b (d := d) hT hc (hR2.wk (Nat.le_succ _)) (show s.2 = true from pDg_ok hp) _ (fun τ hu hτ => ?_)
      have h2 := h τ ((Un.F (Or.inl rfl)).tr hu)
      unfold pNm at h2
      rw [hp] at h2
      cases q : pDg T sz (s.1 + 1, s.2) with
      | false => rw [q] at h2 hτ; exact h2 hτ
      | true => rw [q] at h2 hτ; exact h2 hτ

def jOne (i : Nat) (T : Nat → Int32) (sz : Nat) (s : pS) : Option Nat := if s.2 = true ∧ s.1 < sz then ixO i (T s.1) else none
theorem ixF_lt {b : List Int32} {x : Int32} : ∀ (n j L : Nat), ixF b x n j = some L → L < j + n := by
  intro n
  induction n with
  | zero => intro j L h; cases h
  | succ n ih =>
    intro j L h
    rw [ixF] at h
    split at h
    · cases h; omega
    · have := ih (j + 1) L h; omega
theorem i2c128 : ∀ x, x < 128 → ((nI x).toUInt32 % 65536).toInt32 = nI x := by decide +kernel
theorem jNx_neg {T : Nat → Int32} {sz : Nat} (hT : ToK T sz) {s : pS} : jNx T sz s = -1 ↔ ¬ (s.2 = true ∧ s.1 < sz) := by
  unfold jNx
  by_cases h : s.2 = true ∧ s.1 < sz
  · rw [if_pos h]
    obtain ⟨t, ht, e⟩ := hT.2 s.1 h.2
    rw [e]
    exact ⟨fun z => absurd z.symm (neg1_nI t ht), fun z => absurd h z⟩
  · rw [if_neg h]; exact ⟨fun _ => h, fun _ => rfl⟩

theorem lX7_one20 {d : Nat} {σ : xSt} {Post : Option Value → xSt → Prop} {T : Nat → Int32} {sz cc e : Nat} {s : pS} {a : jA} {i : Nat} (hc : isX cc) (hR : TxR σ T sz cc e s a) (v2 : Int32) (hi : i < 5) (h : (jOne i T sz s = none → ∀ τ, Un (xC cc) σ τ → TxR τ T sz cc e (s.1, false) a → Post (some (.int 0)) τ) ∧ ∀ L, L < 6 → jOne i T sz s = some L → ∀ τ, Un (xC cc) σ τ → TxR τ T sz cc (e + 1) (s.1 + 1, s.2) a → Post (some (.int (nI L))) τ) : xEv kX7_expectOne d 20 [some (.ref 81), some (.ref (210 + i)), some (.int v2), none] [.int (oX (jOne i T sz s))] σ Post := by
  cases q : jOne i T sz s with
  | none =>
    refine xe_istore_n (lv2 := [_, _, _, _]) dX7_expectOne_20 (by decide) rfl ?_
    refine xe_iload_n dX7_expectOne_21 rfl ?_
    refine xe_if_ge (tgt := 32) dX7_expectOne_22 (by decide) (fun h22 => absurd h22 (by decide)) (fun h22 => ?_)
    refine xe_aload_n dX7_expectOne_25 rfl ?_
    refine xe_iconst (v := 1) dX7_expectOne_26 rfl ?_
    refine xe_putf dX7_expectOne_27 flX7_22 (by decide) rfl rfl (by first | rfl | decide | assumption | exact bI_nar _ | exact xb_narrow rfl | exact xb_narrow (by assumption)) rfl ?_
    refine xe_iconst (v := 0) dX7_expectOne_30 rfl ?_
    refine xe_iret dX7_expectOne_31 rfl rfl ?_
    exact h.1 q _ (Un.F (Or.inl rfl)) (hR.fail hc)
  | some L =>
    have hL : L < 6 := by
      unfold jOne at q
      split at q
      · have := ixF_lt _ _ _ q; have := ln6 i hi; omega
      · cases q
    have hlt : s.1 < sz := by
      unfold jOne at q
      split at q
      · rename_i z; exact z.2
      · cases q
    refine xe_istore_n (lv2 := [_, _, _, _]) dX7_expectOne_20 (by decide) rfl ?_
    refine xe_iload_n dX7_expectOne_21 rfl ?_
    refine xe_if_ge (tgt := 32) dX7_expectOne_22 (by decide) (fun h22 => ?_) (fun h22 => absurd (show (0 : Int32) ≤ nI L from nI_pos' (by omega)) h22)
    refine xe_aload_n dX7_expectOne_32 rfl ?_
    refine xe_dup dX7_expectOne_33 rfl ?_
    refine xe_getf dX7_expectOne_34 flX7_19 (by decide) rfl rfl ?_
    rw [hR.2.2.1]
    refine xe_iconst (v := 1) dX7_expectOne_37 rfl ?_
    refine xe_iadd dX7_expectOne_38 ?_
    refine xe_putf dX7_expectOne_39 flX7_19 (by decide) rfl rfl rfl rfl ?_
    rw [nI_1]
    refine xe_iload_n dX7_expectOne_42 rfl ?_
    refine xe_iret dX7_expectOne_43 rfl rfl ?_
    exact h.2 L hL q _ (Un.F (Or.inl rfl)) (hR.at hc hlt)

theorem sX7_expectOne {d : Nat} (hd : 4 ≤ d) {σ : xSt} {Post : Option Value → xSt → Prop} {T : Nat → Int32} {sz cc e : Nat} {s : pS} {a : jA} {i : Nat} (hT : ToK T sz) (hc : isX cc) (hR : TxR σ T sz cc e s a) (hi : i < 5) (h : (jOne i T sz s = none → ∀ τ, Un (xC cc) σ τ → TxR τ T sz cc e (s.1, false) a → Post (some (.int 0)) τ) ∧ ∀ L, L < 6 → jOne i T sz s = some L → ∀ τ, Un (xC cc) σ τ → TxR τ T sz cc (e + 1) (s.1 + 1, s.2) a → Post (some (.int (nI L))) τ) : xM kX7_expectOne d [.ref 81, .ref (210 + i)] σ Post := by
  obtain ⟨d, rfl⟩ : ∃ e, d = e + 1 := ⟨d - 1, by omega⟩
  refine xM_start (lv := [some (.ref 81), some (.ref (210 + i)), none, none]) rfl ?_
  refine xe_aload_n dX7_expectOne_0 rfl ?_
  refine xe_callv (k2 := kX7_next) (vs := []) dX7_expectOne_1 okX7_next mlX7_35 imX7_next slX7_next (Or.inl ⟨7, _, _, by decide, rfl, rfl, rfl⟩) rfl rfl (Nat.le_of_ble_eq_true rfl) (Nat.le_of_ble_eq_true rfl) (sX7_next (by omega) hT hc hR ?_)
  refine xe_istore_n (lv2 := [_, _, _, _]) dX7_expectOne_4 (by decide) rfl ?_
  refine xe_iload_n dX7_expectOne_5 rfl ?_
  refine xe_iconst (v := -1) dX7_expectOne_6 rfl ?_
  refine xe_icmp_ne (tgt := 14) dX7_expectOne_7 (by decide) (fun h7 => ?_) (fun h7 => ?_)
  · have hz : s.2 = true ∧ s.1 < sz := Classical.byContradiction (fun z => h7 ((jNx_neg hT).mpr z))
    obtain ⟨t, ht, et⟩ := hT.2 s.1 hz.2
    have ej : jOne i T sz s = ixO i (nI t) := by rw [jOne, if_pos hz, et]
    have en : jNx T sz s = nI t := by rw [jNx, if_pos hz, et]
    refine xe_aload_n dX7_expectOne_14 rfl ?_
    refine xe_iload_n dX7_expectOne_15 rfl ?_
    rw [en]
    refine xe_i2c dX7_expectOne_16 ?_
    rw [i2c128 t ht]
    refine xe_callv (k2 := kJ0_indexOf_0f7a4) (vs := [_]) dX7_expectOne_17 okJ0_indexOf_0f7a4 mlX7_39 imJ0_indexOf_0f7a4 slJ0_indexOf_0f7a4 (Or.inr ⟨rfl, i, hi, rfl⟩) rfl rfl (Nat.le_of_ble_eq_true rfl) (Nat.le_of_ble_eq_true rfl) (sJ0_indexOf_0f7a4 (by omega) t hi ht ?_)
    first
    | (have K := lX7_one20 (d := d + 1) (T := T) (sz := sz) (s := s) hc hR (jNx T sz s) hi h; rw [ej] at K; exact K)
    | (have K := lX7_one20 (d := d + 1) (T := T) (sz := sz) (s := s) hc hR (jNx T sz s) hi h; rw [ej, en] at K; exact K)
  · have hz := (jNx_neg hT).mp h7
    have ej : jOne i T sz s = none := if_neg hz
    refine xe_iconst (v := -1) dX7_expectOne_10 rfl ?_
    refine xe_goto (tgt := 20) dX7_expectOne_11 (by decide) ?_
    first
    | (have K := lX7_one20 (d := d + 1) (T := T) (sz := sz) (s := s) hc hR (jNx T sz s) hi h; rw [ej] at K; exact K)
    | (have K := lX7_one20 (d := d + 1) (T := T) (sz := sz) (s := s) hc hR (jNx T sz s) hi h; rw [ej, en] at K; exact K)
