theorem mCl_sz {T nm : Nat → Int32} {sz : Nat} {a : Int32 × Int32} {s : pS} (hs : s.1 ≤ sz) : (mCl T nm sz a s).2.1 ≤ sz := pCl_sz (fun s hs => pAy_sz (pFa_sz 4) s hs) hs

theorem lX9_readAll {d : Nat} {σ : xSt} {Post : Option Value → xSt → Prop} (hd : 18 ≤ d) (sz : Nat) (hz : σ.1 115 10 = nI sz) (h1 : sz ≤ 100) (hlt : ∀ k, k < 6 → σ.2.1 124 k = xlet k) (hbg : ∀ k, k < 3 → σ.2.1 125 k = xbeg k) (hwd : ∀ k, k < 15 → σ.2.1 126 k = xwrd k) : ∀ (n : Nat) (r : (Int32 × Int32) × pS) (j w : Nat), j + n = 10 → r.2.1 ≤ sz → (∀ w2, Post (some (.int (bI (pOk2 sz (pCs (σ.2.1 122) sz (mCl (σ.2.1 122) (σ.2.1 123) sz) n r).2)))) (mS σ (pCs (σ.2.1 122) sz (mCl (σ.2.1 122) (σ.2.1 123) sz) n r).2 w2 (pCs (σ.2.1 122) sz (mCl (σ.2.1 122) (σ.2.1 123) sz) n r).1.1 (pCs (σ.2.1 122) sz (mCl (σ.2.1 122) (σ.2.1 123) sz) n r).1.2)) → xEv kX9_readAll (d + 1) 31 [some (.ref 115), some (.int (nI j))] [] (mS σ r.2 w r.1.1 r.1.2) Post := by
  intro n
  induction n with
  | zero =>
    intro r j w hj hs h
    refine xe_iload_n dX9_readAll_31 rfl ?_
    refine xe_bipush (v := 10) dX9_readAll_32 rfl ?_
    refine xe_icmp_ge (tgt := 66) dX9_readAll_34 (by decide) (fun h34 => ?_) (fun h34 => absurd (show (10 : Int32) ≤ nI j from nI_le (a := 10) (b := j) (by omega) (by omega)) h34)
    refine xe_aload_n dX9_readAll_66 rfl ?_
    refine xe_getf dX9_readAll_67 flX9_136 (by decide) rfl rfl ?_
    rw [mS_well]
    refine xe_if_eq (tgt := 88) dX9_readAll_70 (by decide) (fun h70 => ?_) (fun h70 => ?_)
    · refine xe_iconst (v := 0) dX9_readAll_88 rfl ?_
      refine xe_iret dX9_readAll_89 rfl (by first | rfl | decide | assumption | exact bI_nar _ | exact xb_narrow (by assumption)) ?_
      rw [pCs] at h
      have h := h w
      have e : ∀ b : Bool, pOk2 sz r.2 = b → Post (some (.int (bI b))) (mS σ r.2 w r.1.1 r.1.2) := fun b hb => hb ▸ h
      first
      | exact e true (by unfold pOk2; rw [bI_ne0.mp h70, decide_eq_true (nEq (by omega) (by omega) h81)]; rfl)
      | exact e false (by unfold pOk2; rw [decide_eq_false (fun z => h81 (by rw [z]))]; simp)
      | exact e false (by unfold pOk2; rw [bI_eq0.mp h70]; rfl)
    · refine xe_aload_n dX9_readAll_73 rfl ?_
      refine xe_getf dX9_readAll_74 flX9_139 (by decide) rfl rfl ?_
      refine xe_aload_n dX9_readAll_77 rfl ?_
      refine xe_getf dX9_readAll_78 flX9_142 (by decide) rfl rfl ?_
      rw [mS_at, mS_size, hz]
      refine xe_icmp_ne (tgt := 88) dX9_readAll_81 (by decide) (fun h81 => ?_) (fun h81 => ?_)
      · refine xe_iconst (v := 0) dX9_readAll_88 rfl ?_
        refine xe_iret dX9_readAll_89 rfl (by first | rfl | decide | assumption | exact bI_nar _ | exact xb_narrow (by assumption)) ?_
        rw [pCs] at h
        have h := h w
        have e : ∀ b : Bool, pOk2 sz r.2 = b → Post (some (.int (bI b))) (mS σ r.2 w r.1.1 r.1.2) := fun b hb => hb ▸ h
        first
        | exact e true (by unfold pOk2; rw [bI_ne0.mp h70, decide_eq_true (nEq (by omega) (by omega) h81)]; rfl)
        | exact e false (by unfold pOk2; rw [decide_eq_false (fun z => h81 (by rw [z]))]; simp)
        | exact e false (by unfold pOk2; rw [bI_eq0.mp h70]; rfl)
      · refine xe_iconst (v := 1) dX9_readAll_84 rfl ?_
        refine xe_goto (tgt := 89) dX9_readAll_85 (by decide) ?_
        refine xe_iret dX9_readAll_89 rfl (by first | rfl | decide | assumption | exact bI_nar _ | exact xb_narrow (by assumption)) ?_
        rw [pCs] at h
        have h := h w
        have e : ∀ b : Bool, pOk2 sz r.2 = b → Post (some (.int (bI b))) (mS σ r.2 w r.1.1 r.1.2) := fun b hb => hb ▸ h
        first
        | exact e true (by unfold pOk2; rw [bI_ne0.mp h70, decide_eq_true (nEq (by omega) (by omega) h81)]; rfl)
        | exact e false (by unfold pOk2; rw [decide_eq_false (fun z => h81 (by rw [z]))]; simp)
        | exact e false (by unfold pOk2; rw [bI_eq0.mp h70]; rfl)
  | succ n ih =>
    intro r j w hj hs h
    refine xe_iload_n dX9_readAll_31 rfl ?_
    refine xe_bipush (v := 10) dX9_readAll_32 rfl ?_
    refine xe_icmp_ge (tgt := 66) dX9_readAll_34 (by decide) (fun h34 => absurd h34 (show ¬ (10 : Int32) ≤ nI j from nI_ge (a := j) (b := 10) (by omega) (by omega))) (fun h34 => ?_)
    refine xe_aload_n dX9_readAll_37 rfl ?_
    refine xe_bipush (v := 59) dX9_readAll_38 rfl ?_
    refine xe_callv (k2 := kX9_isAt) (vs := [_]) dX9_readAll_40 okX9_isAt mlX9_145 imX9_isAt slX9_isAt (Or.inl ⟨9, _, _, by decide, rfl, rfl, rfl⟩) rfl rfl (Nat.le_of_ble_eq_true rfl) (Nat.le_of_ble_eq_true rfl) (sX9_isAt (by omega) 59 r.2 w r.1.1 r.1.2 sz hz h1 hs ?_)
    refine xe_if_eq (tgt := 66) dX9_readAll_43 (by decide) (fun h43 => ?_) (fun h43 => ?_)
    · refine xe_aload_n dX9_readAll_66 rfl ?_
      refine xe_getf dX9_readAll_67 flX9_136 (by decide) rfl rfl ?_
      rw [mS_well]
      refine xe_if_eq (tgt := 88) dX9_readAll_70 (by decide) (fun h70 => ?_) (fun h70 => ?_)
      · refine xe_iconst (v := 0) dX9_readAll_88 rfl ?_
        refine xe_iret dX9_readAll_89 rfl (by first | rfl | decide | assumption | exact bI_nar _ | exact xb_narrow (by assumption)) ?_
        rw [pCs, bI_eq0.mp h43, cond_false] at h
        have h := h w
        have e : ∀ b : Bool, pOk2 sz r.2 = b → Post (some (.int (bI b))) (mS σ r.2 w r.1.1 r.1.2) := fun b hb => hb ▸ h
        first
        | exact e true (by unfold pOk2; rw [bI_ne0.mp h70, decide_eq_true (nEq (by omega) (by omega) h81)]; rfl)
        | exact e false (by unfold pOk2; rw [decide_eq_false (fun z => h81 (by rw [z]))]; simp)
        | exact e false (by unfold pOk2; rw [bI_eq0.mp h70]; rfl)
      · refine xe_aload_n dX9_readAll_73 rfl ?_
        refine xe_getf dX9_readAll_74 flX9_139 (by decide) rfl rfl ?_
        refine xe_aload_n dX9_readAll_77 rfl ?_
        refine xe_getf dX9_readAll_78 flX9_142 (by decide) rfl rfl ?_
        rw [mS_at, mS_size, hz]
        refine xe_icmp_ne (tgt := 88) dX9_readAll_81 (by decide) (fun h81 => ?_) (fun h81 => ?_)
        · refine xe_iconst (v := 0) dX9_readAll_88 rfl ?_
          refine xe_iret dX9_readAll_89 rfl (by first | rfl | decide | assumption | exact bI_nar _ | exact xb_narrow (by assumption)) ?_
          rw [pCs, bI_eq0.mp h43, cond_false] at h
          have h := h w
          have e : ∀ b : Bool, pOk2 sz r.2 = b → Post (some (.int (bI b))) (mS σ r.2 w r.1.1 r.1.2) := fun b hb => hb ▸ h
          first
          | exact e true (by unfold pOk2; rw [bI_ne0.mp h70, decide_eq_true (nEq (by omega) (by omega) h81)]; rfl)
          | exact e false (by unfold pOk2; rw [decide_eq_false (fun z => h81 (by rw [z]))]; simp)
          | exact e false (by unfold pOk2; rw [bI_eq0.mp h70]; rfl)
        · refine xe_iconst (v := 1) dX9_readAll_84 rfl ?_
          refine xe_goto (tgt := 89) dX9_readAll_85 (by decide) ?_
          refine xe_iret dX9_readAll_89 rfl (by first | rfl | decide | assumption | exact bI_nar _ | exact xb_narrow (by assumption)) ?_
          rw [pCs, bI_eq0.mp h43, cond_false] at h
          have h := h w
          have e : ∀ b : Bool, pOk2 sz r.2 = b → Post (some (.int (bI b))) (mS σ r.2 w r.1.1 r.1.2) := fun b hb => hb ▸ h
          first
          | exact e true (by unfold pOk2; rw [bI_ne0.mp h70, decide_eq_true (nEq (by omega) (by omega) h81)]; rfl)
          | exact e false (by unfold pOk2; rw [decide_eq_false (fun z => h81 (by rw [z]))]; simp)
          | exact e false (by unfold pOk2; rw [bI_eq0.mp h70]; rfl)
    · refine xe_aload_n dX9_readAll_46 rfl ?_
      refine xe_dup dX9_readAll_47 rfl ?_
      refine xe_getf dX9_readAll_48 flX9_139 (by decide) rfl rfl ?_
      refine xe_iconst (v := 1) dX9_readAll_51 rfl ?_
      refine xe_iadd dX9_readAll_52 ?_
      refine xe_putf dX9_readAll_53 flX9_139 (by decide) rfl rfl rfl rfl ?_
      rw [mS_at, mS_putAt1]
      refine xe_aload_n dX9_readAll_56 rfl ?_
      refine xe_callv (k2 := kX9_clause) (vs := []) dX9_readAll_57 okX9_clause mlX9_180 imX9_clause slX9_clause (Or.inl ⟨9, _, _, by decide, rfl, rfl, rfl⟩) rfl rfl (Nat.le_of_ble_eq_true rfl) (Nat.le_of_ble_eq_true rfl) (sX9_clause (by omega) (r.2.1 + 1, r.2.2) w r.1.1 r.1.2 sz hz h1 (pAt_lt (bI_ne0.mp h43)) hlt hbg hwd (fun w2 => ?_))
      refine xn_inc (j := j) (lv2 := [_, _]) dX9_readAll_60 (by decide) rfl rfl ?_
      refine xe_goto (tgt := 31) dX9_readAll_63 (by decide) ?_
      rw [pCs, bI_ne0.mp h43, cond_true] at h
      exact ih (mCl (σ.2.1 122) (σ.2.1 123) sz r.1 (r.2.1 + 1, r.2.2)) (j + 1) w2 (by omega) (mCl_sz (pAt_lt (bI_ne0.mp h43))) h

theorem sX9_readAll {d : Nat} (hd : 19 ≤ d) {σ : xSt} {Post : Option Value → xSt → Prop} (sz : Nat) (hz : σ.1 115 10 = nI sz) (h1 : sz ≤ 100) (hlt : ∀ k, k < 6 → σ.2.1 124 k = xlet k) (hbg : ∀ k, k < 3 → σ.2.1 125 k = xbeg k) (hwd : ∀ k, k < 15 → σ.2.1 126 k = xwrd k) (h : ∀ w2, Post (some (.int (bI (pOk2 sz (mRd (σ.2.1 122) (σ.2.1 123) sz).2)))) (mS σ (mRd (σ.2.1 122) (σ.2.1 123) sz).2 w2 (mRd (σ.2.1 122) (σ.2.1 123) sz).1.1 (mRd (σ.2.1 122) (σ.2.1 123) sz).1.2)) : xM kX9_readAll d [.ref 115] σ Post := by
  obtain ⟨d, rfl⟩ : ∃ e, d = e + 1 := ⟨d - 1, by omega⟩
  refine xM_start (lv := [some (.ref 115), none]) rfl ?_
  obtain ⟨w, hw⟩ := nI_any (σ.1 115 13)
  refine xe_aload_n dX9_readAll_0 rfl ?_
  refine xe_iconst (v := 0) dX9_readAll_1 rfl ?_
  refine xe_putf dX9_readAll_2 flX9_139 (by decide) rfl rfl rfl rfl ?_
  refine xe_aload_n dX9_readAll_5 rfl ?_
  refine xe_iconst (v := 1) dX9_readAll_6 rfl ?_
  refine xe_putf dX9_readAll_7 flX9_136 (by decide) rfl rfl (by first | rfl | decide | assumption | exact bI_nar _ | exact xb_narrow (by assumption)) rfl ?_
  refine xe_aload_n dX9_readAll_10 rfl ?_
  refine xe_aload_n dX9_readAll_11 rfl ?_
  refine xe_getr dX9_readAll_12 flX9_33 (by decide) rfl rfl ?_
  refine xe_iconst (v := 4) dX9_readAll_15 rfl ?_
  refine xn_iaload dX9_readAll_16 (by decide) rfl (by first | with_reducible rfl | (simp only [xl, pk_mul, nI_add, nI_1]; done) | (simp only [xl, pk_mul, nI_add, nI_1]; rfl)) (by omega) (by decide) ?_
  refine xe_putf dX9_readAll_17 flX9_177 (by decide) rfl rfl rfl rfl ?_
  refine xe_aload_n dX9_readAll_20 rfl ?_
  refine xe_iconst (v := 5) dX9_readAll_21 rfl ?_
  refine xe_putf dX9_readAll_22 flX9_174 (by decide) rfl rfl rfl rfl ?_
  rw [mS_start (w := w) hw]
  rw [xsF_A, xsF_A]
  refine xe_iconst (v := 1) dX9_readAll_25 rfl ?_
  refine xe_istore_n (lv2 := [_, _]) dX9_readAll_26 (by decide) rfl ?_
  refine xe_aload_n dX9_readAll_27 rfl ?_
  refine xe_callv (k2 := kX9_clause) (vs := []) dX9_readAll_28 okX9_clause mlX9_180 imX9_clause slX9_clause (Or.inl ⟨9, _, _, by decide, rfl, rfl, rfl⟩) rfl rfl (Nat.le_of_ble_eq_true rfl) (Nat.le_of_ble_eq_true rfl) (sX9_clause (by omega) (0, true) w _ 5 sz hz h1 (by simp) hlt hbg hwd (fun w2 => ?_))
  exact lX9_readAll (by omega) sz hz h1 hlt hbg hwd 9 (mCl (σ.2.1 122) (σ.2.1 123) sz (σ.2.1 123 4, 5) (0, true)) 1 w2 (by omega) (mCl_sz (by simp)) h
