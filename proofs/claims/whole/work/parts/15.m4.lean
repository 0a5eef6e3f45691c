theorem sX9_isAt {d : Nat} (hd : 0 ≤ d) {σ : xSt} {Post : Option Value → xSt → Prop} (c : Int32) (s : pS) (w : Nat) (sm kp : Int32) (sz : Nat) (hz : σ.1 115 10 = nI sz) (h1 : sz ≤ 100) (hs : s.1 ≤ sz) (h : Post (some (.int (bI (pAt (σ.2.1 122) sz s c)))) (mS σ s w sm kp)) : xM kX9_isAt d [.ref 115, .int c] (mS σ s w sm kp) Post := by
  refine xM_start (lv := [some (.ref 115), some (.int c)]) rfl ?_
  refine xe_aload_n dX9_isAt_0 rfl ?_
  refine xe_getf dX9_isAt_1 flX9_136 (by decide) rfl rfl ?_
  rw [mS_well]
  refine xe_if_eq (tgt := 35) dX9_isAt_4 (by decide) (fun h4 => ?_) (fun h4 => ?_)
  · refine xe_iconst (v := 0) dX9_isAt_35 rfl ?_
    refine xe_iret dX9_isAt_36 rfl (by first | rfl | decide | assumption | exact xb_narrow (by assumption)) ?_
    have e : ∀ b : Bool, pAt (σ.2.1 122) sz s c = b → Post (some (.int (bI b))) (mS σ s w sm kp) := fun b hb => hb ▸ h
    first
    | exact e true (by unfold pAt; rw [bI_ne0.mp h4, decide_eq_true (nNle (a := sz) (b := s.1) (by omega) (by omega) h15), decide_eq_true h28]; rfl)
    | exact e false (by unfold pAt; rw [decide_eq_false h28]; simp)
    | exact e false (by unfold pAt; rw [decide_eq_false (show ¬ s.1 < sz from Nat.not_lt.mpr (nLe (a := sz) (b := s.1) (by omega) (by omega) h15))]; simp)
    | exact e false (by unfold pAt; rw [bI_eq0.mp h4]; rfl)
  · refine xe_aload_n dX9_isAt_7 rfl ?_
    refine xe_getf dX9_isAt_8 flX9_139 (by decide) rfl rfl ?_
    refine xe_aload_n dX9_isAt_11 rfl ?_
    refine xe_getf dX9_isAt_12 flX9_142 (by decide) rfl rfl ?_
    rw [mS_at, mS_size, hz]
    refine xe_icmp_ge (tgt := 35) dX9_isAt_15 (by decide) (fun h15 => ?_) (fun h15 => ?_)
    · refine xe_iconst (v := 0) dX9_isAt_35 rfl ?_
      refine xe_iret dX9_isAt_36 rfl (by first | rfl | decide | assumption | exact xb_narrow (by assumption)) ?_
      have e : ∀ b : Bool, pAt (σ.2.1 122) sz s c = b → Post (some (.int (bI b))) (mS σ s w sm kp) := fun b hb => hb ▸ h
      first
      | exact e true (by unfold pAt; rw [bI_ne0.mp h4, decide_eq_true (nNle (a := sz) (b := s.1) (by omega) (by omega) h15), decide_eq_true h28]; rfl)
      | exact e false (by unfold pAt; rw [decide_eq_false h28]; simp)
      | exact e false (by unfold pAt; rw [decide_eq_false (show ¬ s.1 < sz from Nat.not_lt.mpr (nLe (a := sz) (b := s.1) (by omega) (by omega) h15))]; simp)
      | exact e false (by unfold pAt; rw [bI_eq0.mp h4]; rfl)
    · refine xe_aload_n dX9_isAt_18 rfl ?_
      refine xe_getr dX9_isAt_19 flX9_30 (by decide) rfl rfl ?_
      refine xe_aload_n dX9_isAt_22 rfl ?_
      refine xe_getf dX9_isAt_23 flX9_139 (by decide) rfl rfl ?_
      rw [mS_at]
      refine xn_iaload (j := s.1) dX9_isAt_26 (by decide) rfl rfl (by have := nNle (a := sz) (b := s.1) (by omega) (by omega) h15; omega) (by decide) ?_
      rw [mS_A]
      refine xe_iload_n dX9_isAt_27 rfl ?_
      refine xe_icmp_ne (tgt := 35) dX9_isAt_28 (by decide) (fun h28 => ?_) (fun h28 => ?_)
      · refine xe_iconst (v := 0) dX9_isAt_35 rfl ?_
        refine xe_iret dX9_isAt_36 rfl (by first | rfl | decide | assumption | exact xb_narrow (by assumption)) ?_
        have e : ∀ b : Bool, pAt (σ.2.1 122) sz s c = b → Post (some (.int (bI b))) (mS σ s w sm kp) := fun b hb => hb ▸ h
        first
        | exact e true (by unfold pAt; rw [bI_ne0.mp h4, decide_eq_true (nNle (a := sz) (b := s.1) (by omega) (by omega) h15), decide_eq_true h28]; rfl)
        | exact e false (by unfold pAt; rw [decide_eq_false h28]; simp)
        | exact e false (by unfold pAt; rw [decide_eq_false (show ¬ s.1 < sz from Nat.not_lt.mpr (nLe (a := sz) (b := s.1) (by omega) (by omega) h15))]; simp)
        | exact e false (by unfold pAt; rw [bI_eq0.mp h4]; rfl)
      · refine xe_iconst (v := 1) dX9_isAt_31 rfl ?_
        refine xe_goto (tgt := 36) dX9_isAt_32 (by decide) ?_
        refine xe_iret dX9_isAt_36 rfl (by first | rfl | decide | assumption | exact xb_narrow (by assumption)) ?_
        have e : ∀ b : Bool, pAt (σ.2.1 122) sz s c = b → Post (some (.int (bI b))) (mS σ s w sm kp) := fun b hb => hb ▸ h
        first
        | exact e true (by unfold pAt; rw [bI_ne0.mp h4, decide_eq_true (nNle (a := sz) (b := s.1) (by omega) (by omega) h15), decide_eq_true h28]; rfl)
        | exact e false (by unfold pAt; rw [decide_eq_false h28]; simp)
        | exact e false (by unfold pAt; rw [decide_eq_false (show ¬ s.1 < sz from Nat.not_lt.mpr (nLe (a := sz) (b := s.1) (by omega) (by omega) h15))]; simp)
        | exact e false (by unfold pAt; rw [bI_eq0.mp h4]; rfl)

theorem sX9_takes {d : Nat} (hd : 1 ≤ d) {σ : xSt} {Post : Option Value → xSt → Prop} (c : Int32) (s : pS) (w : Nat) (sm kp : Int32) (sz : Nat) (hz : σ.1 115 10 = nI sz) (h1 : sz ≤ 100) (hs : s.1 ≤ sz) (h : Post none (mS σ (pTk (σ.2.1 122) sz s c) w sm kp)) : xM kX9_takes d [.ref 115, .int c] (mS σ s w sm kp) Post := by
  obtain ⟨d, rfl⟩ : ∃ e, d = e + 1 := ⟨d - 1, by omega⟩
  refine xM_start (lv := [some (.ref 115), some (.int c)]) rfl ?_
  refine xe_aload_n dX9_takes_0 rfl ?_
  refine xe_iload_n dX9_takes_1 rfl ?_
  refine xe_callv (k2 := kX9_isAt) (vs := [_]) dX9_takes_2 okX9_isAt mlX9_145 imX9_isAt slX9_isAt (Or.inl ⟨9, _, _, by decide, rfl, rfl, rfl⟩) rfl rfl (Nat.le_of_ble_eq_true rfl) (Nat.le_of_ble_eq_true rfl) (sX9_isAt (by omega) c s w sm kp sz hz h1 hs ?_)
  refine xe_if_eq (tgt := 21) dX9_takes_5 (by decide) (fun h5 => ?_) (fun h5 => ?_)
  · refine xe_aload_n dX9_takes_21 rfl ?_
    refine xe_iconst (v := 0) dX9_takes_22 rfl ?_
    refine xe_putf dX9_takes_23 flX9_136 (by decide) rfl rfl rfl rfl ?_
    rw [mS_putBad]
    refine xe_vret dX9_takes_26 rfl ?_
    first
    | (rw [pTk, bI_eq0.mp h5, cond_false] at h; exact h)
    | (rw [pTk, bI_ne0.mp h5, cond_true] at h; exact h)
  · refine xe_aload_n dX9_takes_8 rfl ?_
    refine xe_dup dX9_takes_9 rfl ?_
    refine xe_getf dX9_takes_10 flX9_139 (by decide) rfl rfl ?_
    refine xe_iconst (v := 1) dX9_takes_13 rfl ?_
    refine xe_iadd dX9_takes_14 ?_
    refine xe_putf dX9_takes_15 flX9_139 (by decide) rfl rfl rfl rfl ?_
    rw [mS_at, mS_putAt1]
    refine xe_goto (tgt := 26) dX9_takes_18 (by decide) ?_
    refine xe_vret dX9_takes_26 rfl ?_
    first
    | (rw [pTk, bI_eq0.mp h5, cond_false] at h; exact h)
    | (rw [pTk, bI_ne0.mp h5, cond_true] at h; exact h)

theorem sX9_isDigit {d : Nat} (hd : 0 ≤ d) {σ : xSt} {Post : Option Value → xSt → Prop} (s : pS) (w : Nat) (sm kp : Int32) (sz : Nat) (hz : σ.1 115 10 = nI sz) (h1 : sz ≤ 100) (hs : s.1 ≤ sz) (h : Post (some (.int (bI (pDg (σ.2.1 122) sz s)))) (mS σ s w sm kp)) : xM kX9_isDigit d [.ref 115] (mS σ s w sm kp) Post := by
  refine xM_start (lv := [some (.ref 115)]) rfl ?_
  refine xe_aload_n dX9_isDigit_0 rfl ?_
  refine xe_getf dX9_isDigit_1 flX9_136 (by decide) rfl rfl ?_
  rw [mS_well]
  refine xe_if_eq (tgt := 50) dX9_isDigit_4 (by decide) (fun h4 => ?_) (fun h4 => ?_)
  · refine xe_iconst (v := 0) dX9_isDigit_50 rfl ?_
    refine xe_iret dX9_isDigit_51 rfl (by first | rfl | decide | assumption | exact xb_narrow (by assumption)) ?_
    have e : ∀ b : Bool, pDg (σ.2.1 122) sz s = b → Post (some (.int (bI b))) (mS σ s w sm kp) := fun b hb => hb ▸ h
    first
    | exact e true (by unfold pDg; rw [bI_ne0.mp h4, decide_eq_true (nNle (a := sz) (b := s.1) (by omega) (by omega) h15), decide_eq_true (Int32.not_lt.mp h29), decide_eq_true (Int32.not_lt.mp h43)]; rfl)
    | exact e false (by unfold pDg; rw [decide_eq_false (Int32.not_le.mpr h43)]; simp)
    | exact e false (by unfold pDg; rw [decide_eq_false (Int32.not_le.mpr h29)]; simp)
    | exact e false (by unfold pDg; rw [decide_eq_false (show ¬ s.1 < sz from Nat.not_lt.mpr (nLe (a := sz) (b := s.1) (by omega) (by omega) h15))]; simp)
    | exact e false (by unfold pDg; rw [bI_eq0.mp h4]; rfl)
  · refine xe_aload_n dX9_isDigit_7 rfl ?_
    refine xe_getf dX9_isDigit_8 flX9_139 (by decide) rfl rfl ?_
    refine xe_aload_n dX9_isDigit_11 rfl ?_
    refine xe_getf dX9_isDigit_12 flX9_142 (by decide) rfl rfl ?_
    rw [mS_at, mS_size, hz]
    refine xe_icmp_ge (tgt := 50) dX9_isDigit_15 (by decide) (fun h15 => ?_) (fun h15 => ?_)
    · refine xe_iconst (v := 0) dX9_isDigit_50 rfl ?_
      refine xe_iret dX9_isDigit_51 rfl (by first | rfl | decide | assumption | exact xb_narrow (by assumption)) ?_
      have e : ∀ b : Bool, pDg (σ.2.1 122) sz s = b → Post (some (.int (bI b))) (mS σ s w sm kp) := fun b hb => hb ▸ h
      first
      | exact e true (by unfold pDg; rw [bI_ne0.mp h4, decide_eq_true (nNle (a := sz) (b := s.1) (by omega) (by omega) h15), decide_eq_true (Int32.not_lt.mp h29), decide_eq_true (Int32.not_lt.mp h43)]; rfl)
      | exact e false (by unfold pDg; rw [decide_eq_false (Int32.not_le.mpr h43)]; simp)
      | exact e false (by unfold pDg; rw [decide_eq_false (Int32.not_le.mpr h29)]; simp)
      | exact e false (by unfold pDg; rw [decide_eq_false (show ¬ s.1 < sz from Nat.not_lt.mpr (nLe (a := sz) (b := s.1) (by omega) (by omega) h15))]; simp)
      | exact e false (by unfold pDg; rw [bI_eq0.mp h4]; rfl)
    · refine xe_aload_n dX9_isDigit_18 rfl ?_
      refine xe_getr dX9_isDigit_19 flX9_30 (by decide) rfl rfl ?_
      refine xe_aload_n dX9_isDigit_22 rfl ?_
      refine xe_getf dX9_isDigit_23 flX9_139 (by decide) rfl rfl ?_
      rw [mS_at]
      refine xn_iaload (j := s.1) dX9_isDigit_26 (by decide) rfl rfl (by have := nNle (a := sz) (b := s.1) (by omega) (by omega) h15; omega) (by decide) ?_
      rw [mS_A]
      refine xe_bipush (v := 48) dX9_isDigit_27 rfl ?_
      refine xe_icmp_lt (tgt := 50) dX9_isDigit_29 (by decide) (fun h29 => ?_) (fun h29 => ?_)
      · refine xe_iconst (v := 0) dX9_isDigit_50 rfl ?_
        refine xe_iret dX9_isDigit_51 rfl (by first | rfl | decide | assumption | exact xb_narrow (by assumption)) ?_
        have e : ∀ b : Bool, pDg (σ.2.1 122) sz s = b → Post (some (.int (bI b))) (mS σ s w sm kp) := fun b hb => hb ▸ h
        first
        | exact e true (by unfold pDg; rw [bI_ne0.mp h4, decide_eq_true (nNle (a := sz) (b := s.1) (by omega) (by omega) h15), decide_eq_true (Int32.not_lt.mp h29), decide_eq_true (Int32.not_lt.mp h43)]; rfl)
        | exact e false (by unfold pDg; rw [decide_eq_false (Int32.not_le.mpr h43)]; simp)
        | exact e false (by unfold pDg; rw [decide_eq_false (Int32.not_le.mpr h29)]; simp)
        | exact e false (by unfold pDg; rw [decide_eq_false (show ¬ s.1 < sz from Nat.not_lt.mpr (nLe (a := sz) (b := s.1) (by omega) (by omega) h15))]; simp)
        | exact e false (by unfold pDg; rw [bI_eq0.mp h4]; rfl)
      · refine xe_aload_n dX9_isDigit_32 rfl ?_
        refine xe_getr dX9_isDigit_33 flX9_30 (by decide) rfl rfl ?_
        refine xe_aload_n dX9_isDigit_36 rfl ?_
        refine xe_getf dX9_isDigit_37 flX9_139 (by decide) rfl rfl ?_
        rw [mS_at]
        refine xn_iaload (j := s.1) dX9_isDigit_40 (by decide) rfl rfl (by have := nNle (a := sz) (b := s.1) (by omega) (by omega) h15; omega) (by decide) ?_
        rw [mS_A]
        refine xe_bipush (v := 57) dX9_isDigit_41 rfl ?_
        refine xe_icmp_gt (tgt := 50) dX9_isDigit_43 (by decide) (fun h43 => ?_) (fun h43 => ?_)
        · refine xe_iconst (v := 0) dX9_isDigit_50 rfl ?_
          refine xe_iret dX9_isDigit_51 rfl (by first | rfl | decide | assumption | exact xb_narrow (by assumption)) ?_
          have e : ∀ b : Bool, pDg (σ.2.1 122) sz s = b → Post (some (.int (bI b))) (mS σ s w sm kp) := fun b hb => hb ▸ h
          first
          | exact e true (by unfold pDg; rw [bI_ne0.mp h4, decide_eq_true (nNle (a := sz) (b := s.1) (by omega) (by omega) h15), decide_eq_true (Int32.not_lt.mp h29), decide_eq_true (Int32.not_lt.mp h43)]; rfl)
          | exact e false (by unfold pDg; rw [decide_eq_false (Int32.not_le.mpr h43)]; simp)
          | exact e false (by unfold pDg; rw [decide_eq_false (Int32.not_le.mpr h29)]; simp)
          | exact e false (by unfold pDg; rw [decide_eq_false (show ¬ s.1 < sz from Nat.not_lt.mpr (nLe (a := sz) (b := s.1) (by omega) (by omega) h15))]; simp)
          | exact e false (by unfold pDg; rw [bI_eq0.mp h4]; rfl)
        · refine xe_iconst (v := 1) dX9_isDigit_46 rfl ?_
          refine xe_goto (tgt := 51) dX9_isDigit_47 (by decide) ?_
          refine xe_iret dX9_isDigit_51 rfl (by first | rfl | decide | assumption | exact xb_narrow (by assumption)) ?_
          have e : ∀ b : Bool, pDg (σ.2.1 122) sz s = b → Post (some (.int (bI b))) (mS σ s w sm kp) := fun b hb => hb ▸ h
          first
          | exact e true (by unfold pDg; rw [bI_ne0.mp h4, decide_eq_true (nNle (a := sz) (b := s.1) (by omega) (by omega) h15), decide_eq_true (Int32.not_lt.mp h29), decide_eq_true (Int32.not_lt.mp h43)]; rfl)
          | exact e false (by unfold pDg; rw [decide_eq_false (Int32.not_le.mpr h43)]; simp)
          | exact e false (by unfold pDg; rw [decide_eq_false (Int32.not_le.mpr h29)]; simp)
          | exact e false (by unfold pDg; rw [decide_eq_false (show ¬ s.1 < sz from Nat.not_lt.mpr (nLe (a := sz) (b := s.1) (by omega) (by omega) h15))]; simp)
          | exact e false (by unfold pDg; rw [bI_eq0.mp h4]; rfl)

theorem sX9_number {d : Nat} (hd : 1 ≤ d) {σ : xSt} {Post : Option Value → xSt → Prop} (s : pS) (w : Nat) (sm kp : Int32) (sz : Nat) (hz : σ.1 115 10 = nI sz) (h1 : sz ≤ 100) (hs : s.1 ≤ sz) (h : Post (some (.int (pNm (σ.2.1 122) sz s).1)) (mS σ (pNm (σ.2.1 122) sz s).2 w sm kp)) : xM kX9_number d [.ref 115] (mS σ s w sm kp) Post := by
  obtain ⟨d, rfl⟩ : ∃ e, d = e + 1 := ⟨d - 1, by omega⟩
  refine xM_start (lv := [some (.ref 115), none]) rfl ?_
  refine xe_aload_n dX9_number_0 rfl ?_
  refine xe_callv (k2 := kX9_isDigit) (vs := []) dX9_number_1 okX9_isDigit mlX9_148 imX9_isDigit slX9_isDigit (Or.inl ⟨9, _, _, by decide, rfl, rfl, rfl⟩) rfl rfl (Nat.le_of_ble_eq_true rfl) (Nat.le_of_ble_eq_true rfl) (sX9_isDigit (by omega) s w sm kp sz hz h1 hs ?_)
  refine xe_if_ne (tgt := 14) dX9_number_4 (by decide) (fun h4 => ?_) (fun h4 => ?_)
  · refine xe_aload_n dX9_number_14 rfl ?_
    refine xe_getr dX9_number_15 flX9_30 (by decide) rfl rfl ?_
    refine xe_aload_n dX9_number_18 rfl ?_
    refine xe_getf dX9_number_19 flX9_139 (by decide) rfl rfl ?_
    rw [mS_at]
    refine xn_iaload (j := s.1) dX9_number_22 (by decide) rfl rfl (by have := pDg_lt (bI_ne0.mp h4); omega) (by decide) ?_
    rw [mS_A]
    refine xe_bipush (v := 48) dX9_number_23 rfl ?_
    refine xe_isub dX9_number_25 ?_
    refine xe_istore_n (lv2 := [_, _]) dX9_number_26 (by decide) rfl ?_
    refine xe_aload_n dX9_number_27 rfl ?_
    refine xe_dup dX9_number_28 rfl ?_
    refine xe_getf dX9_number_29 flX9_139 (by decide) rfl rfl ?_
    refine xe_iconst (v := 1) dX9_number_32 rfl ?_
    refine xe_iadd dX9_number_33 ?_
    refine xe_putf dX9_number_34 flX9_139 (by decide) rfl rfl rfl rfl ?_
    rw [mS_at, mS_putAt1]
    refine xe_aload_n dX9_number_37 rfl ?_
    refine xe_callv (k2 := kX9_isDigit) (vs := []) dX9_number_38 okX9_isDigit mlX9_148 imX9_isDigit slX9_isDigit (Or.inl ⟨9, _, _, by decide, rfl, rfl, rfl⟩) rfl rfl (Nat.le_of_ble_eq_true rfl) (Nat.le_of_ble_eq_true rfl) (sX9_isDigit (by omega) (s.1 + 1, s.2) w sm kp sz hz h1 (pDg_lt (bI_ne0.mp h4)) ?_)
    refine xe_if_eq (tgt := 72) dX9_number_41 (by decide) (fun h41 => ?_) (fun h41 => ?_)
    · refine xe_iload_n dX9_number_72 rfl ?_
      refine xe_iret dX9_number_73 rfl rfl ?_
      first
      | (rw [pNm, bI_ne0.mp h4, cond_true, bI_eq0.mp h41, cond_false] at h; exact h)
      | (rw [pNm, bI_ne0.mp h4, cond_true, bI_ne0.mp h41, cond_true] at h; exact h)
    · refine xe_bipush (v := 10) dX9_number_44 rfl ?_
      refine xe_iload_n dX9_number_46 rfl ?_
      refine xe_imul dX9_number_47 ?_
      refine xe_aload_n dX9_number_48 rfl ?_
      refine xe_getr dX9_number_49 flX9_30 (by decide) rfl rfl ?_
      refine xe_aload_n dX9_number_52 rfl ?_
      refine xe_getf dX9_number_53 flX9_139 (by decide) rfl rfl ?_
      rw [mS_at]
      refine xn_iaload (j := s.1 + 1) dX9_number_56 (by decide) rfl rfl (by have := pDg_lt (bI_ne0.mp h41); simp at this; omega) (by decide) ?_
      rw [mS_A]
      refine xe_iadd dX9_number_57 ?_
      refine xe_bipush (v := 48) dX9_number_58 rfl ?_
      refine xe_isub dX9_number_60 ?_
      refine xe_istore_n (lv2 := [_, _]) dX9_number_61 (by decide) rfl ?_
      refine xe_aload_n dX9_number_62 rfl ?_
      refine xe_dup dX9_number_63 rfl ?_
      refine xe_getf dX9_number_64 flX9_139 (by decide) rfl rfl ?_
      refine xe_iconst (v := 1) dX9_number_67 rfl ?_
      refine xe_iadd dX9_number_68 ?_
      rw [mS_at]
      refine xe_putf dX9_number_69 flX9_139 (by decide) rfl rfl rfl rfl ?_
      rw [mS_putAt1]
      refine xe_iload_n dX9_number_72 rfl ?_
      refine xe_iret dX9_number_73 rfl rfl ?_
      first
      | (rw [pNm, bI_ne0.mp h4, cond_true, bI_eq0.mp h41, cond_false] at h; exact h)
      | (rw [pNm, bI_ne0.mp h4, cond_true, bI_ne0.mp h41, cond_true] at h; exact h)
  · refine xe_aload_n dX9_number_7 rfl ?_
    refine xe_iconst (v := 0) dX9_number_8 rfl ?_
    refine xe_putf dX9_number_9 flX9_136 (by decide) rfl rfl (by first | rfl | decide | assumption | exact xb_narrow (by assumption)) rfl ?_
    rw [mS_putBad]
    refine xe_iconst (v := 0) dX9_number_12 rfl ?_
    refine xe_iret dX9_number_13 rfl rfl ?_
    rw [pNm, bI_eq0.mp h4, cond_false] at h; exact h
