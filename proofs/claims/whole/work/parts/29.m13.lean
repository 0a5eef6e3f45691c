theorem sX9_spoon {d : Nat} (hd : 23 ≤ d) {σ : xSt} {Post : Option Value → xSt → Prop} (n : Nat) (hn : σ.2.1 116 54 = nI n) (h6 : n ≤ 6) (p f : Int32) (hM : MCo σ) (hR : RUo σ) (h : ∀ σ2, KM (xsA σ 116 (spoonG (σ.2.1 116) p f)) σ2 → Post (some (.int (spoonV (mSem σ) (σ.2.1 116) p f))) σ2) : xM kX9_spoon d [.ref 115, .int p, .int f] σ Post := by
  obtain ⟨d, rfl⟩ : ∃ e, d = e + 1 := ⟨d - 1, by omega⟩
  refine xM_start (lv := [some (.ref 115), some (.int p), some (.int f), none]) rfl ?_
  refine xe_aload_n dX9_spoon_0 rfl ?_
  refine xe_iload_n dX9_spoon_1 rfl ?_
  refine xe_callv (k2 := kX9_isPot) (vs := [_]) dX9_spoon_2 okX9_isPot mlX9_101 imX9_isPot slX9_isPot (Or.inl ⟨9, _, _, by decide, rfl, rfl, rfl⟩) rfl rfl (Nat.le_of_ble_eq_true rfl) (Nat.le_of_ble_eq_true rfl) (tX9_isPot (by omega) _ n hn h6 (fun r2 hr2 => ?_))
  refine xe_if_eq (tgt := 15) dX9_spoon_5 (by decide) (fun h5 => ?_) (fun h5 => ?_)
  · refine xe_sipush (v := -10001) dX9_spoon_15 rfl ?_
    refine xe_iret dX9_spoon_18 rfl rfl ?_
    have c : ¬ (pOk (σ.2.1 116 54) p ∧ rng f 0 7) := by first | exact fun z => (xb_eq0 hr2).mp h5 (hn ▸ z.1) | exact fun z => (xb_eq0 hr9).mp h12 z.2
    have e := h σ
    rw [spoonG, spoonV, if_neg c, if_neg c, xsA_self] at e
    exact e KM.rf
  · refine xe_iload_n dX9_spoon_8 rfl ?_
    refine xe_calls (k2 := kX9_isFact) (vs := [_]) dX9_spoon_9 okX9_isFact mlX9_108 stX9_isFact rfl rfl (Nat.le_of_ble_eq_true rfl) (Nat.le_of_ble_eq_true rfl) (sX9_isFact (by omega) _ (fun r9 hr9 => ?_))
    refine xe_if_ne (tgt := 19) dX9_spoon_12 (by decide) (fun h12 => ?_) (fun h12 => ?_)
    · have cp := (xb_ne0 hr2).mp h5
      have cf := (xb_ne0 hr9).mp h12
      obtain ⟨i, hi, rfl⟩ := pOk_nat (by omega) cp
      have ei : cN (nI i) = i := cN_nI (by omega)
      obtain ⟨u, hu, rfl⟩ := rng_nat (m := 7) (by omega) cf
      have eu : cN (nI u) = u := cN_nI (by omega)
      refine xe_aload_n dX9_spoon_19 rfl ?_
      refine xe_iload_n dX9_spoon_20 rfl ?_
      refine xe_iload_n dX9_spoon_21 rfl ?_
      refine xe_aload_n dX9_spoon_22 rfl ?_
      refine xe_getr dX9_spoon_23 flX9_9 (by decide) rfl rfl ?_
      refine xe_bipush (v := 55) dX9_spoon_26 rfl ?_
      refine xn_iaload dX9_spoon_28 (by decide) rfl (by first | with_reducible rfl | (simp only [xl, pk_mul, nI_add, nI_1]; done) | (simp only [xl, pk_mul, nI_add, nI_1]; rfl)) (by omega) (by decide) ?_
      refine xe_callv (k2 := kX9_says) (vs := [_, _, _]) dX9_spoon_29 okX9_says mlX9_114 imX9_says slX9_says (Or.inl ⟨9, _, _, by decide, rfl, rfl, rfl⟩) rfl rfl (Nat.le_of_ble_eq_true rfl) (Nat.le_of_ble_eq_true rfl) (sX9_says (by omega) i u _ (by omega) (by omega) hM hR (fun σ2 k2 => ?_))
      refine xe_istore_n (lv2 := [_, _, _, _]) dX9_spoon_32 (by decide) rfl ?_
      refine xe_aload_n dX9_spoon_33 rfl ?_
      refine xe_iload_n dX9_spoon_34 rfl ?_
      refine xe_callv (k2 := kX9_opens) (vs := [_]) dX9_spoon_35 okX9_opens mlX9_128 imX9_opens slX9_opens (Or.inl ⟨9, _, _, by decide, rfl, rfl, rfl⟩) rfl rfl (Nat.le_of_ble_eq_true rfl) (Nat.le_of_ble_eq_true rfl) (sX9_opens (by omega) i (by omega) ?_)
      refine xe_iload_n dX9_spoon_38 rfl ?_
      refine xe_iret dX9_spoon_39 rfl rfl ?_
      have c : pOk (σ.2.1 116 54) (nI i) ∧ rng (nI u) 0 7 := ⟨hn ▸ cp, cf⟩
      have hG : σ2.2.1 116 = σ.2.1 116 := k2.1 116 (by omega)
      have e := h (xsA σ2 116 (opG (σ2.2.1 116) i))
      rw [spoonG, spoonV, if_pos c, if_pos c, ei, eu] at e
      refine e ?_
      rw [hG]
      exact k2.set (by omega)
    · refine xe_sipush (v := -10001) dX9_spoon_15 rfl ?_
      refine xe_iret dX9_spoon_18 rfl rfl ?_
      have c : ¬ (pOk (σ.2.1 116 54) p ∧ rng f 0 7) := by first | exact fun z => (xb_eq0 hr2).mp h5 (hn ▸ z.1) | exact fun z => (xb_eq0 hr9).mp h12 z.2
      have e := h σ
      rw [spoonG, spoonV, if_neg c, if_neg c, xsA_self] at e
      exact e KM.rf

theorem sX9_pass {d : Nat} (hd : 24 ≤ d) {σ : xSt} {Post : Option Value → xSt → Prop} (n : Nat) (hn : σ.2.1 116 54 = nI n) (h6 : n ≤ 6) (m : Int32) (hM : MCo σ) (hR : RUo σ) (h : ∀ σ2, KM (xsA σ 116 (passG (kpM σ) n (σ.2.1 116) m)) σ2 → Post (some (.int (passV (σ.2.1 116) m))) σ2) : xM kX9_pass d [.ref 115, .int m] σ Post := by
  obtain ⟨d, rfl⟩ : ∃ e, d = e + 1 := ⟨d - 1, by omega⟩
  refine xM_start (lv := [some (.ref 115), some (.int m)]) rfl ?_
  refine xe_iload_n dX9_pass_0 rfl ?_
  refine xe_iconst (v := 0) dX9_pass_1 rfl ?_
  refine xe_bipush (v := 60) dX9_pass_2 rfl ?_
  refine xe_calls (k2 := kX9_isIn) (vs := [_, _, _]) dX9_pass_4 okX9_isIn mlX9_89 stX9_isIn rfl rfl (Nat.le_of_ble_eq_true rfl) (Nat.le_of_ble_eq_true rfl) (sX9_isIn (by omega) _ _ _ (fun r4 hr4 => ?_))
  refine xe_if_ne (tgt := 13) dX9_pass_7 (by decide) (fun h7 => ?_) (fun h7 => ?_)
  · have cm := (xb_ne0 hr4).mp h7
    obtain ⟨j, hj, rfl⟩ := rng_nat (m := 60) (by omega) cm
    have ej : cN (nI j) = j := cN_nI (by omega)
    refine xe_aload_n dX9_pass_13 rfl ?_
    refine xe_getr dX9_pass_14 flX9_9 (by decide) rfl rfl ?_
    refine xe_bipush (v := 56) dX9_pass_17 rfl ?_
    refine xn_iaload dX9_pass_19 (by decide) rfl (by first | with_reducible rfl | (simp only [xl, pk_mul, nI_add, nI_1]; done) | (simp only [xl, pk_mul, nI_add, nI_1]; rfl)) (by omega) (by decide) ?_
    refine xe_iload_n dX9_pass_20 rfl ?_
    refine xe_iadd dX9_pass_21 ?_
    refine xe_sipush (v := 9999) dX9_pass_22 rfl ?_
    refine xe_icmp_le (tgt := 31) dX9_pass_25 (by decide) (fun h25 => ?_) (fun h25 => ?_)
    · refine xe_aload_n dX9_pass_31 rfl ?_
      refine xe_iload_n dX9_pass_32 rfl ?_
      refine xe_callv (k2 := kX9_terms) (vs := [_]) dX9_pass_33 okX9_terms mlX9_222 imX9_terms slX9_terms (Or.inl ⟨9, _, _, by decide, rfl, rfl, rfl⟩) rfl rfl (Nat.le_of_ble_eq_true rfl) (Nat.le_of_ble_eq_true rfl) (sX9_terms (by omega) n hn h6 j hj hM hR (fun σ2 k2 => ?_))
      refine xe_aload_n dX9_pass_36 rfl ?_
      refine xe_getr dX9_pass_37 flX9_9 (by decide) rfl rfl ?_
      refine xe_bipush (v := 56) dX9_pass_40 rfl ?_
      refine xn_iaload dX9_pass_42 (by decide) rfl (by first | with_reducible rfl | (simp only [xl, pk_mul, nI_add, nI_1]; done) | (simp only [xl, pk_mul, nI_add, nI_1]; rfl)) (by omega) (by decide) ?_
      rw [k2.1 116 (by omega), xsA_get, tkGs_56]
      refine xe_iret dX9_pass_43 rfl rfl ?_
      have e := h σ2
      rw [passG, passV, if_pos cm, if_pos h25, if_pos ⟨cm, h25⟩, ej] at e
      exact e k2
    · refine xe_bipush (v := -3) dX9_pass_28 rfl ?_
      refine xe_iret dX9_pass_30 rfl rfl ?_
      have e := h σ
      rw [passG, passV, if_pos cm, if_neg h25, if_neg (fun z => h25 z.2), xsA_self] at e
      exact e KM.rf
  · refine xe_bipush (v := -2) dX9_pass_10 rfl ?_
    refine xe_iret dX9_pass_12 rfl rfl ?_
    have c := (xb_eq0 hr4).mp h7
    have e := h σ
    rw [passG, passV, if_neg c, if_neg (fun z => c z.1), xsA_self] at e
    exact e KM.rf

theorem sX9_hear {d : Nat} (hd : 2 ≤ d) {σ : xSt} {Post : Option Value → xSt → Prop} (n : Nat) (hn : σ.2.1 116 54 = nI n) (h6 : n ≤ 6) (a : Nat) (p f s : Int32) (ha : σ.2.1 116 58 = nI a) (ha6 : a ≤ 6) (h : Post (some (.int (hearV (σ.2.1 116) p f s))) (xsA σ 116 (hearG (σ.2.1 116) p f s))) : xM kX9_hear d [.ref 115, .int p, .int f, .int s] σ Post := by
  obtain ⟨d, rfl⟩ : ∃ e, d = e + 1 := ⟨d - 1, by omega⟩
  refine xM_start (lv := [some (.ref 115), some (.int p), some (.int f), some (.int s), none]) rfl ?_
  refine xe_iload_n dX9_hear_0 rfl ?_
  refine xe_iconst (v := -1) dX9_hear_1 rfl ?_
  refine xe_icmp_ne (tgt := 15) dX9_hear_2 (by decide) (fun h2 => ?_) (fun h2 => ?_)
  · refine xe_aload_n dX9_hear_15 rfl ?_
    refine xe_iload_n dX9_hear_16 rfl ?_
    refine xe_callv (k2 := kX9_isPot) (vs := [_]) dX9_hear_17 okX9_isPot mlX9_101 imX9_isPot slX9_isPot (Or.inl ⟨9, _, _, by decide, rfl, rfl, rfl⟩) rfl rfl (Nat.le_of_ble_eq_true rfl) (Nat.le_of_ble_eq_true rfl) (tX9_isPot (by omega) _ n hn h6 (fun r17 hr17 => ?_))
    refine xe_if_eq (tgt := 30) dX9_hear_20 (by decide) (fun h20 => ?_) (fun h20 => ?_)
    · refine xe_iconst (v := -1) dX9_hear_30 rfl ?_
      refine xe_iret dX9_hear_31 rfl rfl ?_
      have c : ¬ (pOk (σ.2.1 116 54) p ∧ rng f 0 7) := by first | exact fun z => (xb_eq0 hr17).mp h20 (hn ▸ z.1) | exact fun z => (xb_eq0 hr24).mp h27 z.2
      rw [hearV, hearG, if_neg h2, if_neg h2, if_neg c, if_neg (fun z => c z.1), xsA_self] at h; exact h
    · refine xe_iload_n dX9_hear_23 rfl ?_
      refine xe_calls (k2 := kX9_isFact) (vs := [_]) dX9_hear_24 okX9_isFact mlX9_108 stX9_isFact rfl rfl (Nat.le_of_ble_eq_true rfl) (Nat.le_of_ble_eq_true rfl) (sX9_isFact (by omega) _ (fun r24 hr24 => ?_))
      refine xe_if_ne (tgt := 32) dX9_hear_27 (by decide) (fun h27 => ?_) (fun h27 => ?_)
      · refine xe_iload_n dX9_hear_32 rfl ?_
        refine xe_iconst (v := -1) dX9_hear_33 rfl ?_
        refine xe_iconst (v := 1) dX9_hear_34 rfl ?_
        refine xe_calls (k2 := kX9_isIn) (vs := [_, _, _]) dX9_hear_35 okX9_isIn mlX9_89 stX9_isIn rfl rfl (Nat.le_of_ble_eq_true rfl) (Nat.le_of_ble_eq_true rfl) (sX9_isIn (by omega) _ _ _ (fun r35 hr35 => ?_))
        refine xe_if_ne (tgt := 44) dX9_hear_38 (by decide) (fun h38 => ?_) (fun h38 => ?_)
        · refine xe_aload_n dX9_hear_44 rfl ?_
          refine xe_getr dX9_hear_45 flX9_9 (by decide) rfl rfl ?_
          refine xe_bipush (v := 58) dX9_hear_48 rfl ?_
          refine xn_iaload dX9_hear_50 (by decide) rfl (by first | with_reducible rfl | (simp only [xl, pk_mul, nI_add, nI_1]; done) | (simp only [xl, pk_mul, nI_add, nI_1]; rfl)) (by omega) (by decide) ?_
          refine xe_bipush (v := 6) dX9_hear_51 rfl ?_
          refine xe_icmp_ne (tgt := 59) dX9_hear_53 (by decide) (fun h53 => ?_) (fun h53 => ?_)
          · have hlt : a < 6 := Nat.lt_of_le_of_ne ha6 (fun z => h53 (by rw [ha, z]; rfl))
            refine xe_bipush (v := 59) dX9_hear_59 rfl ?_
            refine xe_iconst (v := 3) dX9_hear_61 rfl ?_
            refine xe_aload_n dX9_hear_62 rfl ?_
            refine xe_getr dX9_hear_63 flX9_9 (by decide) rfl rfl ?_
            refine xe_bipush (v := 58) dX9_hear_66 rfl ?_
            refine xn_iaload dX9_hear_68 (by decide) rfl (by first | with_reducible rfl | (simp only [xl, pk_mul, nI_add, nI_1]; done) | (simp only [xl, pk_mul, nI_add, nI_1]; rfl)) (by omega) (by decide) ?_
            rw [ha]
            refine xe_imul dX9_hear_69 ?_
            refine xe_iadd dX9_hear_70 ?_
            refine xe_top (x2 := nI (59 + 3 * a)) (by simp only [xl, pk_mul, nI_add]) ?_
            refine xe_istore (lv2 := [_, _, _, _, _]) dX9_hear_71 (by decide) rfl ?_
            refine xe_aload_n dX9_hear_73 rfl ?_
            refine xe_getr dX9_hear_74 flX9_9 (by decide) rfl rfl ?_
            refine xe_iload dX9_hear_77 rfl ?_
            refine xe_iload_n dX9_hear_79 rfl ?_
            refine xn_iastore (j := 59 + 3 * a) dX9_hear_80 (by decide) rfl (by simp only [xl, pk_mul, nI_add]) (by omega) (by decide) ?_
            refine xe_aload_n dX9_hear_81 rfl ?_
            refine xe_getr dX9_hear_82 flX9_9 (by decide) rfl rfl ?_
            refine xe_iload dX9_hear_85 rfl ?_
            refine xe_iconst (v := 1) dX9_hear_87 rfl ?_
            refine xe_iadd dX9_hear_88 ?_
            refine xe_iload_n dX9_hear_89 rfl ?_
            refine xn_iastore (j := 59 + 3 * a + 1) dX9_hear_90 (by decide) rfl (by simp only [xl, pk_mul, nI_add]) (by omega) (by decide) ?_
            refine xe_aload_n dX9_hear_91 rfl ?_
            refine xe_getr dX9_hear_92 flX9_9 (by decide) rfl rfl ?_
            refine xe_iload dX9_hear_95 rfl ?_
            refine xe_iconst (v := 2) dX9_hear_97 rfl ?_
            refine xe_iadd dX9_hear_98 ?_
            refine xe_iload_n dX9_hear_99 rfl ?_
            refine xn_iastore (j := 59 + 3 * a + 2) dX9_hear_100 (by decide) rfl (by simp only [xl, pk_mul, nI_add]) (by omega) (by decide) ?_
            refine xe_aload_n dX9_hear_101 rfl ?_
            refine xe_getr dX9_hear_102 flX9_9 (by decide) rfl rfl ?_
            refine xe_bipush (v := 58) dX9_hear_105 rfl ?_
            refine xe_dup2 dX9_hear_107 rfl rfl ?_
            refine xn_iaload dX9_hear_108 (by decide) rfl (by first | with_reducible rfl | (simp only [xl, pk_mul, nI_add, nI_1]; done) | (simp only [xl, pk_mul, nI_add, nI_1]; rfl)) (by omega) (by decide) ?_
            refine xe_iconst (v := 1) dX9_hear_109 rfl ?_
            refine xe_iadd dX9_hear_110 ?_
            refine xn_iastore dX9_hear_111 (by decide) rfl (by first | with_reducible rfl | (simp only [xl, pk_mul, nI_add, nI_1]; done) | (simp only [xl, pk_mul, nI_add, nI_1]; rfl)) (by omega) (by decide) ?_
            simp only [xsA_A, xsA_get]
            refine xe_aload_n dX9_hear_112 rfl ?_
            refine xe_getr dX9_hear_113 flX9_9 (by decide) rfl rfl ?_
            refine xe_bipush (v := 58) dX9_hear_116 rfl ?_
            refine xn_iaload dX9_hear_118 (by decide) rfl (by first | with_reducible rfl | (simp only [xl, pk_mul, nI_add, nI_1]; done) | (simp only [xl, pk_mul, nI_add, nI_1]; rfl)) (by omega) (by decide) ?_
            refine xe_iret dX9_hear_119 rfl rfl ?_
            have c : pOk (σ.2.1 116 54) p ∧ rng f 0 7 := ⟨hn ▸ (xb_ne0 hr17).mp h20, (xb_ne0 hr24).mp h27⟩
            have c2 := (xb_ne0 hr35).mp h38
            rw [hearV, hearG, if_neg h2, if_neg h2, if_pos c, if_pos c2, if_neg h53, if_pos ⟨c, c2, h53⟩, ha, cN_nI (by omega), nI_1] at h
            simp only [xsA_A, xsA_get]
            have e : (upd (upd (upd (σ.2.1 116) (59 + 3 * a) p) (59 + 3 * a + 1) f) (59 + 3 * a + 2) s 58) + 1 = nI (a + 1) := by
              rw [← nI_1, ← ha]; congr 1; simp only [upd]; rw [if_neg (by omega), if_neg (by omega), if_neg (by omega)]
            rw [e]
            exact h
          · refine xe_bipush (v := -4) dX9_hear_56 rfl ?_
            refine xe_iret dX9_hear_58 rfl rfl ?_
            have c : pOk (σ.2.1 116 54) p ∧ rng f 0 7 := ⟨hn ▸ (xb_ne0 hr17).mp h20, (xb_ne0 hr24).mp h27⟩
            have c2 := (xb_ne0 hr35).mp h38
            rw [hearV, hearG, if_neg h2, if_neg h2, if_pos c, if_pos c2, if_pos h53, if_neg (fun z => z.2.2 h53), xsA_self] at h; exact h
        · refine xe_bipush (v := -2) dX9_hear_41 rfl ?_
          refine xe_iret dX9_hear_43 rfl rfl ?_
          have c : pOk (σ.2.1 116 54) p ∧ rng f 0 7 := ⟨hn ▸ (xb_ne0 hr17).mp h20, (xb_ne0 hr24).mp h27⟩
          have c2 := (xb_eq0 hr35).mp h38
          rw [hearV, hearG, if_neg h2, if_neg h2, if_pos c, if_neg c2, if_neg (fun z => c2 z.2.1), xsA_self] at h; exact h
      · refine xe_iconst (v := -1) dX9_hear_30 rfl ?_
        refine xe_iret dX9_hear_31 rfl rfl ?_
        have c : ¬ (pOk (σ.2.1 116 54) p ∧ rng f 0 7) := by first | exact fun z => (xb_eq0 hr17).mp h20 (hn ▸ z.1) | exact fun z => (xb_eq0 hr24).mp h27 z.2
        rw [hearV, hearG, if_neg h2, if_neg h2, if_neg c, if_neg (fun z => c z.1), xsA_self] at h; exact h
  · refine xe_aload_n dX9_hear_5 rfl ?_
    refine xe_getr dX9_hear_6 flX9_9 (by decide) rfl rfl ?_
    refine xe_bipush (v := 58) dX9_hear_9 rfl ?_
    refine xe_iconst (v := 0) dX9_hear_11 rfl ?_
    refine xn_iastore dX9_hear_12 (by decide) rfl (by first | with_reducible rfl | (simp only [xl, pk_mul, nI_add, nI_1]; done) | (simp only [xl, pk_mul, nI_add, nI_1]; rfl)) (by omega) (by decide) ?_
    refine xe_iconst (v := 0) dX9_hear_13 rfl ?_
    refine xe_iret dX9_hear_14 rfl rfl ?_
    rw [hearV, hearG, if_pos h2, if_pos h2] at h; exact h

theorem sX9_book {d : Nat} (hd : 2 ≤ d) {σ : xSt} {Post : Option Value → xSt → Prop} (n : Nat) (hn : σ.2.1 116 54 = nI n) (h6 : n ≤ 6) (a : Nat) (p s : Int32) (ha : σ.2.1 116 98 = nI a) (ha8 : a ≤ 8) (h : Post (some (.int (bookV (σ.2.1 116) p s))) (xsA σ 116 (bookG (σ.2.1 116) p s))) : xM kX9_book d [.ref 115, .int p, .int s] σ Post := by
  obtain ⟨d, rfl⟩ : ∃ e, d = e + 1 := ⟨d - 1, by omega⟩
  refine xM_start (lv := [some (.ref 115), some (.int p), some (.int s)]) rfl ?_
  refine xe_iload_n dX9_book_0 rfl ?_
  refine xe_iconst (v := -1) dX9_book_1 rfl ?_
  refine xe_icmp_ne (tgt := 15) dX9_book_2 (by decide) (fun h2 => ?_) (fun h2 => ?_)
  · refine xe_aload_n dX9_book_15 rfl ?_
    refine xe_iload_n dX9_book_16 rfl ?_
    refine xe_callv (k2 := kX9_isPot) (vs := [_]) dX9_book_17 okX9_isPot mlX9_101 imX9_isPot slX9_isPot (Or.inl ⟨9, _, _, by decide, rfl, rfl, rfl⟩) rfl rfl (Nat.le_of_ble_eq_true rfl) (Nat.le_of_ble_eq_true rfl) (tX9_isPot (by omega) _ n hn h6 (fun r17 hr17 => ?_))
    refine xe_if_ne (tgt := 25) dX9_book_20 (by decide) (fun h20 => ?_) (fun h20 => ?_)
    · refine xe_iload_n dX9_book_25 rfl ?_
      refine xe_iconst (v := 0) dX9_book_26 rfl ?_
      refine xe_bipush (v := 9) dX9_book_27 rfl ?_
      refine xe_calls (k2 := kX9_isIn) (vs := [_, _, _]) dX9_book_29 okX9_isIn mlX9_89 stX9_isIn rfl rfl (Nat.le_of_ble_eq_true rfl) (Nat.le_of_ble_eq_true rfl) (sX9_isIn (by omega) _ _ _ (fun r29 hr29 => ?_))
      refine xe_if_ne (tgt := 38) dX9_book_32 (by decide) (fun h32 => ?_) (fun h32 => ?_)
      · refine xe_aload_n dX9_book_38 rfl ?_
        refine xe_getr dX9_book_39 flX9_9 (by decide) rfl rfl ?_
        refine xe_bipush (v := 98) dX9_book_42 rfl ?_
        refine xn_iaload dX9_book_44 (by decide) rfl (by first | with_reducible rfl | (simp only [xl, pk_mul, nI_add, nI_1]; done) | (simp only [xl, pk_mul, nI_add, nI_1]; rfl)) (by omega) (by decide) ?_
        refine xe_bipush (v := 8) dX9_book_45 rfl ?_
        refine xe_icmp_ne (tgt := 53) dX9_book_47 (by decide) (fun h47 => ?_) (fun h47 => ?_)
        · have hlt : a < 8 := Nat.lt_of_le_of_ne ha8 (fun z => h47 (by rw [ha, z]; rfl))
          refine xe_aload_n dX9_book_53 rfl ?_
          refine xe_getr dX9_book_54 flX9_9 (by decide) rfl rfl ?_
          refine xe_bipush (v := 99) dX9_book_57 rfl ?_
          refine xe_iconst (v := 2) dX9_book_59 rfl ?_
          refine xe_aload_n dX9_book_60 rfl ?_
          refine xe_getr dX9_book_61 flX9_9 (by decide) rfl rfl ?_
          refine xe_bipush (v := 98) dX9_book_64 rfl ?_
          refine xn_iaload dX9_book_66 (by decide) rfl (by first | with_reducible rfl | (simp only [xl, pk_mul, nI_add, nI_1]; done) | (simp only [xl, pk_mul, nI_add, nI_1]; rfl)) (by omega) (by decide) ?_
          rw [ha]
          refine xe_imul dX9_book_67 ?_
          refine xe_iadd dX9_book_68 ?_
          refine xe_iload_n dX9_book_69 rfl ?_
          refine xn_iastore (j := 99 + 2 * a) dX9_book_70 (by decide) rfl (by simp only [xl, pk_mul, nI_add]) (by omega) (by decide) ?_
          refine xe_aload_n dX9_book_71 rfl ?_
          refine xe_getr dX9_book_72 flX9_9 (by decide) rfl rfl ?_
          refine xe_bipush (v := 100) dX9_book_75 rfl ?_
          refine xe_iconst (v := 2) dX9_book_77 rfl ?_
          refine xe_aload_n dX9_book_78 rfl ?_
          refine xe_getr dX9_book_79 flX9_9 (by decide) rfl rfl ?_
          refine xe_bipush (v := 98) dX9_book_82 rfl ?_
          refine xn_iaload dX9_book_84 (by decide) rfl (by first | with_reducible rfl | (simp only [xl, pk_mul, nI_add, nI_1]; done) | (simp only [xl, pk_mul, nI_add, nI_1]; rfl)) (by omega) (by decide) ?_
          have q : (xsA σ 116 (upd (σ.2.1 116) (99 + 2 * a) p)).2.1 116 98 = nI a := by rw [xsA_get]; simp only [upd]; rw [if_neg (by omega)]; exact ha
          rw [q]
          refine xe_imul dX9_book_85 ?_
          refine xe_iadd dX9_book_86 ?_
          refine xe_iload_n dX9_book_87 rfl ?_
          refine xn_iastore (j := 100 + 2 * a) dX9_book_88 (by decide) rfl (by simp only [xl, pk_mul, nI_add]) (by omega) (by decide) ?_
          refine xe_aload_n dX9_book_89 rfl ?_
          refine xe_getr dX9_book_90 flX9_9 (by decide) rfl rfl ?_
          refine xe_bipush (v := 98) dX9_book_93 rfl ?_
          refine xe_dup2 dX9_book_95 rfl rfl ?_
          refine xn_iaload dX9_book_96 (by decide) rfl (by first | with_reducible rfl | (simp only [xl, pk_mul, nI_add, nI_1]; done) | (simp only [xl, pk_mul, nI_add, nI_1]; rfl)) (by omega) (by decide) ?_
          refine xe_iconst (v := 1) dX9_book_97 rfl ?_
          refine xe_iadd dX9_book_98 ?_
          refine xn_iastore dX9_book_99 (by decide) rfl (by first | with_reducible rfl | (simp only [xl, pk_mul, nI_add, nI_1]; done) | (simp only [xl, pk_mul, nI_add, nI_1]; rfl)) (by omega) (by decide) ?_
          simp only [xsA_A, xsA_get]
          refine xe_aload_n dX9_book_100 rfl ?_
          refine xe_getr dX9_book_101 flX9_9 (by decide) rfl rfl ?_
          refine xe_bipush (v := 98) dX9_book_104 rfl ?_
          refine xn_iaload dX9_book_106 (by decide) rfl (by first | with_reducible rfl | (simp only [xl, pk_mul, nI_add, nI_1]; done) | (simp only [xl, pk_mul, nI_add, nI_1]; rfl)) (by omega) (by decide) ?_
          refine xe_iret dX9_book_107 rfl rfl ?_
          have c : pOk (σ.2.1 116 54) p := hn ▸ (xb_ne0 hr17).mp h20
          have c2 := (xb_ne0 hr29).mp h32
          rw [bookV, bookG, if_neg h2, if_neg h2, if_pos c, if_pos c2, if_neg h47, if_pos ⟨c, c2, h47⟩, ha, cN_nI (by omega), nI_1] at h
          simp only [xsA_A, xsA_get]
          have e : (upd (upd (σ.2.1 116) (99 + 2 * a) p) (100 + 2 * a) s 98) + 1 = nI (a + 1) := by
            rw [← nI_1, ← ha]; congr 1; simp only [upd]; rw [if_neg (by omega), if_neg (by omega)]
          rw [e]
          exact h
        · refine xe_bipush (v := -4) dX9_book_50 rfl ?_
          refine xe_iret dX9_book_52 rfl rfl ?_
          have c : pOk (σ.2.1 116 54) p := hn ▸ (xb_ne0 hr17).mp h20
          have c2 := (xb_ne0 hr29).mp h32
          rw [bookV, bookG, if_neg h2, if_neg h2, if_pos c, if_pos c2, if_pos h47, if_neg (fun z => z.2.2 h47), xsA_self] at h; exact h
      · refine xe_bipush (v := -2) dX9_book_35 rfl ?_
        refine xe_iret dX9_book_37 rfl rfl ?_
        have c : pOk (σ.2.1 116 54) p := hn ▸ (xb_ne0 hr17).mp h20
        have c2 := (xb_eq0 hr29).mp h32
        rw [bookV, bookG, if_neg h2, if_neg h2, if_pos c, if_neg c2, if_neg (fun z => c2 z.2.1), xsA_self] at h; exact h
    · refine xe_iconst (v := -1) dX9_book_23 rfl ?_
      refine xe_iret dX9_book_24 rfl rfl ?_
      have c : ¬ pOk (σ.2.1 116 54) p := fun z => (xb_eq0 hr17).mp h20 (hn ▸ z)
      rw [bookV, bookG, if_neg h2, if_neg h2, if_neg c, if_neg (fun z => c z.1), xsA_self] at h; exact h
  · refine xe_aload_n dX9_book_5 rfl ?_
    refine xe_getr dX9_book_6 flX9_9 (by decide) rfl rfl ?_
    refine xe_bipush (v := 98) dX9_book_9 rfl ?_
    refine xe_iconst (v := 0) dX9_book_11 rfl ?_
    refine xn_iastore dX9_book_12 (by decide) rfl (by first | with_reducible rfl | (simp only [xl, pk_mul, nI_add, nI_1]; done) | (simp only [xl, pk_mul, nI_add, nI_1]; rfl)) (by omega) (by decide) ?_
    refine xe_iconst (v := 0) dX9_book_13 rfl ?_
    refine xe_iret dX9_book_14 rfl rfl ?_
    rw [bookV, bookG, if_pos h2, if_pos h2] at h; exact h

theorem lX9_plan {d : Nat} (hd : 1 ≤ d) {σ : xSt} {Post : Option Value → xSt → Prop} (a : Nat) (w m : Int32) (h2 : ¬ w = -1) (c : planOk (σ.2.1 116) w m) (v3 : Option Value) (ha : σ.2.1 116 77 = nI a) (ha10 : a ≤ 10) (h : Post (some (.int (planV (σ.2.1 116) w m))) (xsA σ 116 (planG (σ.2.1 116) w m))) : xEv kX9_plan (d + 1) 79 [some (.ref 115), some (.int w), some (.int m), v3] [.int 1] σ Post := by
  refine xe_istore_n (lv2 := [_, _, _, _]) dX9_plan_79 (by decide) rfl ?_
  refine xe_iload_n dX9_plan_80 rfl ?_
  refine xe_if_ne (tgt := 86) dX9_plan_81 (by decide) (fun h81 => ?_) (fun h81 => absurd h81 (by decide))
  refine xe_aload_n dX9_plan_86 rfl ?_
  refine xe_getr dX9_plan_87 flX9_9 (by decide) rfl rfl ?_
  refine xe_bipush (v := 77) dX9_plan_90 rfl ?_
  refine xn_iaload dX9_plan_92 (by decide) rfl (by first | with_reducible rfl | (simp only [xl, pk_mul, nI_add, nI_1]; done) | (simp only [xl, pk_mul, nI_add, nI_1]; rfl)) (by omega) (by decide) ?_
  refine xe_bipush (v := 10) dX9_plan_93 rfl ?_
  refine xe_icmp_ne (tgt := 101) dX9_plan_95 (by decide) (fun h95 => ?_) (fun h95 => ?_)
  · have hlt : a < 10 := Nat.lt_of_le_of_ne ha10 (fun z => h95 (by rw [ha, z]; rfl))
    refine xe_aload_n dX9_plan_101 rfl ?_
    refine xe_getr dX9_plan_102 flX9_9 (by decide) rfl rfl ?_
    refine xe_bipush (v := 78) dX9_plan_105 rfl ?_
    refine xe_iconst (v := 2) dX9_plan_107 rfl ?_
    refine xe_aload_n dX9_plan_108 rfl ?_
    refine xe_getr dX9_plan_109 flX9_9 (by decide) rfl rfl ?_
    refine xe_bipush (v := 77) dX9_plan_112 rfl ?_
    refine xn_iaload dX9_plan_114 (by decide) rfl (by first | with_reducible rfl | (simp only [xl, pk_mul, nI_add, nI_1]; done) | (simp only [xl, pk_mul, nI_add, nI_1]; rfl)) (by omega) (by decide) ?_
    rw [ha]
    refine xe_imul dX9_plan_115 ?_
    refine xe_iadd dX9_plan_116 ?_
    refine xe_iload_n dX9_plan_117 rfl ?_
    refine xn_iastore (j := 78 + 2 * a) dX9_plan_118 (by decide) rfl (by simp only [xl, pk_mul, nI_add]) (by omega) (by decide) ?_
    refine xe_aload_n dX9_plan_119 rfl ?_
    refine xe_getr dX9_plan_120 flX9_9 (by decide) rfl rfl ?_
    refine xe_bipush (v := 79) dX9_plan_123 rfl ?_
    refine xe_iconst (v := 2) dX9_plan_125 rfl ?_
    refine xe_aload_n dX9_plan_126 rfl ?_
    refine xe_getr dX9_plan_127 flX9_9 (by decide) rfl rfl ?_
    refine xe_bipush (v := 77) dX9_plan_130 rfl ?_
    refine xn_iaload dX9_plan_132 (by decide) rfl (by first | with_reducible rfl | (simp only [xl, pk_mul, nI_add, nI_1]; done) | (simp only [xl, pk_mul, nI_add, nI_1]; rfl)) (by omega) (by decide) ?_
    have q : (xsA σ 116 (upd (σ.2.1 116) (78 + 2 * a) w)).2.1 116 77 = nI a := by rw [xsA_get]; simp only [upd]; rw [if_neg (by omega)]; exact ha
    rw [q]
    refine xe_imul dX9_plan_133 ?_
    refine xe_iadd dX9_plan_134 ?_
    refine xe_iload_n dX9_plan_135 rfl ?_
    refine xn_iastore (j := 79 + 2 * a) dX9_plan_136 (by decide) rfl (by simp only [xl, pk_mul, nI_add]) (by omega) (by decide) ?_
    refine xe_aload_n dX9_plan_137 rfl ?_
    refine xe_getr dX9_plan_138 flX9_9 (by decide) rfl rfl ?_
    refine xe_bipush (v := 77) dX9_plan_141 rfl ?_
    refine xe_dup2 dX9_plan_143 rfl rfl ?_
    refine xn_iaload dX9_plan_144 (by decide) rfl (by first | with_reducible rfl | (simp only [xl, pk_mul, nI_add, nI_1]; done) | (simp only [xl, pk_mul, nI_add, nI_1]; rfl)) (by omega) (by decide) ?_
    refine xe_iconst (v := 1) dX9_plan_145 rfl ?_
    refine xe_iadd dX9_plan_146 ?_
    refine xn_iastore dX9_plan_147 (by decide) rfl (by first | with_reducible rfl | (simp only [xl, pk_mul, nI_add, nI_1]; done) | (simp only [xl, pk_mul, nI_add, nI_1]; rfl)) (by omega) (by decide) ?_
    simp only [xsA_A, xsA_get]
    refine xe_aload_n dX9_plan_148 rfl ?_
    refine xe_getr dX9_plan_149 flX9_9 (by decide) rfl rfl ?_
    refine xe_bipush (v := 77) dX9_plan_152 rfl ?_
    refine xn_iaload dX9_plan_154 (by decide) rfl (by first | with_reducible rfl | (simp only [xl, pk_mul, nI_add, nI_1]; done) | (simp only [xl, pk_mul, nI_add, nI_1]; rfl)) (by omega) (by decide) ?_
    refine xe_iret dX9_plan_155 rfl rfl ?_
    rw [planV, planG, if_neg h2, if_neg h2, if_pos c, if_neg h95, if_pos ⟨c, h95⟩, ha, cN_nI (by omega), nI_1] at h
    simp only [xsA_A, xsA_get]
    have e : (upd (upd (σ.2.1 116) (78 + 2 * a) w) (79 + 2 * a) m 77) + 1 = nI (a + 1) := by
      rw [← nI_1, ← ha]; congr 1; simp only [upd]; rw [if_neg (by omega), if_neg (by omega)]
    rw [e]
    exact h
  · refine xe_bipush (v := -4) dX9_plan_98 rfl ?_
    refine xe_iret dX9_plan_100 rfl rfl ?_
    rw [planV, planG, if_neg h2, if_neg h2, if_pos c, if_pos h95, if_neg (fun z => z.2 h95), xsA_self] at h; exact h

set_option maxHeartbeats 4000000 in
theorem sX9_plan {d : Nat} (hd : 2 ≤ d) {σ : xSt} {Post : Option Value → xSt → Prop} (n : Nat) (hn : σ.2.1 116 54 = nI n) (h6 : n ≤ 6) (a : Nat) (w m : Int32) (ha : σ.2.1 116 77 = nI a) (ha10 : a ≤ 10) (h : Post (some (.int (planV (σ.2.1 116) w m))) (xsA σ 116 (planG (σ.2.1 116) w m))) : xM kX9_plan d [.ref 115, .int w, .int m] σ Post := by
  obtain ⟨d, rfl⟩ : ∃ e, d = e + 1 := ⟨d - 1, by omega⟩
  refine xM_start (lv := [some (.ref 115), some (.int w), some (.int m), none]) rfl ?_
  refine xe_iload_n dX9_plan_0 rfl ?_
  refine xe_iconst (v := -1) dX9_plan_1 rfl ?_
  refine xe_icmp_ne (tgt := 15) dX9_plan_2 (by decide) (fun h2 => ?_) (fun h2 => ?_)
  · refine xe_iload_n dX9_plan_15 rfl ?_
    refine xe_if_eq (tgt := 74) dX9_plan_16 (by decide) (fun h16 => ?_) (fun h16 => ?_)
    · have c : planOk (σ.2.1 116) w m := by
        first
        | exact Or.inl h16
        | exact Or.inr (Or.inl ⟨h21, Int32.not_lt.mp h25, hn ▸ (xb_ne0 hr33).mp h36, (xb_ne0 hr43).mp h46⟩)
        | exact Or.inr (Or.inr (Or.inl ⟨h51, hn ▸ (xb_ne0 hr56).mp h59⟩))
        | exact Or.inr (Or.inr (Or.inr ⟨h64, (xb_ne0 hr68).mp h71⟩))
      refine xe_iconst (v := 1) dX9_plan_74 rfl ?_
      refine xe_goto (tgt := 79) dX9_plan_75 (by decide) ?_
      exact lX9_plan (by omega) a w m h2 c _ ha ha10 h
    · refine xe_iload_n dX9_plan_19 rfl ?_
      refine xe_iconst (v := 1) dX9_plan_20 rfl ?_
      refine xe_icmp_ne (tgt := 49) dX9_plan_21 (by decide) (fun h21 => ?_) (fun h21 => ?_)
      · refine xe_iload_n dX9_plan_49 rfl ?_
        refine xe_iconst (v := 2) dX9_plan_50 rfl ?_
        refine xe_icmp_ne (tgt := 62) dX9_plan_51 (by decide) (fun h51 => ?_) (fun h51 => ?_)
        · refine xe_iload_n dX9_plan_62 rfl ?_
          refine xe_iconst (v := 3) dX9_plan_63 rfl ?_
          refine xe_icmp_ne (tgt := 78) dX9_plan_64 (by decide) (fun h64 => ?_) (fun h64 => ?_)
          · have c : ¬ planOk (σ.2.1 116) w m := by
              rintro (z | ⟨z1, z2, z3, z4⟩ | ⟨z1, z2⟩ | ⟨z1, z2⟩)
              · exact h16 z
              · first | exact h21 z1 | exact Int32.not_lt.mpr z2 h25 | exact (xb_eq0 hr33).mp h36 (hn ▸ z3) | exact (xb_eq0 hr43).mp h46 z4
              · first | exact h51 z1 | exact (xb_eq0 hr56).mp h59 (hn ▸ z2)
              · first | exact h64 z1 | exact (xb_eq0 hr68).mp h71 z2
            refine xe_iconst (v := 0) dX9_plan_78 rfl ?_
            refine xe_istore_n (lv2 := [_, _, _, _]) dX9_plan_79 (by decide) rfl ?_
            refine xe_iload_n dX9_plan_80 rfl ?_
            refine xe_if_ne (tgt := 86) dX9_plan_81 (by decide) (fun h81 => absurd (by decide) h81) (fun h81 => ?_)
            refine xe_iconst (v := -1) dX9_plan_84 rfl ?_
            refine xe_iret dX9_plan_85 rfl rfl ?_
            rw [planV, planG, if_neg h2, if_neg h2, if_neg c, if_neg (fun z => c z.1), xsA_self] at h; exact h
          · refine xe_iload_n dX9_plan_67 rfl ?_
            refine xe_calls (k2 := kX9_isFact) (vs := [_]) dX9_plan_68 okX9_isFact mlX9_108 stX9_isFact rfl rfl (Nat.le_of_ble_eq_true rfl) (Nat.le_of_ble_eq_true rfl) (sX9_isFact (by omega) _ (fun r68 hr68 => ?_))
            refine xe_if_eq (tgt := 78) dX9_plan_71 (by decide) (fun h71 => ?_) (fun h71 => ?_)
            · have c : ¬ planOk (σ.2.1 116) w m := by
                rintro (z | ⟨z1, z2, z3, z4⟩ | ⟨z1, z2⟩ | ⟨z1, z2⟩)
                · exact h16 z
                · first | exact h21 z1 | exact Int32.not_lt.mpr z2 h25 | exact (xb_eq0 hr33).mp h36 (hn ▸ z3) | exact (xb_eq0 hr43).mp h46 z4
                · first | exact h51 z1 | exact (xb_eq0 hr56).mp h59 (hn ▸ z2)
                · first | exact h64 z1 | exact (xb_eq0 hr68).mp h71 z2
              refine xe_iconst (v := 0) dX9_plan_78 rfl ?_
              refine xe_istore_n (lv2 := [_, _, _, _]) dX9_plan_79 (by decide) rfl ?_
              refine xe_iload_n dX9_plan_80 rfl ?_
              refine xe_if_ne (tgt := 86) dX9_plan_81 (by decide) (fun h81 => absurd (by decide) h81) (fun h81 => ?_)
              refine xe_iconst (v := -1) dX9_plan_84 rfl ?_
              refine xe_iret dX9_plan_85 rfl rfl ?_
              rw [planV, planG, if_neg h2, if_neg h2, if_neg c, if_neg (fun z => c z.1), xsA_self] at h; exact h
            · have c : planOk (σ.2.1 116) w m := by
                first
                | exact Or.inl h16
                | exact Or.inr (Or.inl ⟨h21, Int32.not_lt.mp h25, hn ▸ (xb_ne0 hr33).mp h36, (xb_ne0 hr43).mp h46⟩)
                | exact Or.inr (Or.inr (Or.inl ⟨h51, hn ▸ (xb_ne0 hr56).mp h59⟩))
                | exact Or.inr (Or.inr (Or.inr ⟨h64, (xb_ne0 hr68).mp h71⟩))
              refine xe_iconst (v := 1) dX9_plan_74 rfl ?_
              refine xe_goto (tgt := 79) dX9_plan_75 (by decide) ?_
              exact lX9_plan (by omega) a w m h2 c _ ha ha10 h
        · refine xe_aload_n dX9_plan_54 rfl ?_
          refine xe_iload_n dX9_plan_55 rfl ?_
          refine xe_callv (k2 := kX9_isPot) (vs := [_]) dX9_plan_56 okX9_isPot mlX9_101 imX9_isPot slX9_isPot (Or.inl ⟨9, _, _, by decide, rfl, rfl, rfl⟩) rfl rfl (Nat.le_of_ble_eq_true rfl) (Nat.le_of_ble_eq_true rfl) (tX9_isPot (by omega) _ n hn h6 (fun r56 hr56 => ?_))
          refine xe_if_ne (tgt := 74) dX9_plan_59 (by decide) (fun h59 => ?_) (fun h59 => ?_)
          · have c : planOk (σ.2.1 116) w m := by
              first
              | exact Or.inl h16
              | exact Or.inr (Or.inl ⟨h21, Int32.not_lt.mp h25, hn ▸ (xb_ne0 hr33).mp h36, (xb_ne0 hr43).mp h46⟩)
              | exact Or.inr (Or.inr (Or.inl ⟨h51, hn ▸ (xb_ne0 hr56).mp h59⟩))
              | exact Or.inr (Or.inr (Or.inr ⟨h64, (xb_ne0 hr68).mp h71⟩))
            refine xe_iconst (v := 1) dX9_plan_74 rfl ?_
            refine xe_goto (tgt := 79) dX9_plan_75 (by decide) ?_
            exact lX9_plan (by omega) a w m h2 c _ ha ha10 h
          · refine xe_iload_n dX9_plan_62 rfl ?_
            refine xe_iconst (v := 3) dX9_plan_63 rfl ?_
            refine xe_icmp_ne (tgt := 78) dX9_plan_64 (by decide) (fun h64 => ?_) (fun h64 => ?_)
            · have c : ¬ planOk (σ.2.1 116) w m := by
                rintro (z | ⟨z1, z2, z3, z4⟩ | ⟨z1, z2⟩ | ⟨z1, z2⟩)
                · exact h16 z
                · first | exact h21 z1 | exact Int32.not_lt.mpr z2 h25 | exact (xb_eq0 hr33).mp h36 (hn ▸ z3) | exact (xb_eq0 hr43).mp h46 z4
                · first | exact h51 z1 | exact (xb_eq0 hr56).mp h59 (hn ▸ z2)
                · first | exact h64 z1 | exact (xb_eq0 hr68).mp h71 z2
              refine xe_iconst (v := 0) dX9_plan_78 rfl ?_
              refine xe_istore_n (lv2 := [_, _, _, _]) dX9_plan_79 (by decide) rfl ?_
              refine xe_iload_n dX9_plan_80 rfl ?_
              refine xe_if_ne (tgt := 86) dX9_plan_81 (by decide) (fun h81 => absurd (by decide) h81) (fun h81 => ?_)
              refine xe_iconst (v := -1) dX9_plan_84 rfl ?_
              refine xe_iret dX9_plan_85 rfl rfl ?_
              rw [planV, planG, if_neg h2, if_neg h2, if_neg c, if_neg (fun z => c z.1), xsA_self] at h; exact h
            · refine xe_iload_n dX9_plan_67 rfl ?_
              refine xe_calls (k2 := kX9_isFact) (vs := [_]) dX9_plan_68 okX9_isFact mlX9_108 stX9_isFact rfl rfl (Nat.le_of_ble_eq_true rfl) (Nat.le_of_ble_eq_true rfl) (sX9_isFact (by omega) _ (fun r68 hr68 => ?_))
              refine xe_if_eq (tgt := 78) dX9_plan_71 (by decide) (fun h71 => ?_) (fun h71 => ?_)
              · have c : ¬ planOk (σ.2.1 116) w m := by
                  rintro (z | ⟨z1, z2, z3, z4⟩ | ⟨z1, z2⟩ | ⟨z1, z2⟩)
                  · exact h16 z
                  · first | exact h21 z1 | exact Int32.not_lt.mpr z2 h25 | exact (xb_eq0 hr33).mp h36 (hn ▸ z3) | exact (xb_eq0 hr43).mp h46 z4
                  · first | exact h51 z1 | exact (xb_eq0 hr56).mp h59 (hn ▸ z2)
                  · first | exact h64 z1 | exact (xb_eq0 hr68).mp h71 z2
                refine xe_iconst (v := 0) dX9_plan_78 rfl ?_
                refine xe_istore_n (lv2 := [_, _, _, _]) dX9_plan_79 (by decide) rfl ?_
                refine xe_iload_n dX9_plan_80 rfl ?_
                refine xe_if_ne (tgt := 86) dX9_plan_81 (by decide) (fun h81 => absurd (by decide) h81) (fun h81 => ?_)
                refine xe_iconst (v := -1) dX9_plan_84 rfl ?_
                refine xe_iret dX9_plan_85 rfl rfl ?_
                rw [planV, planG, if_neg h2, if_neg h2, if_neg c, if_neg (fun z => c z.1), xsA_self] at h; exact h
              · have c : planOk (σ.2.1 116) w m := by
                  first
                  | exact Or.inl h16
                  | exact Or.inr (Or.inl ⟨h21, Int32.not_lt.mp h25, hn ▸ (xb_ne0 hr33).mp h36, (xb_ne0 hr43).mp h46⟩)
                  | exact Or.inr (Or.inr (Or.inl ⟨h51, hn ▸ (xb_ne0 hr56).mp h59⟩))
                  | exact Or.inr (Or.inr (Or.inr ⟨h64, (xb_ne0 hr68).mp h71⟩))
                refine xe_iconst (v := 1) dX9_plan_74 rfl ?_
                refine xe_goto (tgt := 79) dX9_plan_75 (by decide) ?_
                exact lX9_plan (by omega) a w m h2 c _ ha ha10 h
      · refine xe_iload_n dX9_plan_24 rfl ?_
        refine xe_if_lt (tgt := 49) dX9_plan_25 (by decide) (fun h25 => ?_) (fun h25 => ?_)
        · refine xe_iload_n dX9_plan_49 rfl ?_
          refine xe_iconst (v := 2) dX9_plan_50 rfl ?_
          refine xe_icmp_ne (tgt := 62) dX9_plan_51 (by decide) (fun h51 => ?_) (fun h51 => ?_)
          · refine xe_iload_n dX9_plan_62 rfl ?_
            refine xe_iconst (v := 3) dX9_plan_63 rfl ?_
            refine xe_icmp_ne (tgt := 78) dX9_plan_64 (by decide) (fun h64 => ?_) (fun h64 => ?_)
            · have c : ¬ planOk (σ.2.1 116) w m := by
                rintro (z | ⟨z1, z2, z3, z4⟩ | ⟨z1, z2⟩ | ⟨z1, z2⟩)
                · exact h16 z
                · first | exact h21 z1 | exact Int32.not_lt.mpr z2 h25 | exact (xb_eq0 hr33).mp h36 (hn ▸ z3) | exact (xb_eq0 hr43).mp h46 z4
                · first | exact h51 z1 | exact (xb_eq0 hr56).mp h59 (hn ▸ z2)
                · first | exact h64 z1 | exact (xb_eq0 hr68).mp h71 z2
              refine xe_iconst (v := 0) dX9_plan_78 rfl ?_
              refine xe_istore_n (lv2 := [_, _, _, _]) dX9_plan_79 (by decide) rfl ?_
              refine xe_iload_n dX9_plan_80 rfl ?_
              refine xe_if_ne (tgt := 86) dX9_plan_81 (by decide) (fun h81 => absurd (by decide) h81) (fun h81 => ?_)
              refine xe_iconst (v := -1) dX9_plan_84 rfl ?_
              refine xe_iret dX9_plan_85 rfl rfl ?_
              rw [planV, planG, if_neg h2, if_neg h2, if_neg c, if_neg (fun z => c z.1), xsA_self] at h; exact h
            · refine xe_iload_n dX9_plan_67 rfl ?_
              refine xe_calls (k2 := kX9_isFact) (vs := [_]) dX9_plan_68 okX9_isFact mlX9_108 stX9_isFact rfl rfl (Nat.le_of_ble_eq_true rfl) (Nat.le_of_ble_eq_true rfl) (sX9_isFact (by omega) _ (fun r68 hr68 => ?_))
              refine xe_if_eq (tgt := 78) dX9_plan_71 (by decide) (fun h71 => ?_) (fun h71 => ?_)
              · have c : ¬ planOk (σ.2.1 116) w m := by
                  rintro (z | ⟨z1, z2, z3, z4⟩ | ⟨z1, z2⟩ | ⟨z1, z2⟩)
                  · exact h16 z
                  · first | exact h21 z1 | exact Int32.not_lt.mpr z2 h25 | exact (xb_eq0 hr33).mp h36 (hn ▸ z3) | exact (xb_eq0 hr43).mp h46 z4
                  · first | exact h51 z1 | exact (xb_eq0 hr56).mp h59 (hn ▸ z2)
                  · first | exact h64 z1 | exact (xb_eq0 hr68).mp h71 z2
                refine xe_iconst (v := 0) dX9_plan_78 rfl ?_
                refine xe_istore_n (lv2 := [_, _, _, _]) dX9_plan_79 (by decide) rfl ?_
                refine xe_iload_n dX9_plan_80 rfl ?_
                refine xe_if_ne (tgt := 86) dX9_plan_81 (by decide) (fun h81 => absurd (by decide) h81) (fun h81 => ?_)
                refine xe_iconst (v := -1) dX9_plan_84 rfl ?_
                refine xe_iret dX9_plan_85 rfl rfl ?_
                rw [planV, planG, if_neg h2, if_neg h2, if_neg c, if_neg (fun z => c z.1), xsA_self] at h; exact h
              · have c : planOk (σ.2.1 116) w m := by
                  first
                  | exact Or.inl h16
                  | exact Or.inr (Or.inl ⟨h21, Int32.not_lt.mp h25, hn ▸ (xb_ne0 hr33).mp h36, (xb_ne0 hr43).mp h46⟩)
                  | exact Or.inr (Or.inr (Or.inl ⟨h51, hn ▸ (xb_ne0 hr56).mp h59⟩))
                  | exact Or.inr (Or.inr (Or.inr ⟨h64, (xb_ne0 hr68).mp h71⟩))
                refine xe_iconst (v := 1) dX9_plan_74 rfl ?_
                refine xe_goto (tgt := 79) dX9_plan_75 (by decide) ?_
                exact lX9_plan (by omega) a w m h2 c _ ha ha10 h
          · refine xe_aload_n dX9_plan_54 rfl ?_
            refine xe_iload_n dX9_plan_55 rfl ?_
            refine xe_callv (k2 := kX9_isPot) (vs := [_]) dX9_plan_56 okX9_isPot mlX9_101 imX9_isPot slX9_isPot (Or.inl ⟨9, _, _, by decide, rfl, rfl, rfl⟩) rfl rfl (Nat.le_of_ble_eq_true rfl) (Nat.le_of_ble_eq_true rfl) (tX9_isPot (by omega) _ n hn h6 (fun r56 hr56 => ?_))
            refine xe_if_ne (tgt := 74) dX9_plan_59 (by decide) (fun h59 => ?_) (fun h59 => ?_)
            · have c : planOk (σ.2.1 116) w m := by
                first
                | exact Or.inl h16
                | exact Or.inr (Or.inl ⟨h21, Int32.not_lt.mp h25, hn ▸ (xb_ne0 hr33).mp h36, (xb_ne0 hr43).mp h46⟩)
                | exact Or.inr (Or.inr (Or.inl ⟨h51, hn ▸ (xb_ne0 hr56).mp h59⟩))
                | exact Or.inr (Or.inr (Or.inr ⟨h64, (xb_ne0 hr68).mp h71⟩))
              refine xe_iconst (v := 1) dX9_plan_74 rfl ?_
              refine xe_goto (tgt := 79) dX9_plan_75 (by decide) ?_
              exact lX9_plan (by omega) a w m h2 c _ ha ha10 h
            · refine xe_iload_n dX9_plan_62 rfl ?_
              refine xe_iconst (v := 3) dX9_plan_63 rfl ?_
              refine xe_icmp_ne (tgt := 78) dX9_plan_64 (by decide) (fun h64 => ?_) (fun h64 => ?_)
              · have c : ¬ planOk (σ.2.1 116) w m := by
                  rintro (z | ⟨z1, z2, z3, z4⟩ | ⟨z1, z2⟩ | ⟨z1, z2⟩)
                  · exact h16 z
                  · first | exact h21 z1 | exact Int32.not_lt.mpr z2 h25 | exact (xb_eq0 hr33).mp h36 (hn ▸ z3) | exact (xb_eq0 hr43).mp h46 z4
                  · first | exact h51 z1 | exact (xb_eq0 hr56).mp h59 (hn ▸ z2)
                  · first | exact h64 z1 | exact (xb_eq0 hr68).mp h71 z2
                refine xe_iconst (v := 0) dX9_plan_78 rfl ?_
                refine xe_istore_n (lv2 := [_, _, _, _]) dX9_plan_79 (by decide) rfl ?_
                refine xe_iload_n dX9_plan_80 rfl ?_
                refine xe_if_ne (tgt := 86) dX9_plan_81 (by decide) (fun h81 => absurd (by decide) h81) (fun h81 => ?_)
                refine xe_iconst (v := -1) dX9_plan_84 rfl ?_
                refine xe_iret dX9_plan_85 rfl rfl ?_
                rw [planV, planG, if_neg h2, if_neg h2, if_neg c, if_neg (fun z => c z.1), xsA_self] at h; exact h
              · refine xe_iload_n dX9_plan_67 rfl ?_
                refine xe_calls (k2 := kX9_isFact) (vs := [_]) dX9_plan_68 okX9_isFact mlX9_108 stX9_isFact rfl rfl (Nat.le_of_ble_eq_true rfl) (Nat.le_of_ble_eq_true rfl) (sX9_isFact (by omega) _ (fun r68 hr68 => ?_))
                refine xe_if_eq (tgt := 78) dX9_plan_71 (by decide) (fun h71 => ?_) (fun h71 => ?_)
                · have c : ¬ planOk (σ.2.1 116) w m := by
                    rintro (z | ⟨z1, z2, z3, z4⟩ | ⟨z1, z2⟩ | ⟨z1, z2⟩)
                    · exact h16 z
                    · first | exact h21 z1 | exact Int32.not_lt.mpr z2 h25 | exact (xb_eq0 hr33).mp h36 (hn ▸ z3) | exact (xb_eq0 hr43).mp h46 z4
                    · first | exact h51 z1 | exact (xb_eq0 hr56).mp h59 (hn ▸ z2)
                    · first | exact h64 z1 | exact (xb_eq0 hr68).mp h71 z2
                  refine xe_iconst (v := 0) dX9_plan_78 rfl ?_
                  refine xe_istore_n (lv2 := [_, _, _, _]) dX9_plan_79 (by decide) rfl ?_
                  refine xe_iload_n dX9_plan_80 rfl ?_
                  refine xe_if_ne (tgt := 86) dX9_plan_81 (by decide) (fun h81 => absurd (by decide) h81) (fun h81 => ?_)
                  refine xe_iconst (v := -1) dX9_plan_84 rfl ?_
                  refine xe_iret dX9_plan_85 rfl rfl ?_
                  rw [planV, planG, if_neg h2, if_neg h2, if_neg c, if_neg (fun z => c z.1), xsA_self] at h; exact h
                · have c : planOk (σ.2.1 116) w m := by
                    first
                    | exact Or.inl h16
                    | exact Or.inr (Or.inl ⟨h21, Int32.not_lt.mp h25, hn ▸ (xb_ne0 hr33).mp h36, (xb_ne0 hr43).mp h46⟩)
                    | exact Or.inr (Or.inr (Or.inl ⟨h51, hn ▸ (xb_ne0 hr56).mp h59⟩))
                    | exact Or.inr (Or.inr (Or.inr ⟨h64, (xb_ne0 hr68).mp h71⟩))
                  refine xe_iconst (v := 1) dX9_plan_74 rfl ?_
                  refine xe_goto (tgt := 79) dX9_plan_75 (by decide) ?_
                  exact lX9_plan (by omega) a w m h2 c _ ha ha10 h
        · refine xe_aload_n dX9_plan_28 rfl ?_
          refine xe_iload_n dX9_plan_29 rfl ?_
          refine xe_bipush (v := 10) dX9_plan_30 rfl ?_
          refine xe_idiv dX9_plan_32 (by decide) ?_
          refine xe_callv (k2 := kX9_isPot) (vs := [_]) dX9_plan_33 okX9_isPot mlX9_101 imX9_isPot slX9_isPot (Or.inl ⟨9, _, _, by decide, rfl, rfl, rfl⟩) rfl rfl (Nat.le_of_ble_eq_true rfl) (Nat.le_of_ble_eq_true rfl) (tX9_isPot (by omega) _ n hn h6 (fun r33 hr33 => ?_))
          refine xe_if_eq (tgt := 49) dX9_plan_36 (by decide) (fun h36 => ?_) (fun h36 => ?_)
          · refine xe_iload_n dX9_plan_49 rfl ?_
            refine xe_iconst (v := 2) dX9_plan_50 rfl ?_
            refine xe_icmp_ne (tgt := 62) dX9_plan_51 (by decide) (fun h51 => ?_) (fun h51 => ?_)
            · refine xe_iload_n dX9_plan_62 rfl ?_
              refine xe_iconst (v := 3) dX9_plan_63 rfl ?_
              refine xe_icmp_ne (tgt := 78) dX9_plan_64 (by decide) (fun h64 => ?_) (fun h64 => ?_)
              · have c : ¬ planOk (σ.2.1 116) w m := by
                  rintro (z | ⟨z1, z2, z3, z4⟩ | ⟨z1, z2⟩ | ⟨z1, z2⟩)
                  · exact h16 z
                  · first | exact h21 z1 | exact Int32.not_lt.mpr z2 h25 | exact (xb_eq0 hr33).mp h36 (hn ▸ z3) | exact (xb_eq0 hr43).mp h46 z4
                  · first | exact h51 z1 | exact (xb_eq0 hr56).mp h59 (hn ▸ z2)
                  · first | exact h64 z1 | exact (xb_eq0 hr68).mp h71 z2
                refine xe_iconst (v := 0) dX9_plan_78 rfl ?_
                refine xe_istore_n (lv2 := [_, _, _, _]) dX9_plan_79 (by decide) rfl ?_
                refine xe_iload_n dX9_plan_80 rfl ?_
                refine xe_if_ne (tgt := 86) dX9_plan_81 (by decide) (fun h81 => absurd (by decide) h81) (fun h81 => ?_)
                refine xe_iconst (v := -1) dX9_plan_84 rfl ?_
                refine xe_iret dX9_plan_85 rfl rfl ?_
                rw [planV, planG, if_neg h2, if_neg h2, if_neg c, if_neg (fun z => c z.1), xsA_self] at h; exact h
              · refine xe_iload_n dX9_plan_67 rfl ?_
                refine xe_calls (k2 := kX9_isFact) (vs := [_]) dX9_plan_68 okX9_isFact mlX9_108 stX9_isFact rfl rfl (Nat.le_of_ble_eq_true rfl) (Nat.le_of_ble_eq_true rfl) (sX9_isFact (by omega) _ (fun r68 hr68 => ?_))
                refine xe_if_eq (tgt := 78) dX9_plan_71 (by decide) (fun h71 => ?_) (fun h71 => ?_)
                · have c : ¬ planOk (σ.2.1 116) w m := by
                    rintro (z | ⟨z1, z2, z3, z4⟩ | ⟨z1, z2⟩ | ⟨z1, z2⟩)
                    · exact h16 z
                    · first | exact h21 z1 | exact Int32.not_lt.mpr z2 h25 | exact (xb_eq0 hr33).mp h36 (hn ▸ z3) | exact (xb_eq0 hr43).mp h46 z4
                    · first | exact h51 z1 | exact (xb_eq0 hr56).mp h59 (hn ▸ z2)
                    · first | exact h64 z1 | exact (xb_eq0 hr68).mp h71 z2
                  refine xe_iconst (v := 0) dX9_plan_78 rfl ?_
                  refine xe_istore_n (lv2 := [_, _, _, _]) dX9_plan_79 (by decide) rfl ?_
                  refine xe_iload_n dX9_plan_80 rfl ?_
                  refine xe_if_ne (tgt := 86) dX9_plan_81 (by decide) (fun h81 => absurd (by decide) h81) (fun h81 => ?_)
                  refine xe_iconst (v := -1) dX9_plan_84 rfl ?_
                  refine xe_iret dX9_plan_85 rfl rfl ?_
                  rw [planV, planG, if_neg h2, if_neg h2, if_neg c, if_neg (fun z => c z.1), xsA_self] at h; exact h
                · have c : planOk (σ.2.1 116) w m := by
                    first
                    | exact Or.inl h16
                    | exact Or.inr (Or.inl ⟨h21, Int32.not_lt.mp h25, hn ▸ (xb_ne0 hr33).mp h36, (xb_ne0 hr43).mp h46⟩)
                    | exact Or.inr (Or.inr (Or.inl ⟨h51, hn ▸ (xb_ne0 hr56).mp h59⟩))
                    | exact Or.inr (Or.inr (Or.inr ⟨h64, (xb_ne0 hr68).mp h71⟩))
                  refine xe_iconst (v := 1) dX9_plan_74 rfl ?_
                  refine xe_goto (tgt := 79) dX9_plan_75 (by decide) ?_
                  exact lX9_plan (by omega) a w m h2 c _ ha ha10 h
            · refine xe_aload_n dX9_plan_54 rfl ?_
              refine xe_iload_n dX9_plan_55 rfl ?_
              refine xe_callv (k2 := kX9_isPot) (vs := [_]) dX9_plan_56 okX9_isPot mlX9_101 imX9_isPot slX9_isPot (Or.inl ⟨9, _, _, by decide, rfl, rfl, rfl⟩) rfl rfl (Nat.le_of_ble_eq_true rfl) (Nat.le_of_ble_eq_true rfl) (tX9_isPot (by omega) _ n hn h6 (fun r56 hr56 => ?_))
              refine xe_if_ne (tgt := 74) dX9_plan_59 (by decide) (fun h59 => ?_) (fun h59 => ?_)
              · have c : planOk (σ.2.1 116) w m := by
                  first
                  | exact Or.inl h16
                  | exact Or.inr (Or.inl ⟨h21, Int32.not_lt.mp h25, hn ▸ (xb_ne0 hr33).mp h36, (xb_ne0 hr43).mp h46⟩)
                  | exact Or.inr (Or.inr (Or.inl ⟨h51, hn ▸ (xb_ne0 hr56).mp h59⟩))
                  | exact Or.inr (Or.inr (Or.inr ⟨h64, (xb_ne0 hr68).mp h71⟩))
                refine xe_iconst (v := 1) dX9_plan_74 rfl ?_
                refine xe_goto (tgt := 79) dX9_plan_75 (by decide) ?_
                exact lX9_plan (by omega) a w m h2 c _ ha ha10 h
              · refine xe_iload_n dX9_plan_62 rfl ?_
                refine xe_iconst (v := 3) dX9_plan_63 rfl ?_
                refine xe_icmp_ne (tgt := 78) dX9_plan_64 (by decide) (fun h64 => ?_) (fun h64 => ?_)
                · have c : ¬ planOk (σ.2.1 116) w m := by
                    rintro (z | ⟨z1, z2, z3, z4⟩ | ⟨z1, z2⟩ | ⟨z1, z2⟩)
                    · exact h16 z
                    · first | exact h21 z1 | exact Int32.not_lt.mpr z2 h25 | exact (xb_eq0 hr33).mp h36 (hn ▸ z3) | exact (xb_eq0 hr43).mp h46 z4
                    · first | exact h51 z1 | exact (xb_eq0 hr56).mp h59 (hn ▸ z2)
                    · first | exact h64 z1 | exact (xb_eq0 hr68).mp h71 z2
                  refine xe_iconst (v := 0) dX9_plan_78 rfl ?_
                  refine xe_istore_n (lv2 := [_, _, _, _]) dX9_plan_79 (by decide) rfl ?_
                  refine xe_iload_n dX9_plan_80 rfl ?_
                  refine xe_if_ne (tgt := 86) dX9_plan_81 (by decide) (fun h81 => absurd (by decide) h81) (fun h81 => ?_)
                  refine xe_iconst (v := -1) dX9_plan_84 rfl ?_
                  refine xe_iret dX9_plan_85 rfl rfl ?_
                  rw [planV, planG, if_neg h2, if_neg h2, if_neg c, if_neg (fun z => c z.1), xsA_self] at h; exact h
                · refine xe_iload_n dX9_plan_67 rfl ?_
                  refine xe_calls (k2 := kX9_isFact) (vs := [_]) dX9_plan_68 okX9_isFact mlX9_108 stX9_isFact rfl rfl (Nat.le_of_ble_eq_true rfl) (Nat.le_of_ble_eq_true rfl) (sX9_isFact (by omega) _ (fun r68 hr68 => ?_))
                  refine xe_if_eq (tgt := 78) dX9_plan_71 (by decide) (fun h71 => ?_) (fun h71 => ?_)
                  · have c : ¬ planOk (σ.2.1 116) w m := by
                      rintro (z | ⟨z1, z2, z3, z4⟩ | ⟨z1, z2⟩ | ⟨z1, z2⟩)
                      · exact h16 z
                      · first | exact h21 z1 | exact Int32.not_lt.mpr z2 h25 | exact (xb_eq0 hr33).mp h36 (hn ▸ z3) | exact (xb_eq0 hr43).mp h46 z4
                      · first | exact h51 z1 | exact (xb_eq0 hr56).mp h59 (hn ▸ z2)
                      · first | exact h64 z1 | exact (xb_eq0 hr68).mp h71 z2
                    refine xe_iconst (v := 0) dX9_plan_78 rfl ?_
                    refine xe_istore_n (lv2 := [_, _, _, _]) dX9_plan_79 (by decide) rfl ?_
                    refine xe_iload_n dX9_plan_80 rfl ?_
                    refine xe_if_ne (tgt := 86) dX9_plan_81 (by decide) (fun h81 => absurd (by decide) h81) (fun h81 => ?_)
                    refine xe_iconst (v := -1) dX9_plan_84 rfl ?_
                    refine xe_iret dX9_plan_85 rfl rfl ?_
                    rw [planV, planG, if_neg h2, if_neg h2, if_neg c, if_neg (fun z => c z.1), xsA_self] at h; exact h
                  · have c : planOk (σ.2.1 116) w m := by
                      first
                      | exact Or.inl h16
                      | exact Or.inr (Or.inl ⟨h21, Int32.not_lt.mp h25, hn ▸ (xb_ne0 hr33).mp h36, (xb_ne0 hr43).mp h46⟩)
                      | exact Or.inr (Or.inr (Or.inl ⟨h51, hn ▸ (xb_ne0 hr56).mp h59⟩))
                      | exact Or.inr (Or.inr (Or.inr ⟨h64, (xb_ne0 hr68).mp h71⟩))
                    refine xe_iconst (v := 1) dX9_plan_74 rfl ?_
                    refine xe_goto (tgt := 79) dX9_plan_75 (by decide) ?_
                    exact lX9_plan (by omega) a w m h2 c _ ha ha10 h
          · refine xe_iload_n dX9_plan_39 rfl ?_
            refine xe_bipush (v := 10) dX9_plan_40 rfl ?_
            refine xe_irem dX9_plan_42 (by decide) ?_
            refine xe_calls (k2 := kX9_isFact) (vs := [_]) dX9_plan_43 okX9_isFact mlX9_108 stX9_isFact rfl rfl (Nat.le_of_ble_eq_true rfl) (Nat.le_of_ble_eq_true rfl) (sX9_isFact (by omega) _ (fun r43 hr43 => ?_))
            refine xe_if_ne (tgt := 74) dX9_plan_46 (by decide) (fun h46 => ?_) (fun h46 => ?_)
            · have c : planOk (σ.2.1 116) w m := by
                first
                | exact Or.inl h16
                | exact Or.inr (Or.inl ⟨h21, Int32.not_lt.mp h25, hn ▸ (xb_ne0 hr33).mp h36, (xb_ne0 hr43).mp h46⟩)
                | exact Or.inr (Or.inr (Or.inl ⟨h51, hn ▸ (xb_ne0 hr56).mp h59⟩))
                | exact Or.inr (Or.inr (Or.inr ⟨h64, (xb_ne0 hr68).mp h71⟩))
              refine xe_iconst (v := 1) dX9_plan_74 rfl ?_
              refine xe_goto (tgt := 79) dX9_plan_75 (by decide) ?_
              exact lX9_plan (by omega) a w m h2 c _ ha ha10 h
            · refine xe_iload_n dX9_plan_49 rfl ?_
              refine xe_iconst (v := 2) dX9_plan_50 rfl ?_
              refine xe_icmp_ne (tgt := 62) dX9_plan_51 (by decide) (fun h51 => ?_) (fun h51 => ?_)
              · refine xe_iload_n dX9_plan_62 rfl ?_
                refine xe_iconst (v := 3) dX9_plan_63 rfl ?_
                refine xe_icmp_ne (tgt := 78) dX9_plan_64 (by decide) (fun h64 => ?_) (fun h64 => ?_)
                · have c : ¬ planOk (σ.2.1 116) w m := by
                    rintro (z | ⟨z1, z2, z3, z4⟩ | ⟨z1, z2⟩ | ⟨z1, z2⟩)
                    · exact h16 z
                    · first | exact h21 z1 | exact Int32.not_lt.mpr z2 h25 | exact (xb_eq0 hr33).mp h36 (hn ▸ z3) | exact (xb_eq0 hr43).mp h46 z4
                    · first | exact h51 z1 | exact (xb_eq0 hr56).mp h59 (hn ▸ z2)
                    · first | exact h64 z1 | exact (xb_eq0 hr68).mp h71 z2
                  refine xe_iconst (v := 0) dX9_plan_78 rfl ?_
                  refine xe_istore_n (lv2 := [_, _, _, _]) dX9_plan_79 (by decide) rfl ?_
                  refine xe_iload_n dX9_plan_80 rfl ?_
                  refine xe_if_ne (tgt := 86) dX9_plan_81 (by decide) (fun h81 => absurd (by decide) h81) (fun h81 => ?_)
                  refine xe_iconst (v := -1) dX9_plan_84 rfl ?_
                  refine xe_iret dX9_plan_85 rfl rfl ?_
                  rw [planV, planG, if_neg h2, if_neg h2, if_neg c, if_neg (fun z => c z.1), xsA_self] at h; exact h
                · refine xe_iload_n dX9_plan_67 rfl ?_
                  refine xe_calls (k2 := kX9_isFact) (vs := [_]) dX9_plan_68 okX9_isFact mlX9_108 stX9_isFact rfl rfl (Nat.le_of_ble_eq_true rfl) (Nat.le_of_ble_eq_true rfl) (sX9_isFact (by omega) _ (fun r68 hr68 => ?_))
                  refine xe_if_eq (tgt := 78) dX9_plan_71 (by decide) (fun h71 => ?_) (fun h71 => ?_)
                  · have c : ¬ planOk (σ.2.1 116) w m := by
                      rintro (z | ⟨z1, z2, z3, z4⟩ | ⟨z1, z2⟩ | ⟨z1, z2⟩)
                      · exact h16 z
                      · first | exact h21 z1 | exact Int32.not_lt.mpr z2 h25 | exact (xb_eq0 hr33).mp h36 (hn ▸ z3) | exact (xb_eq0 hr43).mp h46 z4
                      · first | exact h51 z1 | exact (xb_eq0 hr56).mp h59 (hn ▸ z2)
                      · first | exact h64 z1 | exact (xb_eq0 hr68).mp h71 z2
                    refine xe_iconst (v := 0) dX9_plan_78 rfl ?_
                    refine xe_istore_n (lv2 := [_, _, _, _]) dX9_plan_79 (by decide) rfl ?_
                    refine xe_iload_n dX9_plan_80 rfl ?_
                    refine xe_if_ne (tgt := 86) dX9_plan_81 (by decide) (fun h81 => absurd (by decide) h81) (fun h81 => ?_)
                    refine xe_iconst (v := -1) dX9_plan_84 rfl ?_
                    refine xe_iret dX9_plan_85 rfl rfl ?_
                    rw [planV, planG, if_neg h2, if_neg h2, if_neg c, if_neg (fun z => c z.1), xsA_self] at h; exact h
                  · have c : planOk (σ.2.1 116) w m := by
                      first
                      | exact Or.inl h16
                      | exact Or.inr (Or.inl ⟨h21, Int32.not_lt.mp h25, hn ▸ (xb_ne0 hr33).mp h36, (xb_ne0 hr43).mp h46⟩)
                      | exact Or.inr (Or.inr (Or.inl ⟨h51, hn ▸ (xb_ne0 hr56).mp h59⟩))
                      | exact Or.inr (Or.inr (Or.inr ⟨h64, (xb_ne0 hr68).mp h71⟩))
                    refine xe_iconst (v := 1) dX9_plan_74 rfl ?_
                    refine xe_goto (tgt := 79) dX9_plan_75 (by decide) ?_
                    exact lX9_plan (by omega) a w m h2 c _ ha ha10 h
              · refine xe_aload_n dX9_plan_54 rfl ?_
                refine xe_iload_n dX9_plan_55 rfl ?_
                refine xe_callv (k2 := kX9_isPot) (vs := [_]) dX9_plan_56 okX9_isPot mlX9_101 imX9_isPot slX9_isPot (Or.inl ⟨9, _, _, by decide, rfl, rfl, rfl⟩) rfl rfl (Nat.le_of_ble_eq_true rfl) (Nat.le_of_ble_eq_true rfl) (tX9_isPot (by omega) _ n hn h6 (fun r56 hr56 => ?_))
                refine xe_if_ne (tgt := 74) dX9_plan_59 (by decide) (fun h59 => ?_) (fun h59 => ?_)
                · have c : planOk (σ.2.1 116) w m := by
                    first
                    | exact Or.inl h16
                    | exact Or.inr (Or.inl ⟨h21, Int32.not_lt.mp h25, hn ▸ (xb_ne0 hr33).mp h36, (xb_ne0 hr43).mp h46⟩)
                    | exact Or.inr (Or.inr (Or.inl ⟨h51, hn ▸ (xb_ne0 hr56).mp h59⟩))
                    | exact Or.inr (Or.inr (Or.inr ⟨h64, (xb_ne0 hr68).mp h71⟩))
                  refine xe_iconst (v := 1) dX9_plan_74 rfl ?_
                  refine xe_goto (tgt := 79) dX9_plan_75 (by decide) ?_
                  exact lX9_plan (by omega) a w m h2 c _ ha ha10 h
                · refine xe_iload_n dX9_plan_62 rfl ?_
                  refine xe_iconst (v := 3) dX9_plan_63 rfl ?_
                  refine xe_icmp_ne (tgt := 78) dX9_plan_64 (by decide) (fun h64 => ?_) (fun h64 => ?_)
                  · have c : ¬ planOk (σ.2.1 116) w m := by
                      rintro (z | ⟨z1, z2, z3, z4⟩ | ⟨z1, z2⟩ | ⟨z1, z2⟩)
                      · exact h16 z
                      · first | exact h21 z1 | exact Int32.not_lt.mpr z2 h25 | exact (xb_eq0 hr33).mp h36 (hn ▸ z3) | exact (xb_eq0 hr43).mp h46 z4
                      · first | exact h51 z1 | exact (xb_eq0 hr56).mp h59 (hn ▸ z2)
                      · first | exact h64 z1 | exact (xb_eq0 hr68).mp h71 z2
                    refine xe_iconst (v := 0) dX9_plan_78 rfl ?_
                    refine xe_istore_n (lv2 := [_, _, _, _]) dX9_plan_79 (by decide) rfl ?_
                    refine xe_iload_n dX9_plan_80 rfl ?_
                    refine xe_if_ne (tgt := 86) dX9_plan_81 (by decide) (fun h81 => absurd (by decide) h81) (fun h81 => ?_)
                    refine xe_iconst (v := -1) dX9_plan_84 rfl ?_
                    refine xe_iret dX9_plan_85 rfl rfl ?_
                    rw [planV, planG, if_neg h2, if_neg h2, if_neg c, if_neg (fun z => c z.1), xsA_self] at h; exact h
                  · refine xe_iload_n dX9_plan_67 rfl ?_
                    refine xe_calls (k2 := kX9_isFact) (vs := [_]) dX9_plan_68 okX9_isFact mlX9_108 stX9_isFact rfl rfl (Nat.le_of_ble_eq_true rfl) (Nat.le_of_ble_eq_true rfl) (sX9_isFact (by omega) _ (fun r68 hr68 => ?_))
                    refine xe_if_eq (tgt := 78) dX9_plan_71 (by decide) (fun h71 => ?_) (fun h71 => ?_)
                    · have c : ¬ planOk (σ.2.1 116) w m := by
                        rintro (z | ⟨z1, z2, z3, z4⟩ | ⟨z1, z2⟩ | ⟨z1, z2⟩)
                        · exact h16 z
                        · first | exact h21 z1 | exact Int32.not_lt.mpr z2 h25 | exact (xb_eq0 hr33).mp h36 (hn ▸ z3) | exact (xb_eq0 hr43).mp h46 z4
                        · first | exact h51 z1 | exact (xb_eq0 hr56).mp h59 (hn ▸ z2)
                        · first | exact h64 z1 | exact (xb_eq0 hr68).mp h71 z2
                      refine xe_iconst (v := 0) dX9_plan_78 rfl ?_
                      refine xe_istore_n (lv2 := [_, _, _, _]) dX9_plan_79 (by decide) rfl ?_
                      refine xe_iload_n dX9_plan_80 rfl ?_
                      refine xe_if_ne (tgt := 86) dX9_plan_81 (by decide) (fun h81 => absurd (by decide) h81) (fun h81 => ?_)
                      refine xe_iconst (v := -1) dX9_plan_84 rfl ?_
                      refine xe_iret dX9_plan_85 rfl rfl ?_
                      rw [planV, planG, if_neg h2, if_neg h2, if_neg c, if_neg (fun z => c z.1), xsA_self] at h; exact h
                    · have c : planOk (σ.2.1 116) w m := by
                        first
                        | exact Or.inl h16
                        | exact Or.inr (Or.inl ⟨h21, Int32.not_lt.mp h25, hn ▸ (xb_ne0 hr33).mp h36, (xb_ne0 hr43).mp h46⟩)
                        | exact Or.inr (Or.inr (Or.inl ⟨h51, hn ▸ (xb_ne0 hr56).mp h59⟩))
                        | exact Or.inr (Or.inr (Or.inr ⟨h64, (xb_ne0 hr68).mp h71⟩))
                      refine xe_iconst (v := 1) dX9_plan_74 rfl ?_
                      refine xe_goto (tgt := 79) dX9_plan_75 (by decide) ?_
                      exact lX9_plan (by omega) a w m h2 c _ ha ha10 h
  · refine xe_aload_n dX9_plan_5 rfl ?_
    refine xe_getr dX9_plan_6 flX9_9 (by decide) rfl rfl ?_
    refine xe_bipush (v := 77) dX9_plan_9 rfl ?_
    refine xe_iconst (v := 0) dX9_plan_11 rfl ?_
    refine xn_iastore dX9_plan_12 (by decide) rfl (by first | with_reducible rfl | (simp only [xl, pk_mul, nI_add, nI_1]; done) | (simp only [xl, pk_mul, nI_add, nI_1]; rfl)) (by omega) (by decide) ?_
    refine xe_iconst (v := 0) dX9_plan_13 rfl ?_
    refine xe_iret dX9_plan_14 rfl rfl ?_
    rw [planV, planG, if_pos h2, if_pos h2] at h; exact h

theorem lX9_looked {d : Nat} {σ : xSt} {Post : Option Value → xSt → Prop} (a : Nat) (ha : σ.2.1 116 98 = nI a) (ha8 : a ≤ 8) (hb : ∀ r, r < a → ∃ p, p < 6 ∧ σ.2.1 116 (99 + 2 * r) = nI p) : ∀ (c j : Nat), j + c = a → Post (some (.int (lkF (σ.2.1 116) c j))) σ → xEv kX9_looked (d + 1) 2 [some (.ref 115), some (.int (nI j))] [] σ Post := by
  intro c
  induction c with
  | zero =>
    intro j hj h
    refine xe_iload_n dX9_looked_2 rfl ?_
    refine xe_aload_n dX9_looked_3 rfl ?_
    refine xe_getr dX9_looked_4 flX9_9 (by decide) rfl rfl ?_
    refine xe_bipush (v := 98) dX9_looked_7 rfl ?_
    refine xn_iaload dX9_looked_9 (by decide) rfl (by first | with_reducible rfl | (simp only [xl, pk_mul, nI_add, nI_1]; done) | (simp only [xl, pk_mul, nI_add, nI_1]; rfl)) (by omega) (by decide) ?_
    rw [ha]
    refine xe_icmp_ge (tgt := 51) dX9_looked_10 (by decide) (fun h10 => ?_) (fun h10 => absurd (nI_le (by omega) (by omega)) h10)
    refine xe_bipush (v := -5) dX9_looked_51 rfl ?_
    refine xe_iret dX9_looked_53 rfl rfl ?_
    exact h
  | succ c ih =>
    intro j hj h
    obtain ⟨p, hp, ep⟩ := hb j (by omega)
    refine xe_iload_n dX9_looked_2 rfl ?_
    refine xe_aload_n dX9_looked_3 rfl ?_
    refine xe_getr dX9_looked_4 flX9_9 (by decide) rfl rfl ?_
    refine xe_bipush (v := 98) dX9_looked_7 rfl ?_
    refine xn_iaload dX9_looked_9 (by decide) rfl (by first | with_reducible rfl | (simp only [xl, pk_mul, nI_add, nI_1]; done) | (simp only [xl, pk_mul, nI_add, nI_1]; rfl)) (by omega) (by decide) ?_
    rw [ha]
    refine xe_icmp_ge (tgt := 51) dX9_looked_10 (by decide) (fun h10 => absurd h10 (nI_ge (by omega) (by omega))) (fun h10 => ?_)
    refine xe_aload_n dX9_looked_13 rfl ?_
    refine xe_aload_n dX9_looked_14 rfl ?_
    refine xe_getr dX9_looked_15 flX9_9 (by decide) rfl rfl ?_
    refine xe_bipush (v := 99) dX9_looked_18 rfl ?_
    refine xe_iconst (v := 2) dX9_looked_20 rfl ?_
    refine xe_iload_n dX9_looked_21 rfl ?_
    refine xe_imul dX9_looked_22 ?_
    refine xe_iadd dX9_looked_23 ?_
    refine xn_iaload dX9_looked_24 (by decide) rfl (by first | with_reducible rfl | (simp only [xl, pk_mul, nI_add, nI_1]; done) | (simp only [xl, pk_mul, nI_add, nI_1]; rfl)) (by omega) (by decide) ?_
    rw [ep]
    refine xe_iconst (v := 2) dX9_looked_25 rfl ?_
    refine xe_callv (k2 := kX9_one) (vs := [_, _]) dX9_looked_26 okX9_one mlX9_93 imX9_one slX9_one (Or.inl ⟨9, _, _, by decide, rfl, rfl, rfl⟩) rfl rfl (Nat.le_of_ble_eq_true rfl) (Nat.le_of_ble_eq_true rfl) (sX9_one (by omega) p 2 (by omega) ?_)
    refine xe_aload_n dX9_looked_29 rfl ?_
    refine xe_getr dX9_looked_30 flX9_9 (by decide) rfl rfl ?_
    refine xe_bipush (v := 100) dX9_looked_33 rfl ?_
    refine xe_iconst (v := 2) dX9_looked_35 rfl ?_
    refine xe_iload_n dX9_looked_36 rfl ?_
    refine xe_imul dX9_looked_37 ?_
    refine xe_iadd dX9_looked_38 ?_
    refine xn_iaload dX9_looked_39 (by decide) rfl (by first | with_reducible rfl | (simp only [xl, pk_mul, nI_add, nI_1]; done) | (simp only [xl, pk_mul, nI_add, nI_1]; rfl)) (by omega) (by decide) ?_
    refine xe_icmp_eq (tgt := 45) dX9_looked_40 (by decide) (fun h40 => ?_) (fun h40 => ?_)
    · refine xn_inc (j := j) (lv2 := [_, _]) dX9_looked_45 (by decide) rfl rfl ?_
      refine xe_goto (tgt := 2) dX9_looked_48 (by decide) ?_
      rw [lkF, ep, cN_nI (by omega), if_pos h40] at h
      exact ih (j + 1) (by omega) h
    · refine xe_iload_n dX9_looked_43 rfl ?_
      refine xe_iret dX9_looked_44 rfl rfl ?_
      rw [lkF, ep, cN_nI (by omega), if_neg h40] at h; exact h

theorem sX9_looked {d : Nat} (hd : 1 ≤ d) {σ : xSt} {Post : Option Value → xSt → Prop} (a : Nat) (ha : σ.2.1 116 98 = nI a) (ha8 : a ≤ 8) (hb : ∀ r, r < a → ∃ p, p < 6 ∧ σ.2.1 116 (99 + 2 * r) = nI p) (h : Post (some (.int (lookedV (σ.2.1 116)))) σ) : xM kX9_looked d [.ref 115] σ Post := by
  obtain ⟨d, rfl⟩ : ∃ e, d = e + 1 := ⟨d - 1, by omega⟩
  refine xM_start (lv := [some (.ref 115), none]) rfl ?_
  refine xe_iconst (v := 0) dX9_looked_0 rfl ?_
  refine xe_istore_n (lv2 := [_, _]) dX9_looked_1 (by decide) rfl ?_
  rw [lookedV, ha, cN_nI (by omega)] at h
  exact lX9_looked a ha ha8 hb a 0 (by omega) h
