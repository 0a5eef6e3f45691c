theorem lX9_on {d : Nat} (hd : 24 ≤ d) {σ : xSt} {Post : Option Value → xSt → Prop} (n : Nat) (hn : σ.2.1 116 54 = nI n) (h6 : n ≤ 6) (hM : MCo σ) (hR : RUo σ) (m w : Int32) (co : onOk (σ.2.1 116) w) (v3 : Option Value) (h : ∀ σ2, KM2 σ σ2 → Post (some (.int (onV (mSem σ) n (σ.2.1 116) m w))) σ2) : xEv kX9_on (d + 1) 30 [some (.ref 115), some (.int m), some (.int w), v3] [] σ Post := by
  have hn2 : pOk (σ.2.1 116 54) = pOk (nI n) := by rw [hn]
  refine xe_iload_n dX9_on_30 rfl ?_
  refine xe_iconst (v := 0) dX9_on_31 rfl ?_
  refine xe_bipush (v := 60) dX9_on_32 rfl ?_
  refine xe_calls (k2 := kX9_isIn) (vs := [_, _, _]) dX9_on_34 okX9_isIn mlX9_89 stX9_isIn rfl rfl (Nat.le_of_ble_eq_true rfl) (Nat.le_of_ble_eq_true rfl) (sX9_isIn (by omega) _ _ _ (fun r34 hr34 => ?_))
  refine xe_if_ne (tgt := 43) dX9_on_37 (by decide) (fun h37 => ?_) (fun h37 => ?_)
  · have cm := (xb_ne0 hr34).mp h37
    obtain ⟨j, hj, rfl⟩ := rng_nat (m := 60) (by omega) cm
    have ej : cN (nI j) = j := cN_nI (by omega)
    refine xe_aload_n dX9_on_43 rfl ?_
    refine xe_getr dX9_on_44 flX9_9 (by decide) rfl rfl ?_
    refine xe_aload_n dX9_on_47 rfl ?_
    refine xe_getr dX9_on_48 flX9_15 (by decide) rfl rfl ?_
    refine xe_calls (k2 := kX9_move) (vs := [_, _]) dX9_on_51 okX9_move mlX9_85 stX9_move rfl rfl (Nat.le_of_ble_eq_true rfl) (Nat.le_of_ble_eq_true rfl) (sX9_move (by omega) 116 117 ⟨by decide, rfl⟩ ⟨by decide, rfl⟩ (by decide) ?_)
    refine xe_aload_n dX9_on_54 rfl ?_
    refine xe_iload_n dX9_on_55 rfl ?_
    refine xe_callv (k2 := kX9_terms) (vs := [_]) dX9_on_56 okX9_terms mlX9_222 imX9_terms slX9_terms (Or.inl ⟨9, _, _, by decide, rfl, rfl, rfl⟩) rfl rfl (Nat.le_of_ble_eq_true rfl) (Nat.le_of_ble_eq_true rfl) (sX9_terms (by omega) n (by rw [xsA_ne (by decide)]; exact hn) h6 j hj hM.mind hR.mind (fun τ kt => ?_))
    rw [kpM_eq, mSem_mind, xsA_ne (by decide)] at kt
    have gt : τ.2.1 116 = (tkGs (kpS (mSem σ)) n (σ.2.1 116) j) := by rw [kt.1 116 (by omega), xsA_get]
    have g57 : (tkGs (kpS (mSem σ)) n (σ.2.1 116) j) 57 = σ.2.1 116 57 := tkGs_hi h6 (by omega) (by omega) j
    have htn : τ.2.1 116 54 = nI n := by rw [gt, tkGs_hi h6 (by omega) (by omega)]; exact hn
    have e7 : (xsA σ 117 (va_cpy (σ.2.1 116) (σ.2.1 117) 0 0 115)).2.1 116 = σ.2.1 116 := xsA_ne (by decide)
    have hMt : MCo τ := (hM.mind.set).km kt
    have hRt : RUo τ := (RUo.set hR.mind (by rw [e7]; exact g57)).km kt
    have hSt : mSem τ = mSem σ := by rw [mSem.km kt, mSem_set (by rw [e7]; exact g57), mSem_mind]
    have hb : ∀ k, 115 ≤ k → (tkGs (kpS (mSem σ)) n (σ.2.1 116) j) k = σ.2.1 116 k := fun k hk => tkGs_hi h6 (by omega) (by omega) j
    rw [onV, if_pos co, if_pos cm, ej] at h
    refine xe_iload_n dX9_on_59 rfl ?_
    refine xe_if_ne (tgt := 71) dX9_on_60 (by decide) (fun h60 => ?_) (fun h60 => ?_)
    · refine xe_iload_n dX9_on_71 rfl ?_
      refine xe_bipush (v := 20) dX9_on_72 rfl ?_
      refine xe_icmp_ge (tgt := 89) dX9_on_74 (by decide) (fun h74 => ?_) (fun h74 => ?_)
      · obtain ⟨i, hi, ei, ew⟩ : ∃ i, i < n ∧ w - 20 = nI i ∧ w = nI (20 + i) := by
          rcases co with q | q | q
          · exact absurd q h60
          · rw [hn] at q; obtain ⟨i, hi, e1, e2⟩ := sub_nat h6 (c := 10) (by omega) q
            rw [e2] at h74; exact absurd (show nI 20 ≤ nI (10 + i) from h74) (nI_ge (by omega) (by omega))
          · rw [hn] at q; exact sub_nat h6 (c := 20) (by omega) q
        refine xe_aload_n dX9_on_89 rfl ?_
        refine xe_iload_n dX9_on_90 rfl ?_
        refine xe_bipush (v := 20) dX9_on_91 rfl ?_
        refine xe_isub dX9_on_93 ?_
        refine xe_top (x2 := nI i) ei ?_
        refine xe_iconst (v := 0) dX9_on_94 rfl ?_
        refine xe_aload_n dX9_on_95 rfl ?_
        refine xe_getr dX9_on_96 flX9_9 (by decide) rfl rfl ?_
        refine xe_bipush (v := 55) dX9_on_99 rfl ?_
        refine xn_iaload dX9_on_101 (by decide) rfl (by first | with_reducible rfl | (simp only [xl, pk_mul, nI_add, nI_1]; done) | (simp only [xl, pk_mul, nI_add, nI_1]; rfl)) (by omega) (by decide) ?_
        refine xe_callv (k2 := kX9_says) (vs := [_, _, _]) dX9_on_102 okX9_says mlX9_114 imX9_says slX9_says (Or.inl ⟨9, _, _, by decide, rfl, rfl, rfl⟩) rfl rfl (Nat.le_of_ble_eq_true rfl) (Nat.le_of_ble_eq_true rfl) (sX9_says (by omega) i 0 _ (by omega) (by omega) hMt hRt (fun τ2 k2 => ?_))
        refine xe_istore_n (lv2 := [_, _, _, _]) dX9_on_105 (by decide) rfl ?_
        refine xe_aload_n dX9_on_106 rfl ?_
        refine xe_getr dX9_on_107 flX9_15 (by decide) rfl rfl ?_
        refine xe_aload_n dX9_on_110 rfl ?_
        refine xe_getr dX9_on_111 flX9_9 (by decide) rfl rfl ?_
        refine xe_calls (k2 := kX9_move) (vs := [_, _]) dX9_on_114 okX9_move mlX9_85 stX9_move rfl rfl (Nat.le_of_ble_eq_true rfl) (Nat.le_of_ble_eq_true rfl) (sX9_move (by omega) 117 116 ⟨by decide, rfl⟩ ⟨by decide, rfl⟩ (by decide) ?_)
        refine xe_iload_n dX9_on_117 rfl ?_
        refine xe_iret dX9_on_118 rfl rfl ?_
        first
        | (have e := h _ (kt.back hb); rw [if_pos h60, ← gt] at e; exact e)
        | (have e := h _ (kt.back hb); rw [if_neg h60, if_pos (Int32.not_le.mp h74), ei, cN_nI (by omega), ← gt] at e; exact e)
        | (have k3 := kt.tr k2; have e := h _ (k3.back hb); rw [if_neg h60, if_neg (Int32.not_lt.mpr h74), ei, cN_nI (by omega), ← gt] at e; rw [hSt, show τ.2.1 116 55 = σ.2.1 116 55 by rw [gt, tkGs_hi h6 (by omega) (by omega)]]; exact e)
      · obtain ⟨i, hi, ei, ew⟩ : ∃ i, i < n ∧ w - 10 = nI i ∧ w = nI (10 + i) := by
          rcases co with q | q | q
          · exact absurd q h60
          · rw [hn] at q; exact sub_nat h6 (c := 10) (by omega) q
          · rw [hn] at q; obtain ⟨i, hi, e1, e2⟩ := sub_nat h6 (c := 20) (by omega) q
            rw [e2] at h74; exact absurd (show nI 20 ≤ nI (20 + i) from nI_le (by omega) (by omega)) h74
        refine xe_aload_n dX9_on_77 rfl ?_
        refine xe_iload_n dX9_on_78 rfl ?_
        refine xe_bipush (v := 10) dX9_on_79 rfl ?_
        refine xe_isub dX9_on_81 ?_
        refine xe_top (x2 := nI i) ei ?_
        refine xe_iconst (v := 2) dX9_on_82 rfl ?_
        refine xe_callv (k2 := kX9_one) (vs := [_, _]) dX9_on_83 okX9_one mlX9_93 imX9_one slX9_one (Or.inl ⟨9, _, _, by decide, rfl, rfl, rfl⟩) rfl rfl (Nat.le_of_ble_eq_true rfl) (Nat.le_of_ble_eq_true rfl) (sX9_one (by omega) i 2 (by omega) ?_)
        refine xe_goto (tgt := 105) dX9_on_86 (by decide) ?_
        refine xe_istore_n (lv2 := [_, _, _, _]) dX9_on_105 (by decide) rfl ?_
        refine xe_aload_n dX9_on_106 rfl ?_
        refine xe_getr dX9_on_107 flX9_15 (by decide) rfl rfl ?_
        refine xe_aload_n dX9_on_110 rfl ?_
        refine xe_getr dX9_on_111 flX9_9 (by decide) rfl rfl ?_
        refine xe_calls (k2 := kX9_move) (vs := [_, _]) dX9_on_114 okX9_move mlX9_85 stX9_move rfl rfl (Nat.le_of_ble_eq_true rfl) (Nat.le_of_ble_eq_true rfl) (sX9_move (by omega) 117 116 ⟨by decide, rfl⟩ ⟨by decide, rfl⟩ (by decide) ?_)
        refine xe_iload_n dX9_on_117 rfl ?_
        refine xe_iret dX9_on_118 rfl rfl ?_
        first
        | (have e := h _ (kt.back hb); rw [if_pos h60, ← gt] at e; exact e)
        | (have e := h _ (kt.back hb); rw [if_neg h60, if_pos (Int32.not_le.mp h74), ei, cN_nI (by omega), ← gt] at e; exact e)
        | (have k3 := kt.tr k2; have e := h _ (k3.back hb); rw [if_neg h60, if_neg (Int32.not_lt.mpr h74), ei, cN_nI (by omega), ← gt] at e; rw [hSt, show τ.2.1 116 55 = σ.2.1 116 55 by rw [gt, tkGs_hi h6 (by omega) (by omega)]]; exact e)
    · refine xe_aload_n dX9_on_63 rfl ?_
      refine xe_iconst (v := 2) dX9_on_64 rfl ?_
      refine xe_callv (k2 := kX9_all) (vs := [_]) dX9_on_65 okX9_all mlX9_225 imX9_all slX9_all (Or.inl ⟨9, _, _, by decide, rfl, rfl, rfl⟩) rfl rfl (Nat.le_of_ble_eq_true rfl) (Nat.le_of_ble_eq_true rfl) (sX9_all (by omega) 2 n (by omega) htn h6 ?_)
      refine xe_goto (tgt := 105) dX9_on_68 (by decide) ?_
      refine xe_istore_n (lv2 := [_, _, _, _]) dX9_on_105 (by decide) rfl ?_
      refine xe_aload_n dX9_on_106 rfl ?_
      refine xe_getr dX9_on_107 flX9_15 (by decide) rfl rfl ?_
      refine xe_aload_n dX9_on_110 rfl ?_
      refine xe_getr dX9_on_111 flX9_9 (by decide) rfl rfl ?_
      refine xe_calls (k2 := kX9_move) (vs := [_, _]) dX9_on_114 okX9_move mlX9_85 stX9_move rfl rfl (Nat.le_of_ble_eq_true rfl) (Nat.le_of_ble_eq_true rfl) (sX9_move (by omega) 117 116 ⟨by decide, rfl⟩ ⟨by decide, rfl⟩ (by decide) ?_)
      refine xe_iload_n dX9_on_117 rfl ?_
      refine xe_iret dX9_on_118 rfl rfl ?_
      first
      | (have e := h _ (kt.back hb); rw [if_pos h60, ← gt] at e; exact e)
      | (have e := h _ (kt.back hb); rw [if_neg h60, if_pos (Int32.not_le.mp h74), ei, cN_nI (by omega), ← gt] at e; exact e)
      | (have k3 := kt.tr k2; have e := h _ (k3.back hb); rw [if_neg h60, if_neg (Int32.not_lt.mpr h74), ei, cN_nI (by omega), ← gt] at e; rw [hSt, show τ.2.1 116 55 = σ.2.1 116 55 by rw [gt, tkGs_hi h6 (by omega) (by omega)]]; exact e)
  · refine xe_bipush (v := -2) dX9_on_40 rfl ?_
    refine xe_iret dX9_on_42 rfl rfl ?_
    have e := h σ KM2.rf
    rw [onV, if_pos co, if_neg ((xb_eq0 hr34).mp h37)] at e
    exact e

theorem sX9_on {d : Nat} (hd : 25 ≤ d) {σ : xSt} {Post : Option Value → xSt → Prop} (n : Nat) (hn : σ.2.1 116 54 = nI n) (h6 : n ≤ 6) (m w : Int32) (hM : MCo σ) (hR : RUo σ) (h : ∀ σ2, KM2 σ σ2 → Post (some (.int (onV (mSem σ) n (σ.2.1 116) m w))) σ2) : xM kX9_on d [.ref 115, .int m, .int w] σ Post := by
  obtain ⟨d, rfl⟩ : ∃ e, d = e + 1 := ⟨d - 1, by omega⟩
  refine xM_start (lv := [some (.ref 115), some (.int m), some (.int w), none]) rfl ?_
  refine xe_iload_n dX9_on_0 rfl ?_
  refine xe_if_eq (tgt := 30) dX9_on_1 (by decide) (fun h1 => ?_) (fun h1 => ?_)
  · have co : onOk (σ.2.1 116) w := by first | exact Or.inl h1 | exact Or.inr (Or.inl (hn ▸ (xb_ne0 hr9).mp h12)) | exact Or.inr (Or.inr (hn ▸ (xb_ne0 hr20).mp h23))
    exact lX9_on (by omega) n hn h6 hM hR m w co _ h
  · refine xe_aload_n dX9_on_4 rfl ?_
    refine xe_iload_n dX9_on_5 rfl ?_
    refine xe_bipush (v := 10) dX9_on_6 rfl ?_
    refine xe_isub dX9_on_8 ?_
    refine xe_callv (k2 := kX9_isPot) (vs := [_]) dX9_on_9 okX9_isPot mlX9_101 imX9_isPot slX9_isPot (Or.inl ⟨9, _, _, by decide, rfl, rfl, rfl⟩) rfl rfl (Nat.le_of_ble_eq_true rfl) (Nat.le_of_ble_eq_true rfl) (tX9_isPot (by omega) _ n hn h6 (fun r9 hr9 => ?_))
    refine xe_if_ne (tgt := 30) dX9_on_12 (by decide) (fun h12 => ?_) (fun h12 => ?_)
    · have co : onOk (σ.2.1 116) w := by first | exact Or.inl h1 | exact Or.inr (Or.inl (hn ▸ (xb_ne0 hr9).mp h12)) | exact Or.inr (Or.inr (hn ▸ (xb_ne0 hr20).mp h23))
      exact lX9_on (by omega) n hn h6 hM hR m w co _ h
    · refine xe_aload_n dX9_on_15 rfl ?_
      refine xe_iload_n dX9_on_16 rfl ?_
      refine xe_bipush (v := 20) dX9_on_17 rfl ?_
      refine xe_isub dX9_on_19 ?_
      refine xe_callv (k2 := kX9_isPot) (vs := [_]) dX9_on_20 okX9_isPot mlX9_101 imX9_isPot slX9_isPot (Or.inl ⟨9, _, _, by decide, rfl, rfl, rfl⟩) rfl rfl (Nat.le_of_ble_eq_true rfl) (Nat.le_of_ble_eq_true rfl) (tX9_isPot (by omega) _ n hn h6 (fun r20 hr20 => ?_))
      refine xe_if_ne (tgt := 30) dX9_on_23 (by decide) (fun h23 => ?_) (fun h23 => ?_)
      · have co : onOk (σ.2.1 116) w := by first | exact Or.inl h1 | exact Or.inr (Or.inl (hn ▸ (xb_ne0 hr9).mp h12)) | exact Or.inr (Or.inr (hn ▸ (xb_ne0 hr20).mp h23))
        exact lX9_on (by omega) n hn h6 hM hR m w co _ h
      · refine xe_sipush (v := -10001) dX9_on_26 rfl ?_
        refine xe_iret dX9_on_29 rfl rfl ?_
        have c : ¬ onOk (σ.2.1 116) w := by
          rintro (q | q | q)
          · exact h1 q
          · exact (xb_eq0 hr9).mp h12 (hn ▸ q)
          · exact (xb_eq0 hr20).mp h23 (hn ▸ q)
        have e := h σ KM2.rf
        rw [onV, if_neg c] at e
        exact e

theorem lX9_ask2 {d : Nat} (hd : 22 ≤ d) {σ : xSt} {Post : Option Value → xSt → Prop} (hM : MCo σ) (hR : RUo σ) (i : Nat) (hi : i < 6) (g : Nat → Int32) (h : ∀ τ v2, KM2 σ τ → τ.2.1 130 = upd g i (tlB (mSem σ) (σ.2.1 116) i 8) → xEv kX9_ask (d + 1) 68 [some (.ref 115), some (.int (nI i)), v2] [] τ Post) : ∀ (c f : Nat) (τ : xSt), 9 ≤ f + c → f ≤ 8 → KM2 σ τ → τ.2.1 130 = upd g i (tlB (mSem σ) (σ.2.1 116) i f) → xEv kX9_ask (d + 1) 22 [some (.ref 115), some (.int (nI i)), some (.int (nI f))] [] τ Post := by
  intro c
  induction c with
  | zero => intro f τ hc hf; omega
  | succ c ih =>
    intro f τ hc hf kt ht
    have gt : τ.2.1 116 = σ.2.1 116 := kt.1 116 (by omega)
    refine xe_iload_n dX9_ask_22 rfl ?_
    refine xe_bipush (v := 8) dX9_ask_23 rfl ?_
    refine xe_icmp_ge (tgt := 68) dX9_ask_25 (by decide) (fun h25 => ?_) (fun h25 => ?_)
    · have e := nLe (a := 8) (by omega) (by omega) h25
      obtain rfl : f = 8 := by omega
      exact h τ _ kt ht
    · have e := nNle (a := 8) (by omega) (by omega) h25
      refine xe_aload_n dX9_ask_28 rfl ?_
      refine xe_getr dX9_ask_29 flX9_56 (by decide) rfl rfl ?_
      refine xe_iload_n dX9_ask_32 rfl ?_
      refine xe_dup2 dX9_ask_33 rfl rfl ?_
      refine xn_iaload (j := i) dX9_ask_34 (by decide) rfl rfl (by omega) (by decide) ?_
      rw [ht, show upd g i (tlB (mSem σ) (σ.2.1 116) i f) i = tlB (mSem σ) (σ.2.1 116) i f by simp [upd]]
      refine xe_aload_n dX9_ask_35 rfl ?_
      refine xe_iload_n dX9_ask_36 rfl ?_
      refine xe_iload_n dX9_ask_37 rfl ?_
      refine xe_aload_n dX9_ask_38 rfl ?_
      refine xe_getr dX9_ask_39 flX9_9 (by decide) rfl rfl ?_
      refine xe_bipush (v := 55) dX9_ask_42 rfl ?_
      refine xn_iaload dX9_ask_44 (by decide) rfl (by first | with_reducible rfl | (simp only [xl, pk_mul, nI_add, nI_1]; done) | (simp only [xl, pk_mul, nI_add, nI_1]; rfl)) (by omega) (by decide) ?_
      rw [gt]
      refine xe_callv (k2 := kX9_says) (vs := [_, _, _]) dX9_ask_45 okX9_says mlX9_114 imX9_says slX9_says (Or.inl ⟨9, _, _, by decide, rfl, rfl, rfl⟩) rfl rfl (Nat.le_of_ble_eq_true rfl) (Nat.le_of_ble_eq_true rfl) (sX9_says (by omega) i f _ hi (by omega) (hM.km2 kt) (hR.km2 kt) (fun σ3 k3 => ?_))
      rw [mSem.km2 kt, gt]
      refine xe_bipush (v := -5) dX9_ask_48 rfl ?_
      refine xe_icmp_ne (tgt := 57) dX9_ask_50 (by decide) (fun h50 => ?_) (fun h50 => ?_)
      · refine xe_iconst (v := 1) dX9_ask_57 rfl ?_
        refine xe_iload_n dX9_ask_58 rfl ?_
        refine xe_ishl dX9_ask_59 ?_
        refine xe_ior dX9_ask_60 ?_
        refine xn_iastore (j := i) dX9_ask_61 (by decide) rfl rfl (by omega) (by decide) ?_
        refine xn_inc (j := f) (lv2 := [_, _, _]) dX9_ask_62 (by decide) rfl rfl ?_
        refine xe_goto (tgt := 22) dX9_ask_65 (by decide) ?_
        refine ih (f + 1) _ (by omega) (by omega) ((kt.tr k3.two).tr (KM2.A (by omega))) ?_
        rw [xsA_get, k3.1 130 (by omega), ht, upd_upd, tlB_succ]
        first
        | rw [if_pos h50]
        | (rw [if_neg h50]; rfl)
      · refine xe_iconst (v := 0) dX9_ask_53 rfl ?_
        refine xe_goto (tgt := 60) dX9_ask_54 (by decide) ?_
        refine xe_ior dX9_ask_60 ?_
        refine xn_iastore (j := i) dX9_ask_61 (by decide) rfl rfl (by omega) (by decide) ?_
        refine xn_inc (j := f) (lv2 := [_, _, _]) dX9_ask_62 (by decide) rfl rfl ?_
        refine xe_goto (tgt := 22) dX9_ask_65 (by decide) ?_
        refine ih (f + 1) _ (by omega) (by omega) ((kt.tr k3.two).tr (KM2.A (by omega))) ?_
        rw [xsA_get, k3.1 130 (by omega), ht, upd_upd, tlB_succ]
        first
        | rw [if_pos h50]
        | (rw [if_neg h50]; rfl)

theorem lX9_ask1 {d : Nat} (hd : 22 ≤ d) {σ : xSt} {Post : Option Value → xSt → Prop} (n : Nat) (hn : σ.2.1 116 54 = nI n) (h6 : n ≤ 6) (hM : MCo σ) (hR : RUo σ) (h : ∀ τ, KM2 σ τ → (∀ i, i < n → τ.2.1 130 i = tlB (mSem σ) (σ.2.1 116) i 8) → Post none τ) : ∀ (c i : Nat) (τ : xSt) (v2 : Option Value), n + 1 ≤ i + c → i ≤ n → KM2 σ τ → (∀ k, k < i → τ.2.1 130 k = tlB (mSem σ) (σ.2.1 116) k 8) → xEv kX9_ask (d + 1) 2 [some (.ref 115), some (.int (nI i)), v2] [] τ Post := by
  intro c
  induction c with
  | zero => intro i τ v2 hc hi; omega
  | succ c ih =>
    intro i τ v2 hc hi kt ht
    have gt : τ.2.1 116 = σ.2.1 116 := kt.1 116 (by omega)
    refine xe_iload_n dX9_ask_2 rfl ?_
    refine xe_aload_n dX9_ask_3 rfl ?_
    refine xe_getr dX9_ask_4 flX9_9 (by decide) rfl rfl ?_
    refine xe_bipush (v := 54) dX9_ask_7 rfl ?_
    refine xn_iaload dX9_ask_9 (by decide) rfl (by first | with_reducible rfl | (simp only [xl, pk_mul, nI_add, nI_1]; done) | (simp only [xl, pk_mul, nI_add, nI_1]; rfl)) (by omega) (by decide) ?_
    rw [gt, hn]
    refine xe_icmp_ge (tgt := 74) dX9_ask_10 (by decide) (fun h10 => ?_) (fun h10 => ?_)
    · refine xe_vret dX9_ask_74 rfl ?_
      have e := nLe (a := n) (by omega) (by omega) h10
      obtain rfl : i = n := by omega
      exact h τ kt ht
    · have e := nNle (a := n) (by omega) (by omega) h10
      refine xe_aload_n dX9_ask_13 rfl ?_
      refine xe_getr dX9_ask_14 flX9_56 (by decide) rfl rfl ?_
      refine xe_iload_n dX9_ask_17 rfl ?_
      refine xe_iconst (v := 0) dX9_ask_18 rfl ?_
      refine xn_iastore (j := i) dX9_ask_19 (by decide) rfl rfl (by omega) (by decide) ?_
      refine xe_iconst (v := 0) dX9_ask_20 rfl ?_
      refine xe_istore_n (lv2 := [_, _, _]) dX9_ask_21 (by decide) rfl ?_
      refine lX9_ask2 (by omega) hM hR i (by omega) (τ.2.1 130) (fun τ2 v2 kt2 ht2 => ?_) 9 0 _ (by omega) (by omega) (kt.tr (KM2.A (by omega))) (by rw [xsA_get]; rfl)
      refine xn_inc (j := i) (lv2 := [_, _, _]) dX9_ask_68 (by decide) rfl rfl ?_
      refine xe_goto (tgt := 2) dX9_ask_71 (by decide) ?_
      refine ih (i + 1) τ2 _ (by omega) (by omega) kt2 (fun k hk => ?_)
      rw [ht2]
      by_cases hki : k = i
      · subst hki; simp [upd]
      · simp only [upd, if_neg hki]; exact ht k (by omega)

theorem sX9_ask {d : Nat} (hd : 23 ≤ d) {σ : xSt} {Post : Option Value → xSt → Prop} (n : Nat) (hn : σ.2.1 116 54 = nI n) (h6 : n ≤ 6) (hM : MCo σ) (hR : RUo σ) (h : ∀ τ, KM2 σ τ → (∀ i, i < n → τ.2.1 130 i = tlB (mSem σ) (σ.2.1 116) i 8) → Post none τ) : xM kX9_ask d [.ref 115] σ Post := by
  obtain ⟨d, rfl⟩ : ∃ e, d = e + 1 := ⟨d - 1, by omega⟩
  refine xM_start (lv := [some (.ref 115), none, none]) rfl ?_
  refine xe_iconst (v := 0) dX9_ask_0 rfl ?_
  refine xe_istore_n (lv2 := [_, _, _]) dX9_ask_1 (by decide) rfl ?_
  exact lX9_ask1 (by omega) n hn h6 hM hR h (n + 1) 0 σ _ (by omega) (by omega) KM2.rf (fun k hk => absurd hk (by omega))

theorem lX9_enough2 {d : Nat} {σ : xSt} {Post : Option Value → xSt → Prop} (n : Nat) (hn : σ.2.1 116 54 = nI n) (h6 : n ≤ 6) (F best : Int32) (set : Nat) (h : ∀ v5, xEv kX9_enough (d + 1) 68 [some (.ref 115), some (.int F), some (.int best), some (.int (nI set)), some (.int (tdB (σ.2.1 130) set n)), v5] [] σ Post) : ∀ (c i : Nat), n + 1 ≤ i + c → i ≤ n → xEv kX9_enough (d + 1) 24 [some (.ref 115), some (.int F), some (.int best), some (.int (nI set)), some (.int (tdB (σ.2.1 130) set i)), some (.int (nI i))] [] σ Post := by
  intro c
  induction c with
  | zero => intro i hc hi; omega
  | succ c ih =>
    intro i hc hi
    refine xe_iload dX9_enough_24 rfl ?_
    refine xe_aload_n dX9_enough_26 rfl ?_
    refine xe_getr dX9_enough_27 flX9_9 (by decide) rfl rfl ?_
    refine xe_bipush (v := 54) dX9_enough_30 rfl ?_
    refine xn_iaload dX9_enough_32 (by decide) rfl (by first | with_reducible rfl | (simp only [xl, pk_mul, nI_add, nI_1]; done) | (simp only [xl, pk_mul, nI_add, nI_1]; rfl)) (by omega) (by decide) ?_
    rw [hn]
    refine xe_icmp_ge (tgt := 68) dX9_enough_33 (by decide) (fun h33 => ?_) (fun h33 => ?_)
    · have e := nLe (a := n) (by omega) (by omega) h33
      obtain rfl : i = n := by omega
      exact h _
    · have e := nNle (a := n) (by omega) (by omega) h33
      refine xe_iload dX9_enough_36 rfl ?_
      refine xe_iload_n dX9_enough_38 rfl ?_
      refine xe_iload dX9_enough_39 rfl ?_
      refine xe_ishr dX9_enough_41 ?_
      refine xe_iconst (v := 1) dX9_enough_42 rfl ?_
      refine xe_iand dX9_enough_43 ?_
      refine xe_iconst (v := 1) dX9_enough_44 rfl ?_
      refine xe_icmp_ne (tgt := 58) dX9_enough_45 (by decide) (fun h45 => ?_) (fun h45 => ?_)
      · refine xe_iconst (v := 0) dX9_enough_58 rfl ?_
        refine xe_ior dX9_enough_59 ?_
        refine xe_istore (lv2 := [_, _, _, _, _, _]) dX9_enough_60 (by decide) rfl ?_
        refine xn_inc (j := i) (lv2 := [_, _, _, _, _, _]) dX9_enough_62 (by decide) rfl rfl ?_
        refine xe_goto (tgt := 24) dX9_enough_65 (by decide) ?_
        have l := ih (i + 1) (by omega) (by omega)
        rw [tdB_succ, bit] at l
        first
        | (rw [if_pos h45] at l; exact l)
        | (rw [if_neg h45] at l; exact l)
      · refine xe_aload_n dX9_enough_48 rfl ?_
        refine xe_getr dX9_enough_49 flX9_56 (by decide) rfl rfl ?_
        refine xe_iload dX9_enough_52 rfl ?_
        refine xn_iaload (j := i) dX9_enough_54 (by decide) rfl rfl (by omega) (by decide) ?_
        refine xe_goto (tgt := 59) dX9_enough_55 (by decide) ?_
        refine xe_ior dX9_enough_59 ?_
        refine xe_istore (lv2 := [_, _, _, _, _, _]) dX9_enough_60 (by decide) rfl ?_
        refine xn_inc (j := i) (lv2 := [_, _, _, _, _, _]) dX9_enough_62 (by decide) rfl rfl ?_
        refine xe_goto (tgt := 24) dX9_enough_65 (by decide) ?_
        have l := ih (i + 1) (by omega) (by omega)
        rw [tdB_succ, bit] at l
        first
        | (rw [if_pos h45] at l; exact l)
        | (rw [if_neg h45] at l; exact l)

theorem lX9_enough1 {d : Nat} (hd : 1 ≤ d) {σ : xSt} {Post : Option Value → xSt → Prop} (n : Nat) (hn : σ.2.1 116 54 = nI n) (h6 : n ≤ 6) (F : Int32) (h : Post (some (.int (enF (σ.2.1 130) n F (2 ^ n)))) σ) : ∀ (c set : Nat) (v4 v5 : Option Value), 2 ^ n + 1 ≤ set + c → set ≤ 2 ^ n → xEv kX9_enough (d + 1) 5 [some (.ref 115), some (.int F), some (.int (enF (σ.2.1 130) n F set)), some (.int (nI set)), v4, v5] [] σ Post := by
  have hp := pow_le n h6
  intro c
  induction c with
  | zero => intro set v4 v5 hc hs; omega
  | succ c ih =>
    intro set v4 v5 hc hs
    refine xe_iload_n dX9_enough_5 rfl ?_
    refine xe_iconst (v := 1) dX9_enough_6 rfl ?_
    refine xe_aload_n dX9_enough_7 rfl ?_
    refine xe_getr dX9_enough_8 flX9_9 (by decide) rfl rfl ?_
    refine xe_bipush (v := 54) dX9_enough_11 rfl ?_
    refine xn_iaload dX9_enough_13 (by decide) rfl (by first | with_reducible rfl | (simp only [xl, pk_mul, nI_add, nI_1]; done) | (simp only [xl, pk_mul, nI_add, nI_1]; rfl)) (by omega) (by decide) ?_
    refine xe_ishl dX9_enough_14 ?_
    rw [hn, pow_n n h6]
    refine xe_icmp_ge (tgt := 106) dX9_enough_15 (by decide) (fun h15 => ?_) (fun h15 => ?_)
    · refine xe_iload_n dX9_enough_106 rfl ?_
      refine xe_iret dX9_enough_107 rfl rfl ?_
      have e := nLe (a := 2 ^ n) (by omega) (by omega) h15
      rw [show set = 2 ^ n by omega]
      exact h
    · have e := nNle (a := 2 ^ n) (by omega) (by omega) h15
      refine xe_iconst (v := 0) dX9_enough_18 rfl ?_
      refine xe_istore (lv2 := [_, _, _, _, _, _]) dX9_enough_19 (by decide) rfl ?_
      refine xe_iconst (v := 0) dX9_enough_21 rfl ?_
      refine xe_istore (lv2 := [_, _, _, _, _, _]) dX9_enough_22 (by decide) rfl ?_
      refine lX9_enough2 n hn h6 F (enF (σ.2.1 130) n F set) set (fun v5 => ?_) (n + 1) 0 (by omega) (by omega)
      refine xe_iload_n dX9_enough_68 rfl ?_
      refine xe_iload dX9_enough_69 rfl ?_
      refine xe_iconst (v := -1) dX9_enough_71 rfl ?_
      refine xe_ixor dX9_enough_72 ?_
      refine xe_iand dX9_enough_73 ?_
      refine xe_if_ne (tgt := 98) dX9_enough_74 (by decide) (fun h74 => ?_) (fun h74 => ?_)
      · refine xe_iload_n dX9_enough_98 rfl ?_
        refine xe_istore_n (lv2 := [_, _, _, _, _, _]) dX9_enough_99 (by decide) rfl ?_
        refine xn_inc (j := set) (lv2 := [_, _, _, _, _, _]) dX9_enough_100 (by decide) rfl rfl ?_
        refine xe_goto (tgt := 5) dX9_enough_103 (by decide) ?_
        have l := ih (set + 1) (some (.int (tdB (σ.2.1 130) set n))) v5 (by omega) (by omega)
        rw [enF_succ, enS] at l
        first
        | (rw [if_neg (c := F &&& (tdB (σ.2.1 130) set n ^^^ (-1)) = 0 ∧ (enF (σ.2.1 130) n F set = -5 ∨ mMany (nI set) < mMany (enF (σ.2.1 130) n F set))) (fun z => h74 z.1)] at l; exact l)
        | (rw [if_pos (c := F &&& (tdB (σ.2.1 130) set n ^^^ (-1)) = 0 ∧ (enF (σ.2.1 130) n F set = -5 ∨ mMany (nI set) < mMany (enF (σ.2.1 130) n F set))) ⟨h74, Or.inl h80⟩] at l; exact l)
        | (rw [if_pos (c := F &&& (tdB (σ.2.1 130) set n ^^^ (-1)) = 0 ∧ (enF (σ.2.1 130) n F set = -5 ∨ mMany (nI set) < mMany (enF (σ.2.1 130) n F set))) ⟨h74, Or.inr (Int32.not_le.mp h91)⟩] at l; exact l)
        | (rw [if_neg (c := F &&& (tdB (σ.2.1 130) set n ^^^ (-1)) = 0 ∧ (enF (σ.2.1 130) n F set = -5 ∨ mMany (nI set) < mMany (enF (σ.2.1 130) n F set))) (fun z => z.2.elim h80 (Int32.not_lt.mpr h91))] at l; exact l)
      · refine xe_iload_n dX9_enough_77 rfl ?_
        refine xe_bipush (v := -5) dX9_enough_78 rfl ?_
        refine xe_icmp_eq (tgt := 94) dX9_enough_80 (by decide) (fun h80 => ?_) (fun h80 => ?_)
        · refine xe_iload_n dX9_enough_94 rfl ?_
          refine xe_goto (tgt := 99) dX9_enough_95 (by decide) ?_
          refine xe_istore_n (lv2 := [_, _, _, _, _, _]) dX9_enough_99 (by decide) rfl ?_
          refine xn_inc (j := set) (lv2 := [_, _, _, _, _, _]) dX9_enough_100 (by decide) rfl rfl ?_
          refine xe_goto (tgt := 5) dX9_enough_103 (by decide) ?_
          have l := ih (set + 1) (some (.int (tdB (σ.2.1 130) set n))) v5 (by omega) (by omega)
          rw [enF_succ, enS] at l
          first
          | (rw [if_neg (c := F &&& (tdB (σ.2.1 130) set n ^^^ (-1)) = 0 ∧ (enF (σ.2.1 130) n F set = -5 ∨ mMany (nI set) < mMany (enF (σ.2.1 130) n F set))) (fun z => h74 z.1)] at l; exact l)
          | (rw [if_pos (c := F &&& (tdB (σ.2.1 130) set n ^^^ (-1)) = 0 ∧ (enF (σ.2.1 130) n F set = -5 ∨ mMany (nI set) < mMany (enF (σ.2.1 130) n F set))) ⟨h74, Or.inl h80⟩] at l; exact l)
          | (rw [if_pos (c := F &&& (tdB (σ.2.1 130) set n ^^^ (-1)) = 0 ∧ (enF (σ.2.1 130) n F set = -5 ∨ mMany (nI set) < mMany (enF (σ.2.1 130) n F set))) ⟨h74, Or.inr (Int32.not_le.mp h91)⟩] at l; exact l)
          | (rw [if_neg (c := F &&& (tdB (σ.2.1 130) set n ^^^ (-1)) = 0 ∧ (enF (σ.2.1 130) n F set = -5 ∨ mMany (nI set) < mMany (enF (σ.2.1 130) n F set))) (fun z => z.2.elim h80 (Int32.not_lt.mpr h91))] at l; exact l)
        · refine xe_iload_n dX9_enough_83 rfl ?_
          refine xe_calls (k2 := kX9_many) (vs := [_]) dX9_enough_84 okX9_many mlX9_228 stX9_many rfl rfl (Nat.le_of_ble_eq_true rfl) (Nat.le_of_ble_eq_true rfl) (sX9_many (by omega) _ ?_)
          refine xe_iload_n dX9_enough_87 rfl ?_
          refine xe_calls (k2 := kX9_many) (vs := [_]) dX9_enough_88 okX9_many mlX9_228 stX9_many rfl rfl (Nat.le_of_ble_eq_true rfl) (Nat.le_of_ble_eq_true rfl) (sX9_many (by omega) _ ?_)
          refine xe_icmp_ge (tgt := 98) dX9_enough_91 (by decide) (fun h91 => ?_) (fun h91 => ?_)
          · refine xe_iload_n dX9_enough_98 rfl ?_
            refine xe_istore_n (lv2 := [_, _, _, _, _, _]) dX9_enough_99 (by decide) rfl ?_
            refine xn_inc (j := set) (lv2 := [_, _, _, _, _, _]) dX9_enough_100 (by decide) rfl rfl ?_
            refine xe_goto (tgt := 5) dX9_enough_103 (by decide) ?_
            have l := ih (set + 1) (some (.int (tdB (σ.2.1 130) set n))) v5 (by omega) (by omega)
            rw [enF_succ, enS] at l
            first
            | (rw [if_neg (c := F &&& (tdB (σ.2.1 130) set n ^^^ (-1)) = 0 ∧ (enF (σ.2.1 130) n F set = -5 ∨ mMany (nI set) < mMany (enF (σ.2.1 130) n F set))) (fun z => h74 z.1)] at l; exact l)
            | (rw [if_pos (c := F &&& (tdB (σ.2.1 130) set n ^^^ (-1)) = 0 ∧ (enF (σ.2.1 130) n F set = -5 ∨ mMany (nI set) < mMany (enF (σ.2.1 130) n F set))) ⟨h74, Or.inl h80⟩] at l; exact l)
            | (rw [if_pos (c := F &&& (tdB (σ.2.1 130) set n ^^^ (-1)) = 0 ∧ (enF (σ.2.1 130) n F set = -5 ∨ mMany (nI set) < mMany (enF (σ.2.1 130) n F set))) ⟨h74, Or.inr (Int32.not_le.mp h91)⟩] at l; exact l)
            | (rw [if_neg (c := F &&& (tdB (σ.2.1 130) set n ^^^ (-1)) = 0 ∧ (enF (σ.2.1 130) n F set = -5 ∨ mMany (nI set) < mMany (enF (σ.2.1 130) n F set))) (fun z => z.2.elim h80 (Int32.not_lt.mpr h91))] at l; exact l)
          · refine xe_iload_n dX9_enough_94 rfl ?_
            refine xe_goto (tgt := 99) dX9_enough_95 (by decide) ?_
            refine xe_istore_n (lv2 := [_, _, _, _, _, _]) dX9_enough_99 (by decide) rfl ?_
            refine xn_inc (j := set) (lv2 := [_, _, _, _, _, _]) dX9_enough_100 (by decide) rfl rfl ?_
            refine xe_goto (tgt := 5) dX9_enough_103 (by decide) ?_
            have l := ih (set + 1) (some (.int (tdB (σ.2.1 130) set n))) v5 (by omega) (by omega)
            rw [enF_succ, enS] at l
            first
            | (rw [if_neg (c := F &&& (tdB (σ.2.1 130) set n ^^^ (-1)) = 0 ∧ (enF (σ.2.1 130) n F set = -5 ∨ mMany (nI set) < mMany (enF (σ.2.1 130) n F set))) (fun z => h74 z.1)] at l; exact l)
            | (rw [if_pos (c := F &&& (tdB (σ.2.1 130) set n ^^^ (-1)) = 0 ∧ (enF (σ.2.1 130) n F set = -5 ∨ mMany (nI set) < mMany (enF (σ.2.1 130) n F set))) ⟨h74, Or.inl h80⟩] at l; exact l)
            | (rw [if_pos (c := F &&& (tdB (σ.2.1 130) set n ^^^ (-1)) = 0 ∧ (enF (σ.2.1 130) n F set = -5 ∨ mMany (nI set) < mMany (enF (σ.2.1 130) n F set))) ⟨h74, Or.inr (Int32.not_le.mp h91)⟩] at l; exact l)
            | (rw [if_neg (c := F &&& (tdB (σ.2.1 130) set n ^^^ (-1)) = 0 ∧ (enF (σ.2.1 130) n F set = -5 ∨ mMany (nI set) < mMany (enF (σ.2.1 130) n F set))) (fun z => z.2.elim h80 (Int32.not_lt.mpr h91))] at l; exact l)

theorem sX9_enough {d : Nat} (hd : 2 ≤ d) {σ : xSt} {Post : Option Value → xSt → Prop} (n : Nat) (hn : σ.2.1 116 54 = nI n) (h6 : n ≤ 6) (F : Int32) (h : Post (some (.int (enF (σ.2.1 130) n F (2 ^ n)))) σ) : xM kX9_enough d [.ref 115, .int F] σ Post := by
  obtain ⟨d, rfl⟩ : ∃ e, d = e + 1 := ⟨d - 1, by omega⟩
  refine xM_start (lv := [some (.ref 115), some (.int F), none, none, none, none]) rfl ?_
  refine xe_bipush (v := -5) dX9_enough_0 rfl ?_
  refine xe_istore_n (lv2 := [_, _, _, _, _, _]) dX9_enough_2 (by decide) rfl ?_
  refine xe_iconst (v := 0) dX9_enough_3 rfl ?_
  refine xe_istore_n (lv2 := [_, _, _, _, _, _]) dX9_enough_4 (by decide) rfl ?_
  exact lX9_enough1 (by omega) n hn h6 F h (2 ^ n + 1) 0 _ _ (by omega) (Nat.zero_le _)

theorem lX9_own {d : Nat} {σ : xSt} {Post : Option Value → xSt → Prop} (n : Nat) (hn : σ.2.1 116 54 = nI n) (h6 : n ≤ 6) (r : Nat) (hr : r < n) (F : Int32) (ho : ∀ (F : Int32) (Post : Option Value → xSt → Prop), Post (some (.int (owF (σ.2.1 130) n r F))) σ → xM kX9_own d [.ref 115, .int (nI (n - (r + 1) + 1)), .int F] σ Post) (hd : 1 ≤ d) (h : Post (some (.int (owF (σ.2.1 130) n (r + 1) F))) σ) : ∀ (c f : Nat), 9 ≤ f + c → f ≤ 8 → xEv kX9_own (d + 1) 25 [some (.ref 115), some (.int (nI (n - (r + 1)))), some (.int F), some (.int (iF (fun f m => if F &&& σ.2.1 130 (n - (r + 1)) &&& one_ f = 0 then m else mxI m (1 + owF (σ.2.1 130) n r (F &&& (one_ f ^^^ (-1))))) (owF (σ.2.1 130) n r F) f)), some (.int (nI f))] [] σ Post := by
  intro c
  induction c with
  | zero => intro f hc hf; omega
  | succ c ih =>
    intro f hc hf
    refine xe_iload dX9_own_25 rfl ?_
    refine xe_bipush (v := 8) dX9_own_27 rfl ?_
    refine xe_icmp_ge (tgt := 76) dX9_own_29 (by decide) (fun h29 => ?_) (fun h29 => ?_)
    · refine xe_iload_n dX9_own_76 rfl ?_
      refine xe_iret dX9_own_77 rfl rfl ?_
      have e := nLe (a := 8) (by omega) (by omega) h29
      obtain rfl : f = 8 := by omega
      rw [owF] at h
      exact h
    · have e := nNle (a := 8) (by omega) (by omega) h29
      refine xe_iload_n dX9_own_32 rfl ?_
      refine xe_aload_n dX9_own_33 rfl ?_
      refine xe_getr dX9_own_34 flX9_56 (by decide) rfl rfl ?_
      refine xe_iload_n dX9_own_37 rfl ?_
      refine xn_iaload (j := n - (r + 1)) dX9_own_38 (by decide) rfl rfl (by omega) (by decide) ?_
      refine xe_iand dX9_own_39 ?_
      refine xe_iconst (v := 1) dX9_own_40 rfl ?_
      refine xe_iload dX9_own_41 rfl ?_
      refine xe_ishl dX9_own_43 ?_
      refine xe_iand dX9_own_44 ?_
      refine xe_if_eq (tgt := 70) dX9_own_45 (by decide) (fun h45 => ?_) (fun h45 => ?_)
      · refine xn_inc (j := f) (lv2 := [_, _, _, _, _]) dX9_own_70 (by decide) rfl rfl ?_
        refine xe_goto (tgt := 25) dX9_own_73 (by decide) ?_
        have l := ih (f + 1) (by omega) (by omega)
        rw [iF_succ] at l
        first
        | (rw [if_pos (c := F &&& σ.2.1 130 (n - (r + 1)) &&& one_ f = 0) h45] at l; exact l)
        | (rw [if_neg (c := F &&& σ.2.1 130 (n - (r + 1)) &&& one_ f = 0) h45] at l; exact l)
      · refine xe_iload_n dX9_own_48 rfl ?_
        refine xe_iconst (v := 1) dX9_own_49 rfl ?_
        refine xe_aload_n dX9_own_50 rfl ?_
        refine xe_iload_n dX9_own_51 rfl ?_
        refine xe_iconst (v := 1) dX9_own_52 rfl ?_
        refine xe_iadd dX9_own_53 ?_
        refine xe_top (x2 := nI (n - (r + 1) + 1)) (nI_1 _) ?_
        refine xe_iload_n dX9_own_54 rfl ?_
        refine xe_iconst (v := 1) dX9_own_55 rfl ?_
        refine xe_iload dX9_own_56 rfl ?_
        refine xe_ishl dX9_own_58 ?_
        refine xe_iconst (v := -1) dX9_own_59 rfl ?_
        refine xe_ixor dX9_own_60 ?_
        refine xe_iand dX9_own_61 ?_
        refine xe_callv (k2 := kX9_own) (vs := [_, _]) dX9_own_62 okX9_own mlX9_231 imX9_own slX9_own (Or.inl ⟨9, _, _, by decide, rfl, rfl, rfl⟩) rfl rfl (Nat.le_of_ble_eq_true rfl) (Nat.le_of_ble_eq_true rfl) (ho (F &&& (one_ f ^^^ (-1))) _ ?_)
        refine xe_iadd dX9_own_65 ?_
        refine xe_mmax dX9_own_66 mlX9_125 (by omega) (Nat.le_of_ble_eq_true rfl) ?_
        refine xe_istore_n (lv2 := [_, _, _, _, _]) dX9_own_69 (by decide) rfl ?_
        refine xn_inc (j := f) (lv2 := [_, _, _, _, _]) dX9_own_70 (by decide) rfl rfl ?_
        refine xe_goto (tgt := 25) dX9_own_73 (by decide) ?_
        have l := ih (f + 1) (by omega) (by omega)
        rw [iF_succ] at l
        first
        | (rw [if_pos (c := F &&& σ.2.1 130 (n - (r + 1)) &&& one_ f = 0) h45] at l; exact l)
        | (rw [if_neg (c := F &&& σ.2.1 130 (n - (r + 1)) &&& one_ f = 0) h45] at l; exact l)

theorem sX9_own {σ : xSt} (n : Nat) (hn : σ.2.1 116 54 = nI n) (h6 : n ≤ 6) : ∀ (r : Nat), r ≤ n → ∀ (d : Nat), r + 1 ≤ d → ∀ (F : Int32) (Post : Option Value → xSt → Prop), Post (some (.int (owF (σ.2.1 130) n r F))) σ → xM kX9_own d [.ref 115, .int (nI (n - r)), .int F] σ Post := by
  intro r
  induction r with
  | zero =>
    intro hr d hd F Post h
    refine xM_start (lv := [some (.ref 115), some (.int (nI (n - 0))), some (.int F), none, none]) rfl ?_
    refine xe_iload_n dX9_own_0 rfl ?_
    refine xe_aload_n dX9_own_1 rfl ?_
    refine xe_getr dX9_own_2 flX9_9 (by decide) rfl rfl ?_
    refine xe_bipush (v := 54) dX9_own_5 rfl ?_
    refine xn_iaload dX9_own_7 (by decide) rfl (by first | with_reducible rfl | (simp only [xl, pk_mul, nI_add, nI_1]; done) | (simp only [xl, pk_mul, nI_add, nI_1]; rfl)) (by omega) (by decide) ?_
    rw [hn]
    refine xe_icmp_ne (tgt := 13) dX9_own_8 (by decide) (fun h8 => absurd (show nI (n - 0) = nI n by rw [Nat.sub_zero]) h8) (fun h8 => ?_)
    refine xe_iconst (v := 0) dX9_own_11 rfl ?_
    refine xe_iret dX9_own_12 rfl rfl ?_
    exact h
  | succ r ih =>
    intro hr d hd F Post h
    obtain ⟨d, rfl⟩ : ∃ e, d = e + 1 := ⟨d - 1, by omega⟩
    have er : n - (r + 1) + 1 = n - r := by omega
    refine xM_start (lv := [some (.ref 115), some (.int (nI (n - (r + 1)))), some (.int F), none, none]) rfl ?_
    refine xe_iload_n dX9_own_0 rfl ?_
    refine xe_aload_n dX9_own_1 rfl ?_
    refine xe_getr dX9_own_2 flX9_9 (by decide) rfl rfl ?_
    refine xe_bipush (v := 54) dX9_own_5 rfl ?_
    refine xn_iaload dX9_own_7 (by decide) rfl (by first | with_reducible rfl | (simp only [xl, pk_mul, nI_add, nI_1]; done) | (simp only [xl, pk_mul, nI_add, nI_1]; rfl)) (by omega) (by decide) ?_
    rw [hn]
    refine xe_icmp_ne (tgt := 13) dX9_own_8 (by decide) (fun h8 => ?_) (fun h8 => absurd h8 (show ¬ nI (n - (r + 1)) = nI n from fun z => absurd (nEq (by omega) (by omega) z) (by omega)))
    refine xe_aload_n dX9_own_13 rfl ?_
    refine xe_iload_n dX9_own_14 rfl ?_
    refine xe_iconst (v := 1) dX9_own_15 rfl ?_
    refine xe_iadd dX9_own_16 ?_
    refine xe_top (x2 := nI (n - r)) (by rw [nI_1, er]) ?_
    refine xe_iload_n dX9_own_17 rfl ?_
    refine xe_callv (k2 := kX9_own) (vs := [_, _]) dX9_own_18 okX9_own mlX9_231 imX9_own slX9_own (Or.inl ⟨9, _, _, by decide, rfl, rfl, rfl⟩) rfl rfl (Nat.le_of_ble_eq_true rfl) (Nat.le_of_ble_eq_true rfl) (ih (by omega) d (by omega) F _ ?_)
    refine xe_istore_n (lv2 := [_, _, _, _, _]) dX9_own_21 (by decide) rfl ?_
    refine xe_iconst (v := 0) dX9_own_22 rfl ?_
    refine xe_istore (lv2 := [_, _, _, _, _]) dX9_own_23 (by decide) rfl ?_
    exact lX9_own n hn h6 r (by omega) F (fun F Post hp => by rw [er]; exact ih (by omega) d (by omega) F Post hp) (by omega) h 9 0 (by omega) (by omega)

theorem tdB_cg {t t2 : Nat → Int32} {n : Nat} (h : ∀ i, i < n → t i = t2 i) (set : Nat) : ∀ k, k ≤ n → tdB t set k = tdB t2 set k := by
  intro k
  induction k with
  | zero => intro _; rfl
  | succ k ih => intro hk; rw [tdB_succ, tdB_succ, ih (by omega), h k (by omega)]
theorem enF_cg {t t2 : Nat → Int32} {n : Nat} (h : ∀ i, i < n → t i = t2 i) (F : Int32) : ∀ k, enF t n F k = enF t2 n F k := by
  intro k
  induction k with
  | zero => rfl
  | succ k ih => rw [enF_succ, enF_succ, ih, enS, enS, tdB_cg h k n (Nat.le_refl _)]
theorem owF_cg {t t2 : Nat → Int32} {n : Nat} (h : ∀ i, i < n → t i = t2 i) : ∀ r, r ≤ n → ∀ F, owF t n r F = owF t2 n r F := by
  intro r
  induction r with
  | zero => intro _ F; rfl
  | succ r ih =>
    intro hr F
    rw [owF, owF, ih (by omega) F, h (n - (r + 1)) (by omega)]
    congr 1
    funext f m
    rw [ih (by omega)]

theorem sX9_cases {d : Nat} (hd : 24 ≤ d) {σ : xSt} {Post : Option Value → xSt → Prop} (n : Nat) (hn : σ.2.1 116 54 = nI n) (hn6 : n ≤ 6) (F w : Int32) (hM : MCo σ) (hR : RUo σ) (h : ∀ τ, KM2 σ τ → Post (some (.int (casesV (mSem σ) (σ.2.1 116) n F w))) τ) : xM kX9_cases d [.ref 115, .int F, .int w] σ Post := by
  obtain ⟨d, rfl⟩ : ∃ e, d = e + 1 := ⟨d - 1, by omega⟩
  refine xM_start (lv := [some (.ref 115), some (.int F), some (.int w)]) rfl ?_
  refine xe_iload_n dX9_cases_0 rfl ?_
  refine xe_iconst (v := 0) dX9_cases_1 rfl ?_
  refine xe_iconst (v := 1) dX9_cases_2 rfl ?_
  refine xe_calls (k2 := kX9_isIn) (vs := [_, _, _]) dX9_cases_3 okX9_isIn mlX9_89 stX9_isIn rfl rfl (Nat.le_of_ble_eq_true rfl) (Nat.le_of_ble_eq_true rfl) (sX9_isIn (by omega) _ _ _ (fun r3 hr3 => ?_))
  refine xe_if_ne (tgt := 11) dX9_cases_6 (by decide) (fun h6 => ?_) (fun h6 => ?_)
  · refine xe_iload_n dX9_cases_11 rfl ?_
    refine xe_iconst (v := 0) dX9_cases_12 rfl ?_
    refine xe_sipush (v := 255) dX9_cases_13 rfl ?_
    refine xe_calls (k2 := kX9_isIn) (vs := [_, _, _]) dX9_cases_16 okX9_isIn mlX9_89 stX9_isIn rfl rfl (Nat.le_of_ble_eq_true rfl) (Nat.le_of_ble_eq_true rfl) (sX9_isIn (by omega) _ _ _ (fun r16 hr16 => ?_))
    refine xe_if_ne (tgt := 25) dX9_cases_19 (by decide) (fun h19 => ?_) (fun h19 => ?_)
    · refine xe_aload_n dX9_cases_25 rfl ?_
      refine xe_callv (k2 := kX9_ask) (vs := []) dX9_cases_26 okX9_ask mlX9_234 imX9_ask slX9_ask (Or.inl ⟨9, _, _, by decide, rfl, rfl, rfl⟩) rfl rfl (Nat.le_of_ble_eq_true rfl) (Nat.le_of_ble_eq_true rfl) (sX9_ask (by omega) n hn hn6 hM hR (fun τ kt ht => ?_))
      have htn : τ.2.1 116 54 = nI n := by rw [kt.1 116 (by omega)]; exact hn
      have c1 := (xb_ne0 hr3).mp h6
      have c2 := (xb_ne0 hr16).mp h19
      have e := h τ kt
      rw [casesV, if_pos c1, if_pos c2] at e
      refine xe_iload_n dX9_cases_29 rfl ?_
      refine xe_if_ne (tgt := 41) dX9_cases_30 (by decide) (fun h30 => ?_) (fun h30 => ?_)
      · refine xe_aload_n dX9_cases_41 rfl ?_
        refine xe_iconst (v := 0) dX9_cases_42 rfl ?_
        refine xe_iload_n dX9_cases_43 rfl ?_
        rw [show (0 : Int32) = nI (n - n) by rw [Nat.sub_self]; rfl]
        refine xe_callv (k2 := kX9_own) (vs := [_, _]) dX9_cases_44 okX9_own mlX9_231 imX9_own slX9_own (Or.inl ⟨9, _, _, by decide, rfl, rfl, rfl⟩) rfl rfl (Nat.le_of_ble_eq_true rfl) (Nat.le_of_ble_eq_true rfl) (sX9_own n htn hn6 n (Nat.le_refl _) d (by omega) F _ ?_)
        refine xe_iret dX9_cases_47 rfl rfl ?_
        first
        | (rw [if_pos h30, ← enF_cg (t := τ.2.1 130) ht] at e; exact e)
        | (rw [if_neg h30, ← owF_cg (t := τ.2.1 130) ht n (Nat.le_refl _)] at e; exact e)
      · refine xe_aload_n dX9_cases_33 rfl ?_
        refine xe_iload_n dX9_cases_34 rfl ?_
        refine xe_callv (k2 := kX9_enough) (vs := [_]) dX9_cases_35 okX9_enough mlX9_237 imX9_enough slX9_enough (Or.inl ⟨9, _, _, by decide, rfl, rfl, rfl⟩) rfl rfl (Nat.le_of_ble_eq_true rfl) (Nat.le_of_ble_eq_true rfl) (sX9_enough (by omega) n htn hn6 F ?_)
        refine xe_goto (tgt := 47) dX9_cases_38 (by decide) ?_
        refine xe_iret dX9_cases_47 rfl rfl ?_
        first
        | (rw [if_pos h30, ← enF_cg (t := τ.2.1 130) ht] at e; exact e)
        | (rw [if_neg h30, ← owF_cg (t := τ.2.1 130) ht n (Nat.le_refl _)] at e; exact e)
    · refine xe_bipush (v := -2) dX9_cases_22 rfl ?_
      refine xe_iret dX9_cases_24 rfl rfl ?_
      have e := h σ KM2.rf
      rw [casesV, if_pos ((xb_ne0 hr3).mp h6), if_neg ((xb_eq0 hr16).mp h19)] at e
      exact e
  · refine xe_iconst (v := -1) dX9_cases_9 rfl ?_
    refine xe_iret dX9_cases_10 rfl rfl ?_
    have e := h σ KM2.rf
    rw [casesV, if_neg ((xb_eq0 hr3).mp h6)] at e
    exact e
