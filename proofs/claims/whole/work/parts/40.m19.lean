theorem lX9_odds {d : Nat} {τ : xSt} {Post : Option Value → xSt → Prop} (fit : Nat → Bool) (f : Nat) (hf : f < 8) (pt a : Int32) (hfi : ∀ w, w < 256 → τ.2.1 128 w = bI (fit w)) (h : xEv kX9_odds (d + 1) 70 [some (.ref 115), some (.int (nI f)), some (.int pt), some (.int a), some (.int (somF fit f 256)), some (.int (nI 256))] [] τ Post) : ∀ (c w : Nat), 257 ≤ w + c → w ≤ 256 → xEv kX9_odds (d + 1) 31 [some (.ref 115), some (.int (nI f)), some (.int pt), some (.int a), some (.int (somF fit f w)), some (.int (nI w))] [] τ Post := by
  intro c
  induction c with
  | zero => intro w hc hw; omega
  | succ c ih =>
    intro w hc hw
    refine xe_iload dX9_odds_31 rfl ?_
    refine xe_sipush (v := 256) dX9_odds_33 rfl ?_
    refine xe_icmp_ge (tgt := 70) dX9_odds_36 (by decide) (fun h36 => ?_) (fun h36 => ?_)
    · have e := nLe (a := 256) (by omega) (by omega) h36
      obtain rfl : w = 256 := by omega
      exact h
    · have e := nNle (a := 256) (by omega) (by omega) h36
      refine xe_iload dX9_odds_39 rfl ?_
      refine xe_aload_n dX9_odds_41 rfl ?_
      refine xe_getr dX9_odds_42 flX9_49 (by decide) rfl rfl ?_
      refine xe_iload dX9_odds_45 rfl ?_
      refine xn_zaload (j := w) dX9_odds_47 (by decide) rfl rfl (by omega) (by decide) ?_
      rw [hfi w (by omega)]
      refine xe_if_eq (tgt := 60) dX9_odds_48 (by decide) (fun h48 => ?_) (fun h48 => ?_)
      · refine xe_iconst (v := 0) dX9_odds_60 rfl ?_
        refine xe_iadd dX9_odds_61 ?_
        refine xe_istore (lv2 := [_, _, _, _, _, _]) dX9_odds_62 (by decide) rfl ?_
        refine xn_inc (j := w) (lv2 := [_, _, _, _, _, _]) dX9_odds_64 (by decide) rfl rfl ?_
        refine xe_goto (tgt := 31) dX9_odds_67 (by decide) ?_
        have l := ih (w + 1) (by omega) (by omega)
        rw [somF, iS, bit] at l
        first
        | (rw [if_pos (bI_ne0.mp h48)] at l; exact l)
        | (rw [if_neg (by rw [bI_eq0.mp h48]; decide)] at l; exact l)
      · refine xe_iload dX9_odds_51 rfl ?_
        refine xe_iload_n dX9_odds_53 rfl ?_
        refine xe_ishr dX9_odds_54 ?_
        refine xe_iconst (v := 1) dX9_odds_55 rfl ?_
        refine xe_iand dX9_odds_56 ?_
        refine xe_goto (tgt := 61) dX9_odds_57 (by decide) ?_
        refine xe_iadd dX9_odds_61 ?_
        refine xe_istore (lv2 := [_, _, _, _, _, _]) dX9_odds_62 (by decide) rfl ?_
        refine xn_inc (j := w) (lv2 := [_, _, _, _, _, _]) dX9_odds_64 (by decide) rfl rfl ?_
        refine xe_goto (tgt := 31) dX9_odds_67 (by decide) ?_
        have l := ih (w + 1) (by omega) (by omega)
        rw [somF, iS, bit] at l
        first
        | (rw [if_pos (bI_ne0.mp h48)] at l; exact l)
        | (rw [if_neg (by rw [bI_eq0.mp h48]; decide)] at l; exact l)

theorem sX9_odds {d : Nat} (hd : 23 ≤ d) {σ : xSt} {Post : Option Value → xSt → Prop} (f pt : Int32) (hM : MCo σ) (hR : RUo σ) (m : Nat) (hm : σ.2.1 116 58 = nI m) (hm6 : m ≤ 6) (hh : HRo (σ.2.1 116) m) (h : ∀ τ, KM2 σ τ → Post (some (.long (oddsV (fitR (mSem σ) (σ.2.1 116) m) f pt))) τ) : xM kX9_odds d [.ref 115, .int f, .int pt] σ Post := by
  obtain ⟨d, rfl⟩ : ∃ e, d = e + 1 := ⟨d - 1, by omega⟩
  refine xM_start (lv := [some (.ref 115), some (.int f), some (.int pt), none, none, none]) rfl ?_
  refine xe_iload_n dX9_odds_0 rfl ?_
  refine xe_calls (k2 := kX9_isFact) (vs := [_]) dX9_odds_1 okX9_isFact mlX9_108 stX9_isFact rfl rfl (Nat.le_of_ble_eq_true rfl) (Nat.le_of_ble_eq_true rfl) (sX9_isFact (by omega) _ (fun r1 hr1 => ?_))
  refine xe_if_eq (tgt := 16) dX9_odds_4 (by decide) (fun h4 => ?_) (fun h4 => ?_)
  · refine xe_ldc2 dX9_odds_16 cnX9_243 ?_
    refine xe_lret dX9_odds_19 rfl ?_
    have c : ¬ (rng f 0 7 ∧ rng pt 0 1) := by first | exact fun z => (xb_eq0 hr1).mp h4 z.1 | exact fun z => (xb_eq0 hr10).mp h13 z.2
    have e := h σ KM2.rf
    rw [oddsV, if_neg c] at e
    exact e
  · refine xe_iload_n dX9_odds_7 rfl ?_
    refine xe_iconst (v := 0) dX9_odds_8 rfl ?_
    refine xe_iconst (v := 1) dX9_odds_9 rfl ?_
    refine xe_calls (k2 := kX9_isIn) (vs := [_, _, _]) dX9_odds_10 okX9_isIn mlX9_89 stX9_isIn rfl rfl (Nat.le_of_ble_eq_true rfl) (Nat.le_of_ble_eq_true rfl) (sX9_isIn (by omega) _ _ _ (fun r10 hr10 => ?_))
    refine xe_if_ne (tgt := 20) dX9_odds_13 (by decide) (fun h13 => ?_) (fun h13 => ?_)
    · have cf := (xb_ne0 hr1).mp h4
      have cp := (xb_ne0 hr10).mp h13
      obtain ⟨u, hu, rfl⟩ := rng_nat (m := 7) (by omega) cf
      have eu : cN (nI u) = u := cN_nI (by omega)
      refine xe_aload_n dX9_odds_20 rfl ?_
      refine xe_callv (k2 := kX9_look) (vs := []) dX9_odds_21 okX9_look mlX9_202 imX9_look slX9_look (Or.inl ⟨9, _, _, by decide, rfl, rfl, rfl⟩) rfl rfl (Nat.le_of_ble_eq_true rfl) (Nat.le_of_ble_eq_true rfl) (sX9_look (by omega) hM hR m hm hm6 hh (fun τ kt hfi => ?_))
      refine xe_istore_n (lv2 := [_, _, _, _, _, _]) dX9_odds_24 (by decide) rfl ?_
      refine xe_iconst (v := 0) dX9_odds_25 rfl ?_
      refine xe_istore (lv2 := [_, _, _, _, _, _]) dX9_odds_26 (by decide) rfl ?_
      refine xe_iconst (v := 0) dX9_odds_28 rfl ?_
      refine xe_istore (lv2 := [_, _, _, _, _, _]) dX9_odds_29 (by decide) rfl ?_
      have e := h τ kt
      rw [oddsV, if_pos ⟨cf, cp⟩, eu] at e
      have b1 := cntN_le (fitR (mSem σ) (σ.2.1 116) m) 256
      have b2 := somN_le (fitR (mSem σ) (σ.2.1 116) m) u 256
      rw [cntF_N]
      refine lX9_odds (fitR (mSem σ) (σ.2.1 116) m) u (by omega) pt _ hfi ?_ 257 0 (by omega) (by omega)
      rw [somF_N]
      generalize cntN (fitR (mSem σ) (σ.2.1 116) m) 256 = cN1 at b1 e ⊢
      generalize somN (fitR (mSem σ) (σ.2.1 116) m) u 256 = cN2 at b2 e ⊢
      refine xe_iload_n dX9_odds_70 rfl ?_
      refine xe_if_ne (tgt := 80) dX9_odds_71 (by decide) (fun h71 => ?_) (fun h71 => ?_)
      · refine xe_iload dX9_odds_80 rfl ?_
        refine xe_i2l dX9_odds_82 ?_
        rw [nI_l (by omega)]
        refine xe_iload_n dX9_odds_83 rfl ?_
        refine xe_i2l dX9_odds_84 ?_
        rw [nI_l (by omega)]
        refine xe_iload_n dX9_odds_85 rfl ?_
        refine xe_calls (k2 := kX9_fraction) (vs := [_, _, _]) dX9_odds_86 okX9_fraction mlX9_245 stX9_fraction rfl rfl (Nat.le_of_ble_eq_true rfl) (Nat.le_of_ble_eq_true rfl) (sX9_fraction (by omega) cN2 cN1 pt (by omega) (by omega) (Nat.pos_of_ne_zero (fun z => h71 (by rw [z]; rfl))) ?_)
        refine xe_lret dX9_odds_89 rfl ?_
        first
        | (rw [if_pos (nEq (b := 0) (by omega) (by omega) h71)] at e; exact e)
        | (rw [if_neg (fun z => h71 (by rw [z]; rfl))] at e; exact e)
      · refine xe_ldc2 dX9_odds_74 cnX9_243 ?_
        refine xe_goto (tgt := 89) dX9_odds_77 (by decide) ?_
        refine xe_lret dX9_odds_89 rfl ?_
        first
        | (rw [if_pos (nEq (b := 0) (by omega) (by omega) h71)] at e; exact e)
        | (rw [if_neg (fun z => h71 (by rw [z]; rfl))] at e; exact e)
    · refine xe_ldc2 dX9_odds_16 cnX9_243 ?_
      refine xe_lret dX9_odds_19 rfl ?_
      have c : ¬ (rng f 0 7 ∧ rng pt 0 1) := by first | exact fun z => (xb_eq0 hr1).mp h4 z.1 | exact fun z => (xb_eq0 hr10).mp h13 z.2
      have e := h σ KM2.rf
      rw [oddsV, if_neg c] at e
      exact e

theorem sX9_mean {d : Nat} (hd : 26 ≤ d) {σ : xSt} {Post : Option Value → xSt → Prop} (n : Nat) (hn : σ.2.1 116 54 = nI n) (h6 : n ≤ 6) (k pt : Int32) (hM : MCo σ) (hR : RUo σ) (hs : ∀ j, j ≤ 60 → ∃ x, x ≤ 54 ∧ iS (fun i => tkGs (kpS (mSem σ)) n (σ.2.1 116) j (9 * i + 2)) n = nI x) (h : ∀ τ, KM2 σ τ → Post (some (.long (meanV (mSem σ) n (σ.2.1 116) k pt))) τ) : xM kX9_mean d [.ref 115, .int k, .int pt] σ Post := by
  obtain ⟨d, rfl⟩ : ∃ e, d = e + 1 := ⟨d - 1, by omega⟩
  refine xM_start (lv := [some (.ref 115), some (.int k), some (.int pt)]) rfl ?_
  refine xe_iload_n dX9_mean_0 rfl ?_
  refine xe_iconst (v := 0) dX9_mean_1 rfl ?_
  refine xe_bipush (v := 60) dX9_mean_2 rfl ?_
  refine xe_calls (k2 := kX9_isIn) (vs := [_, _, _]) dX9_mean_4 okX9_isIn mlX9_89 stX9_isIn rfl rfl (Nat.le_of_ble_eq_true rfl) (Nat.le_of_ble_eq_true rfl) (sX9_isIn (by omega) _ _ _ (fun r4 hr4 => ?_))
  refine xe_if_eq (tgt := 29) dX9_mean_7 (by decide) (fun h7 => ?_) (fun h7 => ?_)
  · refine xe_ldc2 dX9_mean_29 cnX9_243 ?_
    refine xe_lret dX9_mean_32 rfl ?_
    have c : ¬ ((rng k 0 60 ∧ rng pt 0 1) ∧ ¬ n = 0) := by first | exact fun z => (xb_eq0 hr4).mp h7 z.1.1 | exact fun z => (xb_eq0 hr13).mp h16 z.1.2 | exact fun z => z.2 (nEq (b := 0) (by omega) (by omega) h26)
    have e := h σ KM2.rf
    rw [meanV, if_neg c] at e
    exact e
  · refine xe_iload_n dX9_mean_10 rfl ?_
    refine xe_iconst (v := 0) dX9_mean_11 rfl ?_
    refine xe_iconst (v := 1) dX9_mean_12 rfl ?_
    refine xe_calls (k2 := kX9_isIn) (vs := [_, _, _]) dX9_mean_13 okX9_isIn mlX9_89 stX9_isIn rfl rfl (Nat.le_of_ble_eq_true rfl) (Nat.le_of_ble_eq_true rfl) (sX9_isIn (by omega) _ _ _ (fun r13 hr13 => ?_))
    refine xe_if_eq (tgt := 29) dX9_mean_16 (by decide) (fun h16 => ?_) (fun h16 => ?_)
    · refine xe_ldc2 dX9_mean_29 cnX9_243 ?_
      refine xe_lret dX9_mean_32 rfl ?_
      have c : ¬ ((rng k 0 60 ∧ rng pt 0 1) ∧ ¬ n = 0) := by first | exact fun z => (xb_eq0 hr4).mp h7 z.1.1 | exact fun z => (xb_eq0 hr13).mp h16 z.1.2 | exact fun z => z.2 (nEq (b := 0) (by omega) (by omega) h26)
      have e := h σ KM2.rf
      rw [meanV, if_neg c] at e
      exact e
    · refine xe_aload_n dX9_mean_19 rfl ?_
      refine xe_getr dX9_mean_20 flX9_9 (by decide) rfl rfl ?_
      refine xe_bipush (v := 54) dX9_mean_23 rfl ?_
      refine xn_iaload dX9_mean_25 (by decide) rfl (by first | with_reducible rfl | (simp only [xl, pk_mul, nI_add, nI_1]; done) | (simp only [xl, pk_mul, nI_add, nI_1]; rfl)) (by omega) (by decide) ?_
      rw [hn]
      refine xe_if_ne (tgt := 33) dX9_mean_26 (by decide) (fun h26 => ?_) (fun h26 => ?_)
      · have ck := (xb_ne0 hr4).mp h7
        have cp := (xb_ne0 hr13).mp h16
        have hn0 : ¬ n = 0 := fun z => h26 (by rw [z]; rfl)
        obtain ⟨j, hj, rfl⟩ := rng_nat (m := 60) (by omega) ck
        have ej : cN (nI j) = j := cN_nI (by omega)
        obtain ⟨x, hx, ex⟩ := hs j hj
        have eo : onV (mSem σ) n (σ.2.1 116) (nI j) 0 = nI x := by rw [onV, if_pos (Or.inl rfl), if_pos ck, if_pos rfl, ej, ex]
        refine xe_aload_n dX9_mean_33 rfl ?_
        refine xe_iload_n dX9_mean_34 rfl ?_
        refine xe_iconst (v := 0) dX9_mean_35 rfl ?_
        refine xe_callv (k2 := kX9_on) (vs := [_, _]) dX9_mean_36 okX9_on mlX9_249 imX9_on slX9_on (Or.inl ⟨9, _, _, by decide, rfl, rfl, rfl⟩) rfl rfl (Nat.le_of_ble_eq_true rfl) (Nat.le_of_ble_eq_true rfl) (sX9_on (by omega) n hn h6 (nI j) 0 hM hR (fun τ kt => ?_))
        rw [eo]
        refine xe_i2l dX9_mean_39 ?_
        rw [nI_l (by omega)]
        refine xe_aload_n dX9_mean_40 rfl ?_
        refine xe_getr dX9_mean_41 flX9_9 (by decide) rfl rfl ?_
        refine xe_bipush (v := 54) dX9_mean_44 rfl ?_
        refine xn_iaload dX9_mean_46 (by decide) rfl (by first | with_reducible rfl | (simp only [xl, pk_mul, nI_add, nI_1]; done) | (simp only [xl, pk_mul, nI_add, nI_1]; rfl)) (by omega) (by decide) ?_
        rw [kt.1 116 (by omega), hn]
        refine xe_i2l dX9_mean_47 ?_
        rw [nI_l (by omega)]
        refine xe_iload_n dX9_mean_48 rfl ?_
        refine xe_calls (k2 := kX9_fraction) (vs := [_, _, _]) dX9_mean_49 okX9_fraction mlX9_245 stX9_fraction rfl rfl (Nat.le_of_ble_eq_true rfl) (Nat.le_of_ble_eq_true rfl) (sX9_fraction (by omega) x n pt (by omega) (by omega) (by omega) ?_)
        refine xe_lret dX9_mean_52 rfl ?_
        have e := h τ kt
        rw [meanV, if_pos ⟨⟨ck, cp⟩, hn0⟩, ej, ex, cN_nI (by omega)] at e
        exact e
      · refine xe_ldc2 dX9_mean_29 cnX9_243 ?_
        refine xe_lret dX9_mean_32 rfl ?_
        have c : ¬ ((rng k 0 60 ∧ rng pt 0 1) ∧ ¬ n = 0) := by first | exact fun z => (xb_eq0 hr4).mp h7 z.1.1 | exact fun z => (xb_eq0 hr13).mp h16 z.1.2 | exact fun z => z.2 (nEq (b := 0) (by omega) (by omega) h26)
        have e := h σ KM2.rf
        rw [meanV, if_neg c] at e
        exact e

theorem lX9_ends {d : Nat} (hd : 23 ≤ d) {σ : xSt} {Post : Option Value → xSt → Prop} (n : Nat) (hn : σ.2.1 116 54 = nI n) (h6 : n ≤ 6) (hM : MCo σ) (hR : RUo σ) (b : Nat) (hb : σ.2.1 116 77 = nI b) (hb10 : b ≤ 10) (hP : PLo n (σ.2.1 116) b) (w : Int32) (h : ∀ τ v3 v4, KM (xsA (xsA σ 117 (va_cpy (σ.2.1 116) (σ.2.1 117) 0 0 115)) 116 (plA (kpS (mSem σ)) n (σ.2.1 116) b)) τ → xEv kX9_ends (d + 1) 125 [some (.ref 115), some (.int w), some (.int (nI b)), v3, v4] [] τ Post) : ∀ (c r : Nat) (τ : xSt) (v3 v4 : Option Value), b + 1 ≤ r + c → r ≤ b → KM (xsA (xsA σ 117 (va_cpy (σ.2.1 116) (σ.2.1 117) 0 0 115)) 116 (plA (kpS (mSem σ)) n (σ.2.1 116) r)) τ → xEv kX9_ends (d + 1) 24 [some (.ref 115), some (.int w), some (.int (nI r)), v3, v4] [] τ Post := by
  intro c
  induction c with
  | zero => intro r τ v3 v4 hc hr; omega
  | succ c ih =>
    intro r τ v3 v4 hc hr kt
    have gt : τ.2.1 116 = plA (kpS (mSem σ)) n (σ.2.1 116) r := by rw [kt.1 116 (by omega), xsA_get]
    have hi := fun (c : Nat) (q1 : 54 ≤ c) (q2 : c ≠ 55) (q3 : c ≠ 56) => plA_hi (kp := kpS (mSem σ)) h6 hP q1 q2 q3 r hr
    have g57 : plA (kpS (mSem σ)) n (σ.2.1 116) r 57 = (xsA σ 117 (va_cpy (σ.2.1 116) (σ.2.1 117) 0 0 115)).2.1 116 57 := by rw [xsA_ne (by decide)]; exact hi 57 (by omega) (by omega) (by omega)
    have hMt : MCo τ := (hM.mind.set).km kt
    have hRt : RUo τ := (RUo.set hR.mind g57).km kt
    have hSt : mSem τ = mSem σ := by rw [mSem.km kt, mSem_set g57, mSem_mind]
    have htn : τ.2.1 116 54 = nI n := by rw [gt, hi 54 (by omega) (by omega) (by omega)]; exact hn
    have goes : ∀ τ2 v3 v4, r < b → KM (xsA (xsA σ 117 (va_cpy (σ.2.1 116) (σ.2.1 117) 0 0 115)) 116 (pl1 (kpS (mSem σ)) n (σ.2.1 116) r (plA (kpS (mSem σ)) n (σ.2.1 116) r))) τ2 → xEv kX9_ends (d + 1) 24 [some (.ref 115), some (.int w), some (.int (nI (r + 1))), v3, v4] [] τ2 Post := fun τ2 v3 v4 q k2 => ih (r + 1) τ2 v3 v4 (by omega) (by omega) (by rw [plA_succ]; exact k2)
    have back : ∀ g, KM (xsA (xsA σ 117 (va_cpy (σ.2.1 116) (σ.2.1 117) 0 0 115)) 116 g) (xsA τ 116 g) := fun g => by have q := kt.set (c := 116) (g := g) (by omega); rw [xsA_A] at q; exact q
    refine xe_iload_n dX9_ends_24 rfl ?_
    refine xe_aload_n dX9_ends_25 rfl ?_
    refine xe_getr dX9_ends_26 flX9_9 (by decide) rfl rfl ?_
    refine xe_bipush (v := 77) dX9_ends_29 rfl ?_
    refine xn_iaload dX9_ends_31 (by decide) rfl (by first | with_reducible rfl | (simp only [xl, pk_mul, nI_add, nI_1]; done) | (simp only [xl, pk_mul, nI_add, nI_1]; rfl)) (by omega) (by decide) ?_
    rw [gt, hi 77 (by omega) (by omega) (by omega), hb]
    refine xe_icmp_ge (tgt := 125) dX9_ends_32 (by decide) (fun h32 => ?_) (fun h32 => ?_)
    · have e := nLe (a := b) (by omega) (by omega) h32
      obtain rfl : r = b := by omega
      exact h τ _ _ kt
    · have e := nNle (a := b) (by omega) (by omega) h32
      refine xe_aload_n dX9_ends_35 rfl ?_
      refine xe_getr dX9_ends_36 flX9_9 (by decide) rfl rfl ?_
      refine xe_bipush (v := 78) dX9_ends_39 rfl ?_
      refine xe_iconst (v := 2) dX9_ends_41 rfl ?_
      refine xe_iload_n dX9_ends_42 rfl ?_
      refine xe_imul dX9_ends_43 ?_
      refine xe_iadd dX9_ends_44 ?_
      refine xn_iaload (j := 78 + 2 * r) dX9_ends_45 (by decide) rfl (by simp only [xl, pk_mul, nI_add]) (by omega) (by decide) ?_
      rw [gt, hi _ (by omega) (by omega) (by omega)]
      refine xe_istore_n (lv2 := [_, _, _, _, _]) dX9_ends_46 (by decide) rfl ?_
      refine xe_aload_n dX9_ends_47 rfl ?_
      refine xe_getr dX9_ends_48 flX9_9 (by decide) rfl rfl ?_
      refine xe_bipush (v := 79) dX9_ends_51 rfl ?_
      refine xe_iconst (v := 2) dX9_ends_53 rfl ?_
      refine xe_iload_n dX9_ends_54 rfl ?_
      refine xe_imul dX9_ends_55 ?_
      refine xe_iadd dX9_ends_56 ?_
      refine xn_iaload (j := 79 + 2 * r) dX9_ends_57 (by decide) rfl (by simp only [xl, pk_mul, nI_add]) (by omega) (by decide) ?_
      rw [gt, hi _ (by omega) (by omega) (by omega)]
      refine xe_istore (lv2 := [_, _, _, _, _]) dX9_ends_58 (by decide) rfl ?_
      refine xe_iload_n dX9_ends_60 rfl ?_
      refine xe_if_ne (tgt := 71) dX9_ends_61 (by decide) (fun h61 => ?_) (fun h61 => ?_)
      · refine xe_iload_n dX9_ends_71 rfl ?_
        refine xe_iconst (v := 1) dX9_ends_72 rfl ?_
        refine xe_icmp_ne (tgt := 88) dX9_ends_73 (by decide) (fun h73 => ?_) (fun h73 => ?_)
        · refine xe_iload_n dX9_ends_88 rfl ?_
          refine xe_iconst (v := 2) dX9_ends_89 rfl ?_
          refine xe_icmp_ne (tgt := 105) dX9_ends_90 (by decide) (fun h90 => ?_) (fun h90 => ?_)
          · obtain ⟨f, hf, ef⟩ : ∃ f, f < 8 ∧ σ.2.1 116 (79 + 2 * r) = nI f := by
              rcases hP r e with q | ⟨q, q2⟩ | ⟨q, q2⟩ | ⟨q, q2⟩
              · exact absurd q h61
              · exact absurd q h73
              · exact absurd q h90
              · exact q2
            refine xe_aload_n dX9_ends_105 rfl ?_
            refine xe_getr dX9_ends_106 flX9_9 (by decide) rfl rfl ?_
            refine xe_bipush (v := 55) dX9_ends_109 rfl ?_
            refine xe_dup2 dX9_ends_111 rfl rfl ?_
            refine xn_iaload dX9_ends_112 (by decide) rfl (by first | with_reducible rfl | (simp only [xl, pk_mul, nI_add, nI_1]; done) | (simp only [xl, pk_mul, nI_add, nI_1]; rfl)) (by omega) (by decide) ?_
            refine xe_iconst (v := 1) dX9_ends_113 rfl ?_
            refine xe_iload dX9_ends_114 rfl ?_
            refine xe_top (x2 := nI f) ef ?_
            refine xe_ishl dX9_ends_116 ?_
            refine xe_ixor dX9_ends_117 ?_
            refine xn_iastore dX9_ends_118 (by decide) rfl (by first | with_reducible rfl | (simp only [xl, pk_mul, nI_add, nI_1]; done) | (simp only [xl, pk_mul, nI_add, nI_1]; rfl)) (by omega) (by decide) ?_
            refine xn_inc (j := r) (lv2 := [_, _, _, _, _]) dX9_ends_119 (by decide) rfl rfl ?_
            refine xe_goto (tgt := 24) dX9_ends_122 (by decide) ?_
            first
            | (refine goes τ2 _ _ e ?_; rw [pl1, if_pos h61]; rw [kpM_eq, hSt, gt] at k2; exact (back _).tr k2)
            | (refine goes _ _ _ e ?_; rw [pl1, if_neg h61, if_pos h73, ed, cN_nI (by omega), gt]; exact back _)
            | (refine goes _ _ _ e ?_; rw [pl1, if_neg h61, if_neg h73, if_pos h90, ep, cN_nI (by omega), gt]; exact back _)
            | (refine goes _ _ _ e ?_; rw [pl1, if_neg h61, if_neg h73, if_neg h90, ef, cN_nI (by omega), gt]; exact back _)
          · obtain ⟨p, hp, ep⟩ : ∃ p, p < n ∧ σ.2.1 116 (79 + 2 * r) = nI p := by
              rcases hP r e with q | ⟨q, q2⟩ | ⟨q, q2⟩ | ⟨q, q2⟩
              · exact absurd q h61
              · exact absurd q h73
              · exact q2
              · exact absurd (q.symm.trans h90) (by decide)
            refine xe_aload_n dX9_ends_93 rfl ?_
            refine xe_iload dX9_ends_94 rfl ?_
            refine xe_top (x2 := nI p) ep ?_
            refine xe_iconst (v := 2) dX9_ends_96 rfl ?_
            refine xe_iconst (v := 0) dX9_ends_97 rfl ?_
            refine xe_callv (k2 := kX9_change) (vs := [_, _, _]) dX9_ends_98 okX9_change mlX9_97 imX9_change slX9_change (Or.inl ⟨9, _, _, by decide, rfl, rfl, rfl⟩) rfl rfl (Nat.le_of_ble_eq_true rfl) (Nat.le_of_ble_eq_true rfl) (sX9_change (by omega) p 2 0 (by omega) ?_)
            refine xe_pop dX9_ends_101 rfl ?_
            refine xe_goto (tgt := 119) dX9_ends_102 (by decide) ?_
            refine xn_inc (j := r) (lv2 := [_, _, _, _, _]) dX9_ends_119 (by decide) rfl rfl ?_
            refine xe_goto (tgt := 24) dX9_ends_122 (by decide) ?_
            first
            | (refine goes τ2 _ _ e ?_; rw [pl1, if_pos h61]; rw [kpM_eq, hSt, gt] at k2; exact (back _).tr k2)
            | (refine goes _ _ _ e ?_; rw [pl1, if_neg h61, if_pos h73, ed, cN_nI (by omega), gt]; exact back _)
            | (refine goes _ _ _ e ?_; rw [pl1, if_neg h61, if_neg h73, if_pos h90, ep, cN_nI (by omega), gt]; exact back _)
            | (refine goes _ _ _ e ?_; rw [pl1, if_neg h61, if_neg h73, if_neg h90, ef, cN_nI (by omega), gt]; exact back _)
        · obtain ⟨p, f, hp, hf, ep⟩ : ∃ p f, p < n ∧ f < 8 ∧ σ.2.1 116 (79 + 2 * r) = nI (10 * p + f) := by
            rcases hP r e with q | ⟨q, q2⟩ | ⟨q, q2⟩ | ⟨q, q2⟩
            · exact absurd q h61
            · exact q2
            · exact absurd (q.symm.trans h73) (by decide)
            · exact absurd (q.symm.trans h73) (by decide)
          have ed : σ.2.1 116 (79 + 2 * r) / 10 = nI p := by rw [ep, show (10 : Int32) = nI 10 from rfl, pk_div (by omega) (by omega) (by omega)]; congr 1; omega
          refine xe_aload_n dX9_ends_76 rfl ?_
          refine xe_iload dX9_ends_77 rfl ?_
          refine xe_bipush (v := 10) dX9_ends_79 rfl ?_
          refine xe_idiv dX9_ends_81 (by decide) ?_
          refine xe_top (x2 := nI p) ed ?_
          refine xe_callv (k2 := kX9_opens) (vs := [_]) dX9_ends_82 okX9_opens mlX9_128 imX9_opens slX9_opens (Or.inl ⟨9, _, _, by decide, rfl, rfl, rfl⟩) rfl rfl (Nat.le_of_ble_eq_true rfl) (Nat.le_of_ble_eq_true rfl) (sX9_opens (by omega) p (by omega) ?_)
          refine xe_goto (tgt := 119) dX9_ends_85 (by decide) ?_
          refine xn_inc (j := r) (lv2 := [_, _, _, _, _]) dX9_ends_119 (by decide) rfl rfl ?_
          refine xe_goto (tgt := 24) dX9_ends_122 (by decide) ?_
          first
          | (refine goes τ2 _ _ e ?_; rw [pl1, if_pos h61]; rw [kpM_eq, hSt, gt] at k2; exact (back _).tr k2)
          | (refine goes _ _ _ e ?_; rw [pl1, if_neg h61, if_pos h73, ed, cN_nI (by omega), gt]; exact back _)
          | (refine goes _ _ _ e ?_; rw [pl1, if_neg h61, if_neg h73, if_pos h90, ep, cN_nI (by omega), gt]; exact back _)
          | (refine goes _ _ _ e ?_; rw [pl1, if_neg h61, if_neg h73, if_neg h90, ef, cN_nI (by omega), gt]; exact back _)
      · refine xe_aload_n dX9_ends_64 rfl ?_
        refine xe_callv (k2 := kX9_term) (vs := []) dX9_ends_65 okX9_term mlX9_199 imX9_term slX9_term (Or.inl ⟨9, _, _, by decide, rfl, rfl, rfl⟩) rfl rfl (Nat.le_of_ble_eq_true rfl) (Nat.le_of_ble_eq_true rfl) (sX9_term (by omega) n htn h6 hMt hRt (fun τ2 k2 => ?_))
        refine xe_goto (tgt := 119) dX9_ends_68 (by decide) ?_
        refine xn_inc (j := r) (lv2 := [_, _, _, _, _]) dX9_ends_119 (by decide) rfl rfl ?_
        refine xe_goto (tgt := 24) dX9_ends_122 (by decide) ?_
        first
        | (refine goes τ2 _ _ e ?_; rw [pl1, if_pos h61]; rw [kpM_eq, hSt, gt] at k2; exact (back _).tr k2)
        | (refine goes _ _ _ e ?_; rw [pl1, if_neg h61, if_pos h73, ed, cN_nI (by omega), gt]; exact back _)
        | (refine goes _ _ _ e ?_; rw [pl1, if_neg h61, if_neg h73, if_pos h90, ep, cN_nI (by omega), gt]; exact back _)
        | (refine goes _ _ _ e ?_; rw [pl1, if_neg h61, if_neg h73, if_neg h90, ef, cN_nI (by omega), gt]; exact back _)

theorem sX9_ends {d : Nat} (hd : 24 ≤ d) {σ : xSt} {Post : Option Value → xSt → Prop} (n : Nat) (hn : σ.2.1 116 54 = nI n) (hn6 : n ≤ 6) (b : Nat) (w : Int32) (hM : MCo σ) (hR : RUo σ) (hb : σ.2.1 116 77 = nI b) (hb10 : b ≤ 10) (hP : PLo n (σ.2.1 116) b) (h : ∀ τ, KM2 σ τ → Post (some (.int (endsV (mSem σ) n (σ.2.1 116) b w))) τ) : xM kX9_ends d [.ref 115, .int w] σ Post := by
  obtain ⟨d, rfl⟩ : ∃ e, d = e + 1 := ⟨d - 1, by omega⟩
  refine xM_start (lv := [some (.ref 115), some (.int w), none, none, none]) rfl ?_
  refine xe_iload_n dX9_ends_0 rfl ?_
  refine xe_iconst (v := 0) dX9_ends_1 rfl ?_
  refine xe_iconst (v := 1) dX9_ends_2 rfl ?_
  refine xe_calls (k2 := kX9_isIn) (vs := [_, _, _]) dX9_ends_3 okX9_isIn mlX9_89 stX9_isIn rfl rfl (Nat.le_of_ble_eq_true rfl) (Nat.le_of_ble_eq_true rfl) (sX9_isIn (by omega) _ _ _ (fun r3 hr3 => ?_))
  refine xe_if_ne (tgt := 11) dX9_ends_6 (by decide) (fun h6 => ?_) (fun h6 => ?_)
  · refine xe_aload_n dX9_ends_11 rfl ?_
    refine xe_getr dX9_ends_12 flX9_9 (by decide) rfl rfl ?_
    refine xe_aload_n dX9_ends_15 rfl ?_
    refine xe_getr dX9_ends_16 flX9_15 (by decide) rfl rfl ?_
    refine xe_calls (k2 := kX9_move) (vs := [_, _]) dX9_ends_19 okX9_move mlX9_85 stX9_move rfl rfl (Nat.le_of_ble_eq_true rfl) (Nat.le_of_ble_eq_true rfl) (sX9_move (by omega) 116 117 ⟨by decide, rfl⟩ ⟨by decide, rfl⟩ (by decide) ?_)
    refine xe_iconst (v := 0) dX9_ends_22 rfl ?_
    refine xe_istore_n (lv2 := [_, _, _, _, _]) dX9_ends_23 (by decide) rfl ?_
    have cw := (xb_ne0 hr3).mp h6
    rw [endsV, if_pos cw] at h
    refine lX9_ends (by omega) n hn hn6 hM hR b hb hb10 hP w (fun τ v3 v4 kt => ?_) (b + 1) 0 _ _ _ (by omega) (by omega) ?_
    · have hbk : ∀ k, 115 ≤ k → plA (kpS (mSem σ)) n (σ.2.1 116) b k = σ.2.1 116 k := fun k hk => plA_hi hn6 hP (by omega) (by omega) (by omega) b (Nat.le_refl _)
      have gt : τ.2.1 116 = plA (kpS (mSem σ)) n (σ.2.1 116) b := by rw [kt.1 116 (by omega), xsA_get]
      have htn : τ.2.1 116 54 = nI n := by rw [gt, plA_hi hn6 hP (by omega) (by omega) (by omega) b (Nat.le_refl _)]; exact hn
      refine xe_iload_n dX9_ends_125 rfl ?_
      refine xe_if_ne (tgt := 137) dX9_ends_126 (by decide) (fun h126 => ?_) (fun h126 => ?_)
      · refine xe_aload_n dX9_ends_137 rfl ?_
        refine xe_iconst (v := 4) dX9_ends_138 rfl ?_
        refine xe_callv (k2 := kX9_all) (vs := [_]) dX9_ends_139 okX9_all mlX9_225 imX9_all slX9_all (Or.inl ⟨9, _, _, by decide, rfl, rfl, rfl⟩) rfl rfl (Nat.le_of_ble_eq_true rfl) (Nat.le_of_ble_eq_true rfl) (sX9_all (by omega) 4 n (by omega) htn hn6 ?_)
        refine xe_istore_n (lv2 := [_, _, _, _, _]) dX9_ends_142 (by decide) rfl ?_
        refine xe_aload_n dX9_ends_143 rfl ?_
        refine xe_getr dX9_ends_144 flX9_15 (by decide) rfl rfl ?_
        refine xe_aload_n dX9_ends_147 rfl ?_
        refine xe_getr dX9_ends_148 flX9_9 (by decide) rfl rfl ?_
        refine xe_calls (k2 := kX9_move) (vs := [_, _]) dX9_ends_151 okX9_move mlX9_85 stX9_move rfl rfl (Nat.le_of_ble_eq_true rfl) (Nat.le_of_ble_eq_true rfl) (sX9_move (by omega) 117 116 ⟨by decide, rfl⟩ ⟨by decide, rfl⟩ (by decide) ?_)
        refine xe_iload_n dX9_ends_154 rfl ?_
        refine xe_iret dX9_ends_155 rfl rfl ?_
        have e := h _ (kt.back hbk)
        first
        | (rw [if_pos h126, ← gt] at e; exact e)
        | (rw [if_neg h126, ← gt] at e; exact e)
      · refine xe_aload_n dX9_ends_129 rfl ?_
        refine xe_iconst (v := 2) dX9_ends_130 rfl ?_
        refine xe_callv (k2 := kX9_all) (vs := [_]) dX9_ends_131 okX9_all mlX9_225 imX9_all slX9_all (Or.inl ⟨9, _, _, by decide, rfl, rfl, rfl⟩) rfl rfl (Nat.le_of_ble_eq_true rfl) (Nat.le_of_ble_eq_true rfl) (sX9_all (by omega) 2 n (by omega) htn hn6 ?_)
        refine xe_goto (tgt := 142) dX9_ends_134 (by decide) ?_
        refine xe_istore_n (lv2 := [_, _, _, _, _]) dX9_ends_142 (by decide) rfl ?_
        refine xe_aload_n dX9_ends_143 rfl ?_
        refine xe_getr dX9_ends_144 flX9_15 (by decide) rfl rfl ?_
        refine xe_aload_n dX9_ends_147 rfl ?_
        refine xe_getr dX9_ends_148 flX9_9 (by decide) rfl rfl ?_
        refine xe_calls (k2 := kX9_move) (vs := [_, _]) dX9_ends_151 okX9_move mlX9_85 stX9_move rfl rfl (Nat.le_of_ble_eq_true rfl) (Nat.le_of_ble_eq_true rfl) (sX9_move (by omega) 117 116 ⟨by decide, rfl⟩ ⟨by decide, rfl⟩ (by decide) ?_)
        refine xe_iload_n dX9_ends_154 rfl ?_
        refine xe_iret dX9_ends_155 rfl rfl ?_
        have e := h _ (kt.back hbk)
        first
        | (rw [if_pos h126, ← gt] at e; exact e)
        | (rw [if_neg h126, ← gt] at e; exact e)
    · show KM (xsA _ 116 (σ.2.1 116)) _
      rw [show xsA (xsA σ 117 (va_cpy (σ.2.1 116) (σ.2.1 117) 0 0 115)) 116 (σ.2.1 116) = (xsA σ 117 (va_cpy (σ.2.1 116) (σ.2.1 117) 0 0 115)) by rw [xsA_comm (by decide), xsA_self]]
      exact KM.rf
  · refine xe_iconst (v := -1) dX9_ends_9 rfl ?_
    refine xe_iret dX9_ends_10 rfl rfl ?_
    have e := h σ KM2.rf
    rw [endsV, if_neg ((xb_eq0 hr3).mp h6)] at e
    exact e

theorem sX9_of {d : Nat} (hd : 25 ≤ d) {σ : xSt} {Post : Option Value → xSt → Prop} (n : Nat) (hn : σ.2.1 116 54 = nI n) (h6 : n ≤ 6) (p w : Int32) (hM : MCo σ) (hR : RUo σ) (m : Nat) (hm : σ.2.1 116 58 = nI m) (hm6 : m ≤ 6) (hh : HRo (σ.2.1 116) m) (h : ∀ τ, KM2 σ τ → Post (some (.int (ofV (mSem σ) (σ.2.1 116) m p w))) τ) : xM kX9_of d [.ref 115, .int p, .int w] σ Post := by
  obtain ⟨d, rfl⟩ : ∃ e, d = e + 1 := ⟨d - 1, by omega⟩
  refine xM_start (lv := [some (.ref 115), some (.int p), some (.int w)]) rfl ?_
  refine xe_aload_n dX9_of_0 rfl ?_
  refine xe_iload_n dX9_of_1 rfl ?_
  refine xe_callv (k2 := kX9_isPot) (vs := [_]) dX9_of_2 okX9_isPot mlX9_101 imX9_isPot slX9_isPot (Or.inl ⟨9, _, _, by decide, rfl, rfl, rfl⟩) rfl rfl (Nat.le_of_ble_eq_true rfl) (Nat.le_of_ble_eq_true rfl) (tX9_isPot (by omega) _ n hn h6 (fun r2 hr2 => ?_))
  refine xe_if_ne (tgt := 12) dX9_of_5 (by decide) (fun h5 => ?_) (fun h5 => ?_)
  · have cp := (xb_ne0 hr2).mp h5
    obtain ⟨i, hi, rfl⟩ := pOk_nat (by omega) cp
    have ei : cN (nI i) = i := cN_nI (by omega)
    rw [ofV, if_pos (hn ▸ cp), ei] at h
    refine xe_iload_n dX9_of_12 rfl ?_
    refine xe_iconst (v := 0) dX9_of_13 rfl ?_
    refine xe_iconst (v := 4) dX9_of_14 rfl ?_
    refine xe_calls (k2 := kX9_isIn) (vs := [_, _, _]) dX9_of_15 okX9_isIn mlX9_89 stX9_isIn rfl rfl (Nat.le_of_ble_eq_true rfl) (Nat.le_of_ble_eq_true rfl) (sX9_isIn (by omega) _ _ _ (fun r15 hr15 => ?_))
    refine xe_if_eq (tgt := 28) dX9_of_18 (by decide) (fun h18 => ?_) (fun h18 => ?_)
    · have cw := (xb_eq0 hr15).mp h18
      rw [if_neg cw] at h
      refine xe_iload_n dX9_of_28 rfl ?_
      refine xe_iconst (v := 5) dX9_of_29 rfl ?_
      refine xe_icmp_ne (tgt := 40) dX9_of_30 (by decide) (fun h30 => ?_) (fun h30 => ?_)
      · rw [if_neg h30] at h
        refine xe_iload_n dX9_of_40 rfl ?_
        refine xe_bipush (v := 10) dX9_of_41 rfl ?_
        refine xe_isub dX9_of_43 ?_
        refine xe_calls (k2 := kX9_isFact) (vs := [_]) dX9_of_44 okX9_isFact mlX9_108 stX9_isFact rfl rfl (Nat.le_of_ble_eq_true rfl) (Nat.le_of_ble_eq_true rfl) (sX9_isFact (by omega) _ (fun r44 hr44 => ?_))
        refine xe_if_eq (tgt := 62) dX9_of_47 (by decide) (fun h47 => ?_) (fun h47 => ?_)
        · rw [if_neg ((xb_eq0 hr44).mp h47)] at h
          refine xe_iload_n dX9_of_62 rfl ?_
          refine xe_bipush (v := 20) dX9_of_63 rfl ?_
          refine xe_isub dX9_of_65 ?_
          refine xe_calls (k2 := kX9_isFact) (vs := [_]) dX9_of_66 okX9_isFact mlX9_108 stX9_isFact rfl rfl (Nat.le_of_ble_eq_true rfl) (Nat.le_of_ble_eq_true rfl) (sX9_isFact (by omega) _ (fun r66 hr66 => ?_))
          refine xe_if_eq (tgt := 91) dX9_of_69 (by decide) (fun h69 => ?_) (fun h69 => ?_)
          · rw [if_neg ((xb_eq0 hr66).mp h69)] at h
            refine xe_iload_n dX9_of_91 rfl ?_
            refine xe_bipush (v := 30) dX9_of_92 rfl ?_
            refine xe_isub dX9_of_94 ?_
            refine xe_calls (k2 := kX9_isFact) (vs := [_]) dX9_of_95 okX9_isFact mlX9_108 stX9_isFact rfl rfl (Nat.le_of_ble_eq_true rfl) (Nat.le_of_ble_eq_true rfl) (sX9_isFact (by omega) _ (fun r95 hr95 => ?_))
            refine xe_if_eq (tgt := 113) dX9_of_98 (by decide) (fun h98 => ?_) (fun h98 => ?_)
            · rw [if_neg ((xb_eq0 hr95).mp h98)] at h
              refine xe_sipush (v := -10001) dX9_of_113 rfl ?_
              refine xe_iret dX9_of_116 rfl rfl ?_
              first
              | exact h σ KM2.rf
              | exact h τ kt.two
              | exact h τ kt
            · have c30 := (xb_ne0 hr95).mp h98
              obtain ⟨u30, hu30, eu30⟩ := rng_nat (m := 7) (by omega) c30
              rw [if_pos c30, eu30, cN_nI (by omega)] at h
              refine xe_aload_n dX9_of_101 rfl ?_
              refine xe_iload_n dX9_of_102 rfl ?_
              refine xe_iload_n dX9_of_103 rfl ?_
              refine xe_bipush (v := 30) dX9_of_104 rfl ?_
              refine xe_isub dX9_of_106 ?_
              rw [eu30]
              refine xe_callv (k2 := kX9_when) (vs := [_, _]) dX9_of_107 okX9_when mlX9_117 imX9_when slX9_when (Or.inl ⟨9, _, _, by decide, rfl, rfl, rfl⟩) rfl rfl (Nat.le_of_ble_eq_true rfl) (Nat.le_of_ble_eq_true rfl) (sX9_when (by omega) n hn h6 i u30 hi (by omega) hM hR (fun τ kt => ?_))
              refine xe_goto (tgt := 116) dX9_of_110 (by decide) ?_
              refine xe_iret dX9_of_116 rfl rfl ?_
              first
              | exact h σ KM2.rf
              | exact h τ kt.two
              | exact h τ kt
          · have c20 := (xb_ne0 hr66).mp h69
            obtain ⟨u20, hu20, eu20⟩ := rng_nat (m := 7) (by omega) c20
            rw [if_pos c20, eu20, cN_nI (by omega)] at h
            refine xe_aload_n dX9_of_72 rfl ?_
            refine xe_iload_n dX9_of_73 rfl ?_
            refine xe_iload_n dX9_of_74 rfl ?_
            refine xe_bipush (v := 20) dX9_of_75 rfl ?_
            refine xe_isub dX9_of_77 ?_
            rw [eu20]
            refine xe_aload_n dX9_of_78 rfl ?_
            refine xe_getr dX9_of_79 flX9_9 (by decide) rfl rfl ?_
            refine xe_bipush (v := 55) dX9_of_82 rfl ?_
            refine xn_iaload dX9_of_84 (by decide) rfl (by first | with_reducible rfl | (simp only [xl, pk_mul, nI_add, nI_1]; done) | (simp only [xl, pk_mul, nI_add, nI_1]; rfl)) (by omega) (by decide) ?_
            refine xe_callv (k2 := kX9_says) (vs := [_, _, _]) dX9_of_85 okX9_says mlX9_114 imX9_says slX9_says (Or.inl ⟨9, _, _, by decide, rfl, rfl, rfl⟩) rfl rfl (Nat.le_of_ble_eq_true rfl) (Nat.le_of_ble_eq_true rfl) (sX9_says (by omega) i u20 _ (by omega) (by omega) hM hR (fun τ kt => ?_))
            refine xe_goto (tgt := 116) dX9_of_88 (by decide) ?_
            refine xe_iret dX9_of_116 rfl rfl ?_
            first
            | exact h σ KM2.rf
            | exact h τ kt.two
            | exact h τ kt
        · have c10 := (xb_ne0 hr44).mp h47
          obtain ⟨u10, hu10, eu10⟩ := rng_nat (m := 7) (by omega) c10
          rw [if_pos c10, eu10, cN_nI (by omega)] at h
          refine xe_aload_n dX9_of_50 rfl ?_
          refine xe_iload_n dX9_of_51 rfl ?_
          refine xe_iload_n dX9_of_52 rfl ?_
          refine xe_bipush (v := 10) dX9_of_53 rfl ?_
          refine xe_isub dX9_of_55 ?_
          rw [eu10]
          refine xe_callv (k2 := kX9_clear) (vs := [_, _]) dX9_of_56 okX9_clear mlX9_111 imX9_clear slX9_clear (Or.inl ⟨9, _, _, by decide, rfl, rfl, rfl⟩) rfl rfl (Nat.le_of_ble_eq_true rfl) (Nat.le_of_ble_eq_true rfl) (sX9_clear (by omega) i u10 (by omega) (by omega) hM hR (fun τ kt => ?_))
          refine xe_goto (tgt := 116) dX9_of_59 (by decide) ?_
          refine xe_iret dX9_of_116 rfl rfl ?_
          first
          | exact h σ KM2.rf
          | exact h τ kt.two
          | exact h τ kt
      · rw [if_pos h30] at h
        refine xe_aload_n dX9_of_33 rfl ?_
        refine xe_iload_n dX9_of_34 rfl ?_
        refine xe_iconst (v := 2) dX9_of_35 rfl ?_
        refine xe_callv (k2 := kX9_fits) (vs := [_, _]) dX9_of_36 okX9_fits mlX9_105 imX9_fits slX9_fits (Or.inl ⟨9, _, _, by decide, rfl, rfl, rfl⟩) rfl rfl (Nat.le_of_ble_eq_true rfl) (Nat.le_of_ble_eq_true rfl) (sX9_fits (by omega) i 2 hM hR m hm hm6 hh (by omega) (by omega) (fun τ kt => ?_))
        refine xe_iret dX9_of_39 rfl rfl ?_
        exact h τ kt
    · have cw := (xb_ne0 hr15).mp h18
      obtain ⟨u, hu, rfl⟩ := rng_nat (m := 4) (by omega) cw
      rw [if_pos cw, cN_nI (by omega)] at h
      refine xe_aload_n dX9_of_21 rfl ?_
      refine xe_iload_n dX9_of_22 rfl ?_
      refine xe_iload_n dX9_of_23 rfl ?_
      refine xe_callv (k2 := kX9_one) (vs := [_, _]) dX9_of_24 okX9_one mlX9_93 imX9_one slX9_one (Or.inl ⟨9, _, _, by decide, rfl, rfl, rfl⟩) rfl rfl (Nat.le_of_ble_eq_true rfl) (Nat.le_of_ble_eq_true rfl) (sX9_one (by omega) i u (by omega) ?_)
      refine xe_iret dX9_of_27 rfl rfl ?_
      exact h σ KM2.rf
  · refine xe_sipush (v := -10001) dX9_of_8 rfl ?_
    refine xe_iret dX9_of_11 rfl rfl ?_
    have e := h σ KM2.rf
    rw [ofV, if_neg (fun z => (xb_eq0 hr2).mp h5 (hn ▸ z))] at e
    exact e
