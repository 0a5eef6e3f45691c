theorem upd_upd {f : Nat → Int32} {k : Nat} {a b : Int32} : upd (upd f k a) k b = upd f k b := by funext j; unfold upd; split <;> rfl

theorem lX9_look1 {d : Nat} (hd : 21 ≤ d) {σ : xSt} {Post : Option Value → xSt → Prop} (hM : MCo σ) (hR : RUo σ) (m : Nat) (hm : σ.2.1 116 58 = nI m) (hm6 : m ≤ 6) (hh : HRo (σ.2.1 116) m) (h : ∀ τ v2, KM2 σ τ → (∀ r, r < m → τ.2.1 127 r = clH (mSem σ) (σ.2.1 116) r) → xEv kX9_look (d + 1) 50 [some (.ref 115), some (.int (nI m)), v2, none, none, none] [] τ Post) : ∀ (c j : Nat) (τ : xSt) (v2 : Option Value), m + 1 ≤ j + c → j ≤ m → KM2 σ τ → (∀ r, r < j → τ.2.1 127 r = clH (mSem σ) (σ.2.1 116) r) → xEv kX9_look (d + 1) 2 [some (.ref 115), some (.int (nI j)), v2, none, none, none] [] τ Post := by
  intro c
  induction c with
  | zero => intro j τ v2 hc hj; omega
  | succ c ih =>
    intro j τ v2 hc hj kt hl
    have gt : τ.2.1 116 = σ.2.1 116 := kt.1 116 (by omega)
    refine xe_iload_n dX9_look_2 rfl ?_
    refine xe_aload_n dX9_look_3 rfl ?_
    refine xe_getr dX9_look_4 flX9_9 (by decide) rfl rfl ?_
    refine xe_bipush (v := 58) dX9_look_7 rfl ?_
    refine xn_iaload dX9_look_9 (by decide) rfl (by first | with_reducible rfl | (simp only [xl, pk_mul, nI_add, nI_1]; done) | (simp only [xl, pk_mul, nI_add, nI_1]; rfl)) (by omega) (by decide) ?_
    rw [gt, hm]
    refine xe_icmp_ge (tgt := 50) dX9_look_10 (by decide) (fun h10 => ?_) (fun h10 => ?_)
    · have e := nLe (a := m) (by omega) (by omega) h10
      obtain rfl : j = m := by omega
      exact h τ _ kt hl
    · have e := nNle (a := m) (by omega) (by omega) h10
      obtain ⟨⟨p, hp, ep⟩, f, hf, ef⟩ := hh j e
      refine xe_bipush (v := 59) dX9_look_13 rfl ?_
      refine xe_iconst (v := 3) dX9_look_15 rfl ?_
      refine xe_iload_n dX9_look_16 rfl ?_
      refine xe_imul dX9_look_17 ?_
      refine xe_iadd dX9_look_18 ?_
      refine xe_istore_n (lv2 := [_, _, _, _, _, _]) dX9_look_19 (by decide) rfl ?_
      refine xe_aload_n dX9_look_20 rfl ?_
      refine xe_getr dX9_look_21 flX9_46 (by decide) rfl rfl ?_
      refine xe_iload_n dX9_look_24 rfl ?_
      refine xe_aload_n dX9_look_25 rfl ?_
      refine xe_aload_n dX9_look_26 rfl ?_
      refine xe_getr dX9_look_27 flX9_9 (by decide) rfl rfl ?_
      refine xe_iload_n dX9_look_30 rfl ?_
      refine xn_iaload (j := 59 + 3 * j) dX9_look_31 (by decide) rfl (by simp only [xl, pk_mul, nI_add]) (by omega) (by decide) ?_
      rw [gt, ep]
      refine xe_aload_n dX9_look_32 rfl ?_
      refine xe_getr dX9_look_33 flX9_9 (by decide) rfl rfl ?_
      refine xe_iload_n dX9_look_36 rfl ?_
      refine xe_iconst (v := 1) dX9_look_37 rfl ?_
      refine xe_iadd dX9_look_38 ?_
      refine xn_iaload (j := 59 + 3 * j + 1) dX9_look_39 (by decide) rfl (by simp only [xl, pk_mul, nI_add]) (by omega) (by decide) ?_
      rw [gt, ef]
      refine xe_callv (k2 := kX9_clear) (vs := [_, _]) dX9_look_40 okX9_clear mlX9_111 imX9_clear slX9_clear (Or.inl ⟨9, _, _, by decide, rfl, rfl, rfl⟩) rfl rfl (Nat.le_of_ble_eq_true rfl) (Nat.le_of_ble_eq_true rfl) (sX9_clear (by omega) p f hp hf (hM.km2 kt) (hR.km2 kt) (fun σ3 k3 => ?_))
      refine xn_iastore (j := j) dX9_look_43 (by decide) rfl rfl (by omega) (by decide) ?_
      refine xn_inc (j := j) (lv2 := [_, _, _, _, _, _]) dX9_look_44 (by decide) rfl rfl ?_
      refine xe_goto (tgt := 2) dX9_look_47 (by decide) ?_
      refine ih (j + 1) _ _ (by omega) (by omega) ((kt.tr k3.two).tr (KM2.A (by omega))) (fun r hr => ?_)
      rw [xsA_get]
      by_cases hrj : r = j
      · subst hrj
        simp only [upd, if_pos]
        unfold clH
        rw [ep, ef, cN_nI (by omega), cN_nI (by omega), mSem.km2 kt, gt]
      · simp only [upd, if_neg hrj]
        rw [k3.1 127 (by omega)]
        exact hl r (by omega)

theorem lX9_look3 {d : Nat} (hd : 1 ≤ d) {σ : xSt} {Post : Option Value → xSt → Prop} (m : Nat) (hm : σ.2.1 116 58 = nI m) (hm6 : m ≤ 6) (hh : HRo (σ.2.1 116) m) {τ : xSt} (kt : KM2 σ τ) (hl : ∀ r, r < m → τ.2.1 127 r = clH (mSem σ) (σ.2.1 116) r) (w : Nat) (hw : w < 256) (v1 : Int32) (F : Nat → Int32) (h : ∀ v3 v4 v5, xEv kX9_look (d + 1) 168 [some (.ref 115), some (.int v1), some (.int (nI w)), v3, v4, v5] [] (xsA τ 128 (upd F w (bI (fitR (mSem σ) (σ.2.1 116) m w)))) Post) : ∀ (c j : Nat) (v4 v5 : Option Value), m + 1 ≤ j + c → j ≤ m → xEv kX9_look (d + 1) 70 [some (.ref 115), some (.int v1), some (.int (nI w)), some (.int (nI j)), v4, v5] [] (xsA τ 128 (upd F w (bI (fitR (mSem σ) (σ.2.1 116) j w)))) Post := by
  have gt : τ.2.1 116 = σ.2.1 116 := kt.1 116 (by omega)
  intro c
  induction c with
  | zero => intro j v4 v5 hc hj; omega
  | succ c ih =>
    intro j v4 v5 hc hj
    refine xe_iload_n dX9_look_70 rfl ?_
    refine xe_aload_n dX9_look_71 rfl ?_
    refine xe_getr dX9_look_72 flX9_9 (by decide) rfl rfl ?_
    refine xe_bipush (v := 58) dX9_look_75 rfl ?_
    refine xn_iaload dX9_look_77 (by decide) rfl (by first | with_reducible rfl | (simp only [xl, pk_mul, nI_add, nI_1]; done) | (simp only [xl, pk_mul, nI_add, nI_1]; rfl)) (by omega) (by decide) ?_
    rw [xsA_ne (by decide), gt, hm]
    refine xe_icmp_ge (tgt := 168) dX9_look_78 (by decide) (fun h78 => ?_) (fun h78 => ?_)
    · have e := nLe (a := m) (by omega) (by omega) h78
      obtain rfl : j = m := by omega
      exact h _ _ _
    · have e := nNle (a := m) (by omega) (by omega) h78
      obtain ⟨⟨p, hp, ep⟩, f, hf, ef⟩ := hh j e
      refine xe_bipush (v := 59) dX9_look_81 rfl ?_
      refine xe_iconst (v := 3) dX9_look_83 rfl ?_
      refine xe_iload_n dX9_look_84 rfl ?_
      refine xe_imul dX9_look_85 ?_
      refine xe_iadd dX9_look_86 ?_
      refine xe_istore (lv2 := [_, _, _, _, _, _]) dX9_look_87 (by decide) rfl ?_
      refine xe_aload_n dX9_look_89 rfl ?_
      refine xe_getr dX9_look_90 flX9_9 (by decide) rfl rfl ?_
      refine xe_iload dX9_look_93 rfl ?_
      refine xe_iconst (v := 2) dX9_look_95 rfl ?_
      refine xe_iadd dX9_look_96 ?_
      refine xn_iaload (j := 59 + 3 * j + 2) dX9_look_97 (by decide) rfl (by simp only [xl, pk_mul, nI_add]) (by omega) (by decide) ?_
      rw [xsA_ne (by decide), gt]
      refine xe_iconst (v := -1) dX9_look_98 rfl ?_
      refine xe_icmp_ne (tgt := 107) dX9_look_99 (by decide) (fun h99 => ?_) (fun h99 => ?_)
      · refine xe_aload_n dX9_look_107 rfl ?_
        refine xe_getr dX9_look_108 flX9_9 (by decide) rfl rfl ?_
        refine xe_iload dX9_look_111 rfl ?_
        refine xe_iconst (v := 2) dX9_look_113 rfl ?_
        refine xe_iadd dX9_look_114 ?_
        refine xn_iaload (j := 59 + 3 * j + 2) dX9_look_115 (by decide) rfl (by simp only [xl, pk_mul, nI_add]) (by omega) (by decide) ?_
        rw [xsA_ne (by decide), gt]
        refine xe_istore (lv2 := [_, _, _, _, _, _]) dX9_look_116 (by decide) rfl ?_
        refine xe_aload_n dX9_look_118 rfl ?_
        refine xe_getr dX9_look_119 flX9_49 (by decide) rfl rfl ?_
        refine xe_iload_n dX9_look_122 rfl ?_
        refine xe_aload_n dX9_look_123 rfl ?_
        refine xe_getr dX9_look_124 flX9_49 (by decide) rfl rfl ?_
        refine xe_iload_n dX9_look_127 rfl ?_
        refine xn_zaload (j := w) dX9_look_128 (by decide) rfl rfl (by omega) (by decide) ?_
        rw [xsA_get, show upd F w (bI (fitR (mSem σ) (σ.2.1 116) j w)) w = bI (fitR (mSem σ) (σ.2.1 116) j w) by simp [upd]]
        refine xe_if_eq (tgt := 160) dX9_look_129 (by decide) (fun h129 => ?_) (fun h129 => ?_)
        · refine xe_iconst (v := 0) dX9_look_160 rfl ?_
          refine xn_zastore (j := w) dX9_look_161 (by decide) rfl rfl (by omega) (by decide) ?_
          refine xn_inc (j := j) (lv2 := [_, _, _, _, _, _]) dX9_look_162 (by decide) rfl rfl ?_
          refine xe_goto (tgt := 70) dX9_look_165 (by decide) ?_
          have ff : fitR (mSem σ) (σ.2.1 116) (j + 1) w = (fitR (mSem σ) (σ.2.1 116) j w && decide (syB (clH (mSem σ) (σ.2.1 116) j) f (nI w) = said (σ.2.1 116 (59 + 3 * j + 2)))) := by rw [fitR, ef, cN_nI (by omega)]
          rw [said] at ff
          first | rw [if_pos h99] at ff | rw [if_neg h99] at ff
          refine xe_st ?_ (ih (j + 1) _ _ (by omega) (by omega))
          rw [xsA_A, xsA_get, upd_upd]
          congr 2
          first
          | (rw [ff, bI_eq0.mp h129]; rfl)
          | (rw [ff, bI_ne0.mp h129, decide_eq_true h153]; rfl)
          | (rw [ff, decide_eq_false h153, Bool.and_false]; rfl)
        · refine xe_aload_n dX9_look_132 rfl ?_
          refine xe_getr dX9_look_133 flX9_46 (by decide) rfl rfl ?_
          refine xe_iload_n dX9_look_136 rfl ?_
          refine xn_iaload (j := j) dX9_look_137 (by decide) rfl rfl (by omega) (by decide) ?_
          rw [xsA_ne (by decide), hl j e]
          refine xe_aload_n dX9_look_138 rfl ?_
          refine xe_getr dX9_look_139 flX9_9 (by decide) rfl rfl ?_
          refine xe_iload dX9_look_142 rfl ?_
          refine xe_iconst (v := 1) dX9_look_144 rfl ?_
          refine xe_iadd dX9_look_145 ?_
          refine xn_iaload (j := 59 + 3 * j + 1) dX9_look_146 (by decide) rfl (by simp only [xl, pk_mul, nI_add]) (by omega) (by decide) ?_
          rw [xsA_ne (by decide), gt, ef]
          refine xe_iload_n dX9_look_147 rfl ?_
          refine xe_calls (k2 := kX9_saysBy) (vs := [_, _, _]) dX9_look_148 okX9_saysBy mlX9_193 stX9_saysBy rfl rfl (Nat.le_of_ble_eq_true rfl) (Nat.le_of_ble_eq_true rfl) (sX9_saysBy (by omega) _ f (nI w) ?_)
          refine xe_iload dX9_look_151 rfl ?_
          refine xe_icmp_ne (tgt := 160) dX9_look_153 (by decide) (fun h153 => ?_) (fun h153 => ?_)
          · refine xe_iconst (v := 0) dX9_look_160 rfl ?_
            refine xn_zastore (j := w) dX9_look_161 (by decide) rfl rfl (by omega) (by decide) ?_
            refine xn_inc (j := j) (lv2 := [_, _, _, _, _, _]) dX9_look_162 (by decide) rfl rfl ?_
            refine xe_goto (tgt := 70) dX9_look_165 (by decide) ?_
            have ff : fitR (mSem σ) (σ.2.1 116) (j + 1) w = (fitR (mSem σ) (σ.2.1 116) j w && decide (syB (clH (mSem σ) (σ.2.1 116) j) f (nI w) = said (σ.2.1 116 (59 + 3 * j + 2)))) := by rw [fitR, ef, cN_nI (by omega)]
            rw [said] at ff
            first | rw [if_pos h99] at ff | rw [if_neg h99] at ff
            refine xe_st ?_ (ih (j + 1) _ _ (by omega) (by omega))
            rw [xsA_A, xsA_get, upd_upd]
            congr 2
            first
            | (rw [ff, bI_eq0.mp h129]; rfl)
            | (rw [ff, bI_ne0.mp h129, decide_eq_true h153]; rfl)
            | (rw [ff, decide_eq_false h153, Bool.and_false]; rfl)
          · refine xe_iconst (v := 1) dX9_look_156 rfl ?_
            refine xe_goto (tgt := 161) dX9_look_157 (by decide) ?_
            refine xn_zastore (j := w) dX9_look_161 (by decide) rfl rfl (by omega) (by decide) ?_
            refine xn_inc (j := j) (lv2 := [_, _, _, _, _, _]) dX9_look_162 (by decide) rfl rfl ?_
            refine xe_goto (tgt := 70) dX9_look_165 (by decide) ?_
            have ff : fitR (mSem σ) (σ.2.1 116) (j + 1) w = (fitR (mSem σ) (σ.2.1 116) j w && decide (syB (clH (mSem σ) (σ.2.1 116) j) f (nI w) = said (σ.2.1 116 (59 + 3 * j + 2)))) := by rw [fitR, ef, cN_nI (by omega)]
            rw [said] at ff
            first | rw [if_pos h99] at ff | rw [if_neg h99] at ff
            refine xe_st ?_ (ih (j + 1) _ _ (by omega) (by omega))
            rw [xsA_A, xsA_get, upd_upd]
            congr 2
            first
            | (rw [ff, bI_eq0.mp h129]; rfl)
            | (rw [ff, bI_ne0.mp h129, decide_eq_true h153]; rfl)
            | (rw [ff, decide_eq_false h153, Bool.and_false]; rfl)
      · refine xe_bipush (v := -5) dX9_look_102 rfl ?_
        refine xe_goto (tgt := 116) dX9_look_104 (by decide) ?_
        refine xe_istore (lv2 := [_, _, _, _, _, _]) dX9_look_116 (by decide) rfl ?_
        refine xe_aload_n dX9_look_118 rfl ?_
        refine xe_getr dX9_look_119 flX9_49 (by decide) rfl rfl ?_
        refine xe_iload_n dX9_look_122 rfl ?_
        refine xe_aload_n dX9_look_123 rfl ?_
        refine xe_getr dX9_look_124 flX9_49 (by decide) rfl rfl ?_
        refine xe_iload_n dX9_look_127 rfl ?_
        refine xn_zaload (j := w) dX9_look_128 (by decide) rfl rfl (by omega) (by decide) ?_
        rw [xsA_get, show upd F w (bI (fitR (mSem σ) (σ.2.1 116) j w)) w = bI (fitR (mSem σ) (σ.2.1 116) j w) by simp [upd]]
        refine xe_if_eq (tgt := 160) dX9_look_129 (by decide) (fun h129 => ?_) (fun h129 => ?_)
        · refine xe_iconst (v := 0) dX9_look_160 rfl ?_
          refine xn_zastore (j := w) dX9_look_161 (by decide) rfl rfl (by omega) (by decide) ?_
          refine xn_inc (j := j) (lv2 := [_, _, _, _, _, _]) dX9_look_162 (by decide) rfl rfl ?_
          refine xe_goto (tgt := 70) dX9_look_165 (by decide) ?_
          have ff : fitR (mSem σ) (σ.2.1 116) (j + 1) w = (fitR (mSem σ) (σ.2.1 116) j w && decide (syB (clH (mSem σ) (σ.2.1 116) j) f (nI w) = said (σ.2.1 116 (59 + 3 * j + 2)))) := by rw [fitR, ef, cN_nI (by omega)]
          rw [said] at ff
          first | rw [if_pos h99] at ff | rw [if_neg h99] at ff
          refine xe_st ?_ (ih (j + 1) _ _ (by omega) (by omega))
          rw [xsA_A, xsA_get, upd_upd]
          congr 2
          first
          | (rw [ff, bI_eq0.mp h129]; rfl)
          | (rw [ff, bI_ne0.mp h129, decide_eq_true h153]; rfl)
          | (rw [ff, decide_eq_false h153, Bool.and_false]; rfl)
        · refine xe_aload_n dX9_look_132 rfl ?_
          refine xe_getr dX9_look_133 flX9_46 (by decide) rfl rfl ?_
          refine xe_iload_n dX9_look_136 rfl ?_
          refine xn_iaload (j := j) dX9_look_137 (by decide) rfl rfl (by omega) (by decide) ?_
          rw [xsA_ne (by decide), hl j e]
          refine xe_aload_n dX9_look_138 rfl ?_
          refine xe_getr dX9_look_139 flX9_9 (by decide) rfl rfl ?_
          refine xe_iload dX9_look_142 rfl ?_
          refine xe_iconst (v := 1) dX9_look_144 rfl ?_
          refine xe_iadd dX9_look_145 ?_
          refine xn_iaload (j := 59 + 3 * j + 1) dX9_look_146 (by decide) rfl (by simp only [xl, pk_mul, nI_add]) (by omega) (by decide) ?_
          rw [xsA_ne (by decide), gt, ef]
          refine xe_iload_n dX9_look_147 rfl ?_
          refine xe_calls (k2 := kX9_saysBy) (vs := [_, _, _]) dX9_look_148 okX9_saysBy mlX9_193 stX9_saysBy rfl rfl (Nat.le_of_ble_eq_true rfl) (Nat.le_of_ble_eq_true rfl) (sX9_saysBy (by omega) _ f (nI w) ?_)
          refine xe_iload dX9_look_151 rfl ?_
          refine xe_icmp_ne (tgt := 160) dX9_look_153 (by decide) (fun h153 => ?_) (fun h153 => ?_)
          · refine xe_iconst (v := 0) dX9_look_160 rfl ?_
            refine xn_zastore (j := w) dX9_look_161 (by decide) rfl rfl (by omega) (by decide) ?_
            refine xn_inc (j := j) (lv2 := [_, _, _, _, _, _]) dX9_look_162 (by decide) rfl rfl ?_
            refine xe_goto (tgt := 70) dX9_look_165 (by decide) ?_
            have ff : fitR (mSem σ) (σ.2.1 116) (j + 1) w = (fitR (mSem σ) (σ.2.1 116) j w && decide (syB (clH (mSem σ) (σ.2.1 116) j) f (nI w) = said (σ.2.1 116 (59 + 3 * j + 2)))) := by rw [fitR, ef, cN_nI (by omega)]
            rw [said] at ff
            first | rw [if_pos h99] at ff | rw [if_neg h99] at ff
            refine xe_st ?_ (ih (j + 1) _ _ (by omega) (by omega))
            rw [xsA_A, xsA_get, upd_upd]
            congr 2
            first
            | (rw [ff, bI_eq0.mp h129]; rfl)
            | (rw [ff, bI_ne0.mp h129, decide_eq_true h153]; rfl)
            | (rw [ff, decide_eq_false h153, Bool.and_false]; rfl)
          · refine xe_iconst (v := 1) dX9_look_156 rfl ?_
            refine xe_goto (tgt := 161) dX9_look_157 (by decide) ?_
            refine xn_zastore (j := w) dX9_look_161 (by decide) rfl rfl (by omega) (by decide) ?_
            refine xn_inc (j := j) (lv2 := [_, _, _, _, _, _]) dX9_look_162 (by decide) rfl rfl ?_
            refine xe_goto (tgt := 70) dX9_look_165 (by decide) ?_
            have ff : fitR (mSem σ) (σ.2.1 116) (j + 1) w = (fitR (mSem σ) (σ.2.1 116) j w && decide (syB (clH (mSem σ) (σ.2.1 116) j) f (nI w) = said (σ.2.1 116 (59 + 3 * j + 2)))) := by rw [fitR, ef, cN_nI (by omega)]
            rw [said] at ff
            first | rw [if_pos h99] at ff | rw [if_neg h99] at ff
            refine xe_st ?_ (ih (j + 1) _ _ (by omega) (by omega))
            rw [xsA_A, xsA_get, upd_upd]
            congr 2
            first
            | (rw [ff, bI_eq0.mp h129]; rfl)
            | (rw [ff, bI_ne0.mp h129, decide_eq_true h153]; rfl)
            | (rw [ff, decide_eq_false h153, Bool.and_false]; rfl)

theorem lX9_look2 {d : Nat} (hd : 1 ≤ d) {σ : xSt} {Post : Option Value → xSt → Prop} (m : Nat) (hm : σ.2.1 116 58 = nI m) (hm6 : m ≤ 6) (hh : HRo (σ.2.1 116) m) (h : ∀ τ, KM2 σ τ → (∀ w, w < 256 → τ.2.1 128 w = bI (fitR (mSem σ) (σ.2.1 116) m w)) → Post (some (.int (cntF (fitR (mSem σ) (σ.2.1 116) m) 256))) τ) : ∀ (c w : Nat) (τ : xSt) (v3 v4 v5 : Option Value), 257 ≤ w + c → w ≤ 256 → KM2 σ τ → (∀ r, r < m → τ.2.1 127 r = clH (mSem σ) (σ.2.1 116) r) → (∀ x, x < w → τ.2.1 128 x = bI (fitR (mSem σ) (σ.2.1 116) m x)) → xEv kX9_look (d + 1) 54 [some (.ref 115), some (.int (cntF (fitR (mSem σ) (σ.2.1 116) m) w)), some (.int (nI w)), v3, v4, v5] [] τ Post := by
  intro c
  induction c with
  | zero => intro w τ v3 v4 v5 hc hw; omega
  | succ c ih =>
    intro w τ v3 v4 v5 hc hw kt hl hf
    refine xe_iload_n dX9_look_54 rfl ?_
    refine xe_sipush (v := 256) dX9_look_55 rfl ?_
    refine xe_icmp_ge (tgt := 191) dX9_look_58 (by decide) (fun h58 => ?_) (fun h58 => ?_)
    · refine xe_iload_n dX9_look_191 rfl ?_
      refine xe_iret dX9_look_192 rfl rfl ?_
      have e := nLe (a := 256) (by omega) (by omega) h58
      obtain rfl : w = 256 := by omega
      exact h τ kt hf
    · have e := nNle (a := 256) (by omega) (by omega) h58
      refine xe_aload_n dX9_look_61 rfl ?_
      refine xe_getr dX9_look_62 flX9_49 (by decide) rfl rfl ?_
      refine xe_iload_n dX9_look_65 rfl ?_
      refine xe_iconst (v := 1) dX9_look_66 rfl ?_
      refine xn_zastore (j := w) dX9_look_67 (by decide) rfl rfl (by omega) (by decide) ?_
      refine xe_iconst (v := 0) dX9_look_68 rfl ?_
      refine xe_istore_n (lv2 := [_, _, _, _, _, _]) dX9_look_69 (by decide) rfl ?_
      refine lX9_look3 (by omega) m hm hm6 hh kt hl w e _ (τ.2.1 128) (fun v3 v4 v5 => ?_) (m + 1) 0 _ _ (by omega) (by omega)
      refine xe_iload_n dX9_look_168 rfl ?_
      refine xe_aload_n dX9_look_169 rfl ?_
      refine xe_getr dX9_look_170 flX9_49 (by decide) rfl rfl ?_
      refine xe_iload_n dX9_look_173 rfl ?_
      refine xn_zaload (j := w) dX9_look_174 (by decide) rfl rfl (by omega) (by decide) ?_
      rw [xsA_get, show upd (τ.2.1 128) w (bI (fitR (mSem σ) (σ.2.1 116) m w)) w = bI (fitR (mSem σ) (σ.2.1 116) m w) by simp [upd]]
      refine xe_if_eq (tgt := 182) dX9_look_175 (by decide) (fun h175 => ?_) (fun h175 => ?_)
      · refine xe_iconst (v := 0) dX9_look_182 rfl ?_
        refine xe_iadd dX9_look_183 ?_
        refine xe_istore_n (lv2 := [_, _, _, _, _, _]) dX9_look_184 (by decide) rfl ?_
        refine xn_inc (j := w) (lv2 := [_, _, _, _, _, _]) dX9_look_185 (by decide) rfl rfl ?_
        refine xe_goto (tgt := 54) dX9_look_188 (by decide) ?_
        have l := ih (w + 1) (xsA τ 128 (upd (τ.2.1 128) w (bI (fitR (mSem σ) (σ.2.1 116) m w)))) v3 v4 v5 (by omega) (by omega) (kt.tr (KM2.A (by omega))) (fun r hr => by rw [xsA_ne (by decide)]; exact hl r hr) (fun x hx => by
          rw [xsA_get]
          by_cases hxw : x = w
          · subst hxw; simp [upd]
          · simp only [upd, if_neg hxw]; exact hf x (by omega))
        rw [cntF, iS] at l
        first
        | (rw [show bI (fitR (mSem σ) (σ.2.1 116) m w) = 0 from h175] at l ⊢; exact l)
        | (rw [show bI (fitR (mSem σ) (σ.2.1 116) m w) = 1 from by rw [bI_ne0.mp h175]; rfl] at l ⊢; exact l)
      · refine xe_iconst (v := 1) dX9_look_178 rfl ?_
        refine xe_goto (tgt := 183) dX9_look_179 (by decide) ?_
        refine xe_iadd dX9_look_183 ?_
        refine xe_istore_n (lv2 := [_, _, _, _, _, _]) dX9_look_184 (by decide) rfl ?_
        refine xn_inc (j := w) (lv2 := [_, _, _, _, _, _]) dX9_look_185 (by decide) rfl rfl ?_
        refine xe_goto (tgt := 54) dX9_look_188 (by decide) ?_
        have l := ih (w + 1) (xsA τ 128 (upd (τ.2.1 128) w (bI (fitR (mSem σ) (σ.2.1 116) m w)))) v3 v4 v5 (by omega) (by omega) (kt.tr (KM2.A (by omega))) (fun r hr => by rw [xsA_ne (by decide)]; exact hl r hr) (fun x hx => by
          rw [xsA_get]
          by_cases hxw : x = w
          · subst hxw; simp [upd]
          · simp only [upd, if_neg hxw]; exact hf x (by omega))
        rw [cntF, iS] at l
        first
        | (rw [show bI (fitR (mSem σ) (σ.2.1 116) m w) = 0 from h175] at l ⊢; exact l)
        | (rw [show bI (fitR (mSem σ) (σ.2.1 116) m w) = 1 from by rw [bI_ne0.mp h175]; rfl] at l ⊢; exact l)

theorem sX9_look {d : Nat} (hd : 22 ≤ d) {σ : xSt} {Post : Option Value → xSt → Prop} (hM : MCo σ) (hR : RUo σ) (m : Nat) (hm : σ.2.1 116 58 = nI m) (hm6 : m ≤ 6) (hh : HRo (σ.2.1 116) m) (h : ∀ τ, KM2 σ τ → (∀ w, w < 256 → τ.2.1 128 w = bI (fitR (mSem σ) (σ.2.1 116) m w)) → Post (some (.int (cntF (fitR (mSem σ) (σ.2.1 116) m) 256))) τ) : xM kX9_look d [.ref 115] σ Post := by
  obtain ⟨d, rfl⟩ : ∃ e, d = e + 1 := ⟨d - 1, by omega⟩
  refine xM_start (lv := [some (.ref 115), none, none, none, none, none]) rfl ?_
  refine xe_iconst (v := 0) dX9_look_0 rfl ?_
  refine xe_istore_n (lv2 := [_, _, _, _, _, _]) dX9_look_1 (by decide) rfl ?_
  refine lX9_look1 (by omega) hM hR m hm hm6 hh (fun τ v2 kt hl => ?_) (m + 1) 0 σ _ (by omega) (by omega) KM2.rf (fun r hr => absurd hr (by omega))
  refine xe_iconst (v := 0) dX9_look_50 rfl ?_
  refine xe_istore_n (lv2 := [_, _, _, _, _, _]) dX9_look_51 (by decide) rfl ?_
  refine xe_iconst (v := 0) dX9_look_52 rfl ?_
  refine xe_istore_n (lv2 := [_, _, _, _, _, _]) dX9_look_53 (by decide) rfl ?_
  exact lX9_look2 (by omega) m hm hm6 hh h 257 0 τ _ _ _ (by omega) (by omega) kt hl (fun x hx => absurd hx (by omega))

theorem lX9_leastFit {d : Nat} {τ : xSt} {Post : Option Value → xSt → Prop} (f : Nat → Bool) (hf : ∀ w, w < 256 → τ.2.1 128 w = bI (f w)) : ∀ (c w : Nat), w + c = 256 → Post (some (.int (lstF f c w))) τ → xEv kX9_leastFit (d + 1) 7 [some (.ref 115), some (.int (nI w))] [] τ Post := by
  intro c
  induction c with
  | zero =>
    intro w hw h
    refine xe_iload_n dX9_leastFit_7 rfl ?_
    refine xe_sipush (v := 256) dX9_leastFit_8 rfl ?_
    refine xe_icmp_ge (tgt := 31) dX9_leastFit_11 (by decide) (fun h11 => ?_) (fun h11 => absurd (show (256 : Int32) ≤ nI w from nI_le (a := 256) (by omega) (by omega)) h11)
    refine xe_bipush (v := -5) dX9_leastFit_31 rfl ?_
    refine xe_iret dX9_leastFit_33 rfl rfl ?_
    exact h
  | succ c ih =>
    intro w hw h
    refine xe_iload_n dX9_leastFit_7 rfl ?_
    refine xe_sipush (v := 256) dX9_leastFit_8 rfl ?_
    refine xe_icmp_ge (tgt := 31) dX9_leastFit_11 (by decide) (fun h11 => absurd h11 (show ¬ (256 : Int32) ≤ nI w from nI_ge (a := w) (b := 256) (by omega) (by omega))) (fun h11 => ?_)
    refine xe_aload_n dX9_leastFit_14 rfl ?_
    refine xe_getr dX9_leastFit_15 flX9_49 (by decide) rfl rfl ?_
    refine xe_iload_n dX9_leastFit_18 rfl ?_
    refine xn_zaload (j := w) dX9_leastFit_19 (by decide) rfl rfl (by omega) (by decide) ?_
    rw [hf w (by omega)]
    refine xe_if_eq (tgt := 25) dX9_leastFit_20 (by decide) (fun h20 => ?_) (fun h20 => ?_)
    · refine xn_inc (j := w) (lv2 := [_, _]) dX9_leastFit_25 (by decide) rfl rfl ?_
      refine xe_goto (tgt := 7) dX9_leastFit_28 (by decide) ?_
      rw [lstF, if_neg (by rw [bI_eq0.mp h20]; decide)] at h
      exact ih (w + 1) (by omega) h
    · refine xe_iload_n dX9_leastFit_23 rfl ?_
      refine xe_iret dX9_leastFit_24 rfl rfl ?_
      rw [lstF, if_pos (bI_ne0.mp h20)] at h; exact h

theorem sX9_leastFit {d : Nat} (hd : 23 ≤ d) {σ : xSt} {Post : Option Value → xSt → Prop} (hM : MCo σ) (hR : RUo σ) (m : Nat) (hm : σ.2.1 116 58 = nI m) (hm6 : m ≤ 6) (hh : HRo (σ.2.1 116) m) (h : ∀ τ, KM2 σ τ → Post (some (.int (lstF (fitR (mSem σ) (σ.2.1 116) m) 256 0))) τ) : xM kX9_leastFit d [.ref 115] σ Post := by
  obtain ⟨d, rfl⟩ : ∃ e, d = e + 1 := ⟨d - 1, by omega⟩
  refine xM_start (lv := [some (.ref 115), none]) rfl ?_
  refine xe_aload_n dX9_leastFit_0 rfl ?_
  refine xe_callv (k2 := kX9_look) (vs := []) dX9_leastFit_1 okX9_look mlX9_202 imX9_look slX9_look (Or.inl ⟨9, _, _, by decide, rfl, rfl, rfl⟩) rfl rfl (Nat.le_of_ble_eq_true rfl) (Nat.le_of_ble_eq_true rfl) (sX9_look (by omega) hM hR m hm hm6 hh (fun τ kt hf => ?_))
  refine xe_pop dX9_leastFit_4 rfl ?_
  refine xe_iconst (v := 0) dX9_leastFit_5 rfl ?_
  refine xe_istore_n (lv2 := [_, _]) dX9_leastFit_6 (by decide) rfl ?_
  exact lX9_leastFit _ hf 256 0 (by omega) (h τ kt)

theorem lX9_sure {d : Nat} {τ : xSt} {Post : Option Value → xSt → Prop} (f : Nat → Bool) (b n : Int32) (hf : ∀ w, w < 256 → τ.2.1 128 w = bI (f w)) (h : xEv kX9_sure (d + 1) 71 [some (.ref 115), some (.int b), some (.int n), some (.int (andF f 256)), some (.int (orF f 256)), some (.int (nI 256))] [] τ Post) : ∀ (c w : Nat), 257 ≤ w + c → w ≤ 256 → xEv kX9_sure (d + 1) 15 [some (.ref 115), some (.int b), some (.int n), some (.int (andF f w)), some (.int (orF f w)), some (.int (nI w))] [] τ Post := by
  intro c
  induction c with
  | zero => intro w hc hw; omega
  | succ c ih =>
    intro w hc hw
    refine xe_iload dX9_sure_15 rfl ?_
    refine xe_sipush (v := 256) dX9_sure_17 rfl ?_
    refine xe_icmp_ge (tgt := 71) dX9_sure_20 (by decide) (fun h20 => ?_) (fun h20 => ?_)
    · have e := nLe (a := 256) (by omega) (by omega) h20
      obtain rfl : w = 256 := by omega
      exact h
    · have e := nNle (a := 256) (by omega) (by omega) h20
      refine xe_iload_n dX9_sure_23 rfl ?_
      refine xe_aload_n dX9_sure_24 rfl ?_
      refine xe_getr dX9_sure_25 flX9_49 (by decide) rfl rfl ?_
      refine xe_iload dX9_sure_28 rfl ?_
      refine xn_zaload (j := w) dX9_sure_30 (by decide) rfl rfl (by omega) (by decide) ?_
      rw [hf w (by omega)]
      refine xe_if_eq (tgt := 39) dX9_sure_31 (by decide) (fun h31 => ?_) (fun h31 => ?_)
      · refine xe_sipush (v := 255) dX9_sure_39 rfl ?_
        refine xe_iand dX9_sure_42 ?_
        refine xe_istore_n (lv2 := [_, _, _, _, _, _]) dX9_sure_43 (by decide) rfl ?_
        refine xe_iload dX9_sure_44 rfl ?_
        refine xe_aload_n dX9_sure_46 rfl ?_
        refine xe_getr dX9_sure_47 flX9_49 (by decide) rfl rfl ?_
        refine xe_iload dX9_sure_50 rfl ?_
        refine xn_zaload (j := w) dX9_sure_52 (by decide) rfl rfl (by omega) (by decide) ?_
        rw [hf w (by omega)]
        refine xe_if_eq (tgt := 61) dX9_sure_53 (by decide) (fun h53 => ?_) (fun h53 => ?_)
        · refine xe_iconst (v := 0) dX9_sure_61 rfl ?_
          refine xe_ior dX9_sure_62 ?_
          refine xe_istore (lv2 := [_, _, _, _, _, _]) dX9_sure_63 (by decide) rfl ?_
          refine xn_inc (j := w) (lv2 := [_, _, _, _, _, _]) dX9_sure_65 (by decide) rfl rfl ?_
          refine xe_goto (tgt := 15) dX9_sure_68 (by decide) ?_
          have l := ih (w + 1) (by omega) (by omega)
          rw [andF, orF] at l
          first
          | (rw [if_pos (bI_ne0.mp h31), if_pos (bI_ne0.mp h31)] at l; exact l)
          | (rw [if_neg (by rw [bI_eq0.mp h31]; decide), if_neg (by rw [bI_eq0.mp h31]; decide)] at l; exact l)
          | exact absurd h31 h53
          | exact absurd h53 h31
        · refine xe_iload dX9_sure_56 rfl ?_
          refine xe_goto (tgt := 62) dX9_sure_58 (by decide) ?_
          refine xe_ior dX9_sure_62 ?_
          refine xe_istore (lv2 := [_, _, _, _, _, _]) dX9_sure_63 (by decide) rfl ?_
          refine xn_inc (j := w) (lv2 := [_, _, _, _, _, _]) dX9_sure_65 (by decide) rfl rfl ?_
          refine xe_goto (tgt := 15) dX9_sure_68 (by decide) ?_
          have l := ih (w + 1) (by omega) (by omega)
          rw [andF, orF] at l
          first
          | (rw [if_pos (bI_ne0.mp h31), if_pos (bI_ne0.mp h31)] at l; exact l)
          | (rw [if_neg (by rw [bI_eq0.mp h31]; decide), if_neg (by rw [bI_eq0.mp h31]; decide)] at l; exact l)
          | exact absurd h31 h53
          | exact absurd h53 h31
      · refine xe_iload dX9_sure_34 rfl ?_
        refine xe_goto (tgt := 42) dX9_sure_36 (by decide) ?_
        refine xe_iand dX9_sure_42 ?_
        refine xe_istore_n (lv2 := [_, _, _, _, _, _]) dX9_sure_43 (by decide) rfl ?_
        refine xe_iload dX9_sure_44 rfl ?_
        refine xe_aload_n dX9_sure_46 rfl ?_
        refine xe_getr dX9_sure_47 flX9_49 (by decide) rfl rfl ?_
        refine xe_iload dX9_sure_50 rfl ?_
        refine xn_zaload (j := w) dX9_sure_52 (by decide) rfl rfl (by omega) (by decide) ?_
        rw [hf w (by omega)]
        refine xe_if_eq (tgt := 61) dX9_sure_53 (by decide) (fun h53 => ?_) (fun h53 => ?_)
        · refine xe_iconst (v := 0) dX9_sure_61 rfl ?_
          refine xe_ior dX9_sure_62 ?_
          refine xe_istore (lv2 := [_, _, _, _, _, _]) dX9_sure_63 (by decide) rfl ?_
          refine xn_inc (j := w) (lv2 := [_, _, _, _, _, _]) dX9_sure_65 (by decide) rfl rfl ?_
          refine xe_goto (tgt := 15) dX9_sure_68 (by decide) ?_
          have l := ih (w + 1) (by omega) (by omega)
          rw [andF, orF] at l
          first
          | (rw [if_pos (bI_ne0.mp h31), if_pos (bI_ne0.mp h31)] at l; exact l)
          | (rw [if_neg (by rw [bI_eq0.mp h31]; decide), if_neg (by rw [bI_eq0.mp h31]; decide)] at l; exact l)
          | exact absurd h31 h53
          | exact absurd h53 h31
        · refine xe_iload dX9_sure_56 rfl ?_
          refine xe_goto (tgt := 62) dX9_sure_58 (by decide) ?_
          refine xe_ior dX9_sure_62 ?_
          refine xe_istore (lv2 := [_, _, _, _, _, _]) dX9_sure_63 (by decide) rfl ?_
          refine xn_inc (j := w) (lv2 := [_, _, _, _, _, _]) dX9_sure_65 (by decide) rfl rfl ?_
          refine xe_goto (tgt := 15) dX9_sure_68 (by decide) ?_
          have l := ih (w + 1) (by omega) (by omega)
          rw [andF, orF] at l
          first
          | (rw [if_pos (bI_ne0.mp h31), if_pos (bI_ne0.mp h31)] at l; exact l)
          | (rw [if_neg (by rw [bI_eq0.mp h31]; decide), if_neg (by rw [bI_eq0.mp h31]; decide)] at l; exact l)
          | exact absurd h31 h53
          | exact absurd h53 h31

theorem sX9_sure {d : Nat} (hd : 23 ≤ d) {σ : xSt} {Post : Option Value → xSt → Prop} (b : Int32) (hM : MCo σ) (hR : RUo σ) (m : Nat) (hm : σ.2.1 116 58 = nI m) (hm6 : m ≤ 6) (hh : HRo (σ.2.1 116) m) (h : ∀ τ, KM2 σ τ → Post (some (.int (if b = 0 then 255 &&& (orF (fitR (mSem σ) (σ.2.1 116) m) 256 ^^^ (-1)) else if cntF (fitR (mSem σ) (σ.2.1 116) m) 256 = 0 then 0 else andF (fitR (mSem σ) (σ.2.1 116) m) 256))) τ) : xM kX9_sure d [.ref 115, .int b] σ Post := by
  obtain ⟨d, rfl⟩ : ∃ e, d = e + 1 := ⟨d - 1, by omega⟩
  refine xM_start (lv := [some (.ref 115), some (.int b), none, none, none, none]) rfl ?_
  refine xe_aload_n dX9_sure_0 rfl ?_
  refine xe_callv (k2 := kX9_look) (vs := []) dX9_sure_1 okX9_look mlX9_202 imX9_look slX9_look (Or.inl ⟨9, _, _, by decide, rfl, rfl, rfl⟩) rfl rfl (Nat.le_of_ble_eq_true rfl) (Nat.le_of_ble_eq_true rfl) (sX9_look (by omega) hM hR m hm hm6 hh (fun τ kt hf => ?_))
  refine xe_istore_n (lv2 := [_, _, _, _, _, _]) dX9_sure_4 (by decide) rfl ?_
  refine xe_sipush (v := 255) dX9_sure_5 rfl ?_
  refine xe_istore_n (lv2 := [_, _, _, _, _, _]) dX9_sure_8 (by decide) rfl ?_
  refine xe_iconst (v := 0) dX9_sure_9 rfl ?_
  refine xe_istore (lv2 := [_, _, _, _, _, _]) dX9_sure_10 (by decide) rfl ?_
  refine xe_iconst (v := 0) dX9_sure_12 rfl ?_
  refine xe_istore (lv2 := [_, _, _, _, _, _]) dX9_sure_13 (by decide) rfl ?_
  refine lX9_sure _ b _ hf ?_ 257 0 (by omega) (by omega)
  refine xe_iload_n dX9_sure_71 rfl ?_
  refine xe_if_eq (tgt := 87) dX9_sure_72 (by decide) (fun h72 => ?_) (fun h72 => ?_)
  · refine xe_sipush (v := 255) dX9_sure_87 rfl ?_
    refine xe_iload dX9_sure_90 rfl ?_
    refine xe_iconst (v := -1) dX9_sure_92 rfl ?_
    refine xe_ixor dX9_sure_93 ?_
    refine xe_iand dX9_sure_94 ?_
    refine xe_iret dX9_sure_95 rfl rfl ?_
    have e := h τ kt
    first
    | (rw [if_pos h72] at e; exact e)
    | (rw [if_neg h72, if_pos h76] at e; exact e)
    | (rw [if_neg h72, if_neg h76] at e; exact e)
  · refine xe_iload_n dX9_sure_75 rfl ?_
    refine xe_if_ne (tgt := 83) dX9_sure_76 (by decide) (fun h76 => ?_) (fun h76 => ?_)
    · refine xe_iload_n dX9_sure_83 rfl ?_
      refine xe_goto (tgt := 95) dX9_sure_84 (by decide) ?_
      refine xe_iret dX9_sure_95 rfl rfl ?_
      have e := h τ kt
      first
      | (rw [if_pos h72] at e; exact e)
      | (rw [if_neg h72, if_pos h76] at e; exact e)
      | (rw [if_neg h72, if_neg h76] at e; exact e)
    · refine xe_iconst (v := 0) dX9_sure_79 rfl ?_
      refine xe_goto (tgt := 95) dX9_sure_80 (by decide) ?_
      refine xe_iret dX9_sure_95 rfl rfl ?_
      have e := h τ kt
      first
      | (rw [if_pos h72] at e; exact e)
      | (rw [if_neg h72, if_pos h76] at e; exact e)
      | (rw [if_neg h72, if_neg h76] at e; exact e)

theorem lX9_found {d : Nat} (hd : 21 ≤ d) {σ : xSt} {Post : Option Value → xSt → Prop} (n : Nat) (hn : σ.2.1 116 54 = nI n) (h6 : n ≤ 6) (hM : MCo σ) (hR : RUo σ) (f : Nat) (hf : f < 8) (h : ∀ τ, KM2 σ τ → Post (some (.int (iS (fnd1 (mSem σ) (σ.2.1 116) f) n))) τ) : ∀ (c j : Nat) (τ : xSt) (v4 v5 : Option Value), n + 1 ≤ j + c → j ≤ n → KM2 σ τ → xEv kX9_found (d + 1) 4 [some (.ref 115), some (.int (nI f)), some (.int (iS (fnd1 (mSem σ) (σ.2.1 116) f) j)), some (.int (nI j)), v4, v5] [] τ Post := by
  intro c
  induction c with
  | zero => intro j τ v4 v5 hc hj; omega
  | succ c ih =>
    intro j τ v4 v5 hc hj kt
    have gt : τ.2.1 116 = σ.2.1 116 := kt.1 116 (by omega)
    refine xe_iload_n dX9_found_4 rfl ?_
    refine xe_aload_n dX9_found_5 rfl ?_
    refine xe_getr dX9_found_6 flX9_9 (by decide) rfl rfl ?_
    refine xe_bipush (v := 54) dX9_found_9 rfl ?_
    refine xn_iaload dX9_found_11 (by decide) rfl (by first | with_reducible rfl | (simp only [xl, pk_mul, nI_add, nI_1]; done) | (simp only [xl, pk_mul, nI_add, nI_1]; rfl)) (by omega) (by decide) ?_
    rw [gt, hn]
    refine xe_icmp_ge (tgt := 78) dX9_found_12 (by decide) (fun h12 => ?_) (fun h12 => ?_)
    · refine xe_iload_n dX9_found_78 rfl ?_
      refine xe_iret dX9_found_79 rfl rfl ?_
      have e := nLe (a := n) (by omega) (by omega) h12
      obtain rfl : j = n := by omega
      exact h τ kt
    · have e := nNle (a := n) (by omega) (by omega) h12
      refine xe_aload_n dX9_found_15 rfl ?_
      refine xe_iload_n dX9_found_16 rfl ?_
      refine xe_iload_n dX9_found_17 rfl ?_
      refine xe_callv (k2 := kX9_clear) (vs := [_, _]) dX9_found_18 okX9_clear mlX9_111 imX9_clear slX9_clear (Or.inl ⟨9, _, _, by decide, rfl, rfl, rfl⟩) rfl rfl (Nat.le_of_ble_eq_true rfl) (Nat.le_of_ble_eq_true rfl) (sX9_clear (by omega) j f (by omega) hf (hM.km2 kt) (hR.km2 kt) (fun σ3 k3 => ?_))
      refine xe_istore (lv2 := [_, _, _, _, _, _]) dX9_found_21 (by decide) rfl ?_
      refine xe_iload dX9_found_23 rfl ?_
      refine xe_iload_n dX9_found_25 rfl ?_
      refine xe_aload_n dX9_found_26 rfl ?_
      refine xe_getr dX9_found_27 flX9_9 (by decide) rfl rfl ?_
      refine xe_bipush (v := 55) dX9_found_30 rfl ?_
      refine xn_iaload dX9_found_32 (by decide) rfl (by first | with_reducible rfl | (simp only [xl, pk_mul, nI_add, nI_1]; done) | (simp only [xl, pk_mul, nI_add, nI_1]; rfl)) (by omega) (by decide) ?_
      rw [k3.1 116 (by omega), gt, mSem.km2 kt]
      refine xe_calls (k2 := kX9_saysBy) (vs := [_, _, _]) dX9_found_33 okX9_saysBy mlX9_193 stX9_saysBy rfl rfl (Nat.le_of_ble_eq_true rfl) (Nat.le_of_ble_eq_true rfl) (sX9_saysBy (by omega) _ f _ ?_)
      refine xe_istore (lv2 := [_, _, _, _, _, _]) dX9_found_36 (by decide) rfl ?_
      refine xe_iload_n dX9_found_38 rfl ?_
      refine xe_iload dX9_found_39 rfl ?_
      refine xe_bipush (v := -5) dX9_found_41 rfl ?_
      refine xe_icmp_ne (tgt := 50) dX9_found_43 (by decide) (fun h43 => ?_) (fun h43 => ?_)
      · refine xe_iload dX9_found_50 rfl ?_
        refine xe_iconst (v := 1) dX9_found_52 rfl ?_
        refine xe_icmp_ne (tgt := 64) dX9_found_53 (by decide) (fun h53 => ?_) (fun h53 => ?_)
        · refine xe_iload dX9_found_64 rfl ?_
          refine xe_mabs dX9_found_66 mlX9_205 (by omega) (Nat.le_of_ble_eq_true rfl) ?_
          refine xe_ineg dX9_found_69 ?_
          refine xe_iadd dX9_found_70 ?_
          refine xe_istore_n (lv2 := [_, _, _, _, _, _]) dX9_found_71 (by decide) rfl ?_
          refine xn_inc (j := j) (lv2 := [_, _, _, _, _, _]) dX9_found_72 (by decide) rfl rfl ?_
          refine xe_goto (tgt := 4) dX9_found_75 (by decide) ?_
          have l := ih (j + 1) σ3 (some (.int (Clr (mSem σ) j (pV (σ.2.1 116) j) f))) (some (.int (syB (Clr (mSem σ) j (pV (σ.2.1 116) j) f) f (σ.2.1 116 55)))) (by omega) (by omega) (kt.tr k3.two)
          rw [iS, fnd1] at l
          first
          | (rw [if_pos h43] at l; exact l)
          | (rw [if_neg h43, if_pos h53] at l; exact l)
          | (rw [if_neg h43, if_neg h53] at l; exact l)
        · refine xe_iload dX9_found_56 rfl ?_
          refine xe_mabs dX9_found_58 mlX9_205 (by omega) (Nat.le_of_ble_eq_true rfl) ?_
          refine xe_goto (tgt := 70) dX9_found_61 (by decide) ?_
          refine xe_iadd dX9_found_70 ?_
          refine xe_istore_n (lv2 := [_, _, _, _, _, _]) dX9_found_71 (by decide) rfl ?_
          refine xn_inc (j := j) (lv2 := [_, _, _, _, _, _]) dX9_found_72 (by decide) rfl rfl ?_
          refine xe_goto (tgt := 4) dX9_found_75 (by decide) ?_
          have l := ih (j + 1) σ3 (some (.int (Clr (mSem σ) j (pV (σ.2.1 116) j) f))) (some (.int (syB (Clr (mSem σ) j (pV (σ.2.1 116) j) f) f (σ.2.1 116 55)))) (by omega) (by omega) (kt.tr k3.two)
          rw [iS, fnd1] at l
          first
          | (rw [if_pos h43] at l; exact l)
          | (rw [if_neg h43, if_pos h53] at l; exact l)
          | (rw [if_neg h43, if_neg h53] at l; exact l)
      · refine xe_iconst (v := 0) dX9_found_46 rfl ?_
        refine xe_goto (tgt := 70) dX9_found_47 (by decide) ?_
        refine xe_iadd dX9_found_70 ?_
        refine xe_istore_n (lv2 := [_, _, _, _, _, _]) dX9_found_71 (by decide) rfl ?_
        refine xn_inc (j := j) (lv2 := [_, _, _, _, _, _]) dX9_found_72 (by decide) rfl rfl ?_
        refine xe_goto (tgt := 4) dX9_found_75 (by decide) ?_
        have l := ih (j + 1) σ3 (some (.int (Clr (mSem σ) j (pV (σ.2.1 116) j) f))) (some (.int (syB (Clr (mSem σ) j (pV (σ.2.1 116) j) f) f (σ.2.1 116 55)))) (by omega) (by omega) (kt.tr k3.two)
        rw [iS, fnd1] at l
        first
        | (rw [if_pos h43] at l; exact l)
        | (rw [if_neg h43, if_pos h53] at l; exact l)
        | (rw [if_neg h43, if_neg h53] at l; exact l)

theorem sX9_found {d : Nat} (hd : 22 ≤ d) {σ : xSt} {Post : Option Value → xSt → Prop} (n : Nat) (hn : σ.2.1 116 54 = nI n) (h6 : n ≤ 6) (f : Nat) (hf : f < 8) (hM : MCo σ) (hR : RUo σ) (h : ∀ τ, KM2 σ τ → Post (some (.int (iS (fnd1 (mSem σ) (σ.2.1 116) f) n))) τ) : xM kX9_found d [.ref 115, .int (nI f)] σ Post := by
  obtain ⟨d, rfl⟩ : ∃ e, d = e + 1 := ⟨d - 1, by omega⟩
  refine xM_start (lv := [some (.ref 115), some (.int (nI f)), none, none, none, none]) rfl ?_
  refine xe_iconst (v := 0) dX9_found_0 rfl ?_
  refine xe_istore_n (lv2 := [_, _, _, _, _, _]) dX9_found_1 (by decide) rfl ?_
  refine xe_iconst (v := 0) dX9_found_2 rfl ?_
  refine xe_istore_n (lv2 := [_, _, _, _, _, _]) dX9_found_3 (by decide) rfl ?_
  exact lX9_found (by omega) n hn h6 hM hR f hf h (n + 1) 0 σ _ _ (by omega) (by omega) KM2.rf
