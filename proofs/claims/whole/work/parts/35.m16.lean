theorem lX9_next3 {d : Nat} (hd : 1 ≤ d) {τ : xSt} {Post : Option Value → xSt → Prop} (fit : Nat → Bool) (hf : ∀ w, w < 256 → τ.2.1 128 w = bI (fit w)) (all : Int32) (s : Int32 × Int32) (i f : Nat) (cl : Int32) (g : Nat → Int32) (h : ∀ v7 v8, xEv kX9_next (d + 1) 136 [some (.ref 115), some (.int all), some (.int s.1), some (.int s.2), some (.int (nI i)), some (.int (nI f)), some (.int cl), v7, v8] [] (xsA τ 129 (fun k => if k < 3 then lfN fit cl f k 256 else g k)) Post) : ∀ (c w : Nat) (v8 : Option Value), 257 ≤ w + c → w ≤ 256 → xEv kX9_next (d + 1) 75 [some (.ref 115), some (.int all), some (.int s.1), some (.int s.2), some (.int (nI i)), some (.int (nI f)), some (.int cl), some (.int (nI w)), v8] [] (xsA τ 129 (fun k => if k < 3 then lfN fit cl f k w else g k)) Post := by
  intro c
  induction c with
  | zero => intro w v8 hc hw; omega
  | succ c ih =>
    intro w v8 hc hw
    refine xe_iload dX9_next_75 rfl ?_
    refine xe_sipush (v := 256) dX9_next_77 rfl ?_
    refine xe_icmp_ge (tgt := 136) dX9_next_80 (by decide) (fun h80 => ?_) (fun h80 => ?_)
    · have e := nLe (a := 256) (by omega) (by omega) h80
      obtain rfl : w = 256 := by omega
      exact h _ _
    · have e := nNle (a := 256) (by omega) (by omega) h80
      refine xe_iload dX9_next_83 rfl ?_
      refine xe_iload dX9_next_85 rfl ?_
      refine xe_iload dX9_next_87 rfl ?_
      refine xe_calls (k2 := kX9_saysBy) (vs := [_, _, _]) dX9_next_89 okX9_saysBy mlX9_193 stX9_saysBy rfl rfl (Nat.le_of_ble_eq_true rfl) (Nat.le_of_ble_eq_true rfl) (sX9_saysBy (by omega) cl f (nI w) ?_)
      refine xe_istore (lv2 := [_, _, _, _, _, _, _, _, _]) dX9_next_92 (by decide) rfl ?_
      refine xe_aload_n dX9_next_94 rfl ?_
      refine xe_getr dX9_next_95 flX9_53 (by decide) rfl rfl ?_
      refine xe_iload dX9_next_98 rfl ?_
      refine xe_bipush (v := -5) dX9_next_100 rfl ?_
      refine xe_icmp_ne (tgt := 109) dX9_next_102 (by decide) (fun h102 => ?_) (fun h102 => ?_)
      · refine xe_iload dX9_next_109 rfl ?_
        refine xe_dup2 dX9_next_111 rfl rfl ?_
        refine xn_iaload (j := sIx cl f w) dX9_next_112 (by decide) rfl (by first | (rw [sIx, if_pos h102]; rfl) | exact sIx_nI h102) (sIx_lt cl f w) (by decide) ?_
        rw [xsA_get]
        refine xe_aload_n dX9_next_113 rfl ?_
        refine xe_getr dX9_next_114 flX9_49 (by decide) rfl rfl ?_
        refine xe_iload dX9_next_117 rfl ?_
        refine xn_zaload (j := w) dX9_next_119 (by decide) rfl rfl (by omega) (by decide) ?_
        rw [xsA_ne (by decide), hf w (by omega)]
        refine xe_if_eq (tgt := 127) dX9_next_120 (by decide) (fun h120 => ?_) (fun h120 => ?_)
        · refine xe_iconst (v := 0) dX9_next_127 rfl ?_
          refine xe_iadd dX9_next_128 ?_
          refine xn_iastore (j := sIx cl f w) dX9_next_129 (by decide) rfl (by first | (rw [sIx, if_pos h102]; rfl) | exact sIx_nI h102) (sIx_lt cl f w) (by decide) ?_
          refine xn_inc (j := w) (lv2 := [_, _, _, _, _, _, _, _, _]) dX9_next_130 (by decide) rfl rfl ?_
          refine xe_goto (tgt := 75) dX9_next_133 (by decide) ?_
          refine xe_st ?_ (ih (w + 1) _ (by omega) (by omega))
          rw [xsA_A, xsA_get]
          congr 1
          funext k
          have hx := sIx_lt cl f w
          simp only [upd]
          by_cases hk : k = sIx cl f w
          · subst hk
            rw [if_pos rfl, if_pos hx, if_pos hx]
            rw [lfN_succ, if_pos rfl]
            congr 1
            first | exact h120.symm | (rw [bI_ne0.mp h120]; rfl)
          · rw [if_neg hk]
            by_cases hk3 : k < 3
            · rw [if_pos hk3, if_pos hk3]
              rw [lfN_succ, if_neg (Ne.symm hk), Int32.add_zero]
            · rw [if_neg hk3, if_neg hk3]
        · refine xe_iconst (v := 1) dX9_next_123 rfl ?_
          refine xe_goto (tgt := 128) dX9_next_124 (by decide) ?_
          refine xe_iadd dX9_next_128 ?_
          refine xn_iastore (j := sIx cl f w) dX9_next_129 (by decide) rfl (by first | (rw [sIx, if_pos h102]; rfl) | exact sIx_nI h102) (sIx_lt cl f w) (by decide) ?_
          refine xn_inc (j := w) (lv2 := [_, _, _, _, _, _, _, _, _]) dX9_next_130 (by decide) rfl rfl ?_
          refine xe_goto (tgt := 75) dX9_next_133 (by decide) ?_
          refine xe_st ?_ (ih (w + 1) _ (by omega) (by omega))
          rw [xsA_A, xsA_get]
          congr 1
          funext k
          have hx := sIx_lt cl f w
          simp only [upd]
          by_cases hk : k = sIx cl f w
          · subst hk
            rw [if_pos rfl, if_pos hx, if_pos hx]
            rw [lfN_succ, if_pos rfl]
            congr 1
            first | exact h120.symm | (rw [bI_ne0.mp h120]; rfl)
          · rw [if_neg hk]
            by_cases hk3 : k < 3
            · rw [if_pos hk3, if_pos hk3]
              rw [lfN_succ, if_neg (Ne.symm hk), Int32.add_zero]
            · rw [if_neg hk3, if_neg hk3]
      · refine xe_iconst (v := 2) dX9_next_105 rfl ?_
        refine xe_goto (tgt := 111) dX9_next_106 (by decide) ?_
        refine xe_dup2 dX9_next_111 rfl rfl ?_
        refine xn_iaload (j := sIx cl f w) dX9_next_112 (by decide) rfl (by first | (rw [sIx, if_pos h102]; rfl) | exact sIx_nI h102) (sIx_lt cl f w) (by decide) ?_
        rw [xsA_get]
        refine xe_aload_n dX9_next_113 rfl ?_
        refine xe_getr dX9_next_114 flX9_49 (by decide) rfl rfl ?_
        refine xe_iload dX9_next_117 rfl ?_
        refine xn_zaload (j := w) dX9_next_119 (by decide) rfl rfl (by omega) (by decide) ?_
        rw [xsA_ne (by decide), hf w (by omega)]
        refine xe_if_eq (tgt := 127) dX9_next_120 (by decide) (fun h120 => ?_) (fun h120 => ?_)
        · refine xe_iconst (v := 0) dX9_next_127 rfl ?_
          refine xe_iadd dX9_next_128 ?_
          refine xn_iastore (j := sIx cl f w) dX9_next_129 (by decide) rfl (by first | (rw [sIx, if_pos h102]; rfl) | exact sIx_nI h102) (sIx_lt cl f w) (by decide) ?_
          refine xn_inc (j := w) (lv2 := [_, _, _, _, _, _, _, _, _]) dX9_next_130 (by decide) rfl rfl ?_
          refine xe_goto (tgt := 75) dX9_next_133 (by decide) ?_
          refine xe_st ?_ (ih (w + 1) _ (by omega) (by omega))
          rw [xsA_A, xsA_get]
          congr 1
          funext k
          have hx := sIx_lt cl f w
          simp only [upd]
          by_cases hk : k = sIx cl f w
          · subst hk
            rw [if_pos rfl, if_pos hx, if_pos hx]
            rw [lfN_succ, if_pos rfl]
            congr 1
            first | exact h120.symm | (rw [bI_ne0.mp h120]; rfl)
          · rw [if_neg hk]
            by_cases hk3 : k < 3
            · rw [if_pos hk3, if_pos hk3]
              rw [lfN_succ, if_neg (Ne.symm hk), Int32.add_zero]
            · rw [if_neg hk3, if_neg hk3]
        · refine xe_iconst (v := 1) dX9_next_123 rfl ?_
          refine xe_goto (tgt := 128) dX9_next_124 (by decide) ?_
          refine xe_iadd dX9_next_128 ?_
          refine xn_iastore (j := sIx cl f w) dX9_next_129 (by decide) rfl (by first | (rw [sIx, if_pos h102]; rfl) | exact sIx_nI h102) (sIx_lt cl f w) (by decide) ?_
          refine xn_inc (j := w) (lv2 := [_, _, _, _, _, _, _, _, _]) dX9_next_130 (by decide) rfl rfl ?_
          refine xe_goto (tgt := 75) dX9_next_133 (by decide) ?_
          refine xe_st ?_ (ih (w + 1) _ (by omega) (by omega))
          rw [xsA_A, xsA_get]
          congr 1
          funext k
          have hx := sIx_lt cl f w
          simp only [upd]
          by_cases hk : k = sIx cl f w
          · subst hk
            rw [if_pos rfl, if_pos hx, if_pos hx]
            rw [lfN_succ, if_pos rfl]
            congr 1
            first | exact h120.symm | (rw [bI_ne0.mp h120]; rfl)
          · rw [if_neg hk]
            by_cases hk3 : k < 3
            · rw [if_pos hk3, if_pos hk3]
              rw [lfN_succ, if_neg (Ne.symm hk), Int32.add_zero]
            · rw [if_neg hk3, if_neg hk3]

theorem lX9_next2 {d : Nat} (hd : 21 ≤ d) {σ : xSt} {Post : Option Value → xSt → Prop} (n : Nat) (hn : σ.2.1 116 54 = nI n) (h6 : n ≤ 6) (hM : MCo σ) (hR : RUo σ) (m : Nat) (all : Int32) (i : Nat) (hi : i < n) (s0 : Int32 × Int32) (h : ∀ τ v5 v6 v7 v8, KM2 σ τ → (∀ w, w < 256 → τ.2.1 128 w = bI ((fitR (mSem σ) (σ.2.1 116) m) w)) → xEv kX9_next (d + 1) 194 [some (.ref 115), some (.int all), some (.int (nx1 (fitR (mSem σ) (σ.2.1 116) m) (mSem σ) (σ.2.1 116) i s0 8).1), some (.int (nx1 (fitR (mSem σ) (σ.2.1 116) m) (mSem σ) (σ.2.1 116) i s0 8).2), some (.int (nI i)), v5, v6, v7, v8] [] τ Post) : ∀ (c f : Nat) (τ : xSt) (v6 v7 v8 : Option Value), 9 ≤ f + c → f ≤ 8 → KM2 σ τ → (∀ w, w < 256 → τ.2.1 128 w = bI ((fitR (mSem σ) (σ.2.1 116) m) w)) → xEv kX9_next (d + 1) 34 [some (.ref 115), some (.int all), some (.int (nx1 (fitR (mSem σ) (σ.2.1 116) m) (mSem σ) (σ.2.1 116) i s0 f).1), some (.int (nx1 (fitR (mSem σ) (σ.2.1 116) m) (mSem σ) (σ.2.1 116) i s0 f).2), some (.int (nI i)), some (.int (nI f)), v6, v7, v8] [] τ Post := by
  intro c
  induction c with
  | zero => intro f τ v6 v7 v8 hc hf; omega
  | succ c ih =>
    intro f τ v6 v7 v8 hc hf kt hfi
    have gt : τ.2.1 116 = σ.2.1 116 := kt.1 116 (by omega)
    refine xe_iload dX9_next_34 rfl ?_
    refine xe_bipush (v := 8) dX9_next_36 rfl ?_
    refine xe_icmp_ge (tgt := 194) dX9_next_38 (by decide) (fun h38 => ?_) (fun h38 => ?_)
    · have e := nLe (a := 8) (by omega) (by omega) h38
      obtain rfl : f = 8 := by omega
      exact h τ _ _ _ _ kt hfi
    · have e := nNle (a := 8) (by omega) (by omega) h38
      refine xe_aload_n dX9_next_41 rfl ?_
      refine xe_iload dX9_next_42 rfl ?_
      refine xe_iload dX9_next_44 rfl ?_
      refine xe_callv (k2 := kX9_clear) (vs := [_, _]) dX9_next_46 okX9_clear mlX9_111 imX9_clear slX9_clear (Or.inl ⟨9, _, _, by decide, rfl, rfl, rfl⟩) rfl rfl (Nat.le_of_ble_eq_true rfl) (Nat.le_of_ble_eq_true rfl) (sX9_clear (by omega) i f (by omega) (by omega) (hM.km2 kt) (hR.km2 kt) (fun σ3 k3 => ?_))
      rw [mSem.km2 kt, gt]
      refine xe_istore (lv2 := [_, _, _, _, _, _, _, _, _]) dX9_next_49 (by decide) rfl ?_
      refine xe_aload_n dX9_next_51 rfl ?_
      refine xe_getr dX9_next_52 flX9_53 (by decide) rfl rfl ?_
      refine xe_iconst (v := 0) dX9_next_55 rfl ?_
      refine xe_iconst (v := 0) dX9_next_56 rfl ?_
      refine xn_iastore dX9_next_57 (by decide) rfl (by first | with_reducible rfl | (simp only [xl, pk_mul, nI_add, nI_1]; done) | (simp only [xl, pk_mul, nI_add, nI_1]; rfl)) (by omega) (by decide) ?_
      refine xe_aload_n dX9_next_58 rfl ?_
      refine xe_getr dX9_next_59 flX9_53 (by decide) rfl rfl ?_
      refine xe_iconst (v := 1) dX9_next_62 rfl ?_
      refine xe_iconst (v := 0) dX9_next_63 rfl ?_
      refine xn_iastore dX9_next_64 (by decide) rfl (by first | with_reducible rfl | (simp only [xl, pk_mul, nI_add, nI_1]; done) | (simp only [xl, pk_mul, nI_add, nI_1]; rfl)) (by omega) (by decide) ?_
      refine xe_aload_n dX9_next_65 rfl ?_
      refine xe_getr dX9_next_66 flX9_53 (by decide) rfl rfl ?_
      refine xe_iconst (v := 2) dX9_next_69 rfl ?_
      refine xe_iconst (v := 0) dX9_next_70 rfl ?_
      refine xn_iastore dX9_next_71 (by decide) rfl (by first | with_reducible rfl | (simp only [xl, pk_mul, nI_add, nI_1]; done) | (simp only [xl, pk_mul, nI_add, nI_1]; rfl)) (by omega) (by decide) ?_
      simp only [xsA_A, xsA_get]
      refine xe_iconst (v := 0) dX9_next_72 rfl ?_
      refine xe_istore (lv2 := [_, _, _, _, _, _, _, _, _]) dX9_next_73 (by decide) rfl ?_
      refine xe_st (σ2 := xsA σ3 129 (fun k => if k < 3 then lfN (fitR (mSem σ) (σ.2.1 116) m) (Clr (mSem σ) i (pV (σ.2.1 116) i) f) f k 0 else σ3.2.1 129 k)) (by
        congr 1; funext k; simp only [upd, lfN, iS]
        rcases (show k = 0 ∨ k = 1 ∨ k = 2 ∨ 3 ≤ k by omega) with q | q | q | q
        · subst q; rfl
        · subst q; rfl
        · subst q; rfl
        · rw [if_neg (by omega), if_neg (by omega), if_neg (by omega), if_neg (by omega)]) ?_
      refine lX9_next3 (by omega) (fitR (mSem σ) (σ.2.1 116) m) (fun w hw => by rw [k3.1 128 (by omega)]; exact hfi w hw) all (nx1 (fitR (mSem σ) (σ.2.1 116) m) (mSem σ) (σ.2.1 116) i s0 f) i f _ (σ3.2.1 129) (fun v7 v8 => ?_) 257 0 _ (by omega) (by omega)
      refine xe_aload_n dX9_next_136 rfl ?_
      refine xe_getr dX9_next_137 flX9_53 (by decide) rfl rfl ?_
      refine xe_iconst (v := 0) dX9_next_140 rfl ?_
      refine xn_iaload (j := 0) dX9_next_141 (by decide) rfl rfl (by omega) (by decide) ?_
      rw [xsA_get, if_pos (show 0 < 3 by decide)]
      refine xe_aload_n dX9_next_142 rfl ?_
      refine xe_getr dX9_next_143 flX9_53 (by decide) rfl rfl ?_
      refine xe_iconst (v := 1) dX9_next_146 rfl ?_
      refine xn_iaload (j := 1) dX9_next_147 (by decide) rfl rfl (by omega) (by decide) ?_
      rw [xsA_get, if_pos (show 1 < 3 by decide)]
      refine xe_aload_n dX9_next_148 rfl ?_
      refine xe_getr dX9_next_149 flX9_53 (by decide) rfl rfl ?_
      refine xe_iconst (v := 2) dX9_next_152 rfl ?_
      refine xn_iaload (j := 2) dX9_next_153 (by decide) rfl rfl (by omega) (by decide) ?_
      rw [xsA_get, if_pos (show 2 < 3 by decide)]
      refine xe_mmax dX9_next_154 mlX9_125 (by omega) (Nat.le_of_ble_eq_true rfl) ?_
      refine xe_mmax dX9_next_157 mlX9_125 (by omega) (Nat.le_of_ble_eq_true rfl) ?_
      refine xe_top (x2 := mostN (fitR (mSem σ) (σ.2.1 116) m) (Clr (mSem σ) i (pV (σ.2.1 116) i) f) f) rfl ?_
      generalize hMo : mostN (fitR (mSem σ) (σ.2.1 116) m) (Clr (mSem σ) i (pV (σ.2.1 116) i) f) f = M
      refine xe_istore (lv2 := [_, _, _, _, _, _, _, _, _]) dX9_next_160 (by decide) rfl ?_
      refine xe_iload dX9_next_162 rfl ?_
      refine xe_iload_n dX9_next_164 rfl ?_
      refine xe_icmp_ge (tgt := 179) dX9_next_165 (by decide) (fun h165 => ?_) (fun h165 => ?_)
      · refine xe_iload_n dX9_next_179 rfl ?_
        refine xe_istore_n (lv2 := [_, _, _, _, _, _, _, _, _]) dX9_next_180 (by decide) rfl ?_
        refine xe_iload dX9_next_181 rfl ?_
        refine xe_iload_n dX9_next_183 rfl ?_
        refine xe_mmin dX9_next_184 mlX9_120 (by omega) (Nat.le_of_ble_eq_true rfl) ?_
        refine xe_istore_n (lv2 := [_, _, _, _, _, _, _, _, _]) dX9_next_187 (by decide) rfl ?_
        refine xn_inc (j := f) (lv2 := [_, _, _, _, _, _, _, _, _]) dX9_next_188 (by decide) rfl rfl ?_
        refine xe_goto (tgt := 34) dX9_next_191 (by decide) ?_
        have l := ih (f + 1) (xsA σ3 129 (fun k => if k < 3 then lfN (fitR (mSem σ) (σ.2.1 116) m) (Clr (mSem σ) i (pV (σ.2.1 116) i) f) f k 256 else σ3.2.1 129 k)) (some (.int (Clr (mSem σ) i (pV (σ.2.1 116) i) f))) (some (.int (mostN (fitR (mSem σ) (σ.2.1 116) m) (Clr (mSem σ) i (pV (σ.2.1 116) i) f) f))) v8 (by omega) (by omega) ((kt.tr k3.two).tr (KM2.A (by omega))) (fun w hw => by rw [xsA_ne (by decide), k3.1 128 (by omega)]; exact hfi w hw)
        rw [nx1_succ, nx2, hMo, mnI] at l
        first
        | (rw [if_neg (Int32.not_lt.mpr h165)] at l; exact l)
        | (rw [if_pos (Int32.not_le.mp h165), ← nI_add, ← pk_mul] at l; exact l)
      · refine xe_bipush (v := 10) dX9_next_168 rfl ?_
        refine xe_iload dX9_next_170 rfl ?_
        refine xe_imul dX9_next_172 ?_
        refine xe_iload dX9_next_173 rfl ?_
        refine xe_iadd dX9_next_175 ?_
        refine xe_goto (tgt := 180) dX9_next_176 (by decide) ?_
        refine xe_istore_n (lv2 := [_, _, _, _, _, _, _, _, _]) dX9_next_180 (by decide) rfl ?_
        refine xe_iload dX9_next_181 rfl ?_
        refine xe_iload_n dX9_next_183 rfl ?_
        refine xe_mmin dX9_next_184 mlX9_120 (by omega) (Nat.le_of_ble_eq_true rfl) ?_
        refine xe_istore_n (lv2 := [_, _, _, _, _, _, _, _, _]) dX9_next_187 (by decide) rfl ?_
        refine xn_inc (j := f) (lv2 := [_, _, _, _, _, _, _, _, _]) dX9_next_188 (by decide) rfl rfl ?_
        refine xe_goto (tgt := 34) dX9_next_191 (by decide) ?_
        have l := ih (f + 1) (xsA σ3 129 (fun k => if k < 3 then lfN (fitR (mSem σ) (σ.2.1 116) m) (Clr (mSem σ) i (pV (σ.2.1 116) i) f) f k 256 else σ3.2.1 129 k)) (some (.int (Clr (mSem σ) i (pV (σ.2.1 116) i) f))) (some (.int (mostN (fitR (mSem σ) (σ.2.1 116) m) (Clr (mSem σ) i (pV (σ.2.1 116) i) f) f))) v8 (by omega) (by omega) ((kt.tr k3.two).tr (KM2.A (by omega))) (fun w hw => by rw [xsA_ne (by decide), k3.1 128 (by omega)]; exact hfi w hw)
        rw [nx1_succ, nx2, hMo, mnI] at l
        first
        | (rw [if_neg (Int32.not_lt.mpr h165)] at l; exact l)
        | (rw [if_pos (Int32.not_le.mp h165), ← nI_add, ← pk_mul] at l; exact l)

theorem lX9_next1 {d : Nat} (hd : 21 ≤ d) {σ : xSt} {Post : Option Value → xSt → Prop} (n : Nat) (hn : σ.2.1 116 54 = nI n) (h6 : n ≤ 6) (hM : MCo σ) (hR : RUo σ) (m : Nat) (all : Int32) (hall : ¬ all ≤ 0) (h : ∀ τ, KM2 σ τ → Post (some (.int (nxA (fitR (mSem σ) (σ.2.1 116) m) (mSem σ) (σ.2.1 116) n).1)) τ) : ∀ (c i : Nat) (τ : xSt) (v5 v6 v7 v8 : Option Value), n + 1 ≤ i + c → i ≤ n → KM2 σ τ → (∀ w, w < 256 → τ.2.1 128 w = bI ((fitR (mSem σ) (σ.2.1 116) m) w)) → xEv kX9_next (d + 1) 15 [some (.ref 115), some (.int all), some (.int (nxA (fitR (mSem σ) (σ.2.1 116) m) (mSem σ) (σ.2.1 116) i).1), some (.int (nxA (fitR (mSem σ) (σ.2.1 116) m) (mSem σ) (σ.2.1 116) i).2), some (.int (nI i)), v5, v6, v7, v8] [] τ Post := by
  intro c
  induction c with
  | zero => intro i τ v5 v6 v7 v8 hc hi; omega
  | succ c ih =>
    intro i τ v5 v6 v7 v8 hc hi kt hfi
    have gt : τ.2.1 116 = σ.2.1 116 := kt.1 116 (by omega)
    refine xe_iload dX9_next_15 rfl ?_
    refine xe_aload_n dX9_next_17 rfl ?_
    refine xe_getr dX9_next_18 flX9_9 (by decide) rfl rfl ?_
    refine xe_bipush (v := 54) dX9_next_21 rfl ?_
    refine xn_iaload dX9_next_23 (by decide) rfl (by first | with_reducible rfl | (simp only [xl, pk_mul, nI_add, nI_1]; done) | (simp only [xl, pk_mul, nI_add, nI_1]; rfl)) (by omega) (by decide) ?_
    rw [gt, hn]
    refine xe_icmp_ge (tgt := 200) dX9_next_24 (by decide) (fun h24 => ?_) (fun h24 => ?_)
    · refine xe_iload_n dX9_next_200 rfl ?_
      refine xe_iret dX9_next_201 rfl rfl ?_
      have e := nLe (a := n) (by omega) (by omega) h24
      obtain rfl : i = n := by omega
      exact h τ kt
    · have e := nNle (a := n) (by omega) (by omega) h24
      refine xe_iload_n dX9_next_27 rfl ?_
      refine xe_if_le (tgt := 200) dX9_next_28 (by decide) (fun h28 => absurd h28 hall) (fun h28 => ?_)
      refine xe_iconst (v := 0) dX9_next_31 rfl ?_
      refine xe_istore (lv2 := [_, _, _, _, _, _, _, _, _]) dX9_next_32 (by decide) rfl ?_
      rw [← nx1_zero (fitR (mSem σ) (σ.2.1 116) m) (mSem σ) (σ.2.1 116) i (nxA (fitR (mSem σ) (σ.2.1 116) m) (mSem σ) (σ.2.1 116) i)]
      refine lX9_next2 (by omega) n hn h6 hM hR m all i e (nxA (fitR (mSem σ) (σ.2.1 116) m) (mSem σ) (σ.2.1 116) i) (fun τ2 v5 v6 v7 v8 kt2 hfi2 => ?_) 9 0 τ _ _ _ (by omega) (by omega) kt hfi
      rw [← nxA_succ]
      refine xn_inc (j := i) (lv2 := [_, _, _, _, _, _, _, _, _]) dX9_next_194 (by decide) rfl rfl ?_
      refine xe_goto (tgt := 15) dX9_next_197 (by decide) ?_
      exact ih (i + 1) τ2 _ _ _ _ (by omega) (by omega) kt2 hfi2

theorem sX9_next {d : Nat} (hd : 23 ≤ d) {σ : xSt} {Post : Option Value → xSt → Prop} (n : Nat) (hn : σ.2.1 116 54 = nI n) (h6 : n ≤ 6) (hM : MCo σ) (hR : RUo σ) (m : Nat) (hm : σ.2.1 116 58 = nI m) (hm6 : m ≤ 6) (hh : HRo (σ.2.1 116) m) (h : ∀ τ, KM2 σ τ → Post (some (.int (nextV (fitR (mSem σ) (σ.2.1 116) m) (mSem σ) (σ.2.1 116) n))) τ) : xM kX9_next d [.ref 115] σ Post := by
  obtain ⟨d, rfl⟩ : ∃ e, d = e + 1 := ⟨d - 1, by omega⟩
  refine xM_start (lv := [some (.ref 115), none, none, none, none, none, none, none, none]) rfl ?_
  refine xe_aload_n dX9_next_0 rfl ?_
  refine xe_callv (k2 := kX9_look) (vs := []) dX9_next_1 okX9_look mlX9_202 imX9_look slX9_look (Or.inl ⟨9, _, _, by decide, rfl, rfl, rfl⟩) rfl rfl (Nat.le_of_ble_eq_true rfl) (Nat.le_of_ble_eq_true rfl) (sX9_look (by omega) hM hR m hm hm6 hh (fun τ kt hf => ?_))
  refine xe_istore_n (lv2 := [_, _, _, _, _, _, _, _, _]) dX9_next_4 (by decide) rfl ?_
  refine xe_bipush (v := -5) dX9_next_5 rfl ?_
  refine xe_istore_n (lv2 := [_, _, _, _, _, _, _, _, _]) dX9_next_7 (by decide) rfl ?_
  refine xe_sipush (v := 257) dX9_next_8 rfl ?_
  refine xe_istore_n (lv2 := [_, _, _, _, _, _, _, _, _]) dX9_next_11 (by decide) rfl ?_
  refine xe_iconst (v := 0) dX9_next_12 rfl ?_
  refine xe_istore (lv2 := [_, _, _, _, _, _, _, _, _]) dX9_next_13 (by decide) rfl ?_
  by_cases hall : cntF (fitR (mSem σ) (σ.2.1 116) m) 256 ≤ 0
  · rw [nextV, if_pos hall] at h
    have gt : τ.2.1 116 = σ.2.1 116 := kt.1 116 (by omega)
    refine xe_iload dX9_next_15 rfl ?_
    refine xe_aload_n dX9_next_17 rfl ?_
    refine xe_getr dX9_next_18 flX9_9 (by decide) rfl rfl ?_
    refine xe_bipush (v := 54) dX9_next_21 rfl ?_
    refine xn_iaload dX9_next_23 (by decide) rfl (by first | with_reducible rfl | (simp only [xl, pk_mul, nI_add, nI_1]; done) | (simp only [xl, pk_mul, nI_add, nI_1]; rfl)) (by omega) (by decide) ?_
    rw [gt, hn]
    refine xe_icmp_ge (tgt := 200) dX9_next_24 (by decide) (fun h24 => ?_) (fun h24 => ?_)
    · refine xe_iload_n dX9_next_200 rfl ?_
      refine xe_iret dX9_next_201 rfl rfl ?_
      exact h τ kt
    · refine xe_iload_n dX9_next_27 rfl ?_
      refine xe_if_le (tgt := 200) dX9_next_28 (by decide) (fun h28 => ?_) (fun h28 => absurd hall h28)
      refine xe_iload_n dX9_next_200 rfl ?_
      refine xe_iret dX9_next_201 rfl rfl ?_
      exact h τ kt
  · rw [nextV, if_neg hall] at h
    have l := lX9_next1 (d := d) (by omega) n hn h6 hM hR m _ hall h (n + 1) 0 τ none none none none (by omega) (by omega) kt hf
    rw [nxA_zero] at l
    exact l

def toldV (S : xSem) (G : Nat → Int32) (n m : Nat) (w : Int32) : Int32 := if w = 0 then G 56 else if w = 1 then kpS S else if w = 2 then G 55 else if w = 3 then cntF (fitR S G m) 256 else if w = 4 then lstF (fitR S G m) 256 0 else if w = 5 then (if cntF (fitR S G m) 256 = 0 then 0 else andF (fitR S G m) 256) else if w = 6 then 255 &&& (orF (fitR S G m) 256 ^^^ (-1)) else if w = 7 then nextV (fitR S G m) S G n else if rng (w - 10) 0 7 then iS (fnd1 S G (cN (w - 10))) n else -10001

theorem sX9_told {d : Nat} (hd : 24 ≤ d) {σ : xSt} {Post : Option Value → xSt → Prop} (n : Nat) (hn : σ.2.1 116 54 = nI n) (h6 : n ≤ 6) (w : Int32) (hM : MCo σ) (hR : RUo σ) (m : Nat) (hm : σ.2.1 116 58 = nI m) (hm6 : m ≤ 6) (hh : HRo (σ.2.1 116) m) (h : ∀ τ, KM2 σ τ → Post (some (.int (toldV (mSem σ) (σ.2.1 116) n m w))) τ) : xM kX9_told d [.ref 115, .int w] σ Post := by
  obtain ⟨d, rfl⟩ : ∃ e, d = e + 1 := ⟨d - 1, by omega⟩
  refine xM_start (lv := [some (.ref 115), some (.int w)]) rfl ?_
  refine xe_iload_n dX9_told_0 rfl ?_
  refine xn_tsw (tgs := [48, 56, 61, 69, 74, 79, 85, 91]) (td := 96) dX9_told_1 rfl rfl rfl (fun i1 t1 hg1 hx1 => ?_) (fun hx1 => ?_)
  · match i1, hg1, hx1 with
    | 0, hg1, hx1 =>
      cases hg1
      have c : w = 0 := Int32.toInt_inj.mp (by rw [hx1]; rfl)
      subst c
      refine xe_aload_n dX9_told_48 rfl ?_
      refine xe_getr dX9_told_49 flX9_9 (by decide) rfl rfl ?_
      refine xe_bipush (v := 56) dX9_told_52 rfl ?_
      refine xn_iaload dX9_told_54 (by decide) rfl (by first | with_reducible rfl | (simp only [xl, pk_mul, nI_add, nI_1]; done) | (simp only [xl, pk_mul, nI_add, nI_1]; rfl)) (by omega) (by decide) ?_
      refine xe_iret dX9_told_55 rfl rfl ?_
      exact h σ KM2.rf
    | 1, hg1, hx1 =>
      cases hg1
      have c : w = 1 := Int32.toInt_inj.mp (by rw [hx1]; rfl)
      subst c
      refine xe_aload_n dX9_told_56 rfl ?_
      refine xe_callv (k2 := kX9_keepNow) (vs := []) dX9_told_57 okX9_keepNow mlX9_196 imX9_keepNow slX9_keepNow (Or.inl ⟨9, _, _, by decide, rfl, rfl, rfl⟩) rfl rfl (Nat.le_of_ble_eq_true rfl) (Nat.le_of_ble_eq_true rfl) (sX9_keepNow (by omega) hM hR (fun σ2 k2 => ?_))
      refine xe_iret dX9_told_60 rfl rfl ?_
      rw [mSem_kp]
      exact h σ2 k2.two
    | 2, hg1, hx1 =>
      cases hg1
      have c : w = 2 := Int32.toInt_inj.mp (by rw [hx1]; rfl)
      subst c
      refine xe_aload_n dX9_told_61 rfl ?_
      refine xe_getr dX9_told_62 flX9_9 (by decide) rfl rfl ?_
      refine xe_bipush (v := 55) dX9_told_65 rfl ?_
      refine xn_iaload dX9_told_67 (by decide) rfl (by first | with_reducible rfl | (simp only [xl, pk_mul, nI_add, nI_1]; done) | (simp only [xl, pk_mul, nI_add, nI_1]; rfl)) (by omega) (by decide) ?_
      refine xe_iret dX9_told_68 rfl rfl ?_
      exact h σ KM2.rf
    | 3, hg1, hx1 =>
      cases hg1
      have c : w = 3 := Int32.toInt_inj.mp (by rw [hx1]; rfl)
      subst c
      refine xe_aload_n dX9_told_69 rfl ?_
      refine xe_callv (k2 := kX9_look) (vs := []) dX9_told_70 okX9_look mlX9_202 imX9_look slX9_look (Or.inl ⟨9, _, _, by decide, rfl, rfl, rfl⟩) rfl rfl (Nat.le_of_ble_eq_true rfl) (Nat.le_of_ble_eq_true rfl) (sX9_look (by omega) hM hR m hm hm6 hh (fun τ kt hf => ?_))
      refine xe_iret dX9_told_73 rfl rfl ?_
      exact h τ kt
    | 4, hg1, hx1 =>
      cases hg1
      have c : w = 4 := Int32.toInt_inj.mp (by rw [hx1]; rfl)
      subst c
      refine xe_aload_n dX9_told_74 rfl ?_
      refine xe_callv (k2 := kX9_leastFit) (vs := []) dX9_told_75 okX9_leastFit mlX9_209 imX9_leastFit slX9_leastFit (Or.inl ⟨9, _, _, by decide, rfl, rfl, rfl⟩) rfl rfl (Nat.le_of_ble_eq_true rfl) (Nat.le_of_ble_eq_true rfl) (sX9_leastFit (by omega) hM hR m hm hm6 hh (fun τ kt => ?_))
      refine xe_iret dX9_told_78 rfl rfl ?_
      exact h τ kt
    | 5, hg1, hx1 =>
      cases hg1
      have c : w = 5 := Int32.toInt_inj.mp (by rw [hx1]; rfl)
      subst c
      refine xe_aload_n dX9_told_79 rfl ?_
      refine xe_iconst (v := 1) dX9_told_80 rfl ?_
      refine xe_callv (k2 := kX9_sure) (vs := [_]) dX9_told_81 okX9_sure mlX9_212 imX9_sure slX9_sure (Or.inl ⟨9, _, _, by decide, rfl, rfl, rfl⟩) rfl rfl (Nat.le_of_ble_eq_true rfl) (Nat.le_of_ble_eq_true rfl) (sX9_sure (by omega) 1 hM hR m hm hm6 hh (fun τ kt => ?_))
      refine xe_iret dX9_told_84 rfl rfl ?_
      exact h τ kt
    | 6, hg1, hx1 =>
      cases hg1
      have c : w = 6 := Int32.toInt_inj.mp (by rw [hx1]; rfl)
      subst c
      refine xe_aload_n dX9_told_85 rfl ?_
      refine xe_iconst (v := 0) dX9_told_86 rfl ?_
      refine xe_callv (k2 := kX9_sure) (vs := [_]) dX9_told_87 okX9_sure mlX9_212 imX9_sure slX9_sure (Or.inl ⟨9, _, _, by decide, rfl, rfl, rfl⟩) rfl rfl (Nat.le_of_ble_eq_true rfl) (Nat.le_of_ble_eq_true rfl) (sX9_sure (by omega) 0 hM hR m hm hm6 hh (fun τ kt => ?_))
      refine xe_iret dX9_told_90 rfl rfl ?_
      exact h τ kt
    | 7, hg1, hx1 =>
      cases hg1
      have c : w = 7 := Int32.toInt_inj.mp (by rw [hx1]; rfl)
      subst c
      refine xe_aload_n dX9_told_91 rfl ?_
      refine xe_callv (k2 := kX9_next) (vs := []) dX9_told_92 okX9_next mlX9_216 imX9_next slX9_next (Or.inl ⟨9, _, _, by decide, rfl, rfl, rfl⟩) rfl rfl (Nat.le_of_ble_eq_true rfl) (Nat.le_of_ble_eq_true rfl) (sX9_next (by omega) n hn h6 hM hR m hm hm6 hh (fun τ kt => ?_))
      refine xe_iret dX9_told_95 rfl rfl ?_
      exact h τ kt
    | i1 + 8, hg1, hx1 => simp at hg1
  · skip
    have c : ∀ n : Int32, 0 ≤ n.toInt → n.toInt ≤ 7 → ¬ w = n := fun n q1 q2 z => by rw [z] at hx1; omega
    have ed : toldV (mSem σ) (σ.2.1 116) n m w = if rng (w - 10) 0 7 then iS (fnd1 (mSem σ) (σ.2.1 116) (cN (w - 10))) n else -10001 := by rw [toldV, if_neg (c 0 (by decide) (by decide)), if_neg (c 1 (by decide) (by decide)), if_neg (c 2 (by decide) (by decide)), if_neg (c 3 (by decide) (by decide)), if_neg (c 4 (by decide) (by decide)), if_neg (c 5 (by decide) (by decide)), if_neg (c 6 (by decide) (by decide)), if_neg (c 7 (by decide) (by decide))]
    rw [ed] at h
    refine xe_iload_n dX9_told_96 rfl ?_
    refine xe_bipush (v := 10) dX9_told_97 rfl ?_
    refine xe_isub dX9_told_99 ?_
    refine xe_calls (k2 := kX9_isFact) (vs := [_]) dX9_told_100 okX9_isFact mlX9_108 stX9_isFact rfl rfl (Nat.le_of_ble_eq_true rfl) (Nat.le_of_ble_eq_true rfl) (sX9_isFact (by omega) _ (fun r hr => ?_))
    refine xe_if_eq (tgt := 117) dX9_told_103 (by decide) (fun h103 => ?_) (fun h103 => ?_)
    · refine xe_sipush (v := -10001) dX9_told_117 rfl ?_
      refine xe_iret dX9_told_120 rfl rfl ?_
      first
      | exact h τ kt
      | (rw [if_neg ((xb_eq0 hr).mp h103)] at h; exact h σ KM2.rf)
    · have cr := (xb_ne0 hr).mp h103
      obtain ⟨f, hf, ef⟩ := rng_nat (m := 7) (by omega) cr
      rw [if_pos cr, ef, cN_nI (by omega)] at h
      refine xe_aload_n dX9_told_106 rfl ?_
      refine xe_iload_n dX9_told_107 rfl ?_
      refine xe_bipush (v := 10) dX9_told_108 rfl ?_
      refine xe_isub dX9_told_110 ?_
      rw [ef]
      refine xe_callv (k2 := kX9_found) (vs := [_]) dX9_told_111 okX9_found mlX9_219 imX9_found slX9_found (Or.inl ⟨9, _, _, by decide, rfl, rfl, rfl⟩) rfl rfl (Nat.le_of_ble_eq_true rfl) (Nat.le_of_ble_eq_true rfl) (sX9_found (by omega) n hn h6 f (by omega) hM hR (fun τ kt => ?_))
      refine xe_goto (tgt := 120) dX9_told_114 (by decide) ?_
      refine xe_iret dX9_told_120 rfl rfl ?_
      first
      | exact h τ kt
      | (rw [if_neg ((xb_eq0 hr).mp h103)] at h; exact h σ KM2.rf)
