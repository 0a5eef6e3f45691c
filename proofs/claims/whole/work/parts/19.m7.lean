theorem lX9_clause4 {d : Nat} {σ : xSt} {Post : Option Value → xSt → Prop} (hd : 1 ≤ d) (s : pS) (w : Nat) (sm kp : Int32) (sz : Nat) (hz : σ.1 115 10 = nI sz) (h1 : sz ≤ 100) (hs : s.1 ≤ sz) (hlt : ∀ k, k < 6 → σ.2.1 124 k = xlet k) (hbg : ∀ k, k < 3 → σ.2.1 125 k = xbeg k) (hwd : ∀ k, k < 15 → σ.2.1 126 k = xwrd k) (h : xEv kX9_clause (d + 1) 34 [some (.ref 115), some (.int (oI (pBg (σ.2.1 122) sz s))), some (.int 3), none] [] (mS σ s w sm kp) Post) : ∀ (n j : Nat), 4 ≤ j + n → j ≤ 3 → xEv kX9_clause (d + 1) 4 [some (.ref 115), some (.int (oI (iF (fun k r => bif pAt (σ.2.1 122) sz s (xbeg k) then some k else r) none j))), some (.int (nI j)), none] [] (mS σ s w sm kp) Post := by
  intro n
  induction n with
  | zero => intro j hn hj; omega
  | succ n ih =>
    intro j hn hj
    refine xe_iload_n dX9_clause_4 rfl ?_
    refine xe_iconst (v := 3) dX9_clause_5 rfl ?_
    refine xe_icmp_ge (tgt := 34) dX9_clause_6 (by decide) (fun h6 => ?_) (fun h6 => ?_)
    · have e := nLe (a := 3) (by omega) (by omega) h6
      obtain rfl : j = 3 := by omega
      exact h
    · have e := nNle (a := 3) (by omega) (by omega) h6
      refine xe_aload_n dX9_clause_9 rfl ?_
      refine xe_aload_n dX9_clause_10 rfl ?_
      refine xe_getr dX9_clause_11 flX9_40 (by decide) rfl rfl ?_
      refine xe_iload_n dX9_clause_14 rfl ?_
      refine xn_caload dX9_clause_15 (by decide) rfl (by first | with_reducible rfl | (simp only [xl, pk_mul, nI_add, nI_1]; done) | (simp only [xl, pk_mul, nI_add, nI_1]; rfl)) (by omega) (by decide) ?_
      rw [mS_A, hbg j e]
      refine xe_callv (k2 := kX9_isAt) (vs := [_]) dX9_clause_16 okX9_isAt mlX9_145 imX9_isAt slX9_isAt (Or.inl ⟨9, _, _, by decide, rfl, rfl, rfl⟩) rfl rfl (Nat.le_of_ble_eq_true rfl) (Nat.le_of_ble_eq_true rfl) (sX9_isAt (by omega) (xbeg j) s w sm kp sz hz h1 hs ?_)
      refine xe_if_eq (tgt := 26) dX9_clause_19 (by decide) (fun h19 => ?_) (fun h19 => ?_)
      · refine xe_iload_n dX9_clause_26 rfl ?_
        refine xe_istore_n (lv2 := [_, _, _, _]) dX9_clause_27 (by decide) rfl ?_
        refine xn_inc (j := j) (lv2 := [_, _, _, _]) dX9_clause_28 (by decide) rfl rfl ?_
        refine xe_goto (tgt := 4) dX9_clause_31 (by decide) ?_
        first
        | (have l := ih (j + 1) (by omega) (by omega); rw [iF, bI_eq0.mp h19, cond_false] at l; exact l)
        | (have l := ih (j + 1) (by omega) (by omega); rw [iF, bI_ne0.mp h19, cond_true] at l; exact l)
      · refine xe_iload_n dX9_clause_22 rfl ?_
        refine xe_goto (tgt := 27) dX9_clause_23 (by decide) ?_
        refine xe_istore_n (lv2 := [_, _, _, _]) dX9_clause_27 (by decide) rfl ?_
        refine xn_inc (j := j) (lv2 := [_, _, _, _]) dX9_clause_28 (by decide) rfl rfl ?_
        refine xe_goto (tgt := 4) dX9_clause_31 (by decide) ?_
        first
        | (have l := ih (j + 1) (by omega) (by omega); rw [iF, bI_eq0.mp h19, cond_false] at l; exact l)
        | (have l := ih (j + 1) (by omega) (by omega); rw [iF, bI_ne0.mp h19, cond_true] at l; exact l)

theorem lX9_clause47 {d : Nat} {σ : xSt} {Post : Option Value → xSt → Prop} (hd : 2 ≤ d) (i : Nat) (hi : i < 3) (s : pS) (w : Nat) (sm kp : Int32) (sz : Nat) (hz : σ.1 115 10 = nI sz) (h1 : sz ≤ 100) (hs : s.1 ≤ sz) (hlt : ∀ k, k < 6 → σ.2.1 124 k = xlet k) (hbg : ∀ k, k < 3 → σ.2.1 125 k = xbeg k) (hwd : ∀ k, k < 15 → σ.2.1 126 k = xwrd k) (h : ∀ v2, xEv kX9_clause (d + 1) 85 [some (.ref 115), some (.int (nI i)), some (.int v2), none] [] (mS σ (pWd (σ.2.1 122) sz i s) w sm kp) Post) : ∀ (n j : Nat), xwl i + 1 ≤ j + n → j ≤ xwl i → xEv kX9_clause (d + 1) 47 [some (.ref 115), some (.int (nI i)), some (.int (nI j)), none] [] (mS σ (iF (fun k s => pTk (σ.2.1 122) sz s (xwrd (5 * i + k))) s j) w sm kp) Post := by
  intro n
  have hw5 : xwl i ≤ 5 := by unfold xwl; split <;> omega
  induction n with
  | zero => intro j hn hj; omega
  | succ n ih =>
    intro j hn hj
    refine xe_iload_n dX9_clause_47 rfl ?_
    refine xe_iconst (v := 5) dX9_clause_48 rfl ?_
    refine xe_icmp_ge (tgt := 85) dX9_clause_49 (by decide) (fun h49 => ?_) (fun h49 => ?_)
    · have ej : j = xwl i := by
        first
        | (have e9 := nLe (a := 5) (by omega) (by omega) h49; omega)
        | (rcases Nat.lt_or_ge j (xwl i) with q | q
           · exact absurd h62 (xwrd_ne i hi j q)
           · omega)
      rw [ej]
      exact h _
    · have e := nNle (a := 5) (by omega) (by omega) h49
      refine xe_aload_n dX9_clause_52 rfl ?_
      refine xe_getr dX9_clause_53 flX9_43 (by decide) rfl rfl ?_
      refine xe_iconst (v := 5) dX9_clause_56 rfl ?_
      refine xe_iload_n dX9_clause_57 rfl ?_
      refine xe_imul dX9_clause_58 ?_
      refine xe_iload_n dX9_clause_59 rfl ?_
      refine xe_iadd dX9_clause_60 ?_
      refine xn_caload (j := 5 * i + j) dX9_clause_61 (by decide) rfl (by rw [show (5 : Int32) = nI 5 from rfl, pk_mul, nI_add]) (by omega) (by decide) ?_
      rw [mS_A, hwd _ (by omega)]
      refine xe_if_eq (tgt := 85) dX9_clause_62 (by decide) (fun h62 => ?_) (fun h62 => ?_)
      · have ej : j = xwl i := by
          first
          | (have e9 := nLe (a := 5) (by omega) (by omega) h49; omega)
          | (rcases Nat.lt_or_ge j (xwl i) with q | q
             · exact absurd h62 (xwrd_ne i hi j q)
             · omega)
        rw [ej]
        exact h _
      · refine xe_aload_n dX9_clause_65 rfl ?_
        refine xe_aload_n dX9_clause_66 rfl ?_
        refine xe_getr dX9_clause_67 flX9_43 (by decide) rfl rfl ?_
        refine xe_iconst (v := 5) dX9_clause_70 rfl ?_
        refine xe_iload_n dX9_clause_71 rfl ?_
        refine xe_imul dX9_clause_72 ?_
        refine xe_iload_n dX9_clause_73 rfl ?_
        refine xe_iadd dX9_clause_74 ?_
        refine xn_caload (j := 5 * i + j) dX9_clause_75 (by decide) rfl (by rw [show (5 : Int32) = nI 5 from rfl, pk_mul, nI_add]) (by omega) (by decide) ?_
        rw [mS_A, hwd _ (by omega)]
        refine xe_callv (k2 := kX9_takes) (vs := [_]) dX9_clause_76 okX9_takes mlX9_152 imX9_takes slX9_takes (Or.inl ⟨9, _, _, by decide, rfl, rfl, rfl⟩) rfl rfl (Nat.le_of_ble_eq_true rfl) (Nat.le_of_ble_eq_true rfl) (sX9_takes (by omega) (xwrd (5 * i + j)) _ w sm kp sz hz h1 (pWd_sz' hs j) ?_)
        refine xn_inc (j := j) (lv2 := [_, _, _, _]) dX9_clause_79 (by decide) rfl rfl ?_
        refine xe_goto (tgt := 47) dX9_clause_82 (by decide) ?_
        have e3 : j < xwl i := by
          rcases xwrd_end i hi with q | ⟨q1, q2⟩
          · omega
          · rcases Nat.lt_or_ge j (xwl i) with q | q
            · exact q
            · exact absurd q2 (by rw [show 4 = j by omega]; exact h62)
        exact ih (j + 1) (by omega) (by omega)

theorem sX9_clause {d : Nat} (hd : 18 ≤ d) {σ : xSt} {Post : Option Value → xSt → Prop} (s : pS) (w : Nat) (sm kp : Int32) (sz : Nat) (hz : σ.1 115 10 = nI sz) (h1 : sz ≤ 100) (hs : s.1 ≤ sz) (hlt : ∀ k, k < 6 → σ.2.1 124 k = xlet k) (hbg : ∀ k, k < 3 → σ.2.1 125 k = xbeg k) (hwd : ∀ k, k < 15 → σ.2.1 126 k = xwrd k) (h : ∀ w2, Post none (mS σ (mCl (σ.2.1 122) (σ.2.1 123) sz (sm, kp) s).2 w2 (mCl (σ.2.1 122) (σ.2.1 123) sz (sm, kp) s).1.1 (mCl (σ.2.1 122) (σ.2.1 123) sz (sm, kp) s).1.2)) : xM kX9_clause d [.ref 115] (mS σ s w sm kp) Post := by
  obtain ⟨d, rfl⟩ : ∃ e, d = e + 1 := ⟨d - 1, by omega⟩
  refine xM_start (lv := [some (.ref 115), none, none, none]) rfl ?_
  refine xe_iconst (v := -1) dX9_clause_0 rfl ?_
  refine xe_istore_n (lv2 := [_, _, _, _]) dX9_clause_1 (by decide) rfl ?_
  refine xe_iconst (v := 0) dX9_clause_2 rfl ?_
  refine xe_istore_n (lv2 := [_, _, _, _]) dX9_clause_3 (by decide) rfl ?_
  refine lX9_clause4 (by omega) s w sm kp sz hz h1 hs hlt hbg hwd ?_ 4 0 (by omega) (by omega)
  cases hB : pBg (σ.2.1 122) sz s with
  | none =>
    rw [mCl, pCl, hB] at h
    refine xe_iload_n dX9_clause_34 rfl ?_
    refine xe_iconst (v := -1) dX9_clause_35 rfl ?_
    refine xe_icmp_ne (tgt := 45) dX9_clause_36 (by decide) (fun h36 => absurd (show oI none = -1 from rfl) h36) (fun h36 => ?_)
    refine xe_aload_n dX9_clause_39 rfl ?_
    refine xe_iconst (v := 0) dX9_clause_40 rfl ?_
    refine xe_putf dX9_clause_41 flX9_136 (by decide) rfl rfl (by first | rfl | decide | assumption | exact bI_nar _ | exact xb_narrow (by assumption)) rfl ?_
    rw [mS_putBad]
    refine xe_vret dX9_clause_44 rfl ?_
    exact h w
  | some i =>
    obtain ⟨g1, g2, g3, g4⟩ := pBg_lt hB
    rw [mCl, pCl, hB] at h
    refine xe_iload_n dX9_clause_34 rfl ?_
    refine xe_iconst (v := -1) dX9_clause_35 rfl ?_
    refine xe_icmp_ne (tgt := 45) dX9_clause_36 (by decide) (fun h36 => ?_) (fun h36 => absurd h36 (show ¬ nI i = -1 from fun z => absurd (nI_pos' (n := i) (by omega)) (by rw [z]; decide)))
    refine xe_iconst (v := 0) dX9_clause_45 rfl ?_
    refine xe_istore_n (lv2 := [_, _, _, _]) dX9_clause_46 (by decide) rfl ?_
    refine lX9_clause47 (by omega) i g3 s w sm kp sz hz h1 hs hlt hbg hwd (fun v2 => ?_) (xwl i + 1) 0 (by omega) (by omega)
    rcases (show i = 0 ∨ i = 1 ∨ i = 2 by omega) with rfl | rfl | rfl
    · skip
      refine xe_aload_n dX9_clause_85 rfl ?_
      refine xe_bipush (v := 32) dX9_clause_86 rfl ?_
      refine xe_callv (k2 := kX9_takes) (vs := [_]) dX9_clause_88 okX9_takes mlX9_152 imX9_takes slX9_takes (Or.inl ⟨9, _, _, by decide, rfl, rfl, rfl⟩) rfl rfl (Nat.le_of_ble_eq_true rfl) (Nat.le_of_ble_eq_true rfl) (sX9_takes (by omega) 32 _ w sm kp sz hz h1 (pWd_sz' hs _) ?_)
      refine xe_aload_n dX9_clause_91 rfl ?_
      refine xe_callv (k2 := kX9_number) (vs := []) dX9_clause_92 okX9_number mlX9_155 imX9_number slX9_number (Or.inl ⟨9, _, _, by decide, rfl, rfl, rfl⟩) rfl rfl (Nat.le_of_ble_eq_true rfl) (Nat.le_of_ble_eq_true rfl) (sX9_number (by omega) _ w sm kp sz hz h1 (pTk_sz (pWd_sz' hs _)) ?_)
      refine xe_istore_n (lv2 := [_, _, _, _]) dX9_clause_95 (by decide) rfl ?_
      refine xe_iload_n dX9_clause_96 rfl ?_
      refine xe_iconst (v := 2) dX9_clause_97 rfl ?_
      refine xe_icmp_ne (tgt := 107) dX9_clause_98 (by decide) (fun h98 => ?_) (fun h98 => absurd h98 (by decide))
      refine xe_aload_n dX9_clause_107 rfl ?_
      refine xe_bipush (v := 32) dX9_clause_108 rfl ?_
      refine xe_callv (k2 := kX9_takes) (vs := [_]) dX9_clause_110 okX9_takes mlX9_152 imX9_takes slX9_takes (Or.inl ⟨9, _, _, by decide, rfl, rfl, rfl⟩) rfl rfl (Nat.le_of_ble_eq_true rfl) (Nat.le_of_ble_eq_true rfl) (sX9_takes (by omega) 32 _ w sm kp sz hz h1 (pCn_sz hs) ?_)
      refine xe_aload_n dX9_clause_113 rfl ?_
      refine xe_iconst (v := 0) dX9_clause_114 rfl ?_
      refine xe_putf dX9_clause_115 flX9_159 (by decide) rfl rfl rfl rfl ?_
      rw [show (0 : Int32) = nI 0 from rfl, mS_putIn]
      refine xe_aload_n dX9_clause_118 rfl ?_
      refine xe_callv (k2 := kX9_any) (vs := []) dX9_clause_119 okX9_any mlX9_165 imX9_any slX9_any (Or.inl ⟨9, _, _, by decide, rfl, rfl, rfl⟩) rfl rfl (Nat.le_of_ble_eq_true rfl) (Nat.le_of_ble_eq_true rfl) (tX9_any hz h1 hlt d (by omega) _ (pTk_sz (pCn_sz hs)) _ ?_)
      refine xe_istore_n (lv2 := [_, _, _, _]) dX9_clause_122 (by decide) rfl ?_
      refine xe_aload_n dX9_clause_123 rfl ?_
      refine xe_dup dX9_clause_124 rfl ?_
      refine xe_getf dX9_clause_125 flX9_177 (by decide) rfl rfl ?_
      rw [mS_sum]
      refine xe_iload_n dX9_clause_128 rfl ?_
      refine xe_if_ne (tgt := 136) dX9_clause_129 (by decide) (fun h129 => ?_) (fun h129 => ?_)
      · refine xe_iload_n dX9_clause_136 rfl ?_
        refine xe_if_ne (tgt := 144) dX9_clause_137 (by decide) (fun h137 => absurd (show nI 0 = 0 from rfl) h137) (fun h137 => ?_)
        refine xe_iload_n dX9_clause_140 rfl ?_
        refine xe_goto (tgt := 146) dX9_clause_141 (by decide) ?_
        refine xe_iadd dX9_clause_146 ?_
        refine xe_putf dX9_clause_147 flX9_177 (by decide) rfl rfl rfl rfl ?_
        refine xe_vret dX9_clause_150 rfl ?_
        rw [mS_putSum]
        have h : Post none (mS σ (mAy (σ.2.1 122) (σ.2.1 123) sz (pTk (σ.2.1 122) sz (pCn (σ.2.1 122) sz 0 s).2 32)).2 0 (mSw (sm, kp) (pCn (σ.2.1 122) sz 0 s).1 (mAy (σ.2.1 122) (σ.2.1 123) sz (pTk (σ.2.1 122) sz (pCn (σ.2.1 122) sz 0 s).2 32)).1).1 kp) := h 0
        first
        | (rw [show (mAy (σ.2.1 122) (σ.2.1 123) sz (pTk (σ.2.1 122) sz (pCn (σ.2.1 122) sz 0 s).2 32)).1 = true from bI_ne0.mp h129] at h; exact h)
        | (rw [show (mAy (σ.2.1 122) (σ.2.1 123) sz (pTk (σ.2.1 122) sz (pCn (σ.2.1 122) sz 0 s).2 32)).1 = false from bI_eq0.mp h129] at h; exact h)
      · refine xe_iconst (v := 0) dX9_clause_132 rfl ?_
        refine xe_goto (tgt := 146) dX9_clause_133 (by decide) ?_
        refine xe_iadd dX9_clause_146 ?_
        refine xe_putf dX9_clause_147 flX9_177 (by decide) rfl rfl rfl rfl ?_
        refine xe_vret dX9_clause_150 rfl ?_
        rw [mS_putSum]
        have h : Post none (mS σ (mAy (σ.2.1 122) (σ.2.1 123) sz (pTk (σ.2.1 122) sz (pCn (σ.2.1 122) sz 0 s).2 32)).2 0 (mSw (sm, kp) (pCn (σ.2.1 122) sz 0 s).1 (mAy (σ.2.1 122) (σ.2.1 123) sz (pTk (σ.2.1 122) sz (pCn (σ.2.1 122) sz 0 s).2 32)).1).1 kp) := h 0
        first
        | (rw [show (mAy (σ.2.1 122) (σ.2.1 123) sz (pTk (σ.2.1 122) sz (pCn (σ.2.1 122) sz 0 s).2 32)).1 = true from bI_ne0.mp h129] at h; exact h)
        | (rw [show (mAy (σ.2.1 122) (σ.2.1 123) sz (pTk (σ.2.1 122) sz (pCn (σ.2.1 122) sz 0 s).2 32)).1 = false from bI_eq0.mp h129] at h; exact h)
    · skip
      refine xe_aload_n dX9_clause_85 rfl ?_
      refine xe_bipush (v := 32) dX9_clause_86 rfl ?_
      refine xe_callv (k2 := kX9_takes) (vs := [_]) dX9_clause_88 okX9_takes mlX9_152 imX9_takes slX9_takes (Or.inl ⟨9, _, _, by decide, rfl, rfl, rfl⟩) rfl rfl (Nat.le_of_ble_eq_true rfl) (Nat.le_of_ble_eq_true rfl) (sX9_takes (by omega) 32 _ w sm kp sz hz h1 (pWd_sz' hs _) ?_)
      refine xe_aload_n dX9_clause_91 rfl ?_
      refine xe_callv (k2 := kX9_number) (vs := []) dX9_clause_92 okX9_number mlX9_155 imX9_number slX9_number (Or.inl ⟨9, _, _, by decide, rfl, rfl, rfl⟩) rfl rfl (Nat.le_of_ble_eq_true rfl) (Nat.le_of_ble_eq_true rfl) (sX9_number (by omega) _ w sm kp sz hz h1 (pTk_sz (pWd_sz' hs _)) ?_)
      refine xe_istore_n (lv2 := [_, _, _, _]) dX9_clause_95 (by decide) rfl ?_
      refine xe_iload_n dX9_clause_96 rfl ?_
      refine xe_iconst (v := 2) dX9_clause_97 rfl ?_
      refine xe_icmp_ne (tgt := 107) dX9_clause_98 (by decide) (fun h98 => ?_) (fun h98 => absurd h98 (by decide))
      refine xe_aload_n dX9_clause_107 rfl ?_
      refine xe_bipush (v := 32) dX9_clause_108 rfl ?_
      refine xe_callv (k2 := kX9_takes) (vs := [_]) dX9_clause_110 okX9_takes mlX9_152 imX9_takes slX9_takes (Or.inl ⟨9, _, _, by decide, rfl, rfl, rfl⟩) rfl rfl (Nat.le_of_ble_eq_true rfl) (Nat.le_of_ble_eq_true rfl) (sX9_takes (by omega) 32 _ w sm kp sz hz h1 (pCn_sz hs) ?_)
      refine xe_aload_n dX9_clause_113 rfl ?_
      refine xe_iconst (v := 0) dX9_clause_114 rfl ?_
      refine xe_putf dX9_clause_115 flX9_159 (by decide) rfl rfl rfl rfl ?_
      rw [show (0 : Int32) = nI 0 from rfl, mS_putIn]
      refine xe_aload_n dX9_clause_118 rfl ?_
      refine xe_callv (k2 := kX9_any) (vs := []) dX9_clause_119 okX9_any mlX9_165 imX9_any slX9_any (Or.inl ⟨9, _, _, by decide, rfl, rfl, rfl⟩) rfl rfl (Nat.le_of_ble_eq_true rfl) (Nat.le_of_ble_eq_true rfl) (tX9_any hz h1 hlt d (by omega) _ (pTk_sz (pCn_sz hs)) _ ?_)
      refine xe_istore_n (lv2 := [_, _, _, _]) dX9_clause_122 (by decide) rfl ?_
      refine xe_aload_n dX9_clause_123 rfl ?_
      refine xe_dup dX9_clause_124 rfl ?_
      refine xe_getf dX9_clause_125 flX9_177 (by decide) rfl rfl ?_
      rw [mS_sum]
      refine xe_iload_n dX9_clause_128 rfl ?_
      refine xe_if_ne (tgt := 136) dX9_clause_129 (by decide) (fun h129 => ?_) (fun h129 => ?_)
      · refine xe_iload_n dX9_clause_136 rfl ?_
        refine xe_if_ne (tgt := 144) dX9_clause_137 (by decide) (fun h137 => ?_) (fun h137 => absurd h137 (show ¬ nI 1 = 0 by decide))
        refine xe_iload_n dX9_clause_144 rfl ?_
        refine xe_ineg dX9_clause_145 ?_
        refine xe_iadd dX9_clause_146 ?_
        refine xe_putf dX9_clause_147 flX9_177 (by decide) rfl rfl rfl rfl ?_
        refine xe_vret dX9_clause_150 rfl ?_
        rw [mS_putSum]
        have h : Post none (mS σ (mAy (σ.2.1 122) (σ.2.1 123) sz (pTk (σ.2.1 122) sz (pCn (σ.2.1 122) sz 1 s).2 32)).2 0 (mHz (sm, kp) (pCn (σ.2.1 122) sz 1 s).1 (mAy (σ.2.1 122) (σ.2.1 123) sz (pTk (σ.2.1 122) sz (pCn (σ.2.1 122) sz 1 s).2 32)).1).1 kp) := h 0
        first
        | (rw [show (mAy (σ.2.1 122) (σ.2.1 123) sz (pTk (σ.2.1 122) sz (pCn (σ.2.1 122) sz 1 s).2 32)).1 = true from bI_ne0.mp h129] at h; exact h)
        | (rw [show (mAy (σ.2.1 122) (σ.2.1 123) sz (pTk (σ.2.1 122) sz (pCn (σ.2.1 122) sz 1 s).2 32)).1 = false from bI_eq0.mp h129] at h; exact h)
      · refine xe_iconst (v := 0) dX9_clause_132 rfl ?_
        refine xe_goto (tgt := 146) dX9_clause_133 (by decide) ?_
        refine xe_iadd dX9_clause_146 ?_
        refine xe_putf dX9_clause_147 flX9_177 (by decide) rfl rfl rfl rfl ?_
        refine xe_vret dX9_clause_150 rfl ?_
        rw [mS_putSum]
        have h : Post none (mS σ (mAy (σ.2.1 122) (σ.2.1 123) sz (pTk (σ.2.1 122) sz (pCn (σ.2.1 122) sz 1 s).2 32)).2 0 (mHz (sm, kp) (pCn (σ.2.1 122) sz 1 s).1 (mAy (σ.2.1 122) (σ.2.1 123) sz (pTk (σ.2.1 122) sz (pCn (σ.2.1 122) sz 1 s).2 32)).1).1 kp) := h 0
        first
        | (rw [show (mAy (σ.2.1 122) (σ.2.1 123) sz (pTk (σ.2.1 122) sz (pCn (σ.2.1 122) sz 1 s).2 32)).1 = true from bI_ne0.mp h129] at h; exact h)
        | (rw [show (mAy (σ.2.1 122) (σ.2.1 123) sz (pTk (σ.2.1 122) sz (pCn (σ.2.1 122) sz 1 s).2 32)).1 = false from bI_eq0.mp h129] at h; exact h)
    · skip
      refine xe_aload_n dX9_clause_85 rfl ?_
      refine xe_bipush (v := 32) dX9_clause_86 rfl ?_
      refine xe_callv (k2 := kX9_takes) (vs := [_]) dX9_clause_88 okX9_takes mlX9_152 imX9_takes slX9_takes (Or.inl ⟨9, _, _, by decide, rfl, rfl, rfl⟩) rfl rfl (Nat.le_of_ble_eq_true rfl) (Nat.le_of_ble_eq_true rfl) (sX9_takes (by omega) 32 _ w sm kp sz hz h1 (pWd_sz' hs _) ?_)
      refine xe_aload_n dX9_clause_91 rfl ?_
      refine xe_callv (k2 := kX9_number) (vs := []) dX9_clause_92 okX9_number mlX9_155 imX9_number slX9_number (Or.inl ⟨9, _, _, by decide, rfl, rfl, rfl⟩) rfl rfl (Nat.le_of_ble_eq_true rfl) (Nat.le_of_ble_eq_true rfl) (sX9_number (by omega) _ w sm kp sz hz h1 (pTk_sz (pWd_sz' hs _)) ?_)
      refine xe_istore_n (lv2 := [_, _, _, _]) dX9_clause_95 (by decide) rfl ?_
      refine xe_iload_n dX9_clause_96 rfl ?_
      refine xe_iconst (v := 2) dX9_clause_97 rfl ?_
      refine xe_icmp_ne (tgt := 107) dX9_clause_98 (by decide) (fun h98 => absurd (show nI 2 = 2 from rfl) h98) (fun h98 => ?_)
      refine xe_aload_n dX9_clause_101 rfl ?_
      refine xe_iload_n dX9_clause_102 rfl ?_
      refine xe_putf dX9_clause_103 flX9_174 (by decide) rfl rfl rfl rfl ?_
      refine xe_vret dX9_clause_106 rfl ?_
      rw [mS_putKeep]
      exact h w
