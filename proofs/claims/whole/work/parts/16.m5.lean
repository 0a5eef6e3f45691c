def oI : Option Nat → Int32
  | none => -1
  | some k => nI k
/-- the test's three signs as the reference keeps them -/
def pCm (r : Nat) : Int32 := [(-1 : Int32), 0, 1].getD r 0
def mTst (nm : Nat → Int32) (L R : Nat) (n : Int32) : Bool := bif R == 0 then decide (nm L < n) else bif R == 2 then decide (n < nm L) else decide (nm L = n)

theorem lX9_test84_0 {d : Nat} (hd : 1 ≤ d) {σ : xSt} {Post : Option Value → xSt → Prop} (L : Nat) (hL : L < 6) (v2 : Option Value) (s : pS) (w : Nat) (sm kp : Int32) (sz : Nat) (hz : σ.1 115 10 = nI sz) (h1 : sz ≤ 100) (hs : s.1 ≤ sz) (h : Post (some (.int (bI (mTst (σ.2.1 123) L 0 (pNm (σ.2.1 122) sz (pTk (σ.2.1 122) sz s 60)).1)))) (mS σ (pNm (σ.2.1 122) sz (pTk (σ.2.1 122) sz s 60)).2 w sm kp)) : xEv kX9_test (d + 1) 84 [some (.ref 115), some (.int (nI L)), v2, none] [.int (-1)] (mS σ s w sm kp) Post := by
  refine xe_istore_n (lv2 := [_, _, _, _]) dX9_test_84 (by decide) rfl ?_
  refine xe_aload_n dX9_test_85 rfl ?_
  refine xe_iload_n dX9_test_86 rfl ?_
  refine xe_if_ge (tgt := 95) dX9_test_87 (by decide) (fun h87 => absurd h87 (by decide)) (fun h87 => ?_)
  refine xe_bipush (v := 60) dX9_test_90 rfl ?_
  refine xe_goto (tgt := 106) dX9_test_92 (by decide) ?_
  refine xe_callv (k2 := kX9_takes) (vs := [_]) dX9_test_106 okX9_takes mlX9_152 imX9_takes slX9_takes (Or.inl ⟨9, _, _, by decide, rfl, rfl, rfl⟩) rfl rfl (Nat.le_of_ble_eq_true rfl) (Nat.le_of_ble_eq_true rfl) (sX9_takes (by omega) 60 s w sm kp sz hz h1 hs ?_)
  refine xe_aload_n dX9_test_109 rfl ?_
  refine xe_callv (k2 := kX9_number) (vs := []) dX9_test_110 okX9_number mlX9_155 imX9_number slX9_number (Or.inl ⟨9, _, _, by decide, rfl, rfl, rfl⟩) rfl rfl (Nat.le_of_ble_eq_true rfl) (Nat.le_of_ble_eq_true rfl) (sX9_number (by omega) (pTk (σ.2.1 122) sz s 60) w sm kp sz hz h1 (pTk_sz hs) ?_)
  refine xe_istore_n (lv2 := [_, _, _, _]) dX9_test_113 (by decide) rfl ?_
  refine xe_iload_n dX9_test_114 rfl ?_
  refine xe_if_ge (tgt := 136) dX9_test_115 (by decide) (fun h115 => absurd h115 (by decide)) (fun h115 => ?_)
  refine xe_aload_n dX9_test_118 rfl ?_
  refine xe_getr dX9_test_119 flX9_33 (by decide) rfl rfl ?_
  refine xe_iload_n dX9_test_122 rfl ?_
  refine xn_iaload dX9_test_123 (by decide) rfl (by first | with_reducible rfl | (simp only [xl, pk_mul, nI_add, nI_1]; done) | (simp only [xl, pk_mul, nI_add, nI_1]; rfl)) (by omega) (by decide) ?_
  refine xe_iload_n dX9_test_124 rfl ?_
  refine xe_icmp_ge (tgt := 132) dX9_test_125 (by decide) (fun h125 => ?_) (fun h125 => ?_)
  · refine xe_iconst (v := 0) dX9_test_132 rfl ?_
    refine xe_goto (tgt := 173) dX9_test_133 (by decide) ?_
    refine xe_iret dX9_test_173 rfl (by first | rfl | decide | assumption | exact xb_narrow (by assumption)) ?_
    simp only [mS_A] at *
    first
    | (rw [show mTst (σ.2.1 123) L 0 _ = true from decide_eq_true (Int32.not_le.mp h125)] at h; exact h)
    | (rw [show mTst (σ.2.1 123) L 0 _ = false from decide_eq_false (Int32.not_lt.mpr h125)] at h; exact h)
    | (rw [show mTst (σ.2.1 123) L 2 _ = true from decide_eq_true (Int32.not_le.mp h147)] at h; exact h)
    | (rw [show mTst (σ.2.1 123) L 2 _ = false from decide_eq_false (Int32.not_lt.mpr h147)] at h; exact h)
    | (rw [show mTst (σ.2.1 123) L 1 _ = true from decide_eq_true h165] at h; exact h)
    | (rw [show mTst (σ.2.1 123) L 1 _ = false from decide_eq_false h165] at h; exact h)
  · refine xe_iconst (v := 1) dX9_test_128 rfl ?_
    refine xe_goto (tgt := 173) dX9_test_129 (by decide) ?_
    refine xe_iret dX9_test_173 rfl (by first | rfl | decide | assumption | exact xb_narrow (by assumption)) ?_
    simp only [mS_A] at *
    first
    | (rw [show mTst (σ.2.1 123) L 0 _ = true from decide_eq_true (Int32.not_le.mp h125)] at h; exact h)
    | (rw [show mTst (σ.2.1 123) L 0 _ = false from decide_eq_false (Int32.not_lt.mpr h125)] at h; exact h)
    | (rw [show mTst (σ.2.1 123) L 2 _ = true from decide_eq_true (Int32.not_le.mp h147)] at h; exact h)
    | (rw [show mTst (σ.2.1 123) L 2 _ = false from decide_eq_false (Int32.not_lt.mpr h147)] at h; exact h)
    | (rw [show mTst (σ.2.1 123) L 1 _ = true from decide_eq_true h165] at h; exact h)
    | (rw [show mTst (σ.2.1 123) L 1 _ = false from decide_eq_false h165] at h; exact h)

theorem lX9_test84_1 {d : Nat} (hd : 1 ≤ d) {σ : xSt} {Post : Option Value → xSt → Prop} (L : Nat) (hL : L < 6) (v2 : Option Value) (s : pS) (w : Nat) (sm kp : Int32) (sz : Nat) (hz : σ.1 115 10 = nI sz) (h1 : sz ≤ 100) (hs : s.1 ≤ sz) (h : Post (some (.int (bI (mTst (σ.2.1 123) L 1 (pNm (σ.2.1 122) sz (pTk (σ.2.1 122) sz s 61)).1)))) (mS σ (pNm (σ.2.1 122) sz (pTk (σ.2.1 122) sz s 61)).2 w sm kp)) : xEv kX9_test (d + 1) 84 [some (.ref 115), some (.int (nI L)), v2, none] [.int (0)] (mS σ s w sm kp) Post := by
  refine xe_istore_n (lv2 := [_, _, _, _]) dX9_test_84 (by decide) rfl ?_
  refine xe_aload_n dX9_test_85 rfl ?_
  refine xe_iload_n dX9_test_86 rfl ?_
  refine xe_if_ge (tgt := 95) dX9_test_87 (by decide) (fun h87 => ?_) (fun h87 => absurd (by decide) h87)
  refine xe_iload_n dX9_test_95 rfl ?_
  refine xe_if_le (tgt := 104) dX9_test_96 (by decide) (fun h96 => ?_) (fun h96 => absurd (by decide) h96)
  refine xe_bipush (v := 61) dX9_test_104 rfl ?_
  refine xe_callv (k2 := kX9_takes) (vs := [_]) dX9_test_106 okX9_takes mlX9_152 imX9_takes slX9_takes (Or.inl ⟨9, _, _, by decide, rfl, rfl, rfl⟩) rfl rfl (Nat.le_of_ble_eq_true rfl) (Nat.le_of_ble_eq_true rfl) (sX9_takes (by omega) 61 s w sm kp sz hz h1 hs ?_)
  refine xe_aload_n dX9_test_109 rfl ?_
  refine xe_callv (k2 := kX9_number) (vs := []) dX9_test_110 okX9_number mlX9_155 imX9_number slX9_number (Or.inl ⟨9, _, _, by decide, rfl, rfl, rfl⟩) rfl rfl (Nat.le_of_ble_eq_true rfl) (Nat.le_of_ble_eq_true rfl) (sX9_number (by omega) (pTk (σ.2.1 122) sz s 61) w sm kp sz hz h1 (pTk_sz hs) ?_)
  refine xe_istore_n (lv2 := [_, _, _, _]) dX9_test_113 (by decide) rfl ?_
  refine xe_iload_n dX9_test_114 rfl ?_
  refine xe_if_ge (tgt := 136) dX9_test_115 (by decide) (fun h115 => ?_) (fun h115 => absurd (by decide) h115)
  refine xe_iload_n dX9_test_136 rfl ?_
  refine xe_if_le (tgt := 158) dX9_test_137 (by decide) (fun h137 => ?_) (fun h137 => absurd (by decide) h137)
  refine xe_aload_n dX9_test_158 rfl ?_
  refine xe_getr dX9_test_159 flX9_33 (by decide) rfl rfl ?_
  refine xe_iload_n dX9_test_162 rfl ?_
  refine xn_iaload dX9_test_163 (by decide) rfl (by first | with_reducible rfl | (simp only [xl, pk_mul, nI_add, nI_1]; done) | (simp only [xl, pk_mul, nI_add, nI_1]; rfl)) (by omega) (by decide) ?_
  refine xe_iload_n dX9_test_164 rfl ?_
  refine xe_icmp_ne (tgt := 172) dX9_test_165 (by decide) (fun h165 => ?_) (fun h165 => ?_)
  · refine xe_iconst (v := 0) dX9_test_172 rfl ?_
    refine xe_iret dX9_test_173 rfl (by first | rfl | decide | assumption | exact xb_narrow (by assumption)) ?_
    simp only [mS_A] at *
    first
    | (rw [show mTst (σ.2.1 123) L 0 _ = true from decide_eq_true (Int32.not_le.mp h125)] at h; exact h)
    | (rw [show mTst (σ.2.1 123) L 0 _ = false from decide_eq_false (Int32.not_lt.mpr h125)] at h; exact h)
    | (rw [show mTst (σ.2.1 123) L 2 _ = true from decide_eq_true (Int32.not_le.mp h147)] at h; exact h)
    | (rw [show mTst (σ.2.1 123) L 2 _ = false from decide_eq_false (Int32.not_lt.mpr h147)] at h; exact h)
    | (rw [show mTst (σ.2.1 123) L 1 _ = true from decide_eq_true h165] at h; exact h)
    | (rw [show mTst (σ.2.1 123) L 1 _ = false from decide_eq_false h165] at h; exact h)
  · refine xe_iconst (v := 1) dX9_test_168 rfl ?_
    refine xe_goto (tgt := 173) dX9_test_169 (by decide) ?_
    refine xe_iret dX9_test_173 rfl (by first | rfl | decide | assumption | exact xb_narrow (by assumption)) ?_
    simp only [mS_A] at *
    first
    | (rw [show mTst (σ.2.1 123) L 0 _ = true from decide_eq_true (Int32.not_le.mp h125)] at h; exact h)
    | (rw [show mTst (σ.2.1 123) L 0 _ = false from decide_eq_false (Int32.not_lt.mpr h125)] at h; exact h)
    | (rw [show mTst (σ.2.1 123) L 2 _ = true from decide_eq_true (Int32.not_le.mp h147)] at h; exact h)
    | (rw [show mTst (σ.2.1 123) L 2 _ = false from decide_eq_false (Int32.not_lt.mpr h147)] at h; exact h)
    | (rw [show mTst (σ.2.1 123) L 1 _ = true from decide_eq_true h165] at h; exact h)
    | (rw [show mTst (σ.2.1 123) L 1 _ = false from decide_eq_false h165] at h; exact h)

theorem lX9_test84_2 {d : Nat} (hd : 1 ≤ d) {σ : xSt} {Post : Option Value → xSt → Prop} (L : Nat) (hL : L < 6) (v2 : Option Value) (s : pS) (w : Nat) (sm kp : Int32) (sz : Nat) (hz : σ.1 115 10 = nI sz) (h1 : sz ≤ 100) (hs : s.1 ≤ sz) (h : Post (some (.int (bI (mTst (σ.2.1 123) L 2 (pNm (σ.2.1 122) sz (pTk (σ.2.1 122) sz s 62)).1)))) (mS σ (pNm (σ.2.1 122) sz (pTk (σ.2.1 122) sz s 62)).2 w sm kp)) : xEv kX9_test (d + 1) 84 [some (.ref 115), some (.int (nI L)), v2, none] [.int (1)] (mS σ s w sm kp) Post := by
  refine xe_istore_n (lv2 := [_, _, _, _]) dX9_test_84 (by decide) rfl ?_
  refine xe_aload_n dX9_test_85 rfl ?_
  refine xe_iload_n dX9_test_86 rfl ?_
  refine xe_if_ge (tgt := 95) dX9_test_87 (by decide) (fun h87 => ?_) (fun h87 => absurd (by decide) h87)
  refine xe_iload_n dX9_test_95 rfl ?_
  refine xe_if_le (tgt := 104) dX9_test_96 (by decide) (fun h96 => absurd h96 (by decide)) (fun h96 => ?_)
  refine xe_bipush (v := 62) dX9_test_99 rfl ?_
  refine xe_goto (tgt := 106) dX9_test_101 (by decide) ?_
  refine xe_callv (k2 := kX9_takes) (vs := [_]) dX9_test_106 okX9_takes mlX9_152 imX9_takes slX9_takes (Or.inl ⟨9, _, _, by decide, rfl, rfl, rfl⟩) rfl rfl (Nat.le_of_ble_eq_true rfl) (Nat.le_of_ble_eq_true rfl) (sX9_takes (by omega) 62 s w sm kp sz hz h1 hs ?_)
  refine xe_aload_n dX9_test_109 rfl ?_
  refine xe_callv (k2 := kX9_number) (vs := []) dX9_test_110 okX9_number mlX9_155 imX9_number slX9_number (Or.inl ⟨9, _, _, by decide, rfl, rfl, rfl⟩) rfl rfl (Nat.le_of_ble_eq_true rfl) (Nat.le_of_ble_eq_true rfl) (sX9_number (by omega) (pTk (σ.2.1 122) sz s 62) w sm kp sz hz h1 (pTk_sz hs) ?_)
  refine xe_istore_n (lv2 := [_, _, _, _]) dX9_test_113 (by decide) rfl ?_
  refine xe_iload_n dX9_test_114 rfl ?_
  refine xe_if_ge (tgt := 136) dX9_test_115 (by decide) (fun h115 => ?_) (fun h115 => absurd (by decide) h115)
  refine xe_iload_n dX9_test_136 rfl ?_
  refine xe_if_le (tgt := 158) dX9_test_137 (by decide) (fun h137 => absurd h137 (by decide)) (fun h137 => ?_)
  refine xe_aload_n dX9_test_140 rfl ?_
  refine xe_getr dX9_test_141 flX9_33 (by decide) rfl rfl ?_
  refine xe_iload_n dX9_test_144 rfl ?_
  refine xn_iaload dX9_test_145 (by decide) rfl (by first | with_reducible rfl | (simp only [xl, pk_mul, nI_add, nI_1]; done) | (simp only [xl, pk_mul, nI_add, nI_1]; rfl)) (by omega) (by decide) ?_
  refine xe_iload_n dX9_test_146 rfl ?_
  refine xe_icmp_le (tgt := 154) dX9_test_147 (by decide) (fun h147 => ?_) (fun h147 => ?_)
  · refine xe_iconst (v := 0) dX9_test_154 rfl ?_
    refine xe_goto (tgt := 173) dX9_test_155 (by decide) ?_
    refine xe_iret dX9_test_173 rfl (by first | rfl | decide | assumption | exact xb_narrow (by assumption)) ?_
    simp only [mS_A] at *
    first
    | (rw [show mTst (σ.2.1 123) L 0 _ = true from decide_eq_true (Int32.not_le.mp h125)] at h; exact h)
    | (rw [show mTst (σ.2.1 123) L 0 _ = false from decide_eq_false (Int32.not_lt.mpr h125)] at h; exact h)
    | (rw [show mTst (σ.2.1 123) L 2 _ = true from decide_eq_true (Int32.not_le.mp h147)] at h; exact h)
    | (rw [show mTst (σ.2.1 123) L 2 _ = false from decide_eq_false (Int32.not_lt.mpr h147)] at h; exact h)
    | (rw [show mTst (σ.2.1 123) L 1 _ = true from decide_eq_true h165] at h; exact h)
    | (rw [show mTst (σ.2.1 123) L 1 _ = false from decide_eq_false h165] at h; exact h)
  · refine xe_iconst (v := 1) dX9_test_150 rfl ?_
    refine xe_goto (tgt := 173) dX9_test_151 (by decide) ?_
    refine xe_iret dX9_test_173 rfl (by first | rfl | decide | assumption | exact xb_narrow (by assumption)) ?_
    simp only [mS_A] at *
    first
    | (rw [show mTst (σ.2.1 123) L 0 _ = true from decide_eq_true (Int32.not_le.mp h125)] at h; exact h)
    | (rw [show mTst (σ.2.1 123) L 0 _ = false from decide_eq_false (Int32.not_lt.mpr h125)] at h; exact h)
    | (rw [show mTst (σ.2.1 123) L 2 _ = true from decide_eq_true (Int32.not_le.mp h147)] at h; exact h)
    | (rw [show mTst (σ.2.1 123) L 2 _ = false from decide_eq_false (Int32.not_lt.mpr h147)] at h; exact h)
    | (rw [show mTst (σ.2.1 123) L 1 _ = true from decide_eq_true h165] at h; exact h)
    | (rw [show mTst (σ.2.1 123) L 1 _ = false from decide_eq_false h165] at h; exact h)

theorem lX9_test4 {d : Nat} {σ : xSt} {Post : Option Value → xSt → Prop} (hd : 1 ≤ d) (s : pS) (w : Nat) (sm kp : Int32) (sz : Nat) (hz : σ.1 115 10 = nI sz) (h1 : sz ≤ 100) (hs : s.1 ≤ sz) (hlt : ∀ k, k < 6 → σ.2.1 124 k = xlet k) (h : xEv kX9_test (d + 1) 35 [some (.ref 115), some (.int (oI (pLt (σ.2.1 122) sz s))), some (.int 6), none] [] (mS σ s w sm kp) Post) : ∀ (n j : Nat), 7 ≤ j + n → j ≤ 6 → xEv kX9_test (d + 1) 4 [some (.ref 115), some (.int (oI (iF (fun k r => bif pAt (σ.2.1 122) sz s (xlet k) then some k else r) none j))), some (.int (nI j)), none] [] (mS σ s w sm kp) Post := by
  intro n
  induction n with
  | zero => intro j hn hj; omega
  | succ n ih =>
    intro j hn hj
    refine xe_iload_n dX9_test_4 rfl ?_
    refine xe_bipush (v := 6) dX9_test_5 rfl ?_
    refine xe_icmp_ge (tgt := 35) dX9_test_7 (by decide) (fun h7 => ?_) (fun h7 => ?_)
    · have e := nLe (a := 6) (by omega) (by omega) h7
      obtain rfl : j = 6 := by omega
      exact h
    · have e := nNle (a := 6) (by omega) (by omega) h7
      refine xe_aload_n dX9_test_10 rfl ?_
      refine xe_aload_n dX9_test_11 rfl ?_
      refine xe_getr dX9_test_12 flX9_36 (by decide) rfl rfl ?_
      refine xe_iload_n dX9_test_15 rfl ?_
      refine xn_caload dX9_test_16 (by decide) rfl (by first | with_reducible rfl | (simp only [xl, pk_mul, nI_add, nI_1]; done) | (simp only [xl, pk_mul, nI_add, nI_1]; rfl)) (by omega) (by decide) ?_
      rw [mS_A, hlt j e]
      refine xe_callv (k2 := kX9_isAt) (vs := [_]) dX9_test_17 okX9_isAt mlX9_145 imX9_isAt slX9_isAt (Or.inl ⟨9, _, _, by decide, rfl, rfl, rfl⟩) rfl rfl (Nat.le_of_ble_eq_true rfl) (Nat.le_of_ble_eq_true rfl) (sX9_isAt (by omega) (xlet j) s w sm kp sz hz h1 hs ?_)
      refine xe_if_eq (tgt := 27) dX9_test_20 (by decide) (fun h20 => ?_) (fun h20 => ?_)
      · refine xe_iload_n dX9_test_27 rfl ?_
        refine xe_istore_n (lv2 := [_, _, _, _]) dX9_test_28 (by decide) rfl ?_
        refine xn_inc (j := j) (lv2 := [_, _, _, _]) dX9_test_29 (by decide) rfl rfl ?_
        refine xe_goto (tgt := 4) dX9_test_32 (by decide) ?_
        first
        | (have l := ih (j + 1) (by omega) (by omega); rw [iF, bI_eq0.mp h20, cond_false] at l; exact l)
        | (have l := ih (j + 1) (by omega) (by omega); rw [iF, bI_ne0.mp h20, cond_true] at l; exact l)
      · refine xe_iload_n dX9_test_23 rfl ?_
        refine xe_goto (tgt := 28) dX9_test_24 (by decide) ?_
        refine xe_istore_n (lv2 := [_, _, _, _]) dX9_test_28 (by decide) rfl ?_
        refine xn_inc (j := j) (lv2 := [_, _, _, _]) dX9_test_29 (by decide) rfl rfl ?_
        refine xe_goto (tgt := 4) dX9_test_32 (by decide) ?_
        first
        | (have l := ih (j + 1) (by omega) (by omega); rw [iF, bI_eq0.mp h20, cond_false] at l; exact l)
        | (have l := ih (j + 1) (by omega) (by omega); rw [iF, bI_ne0.mp h20, cond_true] at l; exact l)

theorem sX9_test {d : Nat} (hd : 2 ≤ d) {σ : xSt} {Post : Option Value → xSt → Prop} (s : pS) (w : Nat) (sm kp : Int32) (sz : Nat) (hz : σ.1 115 10 = nI sz) (h1 : sz ≤ 100) (hs : s.1 ≤ sz) (hlt : ∀ k, k < 6 → σ.2.1 124 k = xlet k) (h : Post (some (.int (bI (pTs (mTst (σ.2.1 123)) false (σ.2.1 122) sz s).1))) (mS σ (pTs (mTst (σ.2.1 123)) false (σ.2.1 122) sz s).2 w sm kp)) : xM kX9_test d [.ref 115] (mS σ s w sm kp) Post := by
  obtain ⟨d, rfl⟩ : ∃ e, d = e + 1 := ⟨d - 1, by omega⟩
  refine xM_start (lv := [some (.ref 115), none, none, none]) rfl ?_
  refine xe_iconst (v := -1) dX9_test_0 rfl ?_
  refine xe_istore_n (lv2 := [_, _, _, _]) dX9_test_1 (by decide) rfl ?_
  refine xe_iconst (v := 0) dX9_test_2 rfl ?_
  refine xe_istore_n (lv2 := [_, _, _, _]) dX9_test_3 (by decide) rfl ?_
  refine lX9_test4 (by omega) s w sm kp sz hz h1 hs hlt ?_ 7 0 (by omega) (by omega)
  cases hL : pLt (σ.2.1 122) sz s with
  | none =>
    rw [pTs, hL] at h
    refine xe_iload_n dX9_test_35 rfl ?_
    refine xe_iconst (v := -1) dX9_test_36 rfl ?_
    refine xe_icmp_ne (tgt := 47) dX9_test_37 (by decide) (fun h37 => absurd (show oI none = -1 from rfl) h37) (fun h37 => ?_)
    refine xe_aload_n dX9_test_40 rfl ?_
    refine xe_iconst (v := 0) dX9_test_41 rfl ?_
    refine xe_putf dX9_test_42 flX9_136 (by decide) rfl rfl (by first | rfl | decide | assumption | exact xb_narrow (by assumption)) rfl ?_
    rw [mS_putBad]
    refine xe_iconst (v := 0) dX9_test_45 rfl ?_
    refine xe_iret dX9_test_46 rfl (by first | rfl | decide | assumption | exact xb_narrow (by assumption)) ?_
    exact h
  | some L =>
    obtain ⟨g1, g2, g3, g4⟩ := pLt_lt hL
    rw [pTs, hL] at h
    refine xe_iload_n dX9_test_35 rfl ?_
    refine xe_iconst (v := -1) dX9_test_36 rfl ?_
    refine xe_icmp_ne (tgt := 47) dX9_test_37 (by decide) (fun h37 => ?_) (fun h37 => absurd h37 (show ¬ nI L = -1 from fun z => absurd (nI_pos' (n := L) (by omega)) (by rw [z]; decide)))
    refine xe_aload_n dX9_test_47 rfl ?_
    refine xe_dup dX9_test_48 rfl ?_
    refine xe_getf dX9_test_49 flX9_139 (by decide) rfl rfl ?_
    refine xe_iconst (v := 1) dX9_test_52 rfl ?_
    refine xe_iadd dX9_test_53 ?_
    refine xe_putf dX9_test_54 flX9_139 (by decide) rfl rfl rfl rfl ?_
    rw [mS_at, mS_putAt1]
    refine xe_aload_n dX9_test_57 rfl ?_
    refine xe_bipush (v := 60) dX9_test_58 rfl ?_
    refine xe_callv (k2 := kX9_isAt) (vs := [_]) dX9_test_60 okX9_isAt mlX9_145 imX9_isAt slX9_isAt (Or.inl ⟨9, _, _, by decide, rfl, rfl, rfl⟩) rfl rfl (Nat.le_of_ble_eq_true rfl) (Nat.le_of_ble_eq_true rfl) (sX9_isAt (by omega) 60 (s.1 + 1, s.2) w sm kp sz hz h1 g1 ?_)
    refine xe_if_eq (tgt := 70) dX9_test_63 (by decide) (fun h63 => ?_) (fun h63 => ?_)
    · refine xe_aload_n dX9_test_70 rfl ?_
      refine xe_bipush (v := 62) dX9_test_71 rfl ?_
      refine xe_callv (k2 := kX9_isAt) (vs := [_]) dX9_test_73 okX9_isAt mlX9_145 imX9_isAt slX9_isAt (Or.inl ⟨9, _, _, by decide, rfl, rfl, rfl⟩) rfl rfl (Nat.le_of_ble_eq_true rfl) (Nat.le_of_ble_eq_true rfl) (sX9_isAt (by omega) 62 (s.1 + 1, s.2) w sm kp sz hz h1 g1 ?_)
      refine xe_if_eq (tgt := 83) dX9_test_76 (by decide) (fun h76 => ?_) (fun h76 => ?_)
      · refine xe_iconst (v := 0) dX9_test_83 rfl ?_
        first
        | (have e : pRl (σ.2.1 122) sz (s.1 + 1, s.2) = 0 := by rw [pRl, bI_ne0.mp h63]; rfl
           rw [e] at h; exact lX9_test84_0 (by omega) L g3 _ (s.1 + 1, s.2) w sm kp sz hz h1 g1 h)
        | (have e : pRl (σ.2.1 122) sz (s.1 + 1, s.2) = 2 := by rw [pRl, bI_eq0.mp h63, bI_ne0.mp h76]; rfl
           rw [e] at h; exact lX9_test84_2 (by omega) L g3 _ (s.1 + 1, s.2) w sm kp sz hz h1 g1 h)
        | (have e : pRl (σ.2.1 122) sz (s.1 + 1, s.2) = 1 := by rw [pRl, bI_eq0.mp h63, bI_eq0.mp h76]; rfl
           rw [e] at h; exact lX9_test84_1 (by omega) L g3 _ (s.1 + 1, s.2) w sm kp sz hz h1 g1 h)
      · refine xe_iconst (v := 1) dX9_test_79 rfl ?_
        refine xe_goto (tgt := 84) dX9_test_80 (by decide) ?_
        first
        | (have e : pRl (σ.2.1 122) sz (s.1 + 1, s.2) = 0 := by rw [pRl, bI_ne0.mp h63]; rfl
           rw [e] at h; exact lX9_test84_0 (by omega) L g3 _ (s.1 + 1, s.2) w sm kp sz hz h1 g1 h)
        | (have e : pRl (σ.2.1 122) sz (s.1 + 1, s.2) = 2 := by rw [pRl, bI_eq0.mp h63, bI_ne0.mp h76]; rfl
           rw [e] at h; exact lX9_test84_2 (by omega) L g3 _ (s.1 + 1, s.2) w sm kp sz hz h1 g1 h)
        | (have e : pRl (σ.2.1 122) sz (s.1 + 1, s.2) = 1 := by rw [pRl, bI_eq0.mp h63, bI_eq0.mp h76]; rfl
           rw [e] at h; exact lX9_test84_1 (by omega) L g3 _ (s.1 + 1, s.2) w sm kp sz hz h1 g1 h)
    · refine xe_iconst (v := -1) dX9_test_66 rfl ?_
      refine xe_goto (tgt := 84) dX9_test_67 (by decide) ?_
      first
      | (have e : pRl (σ.2.1 122) sz (s.1 + 1, s.2) = 0 := by rw [pRl, bI_ne0.mp h63]; rfl
         rw [e] at h; exact lX9_test84_0 (by omega) L g3 _ (s.1 + 1, s.2) w sm kp sz hz h1 g1 h)
      | (have e : pRl (σ.2.1 122) sz (s.1 + 1, s.2) = 2 := by rw [pRl, bI_eq0.mp h63, bI_ne0.mp h76]; rfl
         rw [e] at h; exact lX9_test84_2 (by omega) L g3 _ (s.1 + 1, s.2) w sm kp sz hz h1 g1 h)
      | (have e : pRl (σ.2.1 122) sz (s.1 + 1, s.2) = 1 := by rw [pRl, bI_eq0.mp h63, bI_eq0.mp h76]; rfl
         rw [e] at h; exact lX9_test84_1 (by omega) L g3 _ (s.1 + 1, s.2) w sm kp sz hz h1 g1 h)
