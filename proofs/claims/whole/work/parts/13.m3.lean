theorem xb_congr {p q : Prop} [Decidable p] [Decidable q] (h : p ↔ q) : xb p = xb q := by
  unfold xb; by_cases hp : p
  · rw [if_pos hp, if_pos (h.mp hp)]
  · rw [if_neg hp, if_neg (fun z => hp (h.mpr z))]

theorem tX9_isPot {d : Nat} (hd : 1 ≤ d) {σ : xSt} {Post : Option Value → xSt → Prop} (f : Int32) (n : Nat) (hn : σ.2.1 116 54 = nI n) (h6 : n ≤ 6) (h : ∀ r, r = xb (pOk (nI n) f) → Post (some (.int r)) σ) : xM kX9_isPot d [.ref 115, .int f] σ Post := by
  obtain ⟨d, rfl⟩ : ∃ e, d = e + 1 := ⟨d - 1, by omega⟩
  refine xM_start (lv := [some (.ref 115), some (.int f)]) rfl ?_
  refine xe_iload_n dX9_isPot_0 rfl ?_
  refine xe_iconst (v := 0) dX9_isPot_1 rfl ?_
  refine xe_aload_n dX9_isPot_2 rfl ?_
  refine xe_getr dX9_isPot_3 flX9_9 (by decide) rfl rfl ?_
  refine xe_bipush (v := 54) dX9_isPot_6 rfl ?_
  refine xn_iaload dX9_isPot_8 (by decide) rfl (by first | with_reducible rfl | (simp only [xl, pk_mul, nI_add, nI_1]; done) | (simp only [xl, pk_mul, nI_add, nI_1]; rfl)) (by omega) (by decide) ?_
  refine xe_iconst (v := 1) dX9_isPot_9 rfl ?_
  refine xe_isub dX9_isPot_10 ?_
  refine xe_calls (k2 := kX9_isIn) (vs := [_, _, _]) dX9_isPot_11 okX9_isIn mlX9_89 stX9_isIn rfl rfl (Nat.le_of_ble_eq_true rfl) (Nat.le_of_ble_eq_true rfl) (sX9_isIn (by omega) _ _ _ (fun r hr => ?_))
  refine xe_iret dX9_isPot_14 rfl (by first | rfl | decide | assumption | exact xb_narrow (by assumption)) ?_
  refine h r ?_
  rw [hr, hn]
  exact xb_congr (le_pred (by omega))

theorem lX9_pot {d : Nat} {σ : xSt} {Post : Option Value → xSt → Prop} (hd : 1 ≤ d) (n : Nat) (hn : n < 6) (kd v sg : Int32) (h54 : σ.2.1 116 54 = nI n) (h : Post (some (.int (nI n))) (xsA σ 116 (potG1 (σ.2.1 116) n kd v sg))) : ∀ (m j : Nat), 10 ≤ j + m → j ≤ 9 → xEv kX9_pot (d + 1) 57 [some (.ref 115), some (.int kd), some (.int v), some (.int sg), some (.int (nI n)), some (.int (nI j))] [] (xsA σ 116 (iF (fun k g => upd g (9 * n + k) 0) (σ.2.1 116) j)) Post := by
  intro m
  induction m with
  | zero => intro j hn hj; omega
  | succ m ih =>
    intro j hn hj
    refine xe_iload dX9_pot_57 rfl ?_
    refine xe_bipush (v := 9) dX9_pot_59 rfl ?_
    refine xe_icmp_ge (tgt := 80) dX9_pot_61 (by decide) (fun h61 => ?_) (fun h61 => ?_)
    · have e := nLe (a := 9) (by omega) (by omega) h61
      obtain rfl : j = 9 := by omega
      refine xe_aload_n dX9_pot_80 rfl ?_
      refine xe_iload dX9_pot_81 rfl ?_
      refine xe_iconst (v := 0) dX9_pot_83 rfl ?_
      refine xe_iload_n dX9_pot_84 rfl ?_
      refine xe_callv (k2 := kX9_change) (vs := [_, _, _]) dX9_pot_85 okX9_change mlX9_97 imX9_change slX9_change (Or.inl ⟨9, _, _, by decide, rfl, rfl, rfl⟩) rfl rfl (Nat.le_of_ble_eq_true rfl) (Nat.le_of_ble_eq_true rfl) (sX9_change (by omega) n 0 kd (by omega) ?_)
      refine xe_pop dX9_pot_88 rfl ?_
      refine xe_aload_n dX9_pot_89 rfl ?_
      refine xe_iload dX9_pot_90 rfl ?_
      refine xe_iconst (v := 1) dX9_pot_92 rfl ?_
      refine xe_iload_n dX9_pot_93 rfl ?_
      refine xe_callv (k2 := kX9_change) (vs := [_, _, _]) dX9_pot_94 okX9_change mlX9_97 imX9_change slX9_change (Or.inl ⟨9, _, _, by decide, rfl, rfl, rfl⟩) rfl rfl (Nat.le_of_ble_eq_true rfl) (Nat.le_of_ble_eq_true rfl) (sX9_change (by omega) n 1 v (by omega) ?_)
      refine xe_pop dX9_pot_97 rfl ?_
      refine xe_aload_n dX9_pot_98 rfl ?_
      refine xe_iload dX9_pot_99 rfl ?_
      refine xe_iconst (v := 2) dX9_pot_101 rfl ?_
      refine xe_iload_n dX9_pot_102 rfl ?_
      refine xe_callv (k2 := kX9_change) (vs := [_, _, _]) dX9_pot_103 okX9_change mlX9_97 imX9_change slX9_change (Or.inl ⟨9, _, _, by decide, rfl, rfl, rfl⟩) rfl rfl (Nat.le_of_ble_eq_true rfl) (Nat.le_of_ble_eq_true rfl) (sX9_change (by omega) n 2 sg (by omega) ?_)
      refine xe_pop dX9_pot_106 rfl ?_
      simp only [xsA_get, xsA_A]
      refine xe_aload_n dX9_pot_107 rfl ?_
      refine xe_getr dX9_pot_108 flX9_9 (by decide) rfl rfl ?_
      refine xe_bipush (v := 54) dX9_pot_111 rfl ?_
      refine xe_dup2 dX9_pot_113 rfl rfl ?_
      refine xn_iaload dX9_pot_114 (by decide) rfl (by first | with_reducible rfl | (simp only [xl, pk_mul, nI_add, nI_1]; done) | (simp only [xl, pk_mul, nI_add, nI_1]; rfl)) (by omega) (by decide) ?_
      refine xe_iconst (v := 1) dX9_pot_115 rfl ?_
      refine xe_iadd dX9_pot_116 ?_
      refine xn_iastore dX9_pot_117 (by decide) rfl (by first | with_reducible rfl | (simp only [xl, pk_mul, nI_add, nI_1]; done) | (simp only [xl, pk_mul, nI_add, nI_1]; rfl)) (by omega) (by decide) ?_
      simp only [xsA_get, xsA_A]
      refine xe_iload dX9_pot_118 rfl ?_
      refine xe_iret dX9_pot_120 rfl rfl ?_
      refine (?_ : Post (some (.int (nI n))) _)
      have e2 : (upd (upd (upd (iF (fun k g => upd g (9 * n + k) 0) (σ.2.1 116) 9) (9 * n + 0) kd) (9 * n + 1) v) (9 * n + 2) sg) 54 + 1 = nI (n + 1) := by
        rw [← nI_1]; congr 1; simp only [upd, iF]; rw [if_neg (by omega), if_neg (by omega), if_neg (by omega), if_neg (by omega), if_neg (by omega), if_neg (by omega), if_neg (by omega), if_neg (by omega), if_neg (by omega), if_neg (by omega), if_neg (by omega), if_neg (by omega)]; exact h54
      rw [e2]
      exact h
    · refine xe_aload_n dX9_pot_64 rfl ?_
      refine xe_iload dX9_pot_65 rfl ?_
      refine xe_iload dX9_pot_67 rfl ?_
      refine xe_iconst (v := 0) dX9_pot_69 rfl ?_
      refine xe_callv (k2 := kX9_change) (vs := [_, _, _]) dX9_pot_70 okX9_change mlX9_97 imX9_change slX9_change (Or.inl ⟨9, _, _, by decide, rfl, rfl, rfl⟩) rfl rfl (Nat.le_of_ble_eq_true rfl) (Nat.le_of_ble_eq_true rfl) (sX9_change (by omega) n j 0 (by have := nNle (a := 9) (by omega) (by omega) h61; omega) ?_)
      refine xe_pop dX9_pot_73 rfl ?_
      refine xn_inc (j := j) (lv2 := [_, _, _, _, _, _]) dX9_pot_74 (by decide) rfl rfl ?_
      refine xe_goto (tgt := 57) dX9_pot_77 (by decide) ?_
      have e := nNle (a := 9) (by omega) (by omega) h61
      rw [xsA_A, xsA_get]
      exact ih (j + 1) (by omega) (by omega)

theorem sX9_pot {d : Nat} (hd : 2 ≤ d) {σ : xSt} {Post : Option Value → xSt → Prop} (n : Nat) (kd v sg : Int32) (hn : σ.2.1 116 54 = nI n) (h6 : n ≤ 6) (h : Post (some (.int (potV (σ.2.1 116) kd v sg))) (xsA σ 116 (potG (σ.2.1 116) kd v sg))) : xM kX9_pot d [.ref 115, .int kd, .int v, .int sg] σ Post := by
  obtain ⟨d, rfl⟩ : ∃ e, d = e + 1 := ⟨d - 1, by omega⟩
  refine xM_start (lv := [some (.ref 115), some (.int kd), some (.int v), some (.int sg), none, none]) rfl ?_
  refine xe_iload_n dX9_pot_0 rfl ?_
  refine xe_iconst (v := 0) dX9_pot_1 rfl ?_
  refine xe_bipush (v := 6) dX9_pot_2 rfl ?_
  refine xe_calls (k2 := kX9_isIn) (vs := [_, _, _]) dX9_pot_4 okX9_isIn mlX9_89 stX9_isIn rfl rfl (Nat.le_of_ble_eq_true rfl) (Nat.le_of_ble_eq_true rfl) (sX9_isIn (by omega) _ _ _ (fun r4 hr4 => ?_))
  refine xe_if_ne (tgt := 12) dX9_pot_7 (by decide) (fun h7 => ?_) (fun h7 => ?_)
  · refine xe_iload_n dX9_pot_12 rfl ?_
    refine xe_iconst (v := 0) dX9_pot_13 rfl ?_
    refine xe_bipush (v := 9) dX9_pot_14 rfl ?_
    refine xe_calls (k2 := kX9_isIn) (vs := [_, _, _]) dX9_pot_16 okX9_isIn mlX9_89 stX9_isIn rfl rfl (Nat.le_of_ble_eq_true rfl) (Nat.le_of_ble_eq_true rfl) (sX9_isIn (by omega) _ _ _ (fun r16 hr16 => ?_))
    refine xe_if_eq (tgt := 32) dX9_pot_19 (by decide) (fun h19 => ?_) (fun h19 => ?_)
    · refine xe_bipush (v := -2) dX9_pot_32 rfl ?_
      refine xe_iret dX9_pot_34 rfl rfl ?_
      have c0 := (xb_ne0 hr4).mp h7
      have c : ¬ (rng v 0 9 ∧ rng sg 0 9) := by first | exact fun z => (xb_eq0 hr26).mp h29 z.2 | exact fun z => (xb_eq0 hr16).mp h19 z.1
      rw [potV, if_pos c0, if_neg c, potG, if_neg (fun z => c z.2.1), xsA_self] at h; exact h
    · refine xe_iload_n dX9_pot_22 rfl ?_
      refine xe_iconst (v := 0) dX9_pot_23 rfl ?_
      refine xe_bipush (v := 9) dX9_pot_24 rfl ?_
      refine xe_calls (k2 := kX9_isIn) (vs := [_, _, _]) dX9_pot_26 okX9_isIn mlX9_89 stX9_isIn rfl rfl (Nat.le_of_ble_eq_true rfl) (Nat.le_of_ble_eq_true rfl) (sX9_isIn (by omega) _ _ _ (fun r26 hr26 => ?_))
      refine xe_if_ne (tgt := 35) dX9_pot_29 (by decide) (fun h29 => ?_) (fun h29 => ?_)
      · refine xe_aload_n dX9_pot_35 rfl ?_
        refine xe_getr dX9_pot_36 flX9_9 (by decide) rfl rfl ?_
        refine xe_bipush (v := 54) dX9_pot_39 rfl ?_
        refine xn_iaload dX9_pot_41 (by decide) rfl (by first | with_reducible rfl | (simp only [xl, pk_mul, nI_add, nI_1]; done) | (simp only [xl, pk_mul, nI_add, nI_1]; rfl)) (by omega) (by decide) ?_
        refine xe_istore (lv2 := [_, _, _, _, _, _]) dX9_pot_42 (by decide) rfl ?_
        refine xe_iload dX9_pot_44 rfl ?_
        refine xe_bipush (v := 6) dX9_pot_46 rfl ?_
        refine xe_icmp_ne (tgt := 54) dX9_pot_48 (by decide) (fun h48 => ?_) (fun h48 => ?_)
        · refine xe_iconst (v := 0) dX9_pot_54 rfl ?_
          refine xe_istore (lv2 := [_, _, _, _, _, _]) dX9_pot_55 (by decide) rfl ?_
          have c0 := (xb_ne0 hr4).mp h7
          have c1 : rng v 0 9 ∧ rng sg 0 9 := ⟨(xb_ne0 hr16).mp h19, (xb_ne0 hr26).mp h29⟩
          rw [potV, if_pos c0, if_pos c1, if_neg h48, potG, if_pos ⟨c0, c1, h48⟩, hn, cN_nI (by omega)] at h
          rw [hn] at h48 ⊢
          have hlt : n < 6 := Nat.lt_of_le_of_ne h6 (fun z => h48 (by rw [z]; rfl))
          have l := lX9_pot (d := d) (σ := σ) (by omega) n hlt kd v sg hn h 10 0 (by omega) (by omega)
          simp only [iF, xsA_self] at l
          exact l
        · refine xe_bipush (v := -4) dX9_pot_51 rfl ?_
          refine xe_iret dX9_pot_53 rfl rfl ?_
          have c0 := (xb_ne0 hr4).mp h7
          have c1 : rng v 0 9 ∧ rng sg 0 9 := ⟨(xb_ne0 hr16).mp h19, (xb_ne0 hr26).mp h29⟩
          rw [potV, if_pos c0, if_pos c1, if_pos h48, potG, if_neg (fun z => z.2.2 h48), xsA_self] at h; exact h
      · refine xe_bipush (v := -2) dX9_pot_32 rfl ?_
        refine xe_iret dX9_pot_34 rfl rfl ?_
        have c0 := (xb_ne0 hr4).mp h7
        have c : ¬ (rng v 0 9 ∧ rng sg 0 9) := by first | exact fun z => (xb_eq0 hr26).mp h29 z.2 | exact fun z => (xb_eq0 hr16).mp h19 z.1
        rw [potV, if_pos c0, if_neg c, potG, if_neg (fun z => c z.2.1), xsA_self] at h; exact h
  · refine xe_iconst (v := -1) dX9_pot_10 rfl ?_
    refine xe_iret dX9_pot_11 rfl rfl ?_
    have c := (xb_eq0 hr4).mp h7
    rw [potV, if_neg c, potG, if_neg (fun z => c z.1), xsA_self] at h; exact h

theorem sX9_world {d : Nat} (hd : 1 ≤ d) {σ : xSt} {Post : Option Value → xSt → Prop} (f : Int32) (h : Post (some (.int (worldV (σ.2.1 116) f))) (xsA σ 116 (worldG (σ.2.1 116) f))) : xM kX9_world d [.ref 115, .int f] σ Post := by
  obtain ⟨d, rfl⟩ : ∃ e, d = e + 1 := ⟨d - 1, by omega⟩
  refine xM_start (lv := [some (.ref 115), some (.int f), none]) rfl ?_
  refine xe_iload_n dX9_world_0 rfl ?_
  refine xe_iconst (v := 0) dX9_world_1 rfl ?_
  refine xe_sipush (v := 255) dX9_world_2 rfl ?_
  refine xe_calls (k2 := kX9_isIn) (vs := [_, _, _]) dX9_world_5 okX9_isIn mlX9_89 stX9_isIn rfl rfl (Nat.le_of_ble_eq_true rfl) (Nat.le_of_ble_eq_true rfl) (sX9_isIn (by omega) _ _ _ (fun r5 hr5 => ?_))
  refine xe_if_ne (tgt := 14) dX9_world_8 (by decide) (fun h8 => ?_) (fun h8 => ?_)
  · refine xe_aload_n dX9_world_14 rfl ?_
    refine xe_getr dX9_world_15 flX9_9 (by decide) rfl rfl ?_
    refine xe_bipush (v := 55) dX9_world_18 rfl ?_
    refine xn_iaload dX9_world_20 (by decide) rfl (by first | with_reducible rfl | (simp only [xl, pk_mul, nI_add, nI_1]; done) | (simp only [xl, pk_mul, nI_add, nI_1]; rfl)) (by omega) (by decide) ?_
    refine xe_istore_n (lv2 := [_, _, _]) dX9_world_21 (by decide) rfl ?_
    refine xe_aload_n dX9_world_22 rfl ?_
    refine xe_getr dX9_world_23 flX9_9 (by decide) rfl rfl ?_
    refine xe_bipush (v := 55) dX9_world_26 rfl ?_
    refine xe_iload_n dX9_world_28 rfl ?_
    refine xn_iastore dX9_world_29 (by decide) rfl (by first | with_reducible rfl | (simp only [xl, pk_mul, nI_add, nI_1]; done) | (simp only [xl, pk_mul, nI_add, nI_1]; rfl)) (by omega) (by decide) ?_
    refine xe_iload_n dX9_world_30 rfl ?_
    refine xe_iret dX9_world_31 rfl rfl ?_
    have c := (xb_ne0 hr5).mp h8
    rw [worldV, if_pos c, worldG, if_pos c] at h; exact h
  · refine xe_bipush (v := -2) dX9_world_11 rfl ?_
    refine xe_iret dX9_world_13 rfl rfl ?_
    have c := (xb_eq0 hr5).mp h8
    rw [worldV, if_neg c, worldG, if_neg c, xsA_self] at h; exact h

theorem sX9_sugar {d : Nat} (hd : 2 ≤ d) {σ : xSt} {Post : Option Value → xSt → Prop} (n : Nat) (p m : Int32) (hn : σ.2.1 116 54 = nI n) (h6 : n ≤ 6) (h : Post (some (.int (sugarV (σ.2.1 116) p m))) (xsA σ 116 (sugarG (σ.2.1 116) p m))) : xM kX9_sugar d [.ref 115, .int p, .int m] σ Post := by
  obtain ⟨d, rfl⟩ : ∃ e, d = e + 1 := ⟨d - 1, by omega⟩
  refine xM_start (lv := [some (.ref 115), some (.int p), some (.int m)]) rfl ?_
  refine xe_aload_n dX9_sugar_0 rfl ?_
  refine xe_iload_n dX9_sugar_1 rfl ?_
  refine xe_callv (k2 := kX9_isPot) (vs := [_]) dX9_sugar_2 okX9_isPot mlX9_101 imX9_isPot slX9_isPot (Or.inl ⟨9, _, _, by decide, rfl, rfl, rfl⟩) rfl rfl (Nat.le_of_ble_eq_true rfl) (Nat.le_of_ble_eq_true rfl) (tX9_isPot (by omega) _ n hn h6 (fun r2 hr2 => ?_))
  refine xe_if_ne (tgt := 10) dX9_sugar_5 (by decide) (fun h5 => ?_) (fun h5 => ?_)
  · have cp := (xb_ne0 hr2).mp h5
    obtain ⟨i, hi, rfl⟩ := pOk_nat (by omega) cp
    have ei : cN (nI i) = i := cN_nI (by omega)
    refine xe_iload_n dX9_sugar_10 rfl ?_
    refine xe_iconst (v := 0) dX9_sugar_11 rfl ?_
    refine xe_bipush (v := 9) dX9_sugar_12 rfl ?_
    refine xe_calls (k2 := kX9_isIn) (vs := [_, _, _]) dX9_sugar_14 okX9_isIn mlX9_89 stX9_isIn rfl rfl (Nat.le_of_ble_eq_true rfl) (Nat.le_of_ble_eq_true rfl) (sX9_isIn (by omega) _ _ _ (fun r14 hr14 => ?_))
    refine xe_if_eq (tgt := 30) dX9_sugar_17 (by decide) (fun h17 => ?_) (fun h17 => ?_)
    · refine xe_bipush (v := -2) dX9_sugar_30 rfl ?_
      refine xe_iret dX9_sugar_32 rfl rfl ?_
      first | (have c := (xb_eq0 hr14).mp h17; rw [sugarV, sugarG, hn, if_pos cp, if_neg c, if_neg (fun z => c z.2), xsA_self] at h; exact h) | (have c := (xb_ne0 hr14).mp h17; rw [sugarV, sugarG, hn, if_pos cp, if_pos c, if_pos ⟨cp, c⟩, ei] at h; exact h)
    · refine xe_aload_n dX9_sugar_20 rfl ?_
      refine xe_iload_n dX9_sugar_21 rfl ?_
      refine xe_iconst (v := 2) dX9_sugar_22 rfl ?_
      refine xe_iload_n dX9_sugar_23 rfl ?_
      refine xe_callv (k2 := kX9_change) (vs := [_, _, _]) dX9_sugar_24 okX9_change mlX9_97 imX9_change slX9_change (Or.inl ⟨9, _, _, by decide, rfl, rfl, rfl⟩) rfl rfl (Nat.le_of_ble_eq_true rfl) (Nat.le_of_ble_eq_true rfl) (sX9_change (by omega) i 2 m (by omega) ?_)
      refine xe_goto (tgt := 32) dX9_sugar_27 (by decide) ?_
      refine xe_iret dX9_sugar_32 rfl rfl ?_
      first | (have c := (xb_eq0 hr14).mp h17; rw [sugarV, sugarG, hn, if_pos cp, if_neg c, if_neg (fun z => c z.2), xsA_self] at h; exact h) | (have c := (xb_ne0 hr14).mp h17; rw [sugarV, sugarG, hn, if_pos cp, if_pos c, if_pos ⟨cp, c⟩, ei] at h; exact h)
  · refine xe_iconst (v := -1) dX9_sugar_8 rfl ?_
    refine xe_iret dX9_sugar_9 rfl rfl ?_
    have c := (xb_eq0 hr2).mp h5
    rw [sugarV, sugarG, hn, if_neg c, if_neg (fun z => c z.1), xsA_self] at h; exact h

theorem sX9_row {d : Nat} (hd : 2 ≤ d) {σ : xSt} {Post : Option Value → xSt → Prop} (n : Nat) (p t m : Int32) (hn : σ.2.1 116 54 = nI n) (h6 : n ≤ 6) (h : Post (some (.int (rowV (σ.2.1 116) p t m))) (xsA σ 116 (rowG (σ.2.1 116) p t m))) : xM kX9_row d [.ref 115, .int p, .int t, .int m] σ Post := by
  obtain ⟨d, rfl⟩ : ∃ e, d = e + 1 := ⟨d - 1, by omega⟩
  refine xM_start (lv := [some (.ref 115), some (.int p), some (.int t), some (.int m)]) rfl ?_
  refine xe_aload_n dX9_row_0 rfl ?_
  refine xe_iload_n dX9_row_1 rfl ?_
  refine xe_callv (k2 := kX9_isPot) (vs := [_]) dX9_row_2 okX9_isPot mlX9_101 imX9_isPot slX9_isPot (Or.inl ⟨9, _, _, by decide, rfl, rfl, rfl⟩) rfl rfl (Nat.le_of_ble_eq_true rfl) (Nat.le_of_ble_eq_true rfl) (tX9_isPot (by omega) _ n hn h6 (fun r2 hr2 => ?_))
  refine xe_if_eq (tgt := 17) dX9_row_5 (by decide) (fun h5 => ?_) (fun h5 => ?_)
  · refine xe_iconst (v := -1) dX9_row_17 rfl ?_
    refine xe_iret dX9_row_18 rfl rfl ?_
    have c : ¬ (pOk (σ.2.1 116 54) p ∧ rng t 0 3) := by first | exact fun z => (xb_eq0 hr2).mp h5 (hn ▸ z.1) | exact fun z => (xb_eq0 hr11).mp h14 z.2
    rw [rowV, rowG, if_neg c, if_neg (fun z => c z.1), xsA_self] at h; exact h
  · refine xe_iload_n dX9_row_8 rfl ?_
    refine xe_iconst (v := 0) dX9_row_9 rfl ?_
    refine xe_iconst (v := 3) dX9_row_10 rfl ?_
    refine xe_calls (k2 := kX9_isIn) (vs := [_, _, _]) dX9_row_11 okX9_isIn mlX9_89 stX9_isIn rfl rfl (Nat.le_of_ble_eq_true rfl) (Nat.le_of_ble_eq_true rfl) (sX9_isIn (by omega) _ _ _ (fun r11 hr11 => ?_))
    refine xe_if_ne (tgt := 19) dX9_row_14 (by decide) (fun h14 => ?_) (fun h14 => ?_)
    · have cp := (xb_ne0 hr2).mp h5
      obtain ⟨i, hi, rfl⟩ := pOk_nat (by omega) cp
      have ei : cN (nI i) = i := cN_nI (by omega)
      have ct := (xb_ne0 hr11).mp h14
      obtain ⟨u, hu, rfl⟩ := rng_nat (m := 3) (by omega) ct
      have eu : cN (nI u) = u := cN_nI (by omega)
      refine xe_iload_n dX9_row_19 rfl ?_
      refine xe_iconst (v := 0) dX9_row_20 rfl ?_
      refine xe_bipush (v := 9) dX9_row_21 rfl ?_
      refine xe_calls (k2 := kX9_isIn) (vs := [_, _, _]) dX9_row_23 okX9_isIn mlX9_89 stX9_isIn rfl rfl (Nat.le_of_ble_eq_true rfl) (Nat.le_of_ble_eq_true rfl) (sX9_isIn (by omega) _ _ _ (fun r23 hr23 => ?_))
      refine xe_if_ne (tgt := 32) dX9_row_26 (by decide) (fun h26 => ?_) (fun h26 => ?_)
      · refine xe_aload_n dX9_row_32 rfl ?_
        refine xe_iload_n dX9_row_33 rfl ?_
        refine xe_iconst (v := 0) dX9_row_34 rfl ?_
        refine xe_callv (k2 := kX9_one) (vs := [_, _]) dX9_row_35 okX9_one mlX9_93 imX9_one slX9_one (Or.inl ⟨9, _, _, by decide, rfl, rfl, rfl⟩) rfl rfl (Nat.le_of_ble_eq_true rfl) (Nat.le_of_ble_eq_true rfl) (sX9_one (by omega) i 0 (by omega) ?_)
        refine xe_bipush (v := 6) dX9_row_38 rfl ?_
        refine xe_icmp_ne (tgt := 55) dX9_row_40 (by decide) (fun h40 => ?_) (fun h40 => ?_)
        · refine xe_bipush (v := -3) dX9_row_55 rfl ?_
          refine xe_iret dX9_row_57 rfl rfl ?_
          rw [Nat.add_zero] at h40
          have c := (xb_ne0 hr23).mp h26
          first | (rw [rowV, rowG, if_pos ⟨hn ▸ cp, ct⟩, if_pos c, ei, eu, if_neg h40, if_neg (fun z => h40 z.2.2), xsA_self] at h; exact h) | (rw [rowV, rowG, if_pos ⟨hn ▸ cp, ct⟩, if_pos c, ei, eu, if_pos h40, if_pos ⟨⟨hn ▸ cp, ct⟩, c, h40⟩] at h; exact h)
        · refine xe_aload_n dX9_row_43 rfl ?_
          refine xe_iload_n dX9_row_44 rfl ?_
          refine xe_iconst (v := 5) dX9_row_45 rfl ?_
          refine xe_iload_n dX9_row_46 rfl ?_
          refine xe_iadd dX9_row_47 ?_
          refine xe_top (x2 := nI (5 + u)) (by rw [show (5 : Int32) = nI 5 from rfl, nI_add]) ?_
          refine xe_iload_n dX9_row_48 rfl ?_
          refine xe_callv (k2 := kX9_change) (vs := [_, _, _]) dX9_row_49 okX9_change mlX9_97 imX9_change slX9_change (Or.inl ⟨9, _, _, by decide, rfl, rfl, rfl⟩) rfl rfl (Nat.le_of_ble_eq_true rfl) (Nat.le_of_ble_eq_true rfl) (sX9_change (by omega) i (5 + u) m (by omega) ?_)
          refine xe_goto (tgt := 57) dX9_row_52 (by decide) ?_
          refine xe_iret dX9_row_57 rfl rfl ?_
          rw [Nat.add_zero] at h40
          have c := (xb_ne0 hr23).mp h26
          first | (rw [rowV, rowG, if_pos ⟨hn ▸ cp, ct⟩, if_pos c, ei, eu, if_neg h40, if_neg (fun z => h40 z.2.2), xsA_self] at h; exact h) | (rw [rowV, rowG, if_pos ⟨hn ▸ cp, ct⟩, if_pos c, ei, eu, if_pos h40, if_pos ⟨⟨hn ▸ cp, ct⟩, c, h40⟩] at h; exact h)
      · refine xe_bipush (v := -2) dX9_row_29 rfl ?_
        refine xe_iret dX9_row_31 rfl rfl ?_
        have c := (xb_eq0 hr23).mp h26
        rw [rowV, rowG, if_pos ⟨hn ▸ cp, ct⟩, if_neg c, if_neg (fun z => c z.2.1), xsA_self] at h; exact h
    · refine xe_iconst (v := -1) dX9_row_17 rfl ?_
      refine xe_iret dX9_row_18 rfl rfl ?_
      have c : ¬ (pOk (σ.2.1 116 54) p ∧ rng t 0 3) := by first | exact fun z => (xb_eq0 hr2).mp h5 (hn ▸ z.1) | exact fun z => (xb_eq0 hr11).mp h14 z.2
      rw [rowV, rowG, if_neg c, if_neg (fun z => c z.1), xsA_self] at h; exact h

theorem sX9_feed {d : Nat} (hd : 1 ≤ d) {σ : xSt} {Post : Option Value → xSt → Prop} (t : Nat) (s : Int32) (ht : σ.1 115 5 = nI t) (h1 : t ≤ 100) (h : Post (some (.int (feedV (nI t) s))) (if rng s 0 127 ∧ t < 100 then xsF (xsA σ 119 (upd (σ.2.1 119) t s)) 115 5 (nI (t + 1)) else σ)) : xM kX9_feed d [.ref 115, .int s] σ Post := by
  obtain ⟨d, rfl⟩ : ∃ e, d = e + 1 := ⟨d - 1, by omega⟩
  refine xM_start (lv := [some (.ref 115), some (.int s)]) rfl ?_
  refine xe_iload_n dX9_feed_0 rfl ?_
  refine xe_iconst (v := 0) dX9_feed_1 rfl ?_
  refine xe_bipush (v := 127) dX9_feed_2 rfl ?_
  refine xe_calls (k2 := kX9_isIn) (vs := [_, _, _]) dX9_feed_4 okX9_isIn mlX9_89 stX9_isIn rfl rfl (Nat.le_of_ble_eq_true rfl) (Nat.le_of_ble_eq_true rfl) (sX9_isIn (by omega) _ _ _ (fun r4 hr4 => ?_))
  refine xe_if_ne (tgt := 13) dX9_feed_7 (by decide) (fun h7 => ?_) (fun h7 => ?_)
  · refine xe_aload_n dX9_feed_13 rfl ?_
    refine xe_getf dX9_feed_14 flX9_132 (by decide) rfl rfl ?_
    refine xe_bipush (v := 100) dX9_feed_17 rfl ?_
    refine xe_icmp_ne (tgt := 25) dX9_feed_19 (by decide) (fun h19 => ?_) (fun h19 => ?_)
    · refine xe_aload_n dX9_feed_25 rfl ?_
      refine xe_getr dX9_feed_26 flX9_21 (by decide) rfl rfl ?_
      refine xe_aload_n dX9_feed_29 rfl ?_
      refine xe_getf dX9_feed_30 flX9_132 (by decide) rfl rfl ?_
      refine xe_iload_n dX9_feed_33 rfl ?_
      refine xn_iastore (j := t) dX9_feed_34 (by decide) rfl ht (by have : ¬ t = 100 := (fun z => h19 (by rw [ht, z]; rfl)); omega) (by decide) ?_
      refine xe_aload_n dX9_feed_35 rfl ?_
      refine xe_dup dX9_feed_36 rfl ?_
      refine xe_getf dX9_feed_37 flX9_132 (by decide) rfl rfl ?_
      refine xe_iconst (v := 1) dX9_feed_40 rfl ?_
      refine xe_iadd dX9_feed_41 ?_
      refine xe_putf dX9_feed_42 flX9_132 (by decide) rfl rfl rfl rfl ?_
      refine xe_aload_n dX9_feed_45 rfl ?_
      refine xe_getf dX9_feed_46 flX9_132 (by decide) rfl rfl ?_
      refine xe_iret dX9_feed_49 rfl rfl ?_
      have c := (xb_ne0 hr4).mp h7
      have e : ¬ t = 100 := (fun z => h19 (by rw [ht, z]; rfl))
      rw [feedV, if_pos c, if_neg (show ¬ nI t = 100 from fun z => e (nEq (b := 100) (by omega) (by omega) z)), if_pos ⟨c, by omega⟩, nI_1] at h
      rw [xsF_get, xsA_1, ht, nI_1]; exact h
    · refine xe_bipush (v := -4) dX9_feed_22 rfl ?_
      refine xe_iret dX9_feed_24 rfl rfl ?_
      have c := (xb_ne0 hr4).mp h7
      have e : t = 100 := nEq (b := 100) (by omega) (by omega) (ht ▸ h19)
      subst e
      rw [feedV, if_pos c, if_pos (show nI 100 = 100 from rfl), if_neg (fun z => absurd z.2 (by omega))] at h; exact h
  · refine xe_bipush (v := -2) dX9_feed_10 rfl ?_
    refine xe_iret dX9_feed_12 rfl rfl ?_
    have c := (xb_eq0 hr4).mp h7
    rw [feedV, if_neg c, if_neg (fun z => c z.1)] at h; exact h

theorem sX9_opens {d : Nat} (hd : 2 ≤ d) {σ : xSt} {Post : Option Value → xSt → Prop} (i : Nat) (hi : i < 6) (h : Post none (xsA σ 116 (opG (σ.2.1 116) i))) : xM kX9_opens d [.ref 115, .int (nI i)] σ Post := by
  obtain ⟨d, rfl⟩ : ∃ e, d = e + 1 := ⟨d - 1, by omega⟩
  refine xM_start (lv := [some (.ref 115), some (.int (nI i))]) rfl ?_
  refine xe_aload_n dX9_opens_0 rfl ?_
  refine xe_iload_n dX9_opens_1 rfl ?_
  refine xe_iconst (v := 4) dX9_opens_2 rfl ?_
  refine xe_bipush (v := 9) dX9_opens_3 rfl ?_
  refine xe_aload_n dX9_opens_5 rfl ?_
  refine xe_iload_n dX9_opens_6 rfl ?_
  refine xe_iconst (v := 4) dX9_opens_7 rfl ?_
  refine xe_callv (k2 := kX9_one) (vs := [_, _]) dX9_opens_8 okX9_one mlX9_93 imX9_one slX9_one (Or.inl ⟨9, _, _, by decide, rfl, rfl, rfl⟩) rfl rfl (Nat.le_of_ble_eq_true rfl) (Nat.le_of_ble_eq_true rfl) (sX9_one (by omega) i 4 (by omega) ?_)
  refine xe_iconst (v := 1) dX9_opens_11 rfl ?_
  refine xe_iadd dX9_opens_12 ?_
  refine xe_mmin dX9_opens_13 mlX9_120 (by omega) (Nat.le_of_ble_eq_true rfl) ?_
  refine xe_callv (k2 := kX9_change) (vs := [_, _, _]) dX9_opens_16 okX9_change mlX9_97 imX9_change slX9_change (Or.inl ⟨9, _, _, by decide, rfl, rfl, rfl⟩) rfl rfl (Nat.le_of_ble_eq_true rfl) (Nat.le_of_ble_eq_true rfl) (sX9_change (by omega) i 4 _ (by omega) ?_)
  refine xe_pop dX9_opens_19 rfl ?_
  refine xe_aload_n dX9_opens_20 rfl ?_
  refine xe_iload_n dX9_opens_21 rfl ?_
  refine xe_iconst (v := 2) dX9_opens_22 rfl ?_
  refine xe_iconst (v := 0) dX9_opens_23 rfl ?_
  refine xe_aload_n dX9_opens_24 rfl ?_
  refine xe_iload_n dX9_opens_25 rfl ?_
  refine xe_iconst (v := 2) dX9_opens_26 rfl ?_
  refine xe_callv (k2 := kX9_one) (vs := [_, _]) dX9_opens_27 okX9_one mlX9_93 imX9_one slX9_one (Or.inl ⟨9, _, _, by decide, rfl, rfl, rfl⟩) rfl rfl (Nat.le_of_ble_eq_true rfl) (Nat.le_of_ble_eq_true rfl) (sX9_one (by omega) i 2 (by omega) ?_)
  refine xe_iconst (v := 1) dX9_opens_30 rfl ?_
  refine xe_isub dX9_opens_31 ?_
  refine xe_mmax dX9_opens_32 mlX9_125 (by omega) (Nat.le_of_ble_eq_true rfl) ?_
  refine xe_callv (k2 := kX9_change) (vs := [_, _, _]) dX9_opens_35 okX9_change mlX9_97 imX9_change slX9_change (Or.inl ⟨9, _, _, by decide, rfl, rfl, rfl⟩) rfl rfl (Nat.le_of_ble_eq_true rfl) (Nat.le_of_ble_eq_true rfl) (sX9_change (by omega) i 2 _ (by omega) ?_)
  refine xe_pop dX9_opens_38 rfl ?_
  simp only [xsA_get, xsA_A]
  refine xe_vret dX9_opens_39 rfl ?_
  have e : upd (σ.2.1 116) (9 * i + 4) (if σ.2.1 116 (9 * i + 4) + 1 < 9 then σ.2.1 116 (9 * i + 4) + 1 else 9) (9 * i + 2) = σ.2.1 116 (9 * i + 2) := by simp [upd]
  rw [e]; exact h
