theorem tkN_succ (kp : Int32) (G : Nat → Int32) (j : Nat) : tkN kp G (j + 1) = upd (upd (tkN kp G j) (9 * j + 3) (tkN kp G j (9 * j + 3) + 1)) (9 * j + 2) (mnI 9 (tkN kp G j (9 * j + 2) + (if 0 < kp ∧ tkN kp G j (9 * j + 3) + 1 - (tkN kp G j (9 * j + 3) + 1) / kp * kp = 0 then 1 else 0))) := rfl
def kpM (σ : xSt) : Int32 := (mSem σ (nmO 0 (pV (σ.2.1 116) 0) 0)).2
theorem KM.set {σ σ2 : xSt} {c : Nat} {g : Nat → Int32} (h : KM σ σ2) (hc : ¬ mSc c) : KM (xsA σ c g) (xsA σ2 c g) := by
  refine ⟨fun x hx => ?_, h.2.1, h.2.2.1, h.2.2.2⟩
  by_cases e : x = c
  · subst e; rw [xsA_get, xsA_get]
  · rw [xsA_ne e, xsA_ne e]; exact h.1 x hx

theorem lX9_term {d : Nat} (hd : 1 ≤ d) {σ : xSt} {Post : Option Value → xSt → Prop} (G : Nat → Int32) (kp : Int32) (n : Nat) (hn : G 54 = nI n) (h6 : n ≤ 6) (h : Post none (xsA σ 116 (tkG kp n G))) : ∀ (m j : Nat) (v3 : Option Value), n + 1 ≤ j + m → j ≤ n → xEv kX9_term (d + 1) 7 [some (.ref 115), some (.int kp), some (.int (nI j)), v3] [] (xsA σ 116 (tkN kp G j)) Post := by
  intro m
  induction m with
  | zero => intro j v3 hm hj; omega
  | succ m ih =>
    intro j v3 hm hj
    refine xe_iload_n dX9_term_7 rfl ?_
    refine xe_aload_n dX9_term_8 rfl ?_
    refine xe_getr dX9_term_9 flX9_9 (by decide) rfl rfl ?_
    refine xe_bipush (v := 54) dX9_term_12 rfl ?_
    refine xn_iaload dX9_term_14 (by decide) rfl (by first | with_reducible rfl | (simp only [xl, pk_mul, nI_add, nI_1]; done) | (simp only [xl, pk_mul, nI_add, nI_1]; rfl)) (by omega) (by decide) ?_
    rw [xsA_get, tkN_out j 54 (by omega), hn]
    refine xe_icmp_ge (tgt := 88) dX9_term_15 (by decide) (fun h15 => ?_) (fun h15 => ?_)
    · have e := nLe (a := n) (by omega) (by omega) h15
      obtain rfl : j = n := by omega
      refine xe_aload_n dX9_term_88 rfl ?_
      refine xe_getr dX9_term_89 flX9_9 (by decide) rfl rfl ?_
      refine xe_bipush (v := 56) dX9_term_92 rfl ?_
      refine xe_dup2 dX9_term_94 rfl rfl ?_
      refine xn_iaload (j := 56) dX9_term_95 (by decide) rfl rfl (by omega) (by decide) ?_
      rw [xsA_get, tkN_out j 56 (by omega)]
      refine xe_iconst (v := 1) dX9_term_96 rfl ?_
      refine xe_iadd dX9_term_97 ?_
      refine xn_iastore dX9_term_98 (by decide) rfl (by first | with_reducible rfl | (simp only [xl, pk_mul, nI_add, nI_1]; done) | (simp only [xl, pk_mul, nI_add, nI_1]; rfl)) (by omega) (by decide) ?_
      refine xe_vret dX9_term_99 rfl ?_
      rw [xsA_A]
      exact h
    · have e := nNle (a := n) (by omega) (by omega) h15
      refine xe_aload_n dX9_term_18 rfl ?_
      refine xe_iload_n dX9_term_19 rfl ?_
      refine xe_iconst (v := 3) dX9_term_20 rfl ?_
      refine xe_aload_n dX9_term_21 rfl ?_
      refine xe_iload_n dX9_term_22 rfl ?_
      refine xe_iconst (v := 3) dX9_term_23 rfl ?_
      refine xe_callv (k2 := kX9_one) (vs := [_, _]) dX9_term_24 okX9_one mlX9_93 imX9_one slX9_one (Or.inl ⟨9, _, _, by decide, rfl, rfl, rfl⟩) rfl rfl (Nat.le_of_ble_eq_true rfl) (Nat.le_of_ble_eq_true rfl) (sX9_one (by omega) j 3 (by omega) ?_)
      rw [xsA_get]
      refine xe_iconst (v := 1) dX9_term_27 rfl ?_
      refine xe_iadd dX9_term_28 ?_
      refine xe_callv (k2 := kX9_change) (vs := [_, _, _]) dX9_term_29 okX9_change mlX9_97 imX9_change slX9_change (Or.inl ⟨9, _, _, by decide, rfl, rfl, rfl⟩) rfl rfl (Nat.le_of_ble_eq_true rfl) (Nat.le_of_ble_eq_true rfl) (sX9_change (by omega) j 3 _ (by omega) ?_)
      refine xe_pop dX9_term_32 rfl ?_
      simp only [xsA_get, xsA_A]
      refine xe_iload_n dX9_term_33 rfl ?_
      refine xe_if_le (tgt := 52) dX9_term_34 (by decide) (fun h34 => ?_) (fun h34 => ?_)
      · refine xe_iconst (v := 0) dX9_term_52 rfl ?_
        refine xe_istore_n (lv2 := [_, _, _, _]) dX9_term_53 (by decide) rfl ?_
        refine xe_aload_n dX9_term_54 rfl ?_
        refine xe_iload_n dX9_term_55 rfl ?_
        refine xe_iconst (v := 2) dX9_term_56 rfl ?_
        refine xe_bipush (v := 9) dX9_term_57 rfl ?_
        refine xe_aload_n dX9_term_59 rfl ?_
        refine xe_iload_n dX9_term_60 rfl ?_
        refine xe_iconst (v := 2) dX9_term_61 rfl ?_
        refine xe_callv (k2 := kX9_one) (vs := [_, _]) dX9_term_62 okX9_one mlX9_93 imX9_one slX9_one (Or.inl ⟨9, _, _, by decide, rfl, rfl, rfl⟩) rfl rfl (Nat.le_of_ble_eq_true rfl) (Nat.le_of_ble_eq_true rfl) (sX9_one (by omega) j 2 (by omega) ?_)
        have q2 : upd (tkN kp G j) (9 * j + 3) (tkN kp G j (9 * j + 3) + 1) (9 * j + 2) = tkN kp G j (9 * j + 2) := by simp [upd]
        rw [xsA_get, q2]
        refine xe_iload_n dX9_term_65 rfl ?_
        refine xe_if_eq (tgt := 73) dX9_term_66 (by decide) (fun h66 => ?_) (fun h66 => ?_)
        · first
          | exact absurd h66 (by decide)
          | skip
            refine xe_iconst (v := 0) dX9_term_73 rfl ?_
            refine xe_iadd dX9_term_74 ?_
            refine xe_mmin dX9_term_75 mlX9_120 (by omega) (Nat.le_of_ble_eq_true rfl) ?_
            refine xe_callv (k2 := kX9_change) (vs := [_, _, _]) dX9_term_78 okX9_change mlX9_97 imX9_change slX9_change (Or.inl ⟨9, _, _, by decide, rfl, rfl, rfl⟩) rfl rfl (Nat.le_of_ble_eq_true rfl) (Nat.le_of_ble_eq_true rfl) (sX9_change (by omega) j 2 _ (by omega) ?_)
            refine xe_pop dX9_term_81 rfl ?_
            simp only [xsA_get, xsA_A]
            refine xn_inc (j := j) (lv2 := [_, _, _, _]) dX9_term_82 (by decide) rfl rfl ?_
            refine xe_goto (tgt := 7) dX9_term_85 (by decide) ?_
            refine xe_st ?_ (ih (j + 1) _ (by omega) (by omega))
            congr 1
            rw [tkN_succ]
            congr 1
            unfold mnI
            first
            | (rw [if_pos (c := (0 < kp ∧ tkN kp G j (9 * j + 3) + 1 - (tkN kp G j (9 * j + 3) + 1) / kp * kp = 0)) ⟨Int32.not_le.mp h34, h45⟩])
            | (rw [if_neg (c := (0 < kp ∧ tkN kp G j (9 * j + 3) + 1 - (tkN kp G j (9 * j + 3) + 1) / kp * kp = 0)) (fun z => h45 z.2)])
            | (rw [if_neg (c := (0 < kp ∧ tkN kp G j (9 * j + 3) + 1 - (tkN kp G j (9 * j + 3) + 1) / kp * kp = 0)) (fun z => Int32.not_le.mpr z.1 h34)])
        · first
          | exact absurd h66 (by decide)
          | skip
            refine xe_iconst (v := 1) dX9_term_69 rfl ?_
            refine xe_goto (tgt := 74) dX9_term_70 (by decide) ?_
            refine xe_iadd dX9_term_74 ?_
            refine xe_mmin dX9_term_75 mlX9_120 (by omega) (Nat.le_of_ble_eq_true rfl) ?_
            refine xe_callv (k2 := kX9_change) (vs := [_, _, _]) dX9_term_78 okX9_change mlX9_97 imX9_change slX9_change (Or.inl ⟨9, _, _, by decide, rfl, rfl, rfl⟩) rfl rfl (Nat.le_of_ble_eq_true rfl) (Nat.le_of_ble_eq_true rfl) (sX9_change (by omega) j 2 _ (by omega) ?_)
            refine xe_pop dX9_term_81 rfl ?_
            simp only [xsA_get, xsA_A]
            refine xn_inc (j := j) (lv2 := [_, _, _, _]) dX9_term_82 (by decide) rfl rfl ?_
            refine xe_goto (tgt := 7) dX9_term_85 (by decide) ?_
            refine xe_st ?_ (ih (j + 1) _ (by omega) (by omega))
            congr 1
            rw [tkN_succ]
            congr 1
            unfold mnI
            first
            | (rw [if_pos (c := (0 < kp ∧ tkN kp G j (9 * j + 3) + 1 - (tkN kp G j (9 * j + 3) + 1) / kp * kp = 0)) ⟨Int32.not_le.mp h34, h45⟩])
            | (rw [if_neg (c := (0 < kp ∧ tkN kp G j (9 * j + 3) + 1 - (tkN kp G j (9 * j + 3) + 1) / kp * kp = 0)) (fun z => h45 z.2)])
            | (rw [if_neg (c := (0 < kp ∧ tkN kp G j (9 * j + 3) + 1 - (tkN kp G j (9 * j + 3) + 1) / kp * kp = 0)) (fun z => Int32.not_le.mpr z.1 h34)])
      · refine xe_aload_n dX9_term_37 rfl ?_
        refine xe_iload_n dX9_term_38 rfl ?_
        refine xe_iconst (v := 3) dX9_term_39 rfl ?_
        refine xe_callv (k2 := kX9_one) (vs := [_, _]) dX9_term_40 okX9_one mlX9_93 imX9_one slX9_one (Or.inl ⟨9, _, _, by decide, rfl, rfl, rfl⟩) rfl rfl (Nat.le_of_ble_eq_true rfl) (Nat.le_of_ble_eq_true rfl) (sX9_one (by omega) j 3 (by omega) ?_)
        refine xe_iload_n dX9_term_43 rfl ?_
        refine xe_irem dX9_term_44 (fun z => h34 (by rw [z]; decide)) ?_
        have q3 : upd (tkN kp G j) (9 * j + 3) (tkN kp G j (9 * j + 3) + 1) (9 * j + 3) = tkN kp G j (9 * j + 3) + 1 := by simp [upd]
        rw [xsA_get, q3]
        refine xe_if_ne (tgt := 52) dX9_term_45 (by decide) (fun h45 => ?_) (fun h45 => ?_)
        · refine xe_iconst (v := 0) dX9_term_52 rfl ?_
          refine xe_istore_n (lv2 := [_, _, _, _]) dX9_term_53 (by decide) rfl ?_
          refine xe_aload_n dX9_term_54 rfl ?_
          refine xe_iload_n dX9_term_55 rfl ?_
          refine xe_iconst (v := 2) dX9_term_56 rfl ?_
          refine xe_bipush (v := 9) dX9_term_57 rfl ?_
          refine xe_aload_n dX9_term_59 rfl ?_
          refine xe_iload_n dX9_term_60 rfl ?_
          refine xe_iconst (v := 2) dX9_term_61 rfl ?_
          refine xe_callv (k2 := kX9_one) (vs := [_, _]) dX9_term_62 okX9_one mlX9_93 imX9_one slX9_one (Or.inl ⟨9, _, _, by decide, rfl, rfl, rfl⟩) rfl rfl (Nat.le_of_ble_eq_true rfl) (Nat.le_of_ble_eq_true rfl) (sX9_one (by omega) j 2 (by omega) ?_)
          have q2 : upd (tkN kp G j) (9 * j + 3) (tkN kp G j (9 * j + 3) + 1) (9 * j + 2) = tkN kp G j (9 * j + 2) := by simp [upd]
          rw [xsA_get, q2]
          refine xe_iload_n dX9_term_65 rfl ?_
          refine xe_if_eq (tgt := 73) dX9_term_66 (by decide) (fun h66 => ?_) (fun h66 => ?_)
          · first
            | exact absurd h66 (by decide)
            | skip
              refine xe_iconst (v := 0) dX9_term_73 rfl ?_
              refine xe_iadd dX9_term_74 ?_
              refine xe_mmin dX9_term_75 mlX9_120 (by omega) (Nat.le_of_ble_eq_true rfl) ?_
              refine xe_callv (k2 := kX9_change) (vs := [_, _, _]) dX9_term_78 okX9_change mlX9_97 imX9_change slX9_change (Or.inl ⟨9, _, _, by decide, rfl, rfl, rfl⟩) rfl rfl (Nat.le_of_ble_eq_true rfl) (Nat.le_of_ble_eq_true rfl) (sX9_change (by omega) j 2 _ (by omega) ?_)
              refine xe_pop dX9_term_81 rfl ?_
              simp only [xsA_get, xsA_A]
              refine xn_inc (j := j) (lv2 := [_, _, _, _]) dX9_term_82 (by decide) rfl rfl ?_
              refine xe_goto (tgt := 7) dX9_term_85 (by decide) ?_
              refine xe_st ?_ (ih (j + 1) _ (by omega) (by omega))
              congr 1
              rw [tkN_succ]
              congr 1
              unfold mnI
              first
              | (rw [if_pos (c := (0 < kp ∧ tkN kp G j (9 * j + 3) + 1 - (tkN kp G j (9 * j + 3) + 1) / kp * kp = 0)) ⟨Int32.not_le.mp h34, h45⟩])
              | (rw [if_neg (c := (0 < kp ∧ tkN kp G j (9 * j + 3) + 1 - (tkN kp G j (9 * j + 3) + 1) / kp * kp = 0)) (fun z => h45 z.2)])
              | (rw [if_neg (c := (0 < kp ∧ tkN kp G j (9 * j + 3) + 1 - (tkN kp G j (9 * j + 3) + 1) / kp * kp = 0)) (fun z => Int32.not_le.mpr z.1 h34)])
          · first
            | exact absurd h66 (by decide)
            | skip
              refine xe_iconst (v := 1) dX9_term_69 rfl ?_
              refine xe_goto (tgt := 74) dX9_term_70 (by decide) ?_
              refine xe_iadd dX9_term_74 ?_
              refine xe_mmin dX9_term_75 mlX9_120 (by omega) (Nat.le_of_ble_eq_true rfl) ?_
              refine xe_callv (k2 := kX9_change) (vs := [_, _, _]) dX9_term_78 okX9_change mlX9_97 imX9_change slX9_change (Or.inl ⟨9, _, _, by decide, rfl, rfl, rfl⟩) rfl rfl (Nat.le_of_ble_eq_true rfl) (Nat.le_of_ble_eq_true rfl) (sX9_change (by omega) j 2 _ (by omega) ?_)
              refine xe_pop dX9_term_81 rfl ?_
              simp only [xsA_get, xsA_A]
              refine xn_inc (j := j) (lv2 := [_, _, _, _]) dX9_term_82 (by decide) rfl rfl ?_
              refine xe_goto (tgt := 7) dX9_term_85 (by decide) ?_
              refine xe_st ?_ (ih (j + 1) _ (by omega) (by omega))
              congr 1
              rw [tkN_succ]
              congr 1
              unfold mnI
              first
              | (rw [if_pos (c := (0 < kp ∧ tkN kp G j (9 * j + 3) + 1 - (tkN kp G j (9 * j + 3) + 1) / kp * kp = 0)) ⟨Int32.not_le.mp h34, h45⟩])
              | (rw [if_neg (c := (0 < kp ∧ tkN kp G j (9 * j + 3) + 1 - (tkN kp G j (9 * j + 3) + 1) / kp * kp = 0)) (fun z => h45 z.2)])
              | (rw [if_neg (c := (0 < kp ∧ tkN kp G j (9 * j + 3) + 1 - (tkN kp G j (9 * j + 3) + 1) / kp * kp = 0)) (fun z => Int32.not_le.mpr z.1 h34)])
        · refine xe_iconst (v := 1) dX9_term_48 rfl ?_
          refine xe_goto (tgt := 53) dX9_term_49 (by decide) ?_
          refine xe_istore_n (lv2 := [_, _, _, _]) dX9_term_53 (by decide) rfl ?_
          refine xe_aload_n dX9_term_54 rfl ?_
          refine xe_iload_n dX9_term_55 rfl ?_
          refine xe_iconst (v := 2) dX9_term_56 rfl ?_
          refine xe_bipush (v := 9) dX9_term_57 rfl ?_
          refine xe_aload_n dX9_term_59 rfl ?_
          refine xe_iload_n dX9_term_60 rfl ?_
          refine xe_iconst (v := 2) dX9_term_61 rfl ?_
          refine xe_callv (k2 := kX9_one) (vs := [_, _]) dX9_term_62 okX9_one mlX9_93 imX9_one slX9_one (Or.inl ⟨9, _, _, by decide, rfl, rfl, rfl⟩) rfl rfl (Nat.le_of_ble_eq_true rfl) (Nat.le_of_ble_eq_true rfl) (sX9_one (by omega) j 2 (by omega) ?_)
          have q2 : upd (tkN kp G j) (9 * j + 3) (tkN kp G j (9 * j + 3) + 1) (9 * j + 2) = tkN kp G j (9 * j + 2) := by simp [upd]
          rw [xsA_get, q2]
          refine xe_iload_n dX9_term_65 rfl ?_
          refine xe_if_eq (tgt := 73) dX9_term_66 (by decide) (fun h66 => ?_) (fun h66 => ?_)
          · first
            | exact absurd h66 (by decide)
            | skip
              refine xe_iconst (v := 0) dX9_term_73 rfl ?_
              refine xe_iadd dX9_term_74 ?_
              refine xe_mmin dX9_term_75 mlX9_120 (by omega) (Nat.le_of_ble_eq_true rfl) ?_
              refine xe_callv (k2 := kX9_change) (vs := [_, _, _]) dX9_term_78 okX9_change mlX9_97 imX9_change slX9_change (Or.inl ⟨9, _, _, by decide, rfl, rfl, rfl⟩) rfl rfl (Nat.le_of_ble_eq_true rfl) (Nat.le_of_ble_eq_true rfl) (sX9_change (by omega) j 2 _ (by omega) ?_)
              refine xe_pop dX9_term_81 rfl ?_
              simp only [xsA_get, xsA_A]
              refine xn_inc (j := j) (lv2 := [_, _, _, _]) dX9_term_82 (by decide) rfl rfl ?_
              refine xe_goto (tgt := 7) dX9_term_85 (by decide) ?_
              refine xe_st ?_ (ih (j + 1) _ (by omega) (by omega))
              congr 1
              rw [tkN_succ]
              congr 1
              unfold mnI
              first
              | (rw [if_pos (c := (0 < kp ∧ tkN kp G j (9 * j + 3) + 1 - (tkN kp G j (9 * j + 3) + 1) / kp * kp = 0)) ⟨Int32.not_le.mp h34, h45⟩])
              | (rw [if_neg (c := (0 < kp ∧ tkN kp G j (9 * j + 3) + 1 - (tkN kp G j (9 * j + 3) + 1) / kp * kp = 0)) (fun z => h45 z.2)])
              | (rw [if_neg (c := (0 < kp ∧ tkN kp G j (9 * j + 3) + 1 - (tkN kp G j (9 * j + 3) + 1) / kp * kp = 0)) (fun z => Int32.not_le.mpr z.1 h34)])
          · first
            | exact absurd h66 (by decide)
            | skip
              refine xe_iconst (v := 1) dX9_term_69 rfl ?_
              refine xe_goto (tgt := 74) dX9_term_70 (by decide) ?_
              refine xe_iadd dX9_term_74 ?_
              refine xe_mmin dX9_term_75 mlX9_120 (by omega) (Nat.le_of_ble_eq_true rfl) ?_
              refine xe_callv (k2 := kX9_change) (vs := [_, _, _]) dX9_term_78 okX9_change mlX9_97 imX9_change slX9_change (Or.inl ⟨9, _, _, by decide, rfl, rfl, rfl⟩) rfl rfl (Nat.le_of_ble_eq_true rfl) (Nat.le_of_ble_eq_true rfl) (sX9_change (by omega) j 2 _ (by omega) ?_)
              refine xe_pop dX9_term_81 rfl ?_
              simp only [xsA_get, xsA_A]
              refine xn_inc (j := j) (lv2 := [_, _, _, _]) dX9_term_82 (by decide) rfl rfl ?_
              refine xe_goto (tgt := 7) dX9_term_85 (by decide) ?_
              refine xe_st ?_ (ih (j + 1) _ (by omega) (by omega))
              congr 1
              rw [tkN_succ]
              congr 1
              unfold mnI
              first
              | (rw [if_pos (c := (0 < kp ∧ tkN kp G j (9 * j + 3) + 1 - (tkN kp G j (9 * j + 3) + 1) / kp * kp = 0)) ⟨Int32.not_le.mp h34, h45⟩])
              | (rw [if_neg (c := (0 < kp ∧ tkN kp G j (9 * j + 3) + 1 - (tkN kp G j (9 * j + 3) + 1) / kp * kp = 0)) (fun z => h45 z.2)])
              | (rw [if_neg (c := (0 < kp ∧ tkN kp G j (9 * j + 3) + 1 - (tkN kp G j (9 * j + 3) + 1) / kp * kp = 0)) (fun z => Int32.not_le.mpr z.1 h34)])

theorem sX9_term {d : Nat} (hd : 22 ≤ d) {σ : xSt} {Post : Option Value → xSt → Prop} (n : Nat) (hn : σ.2.1 116 54 = nI n) (h6 : n ≤ 6) (hM : MCo σ) (hR : RUo σ) (h : ∀ σ2, KM (xsA σ 116 (tkG (kpM σ) n (σ.2.1 116))) σ2 → Post none σ2) : xM kX9_term d [.ref 115] σ Post := by
  obtain ⟨d, rfl⟩ : ∃ e, d = e + 1 := ⟨d - 1, by omega⟩
  refine xM_start (lv := [some (.ref 115), none, none, none]) rfl ?_
  refine xe_aload_n dX9_term_0 rfl ?_
  refine xe_callv (k2 := kX9_keepNow) (vs := []) dX9_term_1 okX9_keepNow mlX9_196 imX9_keepNow slX9_keepNow (Or.inl ⟨9, _, _, by decide, rfl, rfl, rfl⟩) rfl rfl (Nat.le_of_ble_eq_true rfl) (Nat.le_of_ble_eq_true rfl) (sX9_keepNow (by omega) hM hR (fun σ2 k2 => ?_))
  refine xe_istore_n (lv2 := [_, _, _, _]) dX9_term_4 (by decide) rfl ?_
  refine xe_iconst (v := 0) dX9_term_5 rfl ?_
  refine xe_istore_n (lv2 := [_, _, _, _]) dX9_term_6 (by decide) rfl ?_
  have hG : σ2.2.1 116 = σ.2.1 116 := k2.1 116 (by omega)
  refine xe_st (σ2 := xsA σ2 116 (tkN (kpM σ) (σ2.2.1 116) 0)) (by show σ2 = xsA σ2 116 (σ2.2.1 116); rw [xsA_self]) ?_
  refine lX9_term (by omega) (σ2.2.1 116) (kpM σ) n (hG ▸ hn) h6 ?_ (n + 1) 0 none (by omega) (by omega)
  rw [hG]
  exact h _ (k2.set (by omega))

theorem lX9_all {d : Nat} {σ : xSt} {Post : Option Value → xSt → Prop} (w : Nat) (hw : w < 9) (c : Nat) (hc : σ.2.1 116 54 = nI c) (h6 : c ≤ 6) (h : Post (some (.int (iS (fun i => σ.2.1 116 (9 * i + w)) c))) σ) : ∀ (n j : Nat), c + 1 ≤ j + n → j ≤ c → xEv kX9_all (d + 1) 4 [some (.ref 115), some (.int (nI w)), some (.int (iS (fun i => σ.2.1 116 (9 * i + w)) j)), some (.int (nI j))] [] σ Post := by
  intro n
  induction n with
  | zero => intro j hn hj; omega
  | succ n ih =>
    intro j hn hj
    refine xe_iload_n dX9_all_4 rfl ?_
    refine xe_aload_n dX9_all_5 rfl ?_
    refine xe_getr dX9_all_6 flX9_9 (by decide) rfl rfl ?_
    refine xe_bipush (v := 54) dX9_all_9 rfl ?_
    refine xn_iaload dX9_all_11 (by decide) rfl (by first | with_reducible rfl | (simp only [xl, pk_mul, nI_add, nI_1]; done) | (simp only [xl, pk_mul, nI_add, nI_1]; rfl)) (by omega) (by decide) ?_
    rw [hc]
    refine xe_icmp_ge (tgt := 30) dX9_all_12 (by decide) (fun h12 => ?_) (fun h12 => ?_)
    · refine xe_iload_n dX9_all_30 rfl ?_
      refine xe_iret dX9_all_31 rfl rfl ?_
      have e := nLe (a := c) (by omega) (by omega) h12
      rw [show j = c by omega]
      exact h
    · have e := nNle (a := c) (by omega) (by omega) h12
      refine xe_iload_n dX9_all_15 rfl ?_
      refine xe_aload_n dX9_all_16 rfl ?_
      refine xe_iload_n dX9_all_17 rfl ?_
      refine xe_iload_n dX9_all_18 rfl ?_
      refine xe_callv (k2 := kX9_one) (vs := [_, _]) dX9_all_19 okX9_one mlX9_93 imX9_one slX9_one (Or.inl ⟨9, _, _, by decide, rfl, rfl, rfl⟩) rfl rfl (Nat.le_of_ble_eq_true rfl) (Nat.le_of_ble_eq_true rfl) (sX9_one (by omega) j w (by omega) ?_)
      refine xe_iadd dX9_all_22 ?_
      refine xe_istore_n (lv2 := [_, _, _, _]) dX9_all_23 (by decide) rfl ?_
      refine xn_inc (j := j) (lv2 := [_, _, _, _]) dX9_all_24 (by decide) rfl rfl ?_
      refine xe_goto (tgt := 4) dX9_all_27 (by decide) ?_
      exact ih (j + 1) (by omega) (by omega)

theorem sX9_all {d : Nat} (hd : 1 ≤ d) {σ : xSt} {Post : Option Value → xSt → Prop} (w n : Nat) (hw : w < 9) (hn : σ.2.1 116 54 = nI n) (h6 : n ≤ 6) (h : Post (some (.int (iS (fun i => σ.2.1 116 (9 * i + w)) n))) σ) : xM kX9_all d [.ref 115, .int (nI w)] σ Post := by
  obtain ⟨d, rfl⟩ : ∃ e, d = e + 1 := ⟨d - 1, by omega⟩
  refine xM_start (lv := [some (.ref 115), some (.int (nI w)), none, none]) rfl ?_
  refine xe_iconst (v := 0) dX9_all_0 rfl ?_
  refine xe_istore_n (lv2 := [_, _, _, _]) dX9_all_1 (by decide) rfl ?_
  refine xe_iconst (v := 0) dX9_all_2 rfl ?_
  refine xe_istore_n (lv2 := [_, _, _, _]) dX9_all_3 (by decide) rfl ?_
  exact lX9_all w hw n hn h6 h (n + 1) 0 (by omega) (by omega)
