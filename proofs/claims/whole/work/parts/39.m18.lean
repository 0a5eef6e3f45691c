theorem lX9_isAllSo {d : Nat} (hd : 22 ≤ d) {σ : xSt} {Post : Option Value → xSt → Prop} (hM : MCo σ) (hR : RUo σ) (m : Nat) (hm : σ.2.1 116 58 = nI m) (hm6 : m ≤ 6) (hh : HRo (σ.2.1 116) m) (i : Nat) (hi : i < 6) (h : ∀ τ, KM2 σ τ → Post (some (.int (bI (asR (mSem σ) (σ.2.1 116) i m)))) τ) : ∀ (c j : Nat) (τ : xSt) (v4 v5 : Option Value), m + 1 ≤ j + c → j ≤ m → KM2 σ τ → xEv kX9_isAllSo (d + 1) 4 [some (.ref 115), some (.int (nI i)), some (.int (bI (asR (mSem σ) (σ.2.1 116) i j))), some (.int (nI j)), v4, v5] [] τ Post := by
  intro c
  induction c with
  | zero => intro j τ v4 v5 hc hj; omega
  | succ c ih =>
    intro j τ v4 v5 hc hj kt
    have gt : τ.2.1 116 = σ.2.1 116 := kt.1 116 (by omega)
    refine xe_iload_n dX9_isAllSo_4 rfl ?_
    refine xe_aload_n dX9_isAllSo_5 rfl ?_
    refine xe_getr dX9_isAllSo_6 flX9_9 (by decide) rfl rfl ?_
    refine xe_bipush (v := 58) dX9_isAllSo_9 rfl ?_
    refine xn_iaload dX9_isAllSo_11 (by decide) rfl (by first | with_reducible rfl | (simp only [xl, pk_mul, nI_add, nI_1]; done) | (simp only [xl, pk_mul, nI_add, nI_1]; rfl)) (by omega) (by decide) ?_
    rw [gt, hm]
    refine xe_icmp_ge (tgt := 105) dX9_isAllSo_12 (by decide) (fun h12 => ?_) (fun h12 => ?_)
    · refine xe_iload_n dX9_isAllSo_105 rfl ?_
      refine xe_iret dX9_isAllSo_106 rfl (by first | rfl | decide | assumption | exact bI_nar _ | exact xb_narrow (by assumption)) ?_
      have e := nLe (a := m) (by omega) (by omega) h12
      obtain rfl : j = m := by omega
      exact h τ kt
    · have e := nNle (a := m) (by omega) (by omega) h12
      obtain ⟨⟨p, hp, ep⟩, f, hf, ef⟩ := hh j e
      have ea : asR (mSem σ) (σ.2.1 116) i (j + 1) = (asR (mSem σ) (σ.2.1 116) i j && (decide (¬ σ.2.1 116 (59 + 3 * j) = nI i) || decide (syB (Clr (mSem σ) i (pV (σ.2.1 116) i) f) f (σ.2.1 116 55) = said (σ.2.1 116 (59 + 3 * j + 2))))) := by rw [asR, ef, cN_nI (by omega)]
      rw [said] at ea
      refine xe_bipush (v := 59) dX9_isAllSo_15 rfl ?_
      refine xe_iconst (v := 3) dX9_isAllSo_17 rfl ?_
      refine xe_iload_n dX9_isAllSo_18 rfl ?_
      refine xe_imul dX9_isAllSo_19 ?_
      refine xe_iadd dX9_isAllSo_20 ?_
      refine xe_istore (lv2 := [_, _, _, _, _, _]) dX9_isAllSo_21 (by decide) rfl ?_
      refine xe_aload_n dX9_isAllSo_23 rfl ?_
      refine xe_getr dX9_isAllSo_24 flX9_9 (by decide) rfl rfl ?_
      refine xe_iload dX9_isAllSo_27 rfl ?_
      refine xe_iconst (v := 2) dX9_isAllSo_29 rfl ?_
      refine xe_iadd dX9_isAllSo_30 ?_
      refine xn_iaload (j := 59 + 3 * j + 2) dX9_isAllSo_31 (by decide) rfl (by simp only [xl, pk_mul, nI_add]) (by omega) (by decide) ?_
      rw [gt]
      refine xe_iconst (v := -1) dX9_isAllSo_32 rfl ?_
      refine xe_icmp_ne (tgt := 41) dX9_isAllSo_33 (by decide) (fun h33 => ?_) (fun h33 => ?_)
      · refine xe_aload_n dX9_isAllSo_41 rfl ?_
        refine xe_getr dX9_isAllSo_42 flX9_9 (by decide) rfl rfl ?_
        refine xe_iload dX9_isAllSo_45 rfl ?_
        refine xe_iconst (v := 2) dX9_isAllSo_47 rfl ?_
        refine xe_iadd dX9_isAllSo_48 ?_
        refine xn_iaload (j := 59 + 3 * j + 2) dX9_isAllSo_49 (by decide) rfl (by simp only [xl, pk_mul, nI_add]) (by omega) (by decide) ?_
        rw [gt]
        refine xe_istore (lv2 := [_, _, _, _, _, _]) dX9_isAllSo_50 (by decide) rfl ?_
        refine xe_iload_n dX9_isAllSo_52 rfl ?_
        refine xe_if_eq (tgt := 97) dX9_isAllSo_53 (by decide) (fun h53 => ?_) (fun h53 => ?_)
        · refine xe_iconst (v := 0) dX9_isAllSo_97 rfl ?_
          refine xe_istore_n (lv2 := [_, _, _, _, _, _]) dX9_isAllSo_98 (by decide) rfl ?_
          refine xn_inc (j := j) (lv2 := [_, _, _, _, _, _]) dX9_isAllSo_99 (by decide) rfl rfl ?_
          refine xe_goto (tgt := 4) dX9_isAllSo_102 (by decide) ?_
          first | rw [if_pos h33] at ea | rw [if_neg h33] at ea
          first
          | (have eb : asR (mSem σ) (σ.2.1 116) i (j + 1) = false := by rw [ea, bI_eq0.mp h53, Bool.false_and]
             have l := fun v4 v5 => ih (j + 1) τ v4 v5 (by omega) (by omega) kt
             rw [eb] at l; exact l _ _)
          | (have eb : asR (mSem σ) (σ.2.1 116) i (j + 1) = true := by rw [ea, bI_ne0.mp h53, decide_eq_true h64, Bool.true_or]; rfl
             have l := fun v4 v5 => ih (j + 1) τ v4 v5 (by omega) (by omega) kt
             rw [eb] at l; exact l _ _)
          | (have eb : asR (mSem σ) (σ.2.1 116) i (j + 1) = true := by rw [ea, bI_ne0.mp h53, decide_eq_true h90, Bool.or_true]; rfl
             have l := fun v4 v5 => ih (j + 1) σ3 v4 v5 (by omega) (by omega) (kt.tr k3.two)
             rw [eb] at l; exact l _ _)
          | (have eb : asR (mSem σ) (σ.2.1 116) i (j + 1) = false := by rw [ea, decide_eq_false (fun z => z h64), decide_eq_false h90, Bool.false_or, Bool.and_false]
             have l := fun v4 v5 => ih (j + 1) σ3 v4 v5 (by omega) (by omega) (kt.tr k3.two)
             rw [eb] at l; exact l _ _)
        · refine xe_aload_n dX9_isAllSo_56 rfl ?_
          refine xe_getr dX9_isAllSo_57 flX9_9 (by decide) rfl rfl ?_
          refine xe_iload dX9_isAllSo_60 rfl ?_
          refine xn_iaload (j := 59 + 3 * j) dX9_isAllSo_62 (by decide) rfl (by simp only [xl, pk_mul, nI_add]) (by omega) (by decide) ?_
          rw [gt]
          refine xe_iload_n dX9_isAllSo_63 rfl ?_
          refine xe_icmp_ne (tgt := 93) dX9_isAllSo_64 (by decide) (fun h64 => ?_) (fun h64 => ?_)
          · refine xe_iconst (v := 1) dX9_isAllSo_93 rfl ?_
            refine xe_goto (tgt := 98) dX9_isAllSo_94 (by decide) ?_
            refine xe_istore_n (lv2 := [_, _, _, _, _, _]) dX9_isAllSo_98 (by decide) rfl ?_
            refine xn_inc (j := j) (lv2 := [_, _, _, _, _, _]) dX9_isAllSo_99 (by decide) rfl rfl ?_
            refine xe_goto (tgt := 4) dX9_isAllSo_102 (by decide) ?_
            first | rw [if_pos h33] at ea | rw [if_neg h33] at ea
            first
            | (have eb : asR (mSem σ) (σ.2.1 116) i (j + 1) = false := by rw [ea, bI_eq0.mp h53, Bool.false_and]
               have l := fun v4 v5 => ih (j + 1) τ v4 v5 (by omega) (by omega) kt
               rw [eb] at l; exact l _ _)
            | (have eb : asR (mSem σ) (σ.2.1 116) i (j + 1) = true := by rw [ea, bI_ne0.mp h53, decide_eq_true h64, Bool.true_or]; rfl
               have l := fun v4 v5 => ih (j + 1) τ v4 v5 (by omega) (by omega) kt
               rw [eb] at l; exact l _ _)
            | (have eb : asR (mSem σ) (σ.2.1 116) i (j + 1) = true := by rw [ea, bI_ne0.mp h53, decide_eq_true h90, Bool.or_true]; rfl
               have l := fun v4 v5 => ih (j + 1) σ3 v4 v5 (by omega) (by omega) (kt.tr k3.two)
               rw [eb] at l; exact l _ _)
            | (have eb : asR (mSem σ) (σ.2.1 116) i (j + 1) = false := by rw [ea, decide_eq_false (fun z => z h64), decide_eq_false h90, Bool.false_or, Bool.and_false]
               have l := fun v4 v5 => ih (j + 1) σ3 v4 v5 (by omega) (by omega) (kt.tr k3.two)
               rw [eb] at l; exact l _ _)
          · refine xe_aload_n dX9_isAllSo_67 rfl ?_
            refine xe_iload_n dX9_isAllSo_68 rfl ?_
            refine xe_aload_n dX9_isAllSo_69 rfl ?_
            refine xe_getr dX9_isAllSo_70 flX9_9 (by decide) rfl rfl ?_
            refine xe_iload dX9_isAllSo_73 rfl ?_
            refine xe_iconst (v := 1) dX9_isAllSo_75 rfl ?_
            refine xe_iadd dX9_isAllSo_76 ?_
            refine xn_iaload (j := 59 + 3 * j + 1) dX9_isAllSo_77 (by decide) rfl (by simp only [xl, pk_mul, nI_add]) (by omega) (by decide) ?_
            rw [gt, ef]
            refine xe_aload_n dX9_isAllSo_78 rfl ?_
            refine xe_getr dX9_isAllSo_79 flX9_9 (by decide) rfl rfl ?_
            refine xe_bipush (v := 55) dX9_isAllSo_82 rfl ?_
            refine xn_iaload dX9_isAllSo_84 (by decide) rfl (by first | with_reducible rfl | (simp only [xl, pk_mul, nI_add, nI_1]; done) | (simp only [xl, pk_mul, nI_add, nI_1]; rfl)) (by omega) (by decide) ?_
            rw [gt]
            refine xe_callv (k2 := kX9_says) (vs := [_, _, _]) dX9_isAllSo_85 okX9_says mlX9_114 imX9_says slX9_says (Or.inl ⟨9, _, _, by decide, rfl, rfl, rfl⟩) rfl rfl (Nat.le_of_ble_eq_true rfl) (Nat.le_of_ble_eq_true rfl) (sX9_says (by omega) i f _ hi hf (hM.km2 kt) (hR.km2 kt) (fun σ3 k3 => ?_))
            rw [mSem.km2 kt, gt]
            refine xe_iload dX9_isAllSo_88 rfl ?_
            refine xe_icmp_ne (tgt := 97) dX9_isAllSo_90 (by decide) (fun h90 => ?_) (fun h90 => ?_)
            · refine xe_iconst (v := 0) dX9_isAllSo_97 rfl ?_
              refine xe_istore_n (lv2 := [_, _, _, _, _, _]) dX9_isAllSo_98 (by decide) rfl ?_
              refine xn_inc (j := j) (lv2 := [_, _, _, _, _, _]) dX9_isAllSo_99 (by decide) rfl rfl ?_
              refine xe_goto (tgt := 4) dX9_isAllSo_102 (by decide) ?_
              first | rw [if_pos h33] at ea | rw [if_neg h33] at ea
              first
              | (have eb : asR (mSem σ) (σ.2.1 116) i (j + 1) = false := by rw [ea, bI_eq0.mp h53, Bool.false_and]
                 have l := fun v4 v5 => ih (j + 1) τ v4 v5 (by omega) (by omega) kt
                 rw [eb] at l; exact l _ _)
              | (have eb : asR (mSem σ) (σ.2.1 116) i (j + 1) = true := by rw [ea, bI_ne0.mp h53, decide_eq_true h64, Bool.true_or]; rfl
                 have l := fun v4 v5 => ih (j + 1) τ v4 v5 (by omega) (by omega) kt
                 rw [eb] at l; exact l _ _)
              | (have eb : asR (mSem σ) (σ.2.1 116) i (j + 1) = true := by rw [ea, bI_ne0.mp h53, decide_eq_true h90, Bool.or_true]; rfl
                 have l := fun v4 v5 => ih (j + 1) σ3 v4 v5 (by omega) (by omega) (kt.tr k3.two)
                 rw [eb] at l; exact l _ _)
              | (have eb : asR (mSem σ) (σ.2.1 116) i (j + 1) = false := by rw [ea, decide_eq_false (fun z => z h64), decide_eq_false h90, Bool.false_or, Bool.and_false]
                 have l := fun v4 v5 => ih (j + 1) σ3 v4 v5 (by omega) (by omega) (kt.tr k3.two)
                 rw [eb] at l; exact l _ _)
            · refine xe_iconst (v := 1) dX9_isAllSo_93 rfl ?_
              refine xe_goto (tgt := 98) dX9_isAllSo_94 (by decide) ?_
              refine xe_istore_n (lv2 := [_, _, _, _, _, _]) dX9_isAllSo_98 (by decide) rfl ?_
              refine xn_inc (j := j) (lv2 := [_, _, _, _, _, _]) dX9_isAllSo_99 (by decide) rfl rfl ?_
              refine xe_goto (tgt := 4) dX9_isAllSo_102 (by decide) ?_
              first | rw [if_pos h33] at ea | rw [if_neg h33] at ea
              first
              | (have eb : asR (mSem σ) (σ.2.1 116) i (j + 1) = false := by rw [ea, bI_eq0.mp h53, Bool.false_and]
                 have l := fun v4 v5 => ih (j + 1) τ v4 v5 (by omega) (by omega) kt
                 rw [eb] at l; exact l _ _)
              | (have eb : asR (mSem σ) (σ.2.1 116) i (j + 1) = true := by rw [ea, bI_ne0.mp h53, decide_eq_true h64, Bool.true_or]; rfl
                 have l := fun v4 v5 => ih (j + 1) τ v4 v5 (by omega) (by omega) kt
                 rw [eb] at l; exact l _ _)
              | (have eb : asR (mSem σ) (σ.2.1 116) i (j + 1) = true := by rw [ea, bI_ne0.mp h53, decide_eq_true h90, Bool.or_true]; rfl
                 have l := fun v4 v5 => ih (j + 1) σ3 v4 v5 (by omega) (by omega) (kt.tr k3.two)
                 rw [eb] at l; exact l _ _)
              | (have eb : asR (mSem σ) (σ.2.1 116) i (j + 1) = false := by rw [ea, decide_eq_false (fun z => z h64), decide_eq_false h90, Bool.false_or, Bool.and_false]
                 have l := fun v4 v5 => ih (j + 1) σ3 v4 v5 (by omega) (by omega) (kt.tr k3.two)
                 rw [eb] at l; exact l _ _)
      · refine xe_bipush (v := -5) dX9_isAllSo_36 rfl ?_
        refine xe_goto (tgt := 50) dX9_isAllSo_38 (by decide) ?_
        refine xe_istore (lv2 := [_, _, _, _, _, _]) dX9_isAllSo_50 (by decide) rfl ?_
        refine xe_iload_n dX9_isAllSo_52 rfl ?_
        refine xe_if_eq (tgt := 97) dX9_isAllSo_53 (by decide) (fun h53 => ?_) (fun h53 => ?_)
        · refine xe_iconst (v := 0) dX9_isAllSo_97 rfl ?_
          refine xe_istore_n (lv2 := [_, _, _, _, _, _]) dX9_isAllSo_98 (by decide) rfl ?_
          refine xn_inc (j := j) (lv2 := [_, _, _, _, _, _]) dX9_isAllSo_99 (by decide) rfl rfl ?_
          refine xe_goto (tgt := 4) dX9_isAllSo_102 (by decide) ?_
          first | rw [if_pos h33] at ea | rw [if_neg h33] at ea
          first
          | (have eb : asR (mSem σ) (σ.2.1 116) i (j + 1) = false := by rw [ea, bI_eq0.mp h53, Bool.false_and]
             have l := fun v4 v5 => ih (j + 1) τ v4 v5 (by omega) (by omega) kt
             rw [eb] at l; exact l _ _)
          | (have eb : asR (mSem σ) (σ.2.1 116) i (j + 1) = true := by rw [ea, bI_ne0.mp h53, decide_eq_true h64, Bool.true_or]; rfl
             have l := fun v4 v5 => ih (j + 1) τ v4 v5 (by omega) (by omega) kt
             rw [eb] at l; exact l _ _)
          | (have eb : asR (mSem σ) (σ.2.1 116) i (j + 1) = true := by rw [ea, bI_ne0.mp h53, decide_eq_true h90, Bool.or_true]; rfl
             have l := fun v4 v5 => ih (j + 1) σ3 v4 v5 (by omega) (by omega) (kt.tr k3.two)
             rw [eb] at l; exact l _ _)
          | (have eb : asR (mSem σ) (σ.2.1 116) i (j + 1) = false := by rw [ea, decide_eq_false (fun z => z h64), decide_eq_false h90, Bool.false_or, Bool.and_false]
             have l := fun v4 v5 => ih (j + 1) σ3 v4 v5 (by omega) (by omega) (kt.tr k3.two)
             rw [eb] at l; exact l _ _)
        · refine xe_aload_n dX9_isAllSo_56 rfl ?_
          refine xe_getr dX9_isAllSo_57 flX9_9 (by decide) rfl rfl ?_
          refine xe_iload dX9_isAllSo_60 rfl ?_
          refine xn_iaload (j := 59 + 3 * j) dX9_isAllSo_62 (by decide) rfl (by simp only [xl, pk_mul, nI_add]) (by omega) (by decide) ?_
          rw [gt]
          refine xe_iload_n dX9_isAllSo_63 rfl ?_
          refine xe_icmp_ne (tgt := 93) dX9_isAllSo_64 (by decide) (fun h64 => ?_) (fun h64 => ?_)
          · refine xe_iconst (v := 1) dX9_isAllSo_93 rfl ?_
            refine xe_goto (tgt := 98) dX9_isAllSo_94 (by decide) ?_
            refine xe_istore_n (lv2 := [_, _, _, _, _, _]) dX9_isAllSo_98 (by decide) rfl ?_
            refine xn_inc (j := j) (lv2 := [_, _, _, _, _, _]) dX9_isAllSo_99 (by decide) rfl rfl ?_
            refine xe_goto (tgt := 4) dX9_isAllSo_102 (by decide) ?_
            first | rw [if_pos h33] at ea | rw [if_neg h33] at ea
            first
            | (have eb : asR (mSem σ) (σ.2.1 116) i (j + 1) = false := by rw [ea, bI_eq0.mp h53, Bool.false_and]
               have l := fun v4 v5 => ih (j + 1) τ v4 v5 (by omega) (by omega) kt
               rw [eb] at l; exact l _ _)
            | (have eb : asR (mSem σ) (σ.2.1 116) i (j + 1) = true := by rw [ea, bI_ne0.mp h53, decide_eq_true h64, Bool.true_or]; rfl
               have l := fun v4 v5 => ih (j + 1) τ v4 v5 (by omega) (by omega) kt
               rw [eb] at l; exact l _ _)
            | (have eb : asR (mSem σ) (σ.2.1 116) i (j + 1) = true := by rw [ea, bI_ne0.mp h53, decide_eq_true h90, Bool.or_true]; rfl
               have l := fun v4 v5 => ih (j + 1) σ3 v4 v5 (by omega) (by omega) (kt.tr k3.two)
               rw [eb] at l; exact l _ _)
            | (have eb : asR (mSem σ) (σ.2.1 116) i (j + 1) = false := by rw [ea, decide_eq_false (fun z => z h64), decide_eq_false h90, Bool.false_or, Bool.and_false]
               have l := fun v4 v5 => ih (j + 1) σ3 v4 v5 (by omega) (by omega) (kt.tr k3.two)
               rw [eb] at l; exact l _ _)
          · refine xe_aload_n dX9_isAllSo_67 rfl ?_
            refine xe_iload_n dX9_isAllSo_68 rfl ?_
            refine xe_aload_n dX9_isAllSo_69 rfl ?_
            refine xe_getr dX9_isAllSo_70 flX9_9 (by decide) rfl rfl ?_
            refine xe_iload dX9_isAllSo_73 rfl ?_
            refine xe_iconst (v := 1) dX9_isAllSo_75 rfl ?_
            refine xe_iadd dX9_isAllSo_76 ?_
            refine xn_iaload (j := 59 + 3 * j + 1) dX9_isAllSo_77 (by decide) rfl (by simp only [xl, pk_mul, nI_add]) (by omega) (by decide) ?_
            rw [gt, ef]
            refine xe_aload_n dX9_isAllSo_78 rfl ?_
            refine xe_getr dX9_isAllSo_79 flX9_9 (by decide) rfl rfl ?_
            refine xe_bipush (v := 55) dX9_isAllSo_82 rfl ?_
            refine xn_iaload dX9_isAllSo_84 (by decide) rfl (by first | with_reducible rfl | (simp only [xl, pk_mul, nI_add, nI_1]; done) | (simp only [xl, pk_mul, nI_add, nI_1]; rfl)) (by omega) (by decide) ?_
            rw [gt]
            refine xe_callv (k2 := kX9_says) (vs := [_, _, _]) dX9_isAllSo_85 okX9_says mlX9_114 imX9_says slX9_says (Or.inl ⟨9, _, _, by decide, rfl, rfl, rfl⟩) rfl rfl (Nat.le_of_ble_eq_true rfl) (Nat.le_of_ble_eq_true rfl) (sX9_says (by omega) i f _ hi hf (hM.km2 kt) (hR.km2 kt) (fun σ3 k3 => ?_))
            rw [mSem.km2 kt, gt]
            refine xe_iload dX9_isAllSo_88 rfl ?_
            refine xe_icmp_ne (tgt := 97) dX9_isAllSo_90 (by decide) (fun h90 => ?_) (fun h90 => ?_)
            · refine xe_iconst (v := 0) dX9_isAllSo_97 rfl ?_
              refine xe_istore_n (lv2 := [_, _, _, _, _, _]) dX9_isAllSo_98 (by decide) rfl ?_
              refine xn_inc (j := j) (lv2 := [_, _, _, _, _, _]) dX9_isAllSo_99 (by decide) rfl rfl ?_
              refine xe_goto (tgt := 4) dX9_isAllSo_102 (by decide) ?_
              first | rw [if_pos h33] at ea | rw [if_neg h33] at ea
              first
              | (have eb : asR (mSem σ) (σ.2.1 116) i (j + 1) = false := by rw [ea, bI_eq0.mp h53, Bool.false_and]
                 have l := fun v4 v5 => ih (j + 1) τ v4 v5 (by omega) (by omega) kt
                 rw [eb] at l; exact l _ _)
              | (have eb : asR (mSem σ) (σ.2.1 116) i (j + 1) = true := by rw [ea, bI_ne0.mp h53, decide_eq_true h64, Bool.true_or]; rfl
                 have l := fun v4 v5 => ih (j + 1) τ v4 v5 (by omega) (by omega) kt
                 rw [eb] at l; exact l _ _)
              | (have eb : asR (mSem σ) (σ.2.1 116) i (j + 1) = true := by rw [ea, bI_ne0.mp h53, decide_eq_true h90, Bool.or_true]; rfl
                 have l := fun v4 v5 => ih (j + 1) σ3 v4 v5 (by omega) (by omega) (kt.tr k3.two)
                 rw [eb] at l; exact l _ _)
              | (have eb : asR (mSem σ) (σ.2.1 116) i (j + 1) = false := by rw [ea, decide_eq_false (fun z => z h64), decide_eq_false h90, Bool.false_or, Bool.and_false]
                 have l := fun v4 v5 => ih (j + 1) σ3 v4 v5 (by omega) (by omega) (kt.tr k3.two)
                 rw [eb] at l; exact l _ _)
            · refine xe_iconst (v := 1) dX9_isAllSo_93 rfl ?_
              refine xe_goto (tgt := 98) dX9_isAllSo_94 (by decide) ?_
              refine xe_istore_n (lv2 := [_, _, _, _, _, _]) dX9_isAllSo_98 (by decide) rfl ?_
              refine xn_inc (j := j) (lv2 := [_, _, _, _, _, _]) dX9_isAllSo_99 (by decide) rfl rfl ?_
              refine xe_goto (tgt := 4) dX9_isAllSo_102 (by decide) ?_
              first | rw [if_pos h33] at ea | rw [if_neg h33] at ea
              first
              | (have eb : asR (mSem σ) (σ.2.1 116) i (j + 1) = false := by rw [ea, bI_eq0.mp h53, Bool.false_and]
                 have l := fun v4 v5 => ih (j + 1) τ v4 v5 (by omega) (by omega) kt
                 rw [eb] at l; exact l _ _)
              | (have eb : asR (mSem σ) (σ.2.1 116) i (j + 1) = true := by rw [ea, bI_ne0.mp h53, decide_eq_true h64, Bool.true_or]; rfl
                 have l := fun v4 v5 => ih (j + 1) τ v4 v5 (by omega) (by omega) kt
                 rw [eb] at l; exact l _ _)
              | (have eb : asR (mSem σ) (σ.2.1 116) i (j + 1) = true := by rw [ea, bI_ne0.mp h53, decide_eq_true h90, Bool.or_true]; rfl
                 have l := fun v4 v5 => ih (j + 1) σ3 v4 v5 (by omega) (by omega) (kt.tr k3.two)
                 rw [eb] at l; exact l _ _)
              | (have eb : asR (mSem σ) (σ.2.1 116) i (j + 1) = false := by rw [ea, decide_eq_false (fun z => z h64), decide_eq_false h90, Bool.false_or, Bool.and_false]
                 have l := fun v4 v5 => ih (j + 1) σ3 v4 v5 (by omega) (by omega) (kt.tr k3.two)
                 rw [eb] at l; exact l _ _)

theorem sX9_isAllSo {d : Nat} (hd : 23 ≤ d) {σ : xSt} {Post : Option Value → xSt → Prop} (i : Nat) (hM : MCo σ) (hR : RUo σ) (m : Nat) (hm : σ.2.1 116 58 = nI m) (hm6 : m ≤ 6) (hh : HRo (σ.2.1 116) m) (hi : i < 6) (h : ∀ τ, KM2 σ τ → Post (some (.int (bI (asR (mSem σ) (σ.2.1 116) i m)))) τ) : xM kX9_isAllSo d [.ref 115, .int (nI i)] σ Post := by
  obtain ⟨d, rfl⟩ : ∃ e, d = e + 1 := ⟨d - 1, by omega⟩
  refine xM_start (lv := [some (.ref 115), some (.int (nI i)), none, none, none, none]) rfl ?_
  refine xe_iconst (v := 1) dX9_isAllSo_0 rfl ?_
  refine xe_istore_n (lv2 := [_, _, _, _, _, _]) dX9_isAllSo_1 (by decide) rfl ?_
  refine xe_iconst (v := 0) dX9_isAllSo_2 rfl ?_
  refine xe_istore_n (lv2 := [_, _, _, _, _, _]) dX9_isAllSo_3 (by decide) rfl ?_
  exact lX9_isAllSo (by omega) hM hR m hm hm6 hh i hi h (m + 1) 0 σ _ _ (by omega) (by omega) KM2.rf

theorem lX9_fits {d : Nat} (hd : 23 ≤ d) {σ : xSt} {Post : Option Value → xSt → Prop} (hM : MCo σ) (hR : RUo σ) (m : Nat) (hm : σ.2.1 116 58 = nI m) (hm6 : m ≤ 6) (hh : HRo (σ.2.1 116) m) (i k : Nat) (hi : i < 6) (hk : k < 9) (h : ∀ τ, KM2 σ τ → Post (some (.int (ftB (mSem σ) (σ.2.1 116) m i k 10))) τ) : ∀ (c j : Nat) (τ : xSt) (x : Int32), 11 ≤ j + c → j ≤ 10 → KM2 (xsA σ 116 (upd (σ.2.1 116) (9 * i + k) x)) τ → xEv kX9_fits (d + 1) 13 [some (.ref 115), some (.int (nI i)), some (.int (nI k)), some (.int (σ.2.1 116 (9 * i + k))), some (.int (ftB (mSem σ) (σ.2.1 116) m i k j)), some (.int (nI j))] [] τ Post := by
  intro c
  induction c with
  | zero => intro j τ x hc hj; omega
  | succ c ih =>
    intro j τ x hc hj kt
    have gt : τ.2.1 116 = (upd (σ.2.1 116) (9 * i + k) x) := by rw [kt.1 116 (by omega), xsA_get]
    refine xe_iload dX9_fits_13 rfl ?_
    refine xe_bipush (v := 10) dX9_fits_15 rfl ?_
    refine xe_icmp_ge (tgt := 56) dX9_fits_17 (by decide) (fun h17 => ?_) (fun h17 => ?_)
    · refine xe_aload_n dX9_fits_56 rfl ?_
      refine xe_iload_n dX9_fits_57 rfl ?_
      refine xe_iload_n dX9_fits_58 rfl ?_
      refine xe_iload_n dX9_fits_59 rfl ?_
      refine xe_callv (k2 := kX9_change) (vs := [_, _, _]) dX9_fits_60 okX9_change mlX9_97 imX9_change slX9_change (Or.inl ⟨9, _, _, by decide, rfl, rfl, rfl⟩) rfl rfl (Nat.le_of_ble_eq_true rfl) (Nat.le_of_ble_eq_true rfl) (sX9_change (by omega) i k _ (by omega) ?_)
      refine xe_pop dX9_fits_63 rfl ?_
      refine xe_iload dX9_fits_64 rfl ?_
      refine xe_iret dX9_fits_66 rfl rfl ?_
      have e := nLe (a := 10) (by omega) (by omega) h17
      obtain rfl : j = 10 := by omega
      refine h _ ?_
      have q := kt.set (c := 116) (g := σ.2.1 116)
      rw [xsA_A, xsA_self] at q
      rw [gt, upd_upd, upd_self]
      exact q
    · have e := nNle (a := 10) (by omega) (by omega) h17
      refine xe_aload_n dX9_fits_20 rfl ?_
      refine xe_iload_n dX9_fits_21 rfl ?_
      refine xe_iload_n dX9_fits_22 rfl ?_
      refine xe_iload dX9_fits_23 rfl ?_
      refine xe_callv (k2 := kX9_change) (vs := [_, _, _]) dX9_fits_25 okX9_change mlX9_97 imX9_change slX9_change (Or.inl ⟨9, _, _, by decide, rfl, rfl, rfl⟩) rfl rfl (Nat.le_of_ble_eq_true rfl) (Nat.le_of_ble_eq_true rfl) (sX9_change (by omega) i k (nI j) (by omega) ?_)
      refine xe_pop dX9_fits_28 rfl ?_
      rw [gt, upd_upd]
      have kt2 : KM2 (xsA σ 116 (upd (σ.2.1 116) (9 * i + k) (nI j))) (xsA τ 116 (upd (σ.2.1 116) (9 * i + k) (nI j))) := by have q := kt.set (c := 116) (g := (upd (σ.2.1 116) (9 * i + k) (nI j))); rw [xsA_A] at q; exact q
      have ug : ∀ c, 54 ≤ c → (upd (σ.2.1 116) (9 * i + k) (nI j)) c = σ.2.1 116 c := fun c hc => by simp only [upd]; rw [if_neg (by omega)]
      have hh2 : HRo (upd (σ.2.1 116) (9 * i + k) (nI j)) m := fun r hr => by
        rw [ug _ (by omega), ug _ (by omega)]; exact hh r hr
      refine xe_iload dX9_fits_29 rfl ?_
      refine xe_aload_n dX9_fits_31 rfl ?_
      refine xe_iload_n dX9_fits_32 rfl ?_
      refine xe_callv (k2 := kX9_isAllSo) (vs := [_]) dX9_fits_33 okX9_isAllSo mlX9_240 imX9_isAllSo slX9_isAllSo (Or.inl ⟨9, _, _, by decide, rfl, rfl, rfl⟩) rfl rfl (Nat.le_of_ble_eq_true rfl) (Nat.le_of_ble_eq_true rfl) (sX9_isAllSo (by omega) i ((hM.set).km2 kt2) ((hR.set (ug 57 (by omega))).km2 kt2) m (by rw [xsA_get, ug 58 (by omega)]; exact hm) hm6 (by rw [xsA_get]; exact hh2) hi (fun τ2 k2 => ?_))
      refine xe_if_eq (tgt := 46) dX9_fits_36 (by decide) (fun h36 => ?_) (fun h36 => ?_)
      · refine xe_iconst (v := 0) dX9_fits_46 rfl ?_
        refine xe_ior dX9_fits_47 ?_
        refine xe_istore (lv2 := [_, _, _, _, _, _]) dX9_fits_48 (by decide) rfl ?_
        refine xn_inc (j := j) (lv2 := [_, _, _, _, _, _]) dX9_fits_50 (by decide) rfl rfl ?_
        refine xe_goto (tgt := 13) dX9_fits_53 (by decide) ?_
        have eS : mSem (xsA τ 116 (upd (σ.2.1 116) (9 * i + k) (nI j))) = mSem σ := by rw [mSem.km2 kt2, mSem_set (ug 57 (by omega))]
        rw [xsA_get, eS] at h36
        have l := ih (j + 1) τ2 (nI j) (by omega) (by omega) (kt2.tr k2)
        rw [ftB_succ] at l
        first
        | (rw [if_pos (bI_ne0.mp h36)] at l; exact l)
        | (rw [if_neg (by rw [bI_eq0.mp h36]; decide)] at l; exact l)
      · refine xe_iconst (v := 1) dX9_fits_39 rfl ?_
        refine xe_iload dX9_fits_40 rfl ?_
        refine xe_ishl dX9_fits_42 ?_
        refine xe_goto (tgt := 47) dX9_fits_43 (by decide) ?_
        refine xe_ior dX9_fits_47 ?_
        refine xe_istore (lv2 := [_, _, _, _, _, _]) dX9_fits_48 (by decide) rfl ?_
        refine xn_inc (j := j) (lv2 := [_, _, _, _, _, _]) dX9_fits_50 (by decide) rfl rfl ?_
        refine xe_goto (tgt := 13) dX9_fits_53 (by decide) ?_
        have eS : mSem (xsA τ 116 (upd (σ.2.1 116) (9 * i + k) (nI j))) = mSem σ := by rw [mSem.km2 kt2, mSem_set (ug 57 (by omega))]
        rw [xsA_get, eS] at h36
        have l := ih (j + 1) τ2 (nI j) (by omega) (by omega) (kt2.tr k2)
        rw [ftB_succ] at l
        first
        | (rw [if_pos (bI_ne0.mp h36)] at l; exact l)
        | (rw [if_neg (by rw [bI_eq0.mp h36]; decide)] at l; exact l)

theorem sX9_fits {d : Nat} (hd : 24 ≤ d) {σ : xSt} {Post : Option Value → xSt → Prop} (i k : Nat) (hM : MCo σ) (hR : RUo σ) (m : Nat) (hm : σ.2.1 116 58 = nI m) (hm6 : m ≤ 6) (hh : HRo (σ.2.1 116) m) (hi : i < 6) (hk : k < 9) (h : ∀ τ, KM2 σ τ → Post (some (.int (ftB (mSem σ) (σ.2.1 116) m i k 10))) τ) : xM kX9_fits d [.ref 115, .int (nI i), .int (nI k)] σ Post := by
  obtain ⟨d, rfl⟩ : ∃ e, d = e + 1 := ⟨d - 1, by omega⟩
  refine xM_start (lv := [some (.ref 115), some (.int (nI i)), some (.int (nI k)), none, none, none]) rfl ?_
  refine xe_aload_n dX9_fits_0 rfl ?_
  refine xe_iload_n dX9_fits_1 rfl ?_
  refine xe_iload_n dX9_fits_2 rfl ?_
  refine xe_callv (k2 := kX9_one) (vs := [_, _]) dX9_fits_3 okX9_one mlX9_93 imX9_one slX9_one (Or.inl ⟨9, _, _, by decide, rfl, rfl, rfl⟩) rfl rfl (Nat.le_of_ble_eq_true rfl) (Nat.le_of_ble_eq_true rfl) (sX9_one (by omega) i k (by omega) ?_)
  refine xe_istore_n (lv2 := [_, _, _, _, _, _]) dX9_fits_6 (by decide) rfl ?_
  refine xe_iconst (v := 0) dX9_fits_7 rfl ?_
  refine xe_istore (lv2 := [_, _, _, _, _, _]) dX9_fits_8 (by decide) rfl ?_
  refine xe_iconst (v := 0) dX9_fits_10 rfl ?_
  refine xe_istore (lv2 := [_, _, _, _, _, _]) dX9_fits_11 (by decide) rfl ?_
  exact lX9_fits (by omega) hM hR m hm hm6 hh i k hi hk h 11 0 σ (σ.2.1 116 (9 * i + k)) (by omega) (by omega) (by rw [upd_self, xsA_self]; exact KM2.rf)

theorem lX9_can {d : Nat} {τ : xSt} {Post : Option Value → xSt → Prop} (p w b : Int32) (h : Post (some (.int (if w = 0 then (cnF b 10).1 else (cnF b 10).2))) τ) : ∀ (c j : Nat), j + c = 10 → xEv kX9_can (d + 1) 37 [some (.ref 115), some (.int p), some (.int w), some (.int b), some (.int (cnF b j).1), some (.int (cnF b j).2), some (.int (nI (10 - j) + (-1)))] [] τ Post := by
  intro c
  induction c with
  | zero =>
    intro j hj
    obtain rfl : j = 10 := by omega
    refine xe_iload dX9_can_37 rfl ?_
    refine xe_if_lt (tgt := 78) dX9_can_39 (by decide) (fun h39 => ?_) (fun h39 => absurd (by decide) h39)
    refine xe_iload_n dX9_can_78 rfl ?_
    refine xe_if_ne (tgt := 87) dX9_can_79 (by decide) (fun h79 => ?_) (fun h79 => ?_)
    · refine xe_iload dX9_can_87 rfl ?_
      refine xe_iret dX9_can_89 rfl rfl ?_
      first
      | (rw [if_pos h79] at h; exact h)
      | (rw [if_neg h79] at h; exact h)
    · refine xe_iload dX9_can_82 rfl ?_
      refine xe_goto (tgt := 89) dX9_can_84 (by decide) ?_
      refine xe_iret dX9_can_89 rfl rfl ?_
      first
      | (rw [if_pos h79] at h; exact h)
      | (rw [if_neg h79] at h; exact h)
  | succ c ih =>
    intro j hj
    have e1 : nI (10 - j) + (-1) = nI (9 - j) := by rw [show 10 - j = (9 - j) + 1 by omega]; exact pk_m1 _
    rw [e1]
    refine xe_iload dX9_can_37 rfl ?_
    refine xe_if_lt (tgt := 78) dX9_can_39 (by decide) (fun h39 => absurd h39 (nI_pos (by omega))) (fun h39 => ?_)
    refine xe_iload dX9_can_42 rfl ?_
    refine xe_iload_n dX9_can_44 rfl ?_
    refine xe_iload dX9_can_45 rfl ?_
    refine xe_ishr dX9_can_47 ?_
    refine xe_iconst (v := 1) dX9_can_48 rfl ?_
    refine xe_iand dX9_can_49 ?_
    refine xe_iadd dX9_can_50 ?_
    refine xe_istore (lv2 := [_, _, _, _, _, _, _]) dX9_can_51 (by decide) rfl ?_
    refine xe_iload_n dX9_can_53 rfl ?_
    refine xe_iload dX9_can_54 rfl ?_
    refine xe_ishr dX9_can_56 ?_
    refine xe_iconst (v := 1) dX9_can_57 rfl ?_
    refine xe_iand dX9_can_58 ?_
    refine xe_iconst (v := 1) dX9_can_59 rfl ?_
    refine xe_icmp_ne (tgt := 68) dX9_can_60 (by decide) (fun h60 => ?_) (fun h60 => ?_)
    · refine xe_iload dX9_can_68 rfl ?_
      refine xe_istore (lv2 := [_, _, _, _, _, _, _]) dX9_can_70 (by decide) rfl ?_
      refine xe_iinc (v := _ + (-1)) (lv2 := [_, _, _, _, _, _, _]) dX9_can_72 (by decide) rfl rfl rfl ?_
      refine xe_goto (tgt := 37) dX9_can_75 (by decide) ?_
      have l := ih (j + 1) (by omega)
      rw [show 10 - (j + 1) = 9 - j by omega, cnF, bit] at l
      first
      | (rw [if_pos h60] at l; exact l)
      | (rw [if_neg h60] at l; exact l)
    · refine xe_iload dX9_can_63 rfl ?_
      refine xe_goto (tgt := 70) dX9_can_65 (by decide) ?_
      refine xe_istore (lv2 := [_, _, _, _, _, _, _]) dX9_can_70 (by decide) rfl ?_
      refine xe_iinc (v := _ + (-1)) (lv2 := [_, _, _, _, _, _, _]) dX9_can_72 (by decide) rfl rfl rfl ?_
      refine xe_goto (tgt := 37) dX9_can_75 (by decide) ?_
      have l := ih (j + 1) (by omega)
      rw [show 10 - (j + 1) = 9 - j by omega, cnF, bit] at l
      first
      | (rw [if_pos h60] at l; exact l)
      | (rw [if_neg h60] at l; exact l)

theorem sX9_can {d : Nat} (hd : 25 ≤ d) {σ : xSt} {Post : Option Value → xSt → Prop} (n : Nat) (hn : σ.2.1 116 54 = nI n) (h6 : n ≤ 6) (p w : Int32) (hM : MCo σ) (hR : RUo σ) (m : Nat) (hm : σ.2.1 116 58 = nI m) (hm6 : m ≤ 6) (hh : HRo (σ.2.1 116) m) (h : ∀ τ, KM2 σ τ → Post (some (.int (canV (mSem σ) (σ.2.1 116) m p w))) τ) : xM kX9_can d [.ref 115, .int p, .int w] σ Post := by
  obtain ⟨d, rfl⟩ : ∃ e, d = e + 1 := ⟨d - 1, by omega⟩
  refine xM_start (lv := [some (.ref 115), some (.int p), some (.int w), none, none, none, none]) rfl ?_
  refine xe_aload_n dX9_can_0 rfl ?_
  refine xe_iload_n dX9_can_1 rfl ?_
  refine xe_callv (k2 := kX9_isPot) (vs := [_]) dX9_can_2 okX9_isPot mlX9_101 imX9_isPot slX9_isPot (Or.inl ⟨9, _, _, by decide, rfl, rfl, rfl⟩) rfl rfl (Nat.le_of_ble_eq_true rfl) (Nat.le_of_ble_eq_true rfl) (tX9_isPot (by omega) _ n hn h6 (fun r2 hr2 => ?_))
  refine xe_if_eq (tgt := 17) dX9_can_5 (by decide) (fun h5 => ?_) (fun h5 => ?_)
  · refine xe_iconst (v := -1) dX9_can_17 rfl ?_
    refine xe_iret dX9_can_18 rfl rfl ?_
    have c : ¬ (pOk (σ.2.1 116 54) p ∧ rng w 0 1) := by first | exact fun z => (xb_eq0 hr2).mp h5 (hn ▸ z.1) | exact fun z => (xb_eq0 hr11).mp h14 z.2
    have e := h σ KM2.rf
    rw [canV, if_neg c] at e
    exact e
  · refine xe_iload_n dX9_can_8 rfl ?_
    refine xe_iconst (v := 0) dX9_can_9 rfl ?_
    refine xe_iconst (v := 1) dX9_can_10 rfl ?_
    refine xe_calls (k2 := kX9_isIn) (vs := [_, _, _]) dX9_can_11 okX9_isIn mlX9_89 stX9_isIn rfl rfl (Nat.le_of_ble_eq_true rfl) (Nat.le_of_ble_eq_true rfl) (sX9_isIn (by omega) _ _ _ (fun r11 hr11 => ?_))
    refine xe_if_ne (tgt := 19) dX9_can_14 (by decide) (fun h14 => ?_) (fun h14 => ?_)
    · have cp := (xb_ne0 hr2).mp h5
      have cw := (xb_ne0 hr11).mp h14
      obtain ⟨i, hi, rfl⟩ := pOk_nat (by omega) cp
      have ei : cN (nI i) = i := cN_nI (by omega)
      refine xe_aload_n dX9_can_19 rfl ?_
      refine xe_iload_n dX9_can_20 rfl ?_
      refine xe_iconst (v := 1) dX9_can_21 rfl ?_
      refine xe_callv (k2 := kX9_fits) (vs := [_, _]) dX9_can_22 okX9_fits mlX9_105 imX9_fits slX9_fits (Or.inl ⟨9, _, _, by decide, rfl, rfl, rfl⟩) rfl rfl (Nat.le_of_ble_eq_true rfl) (Nat.le_of_ble_eq_true rfl) (sX9_fits (by omega) i 1 hM hR m hm hm6 hh (by omega) (by omega) (fun τ kt => ?_))
      refine xe_istore_n (lv2 := [_, _, _, _, _, _, _]) dX9_can_25 (by decide) rfl ?_
      refine xe_iconst (v := 0) dX9_can_26 rfl ?_
      refine xe_istore (lv2 := [_, _, _, _, _, _, _]) dX9_can_27 (by decide) rfl ?_
      refine xe_bipush (v := -5) dX9_can_29 rfl ?_
      refine xe_istore (lv2 := [_, _, _, _, _, _, _]) dX9_can_31 (by decide) rfl ?_
      refine xe_bipush (v := 9) dX9_can_33 rfl ?_
      refine xe_istore (lv2 := [_, _, _, _, _, _, _]) dX9_can_35 (by decide) rfl ?_
      have e := h τ kt
      rw [canV, if_pos ⟨hn ▸ cp, cw⟩, ei] at e
      have e2 : ∀ x y : Int32, (if w = 0 then x else y) = (if w = 0 then x else y) := fun _ _ => rfl
      exact lX9_can _ w _ (by first | exact e | (split at e <;> rename_i q <;> simp only [q] <;> exact e)) 10 0 (by omega)
    · refine xe_iconst (v := -1) dX9_can_17 rfl ?_
      refine xe_iret dX9_can_18 rfl rfl ?_
      have c : ¬ (pOk (σ.2.1 116 54) p ∧ rng w 0 1) := by first | exact fun z => (xb_eq0 hr2).mp h5 (hn ▸ z.1) | exact fun z => (xb_eq0 hr11).mp h14 z.2
      have e := h σ KM2.rf
      rw [canV, if_neg c] at e
      exact e

theorem lX9_fraction {d : Nat} {σ : xSt} {Post : Option Value → xSt → Prop} (x y : Nat) (hx : x < 2 ^ 31) (hy : y < 2 ^ 31) (hy0 : 0 < y) (pt : Int32) (h : Post (some (.long (frV x y pt))) σ) : ∀ (c p q : Nat) (v9 : Option Value), q ≤ c → p < 2 ^ 31 → q < 2 ^ 31 → Nat.gcd p q = Nat.gcd x y → xEv kX9_fraction d 6 [some (.long (lN x)), none, some (.long (lN y)), none, some (.int pt), some (.long (lN p)), none, some (.long (lN q)), none, v9, none] [] σ Post := by
  have hg : 0 < Nat.gcd x y := Nat.gcd_pos_of_pos_right x hy0
  have hgx : Nat.gcd x y ≤ y := Nat.gcd_le_right x hy0
  intro c
  induction c with
  | zero =>
    intro p q v9 hc hp hq hgc
    obtain rfl : q = 0 := by omega
    rw [Nat.gcd_zero_right] at hgc
    subst hgc
    refine xe_lload dX9_fraction_6 rfl ?_
    refine xe_lconst (v := 0) dX9_fraction_8 rfl ?_
    refine xe_lcmp dX9_fraction_9 ?_
    refine xe_if_eq (tgt := 31) dX9_fraction_10 (by decide) (fun h10 => ?_) (fun h10 => absurd (lg_eq0.mpr rfl) h10)
    refine xe_iload dX9_fraction_31 rfl ?_
    refine xe_if_ne (tgt := 43) dX9_fraction_33 (by decide) (fun h33 => ?_) (fun h33 => ?_)
    · refine xe_lload_n dX9_fraction_43 rfl ?_
      refine xe_lload dX9_fraction_44 rfl ?_
      refine xe_ldiv dX9_fraction_46 (show ¬ lN (Nat.gcd x y) = 0 from fun z => absurd ((lN_eq (b := 0) (by omega) (by omega)).mp z) (by omega)) ?_
      refine xe_lret dX9_fraction_47 rfl ?_
      first
      | (rw [frV, if_pos h33] at h; rw [pk_lDiv (by omega) hg (by omega)]; exact h)
      | (rw [frV, if_neg h33] at h; rw [pk_lDiv (by omega) hg (by omega)]; exact h)
    · refine xe_lload_n dX9_fraction_36 rfl ?_
      refine xe_lload dX9_fraction_37 rfl ?_
      refine xe_ldiv dX9_fraction_39 (show ¬ lN (Nat.gcd x y) = 0 from fun z => absurd ((lN_eq (b := 0) (by omega) (by omega)).mp z) (by omega)) ?_
      refine xe_goto (tgt := 47) dX9_fraction_40 (by decide) ?_
      refine xe_lret dX9_fraction_47 rfl ?_
      first
      | (rw [frV, if_pos h33] at h; rw [pk_lDiv (by omega) hg (by omega)]; exact h)
      | (rw [frV, if_neg h33] at h; rw [pk_lDiv (by omega) hg (by omega)]; exact h)
  | succ c ih =>
    intro p q v9 hc hp hq hgc
    by_cases h0 : q = 0
    · exact ih p q v9 (by omega) hp hq hgc
    have hne : ¬ lN q = 0 := fun z => h0 ((lN_eq (b := 0) (by omega) (by omega)).mp z)
    refine xe_lload dX9_fraction_6 rfl ?_
    refine xe_lconst (v := 0) dX9_fraction_8 rfl ?_
    refine xe_lcmp dX9_fraction_9 ?_
    refine xe_if_eq (tgt := 31) dX9_fraction_10 (by decide) (fun h10 => absurd h10 (fun z => hne (lg_eq0.mp z))) (fun h10 => ?_)
    refine xe_lload dX9_fraction_13 rfl ?_
    refine xe_lload dX9_fraction_15 rfl ?_
    refine xe_lrem dX9_fraction_17 hne ?_
    rw [pk_lRem (by omega) (by omega) (by omega)]
    refine xe_lstore (lv2 := [_, _, _, _, _, _, _, _, _, _, _]) dX9_fraction_18 (by decide) rfl ?_
    refine xe_lload dX9_fraction_20 rfl ?_
    refine xe_lstore (lv2 := [_, _, _, _, _, _, _, _, _, _, _]) dX9_fraction_22 (by decide) rfl ?_
    refine xe_lload dX9_fraction_24 rfl ?_
    refine xe_lstore (lv2 := [_, _, _, _, _, _, _, _, _, _, _]) dX9_fraction_26 (by decide) rfl ?_
    refine xe_goto (tgt := 6) dX9_fraction_28 (by decide) ?_
    have hlt : p % q < q := Nat.mod_lt _ (by omega)
    exact ih q (p % q) _ (by omega) hq (by omega) (by rw [← hgc, Nat.gcd_comm p q, Nat.gcd_rec q p, Nat.gcd_comm])

theorem sX9_fraction {d : Nat} (hd : 0 ≤ d) {σ : xSt} {Post : Option Value → xSt → Prop} (x y : Nat) (pt : Int32) (hx : x < 2 ^ 31) (hy : y < 2 ^ 31) (hy0 : 0 < y) (h : Post (some (.long (frV x y pt))) σ) : xM kX9_fraction d [.long (lN x), .long (lN y), .int pt] σ Post := by
  refine xM_start (lv := [some (.long (lN x)), none, some (.long (lN y)), none, some (.int pt), none, none, none, none, none, none]) rfl ?_
  refine xe_lload_n dX9_fraction_0 rfl ?_
  refine xe_lstore (lv2 := [_, _, _, _, _, _, _, _, _, _, _]) dX9_fraction_1 (by decide) rfl ?_
  refine xe_lload_n dX9_fraction_3 rfl ?_
  refine xe_lstore (lv2 := [_, _, _, _, _, _, _, _, _, _, _]) dX9_fraction_4 (by decide) rfl ?_
  exact lX9_fraction x y hx hy hy0 pt h y x y none (Nat.le_refl _) hx hy rfl
