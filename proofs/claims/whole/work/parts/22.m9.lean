/-- what the reference's constant rows hold -/
def MCo (σ : xSt) : Prop := (∀ k, k < 6 → σ.2.1 124 k = xlet k) ∧ (∀ k, k < 3 → σ.2.1 125 k = xbeg k) ∧ (∀ k, k < 15 → σ.2.1 126 k = xwrd k) ∧ (∀ k, k < 7 → σ.2.1 131 k = xABOVE k) ∧ (∀ k, k < 21 → σ.2.1 132 k = xBODIES k)
/-- the cellars' texts are of their sizes, and the one that holds is there -/
def RUo (σ : xSt) : Prop := (∃ r, σ.2.1 116 57 = nI r ∧ r ≤ 6) ∧ ∀ c, c < 6 → ∃ z, σ.2.1 121 c = nI z ∧ z ≤ 100
theorem MCo.km {σ σ2 : xSt} (h : MCo σ) (hk : KM σ σ2) : MCo σ2 := by
  unfold MCo
  rw [hk.1 124 (by omega), hk.1 125 (by omega), hk.1 126 (by omega), hk.1 131 (by omega), hk.1 132 (by omega)]
  exact h
theorem RUo.km {σ σ2 : xSt} (h : RUo σ) (hk : KM σ σ2) : RUo σ2 := by
  unfold RUo
  rw [hk.1 116 (by omega), hk.1 121 (by omega)]
  exact h
/-- the names of a pot with the numbers a, and a fact -/
def nmO (i : Nat) (a : Nat → Int32) (f : Int32) : Nat → Int32 := fun k => if k = 0 then nI i else if k = 1 then a 0 else if k = 2 then a 1 else if k = 3 then f else if k = 4 then a 2 else a 3 - a 3 / 10 * 10
/-- sum and keep, by the names: what the cellar that holds says -/
abbrev xSem : Type := (Nat → Int32) → Int32 × Int32
def rdT (σ : xSt) (c : Nat) : xSem := fun nm => (mRd (fun k => σ.2.1 120 (100 * c + k)) nm (cN (σ.2.1 121 c))).1
def mSem (σ : xSt) : xSem := fun nm => if σ.2.1 116 57 = 0 then (nm 4, 5) else rdT σ (cN (σ.2.1 116 57) - 1) nm
theorem mSem.km {σ σ2 : xSt} (hk : KM σ σ2) : mSem σ2 = mSem σ := by
  unfold mSem rdT
  rw [hk.1 116 (by omega), hk.1 120 (by omega), hk.1 121 (by omega)]

theorem lX9_readFor {d : Nat} {σ : xSt} {Post : Option Value → xSt → Prop} (r z : Nat) (hr : r < 6) (hz : σ.1 115 10 = nI z) (h1 : z ≤ 100) (v1 v2 : Int32) (h : xEv kX9_readFor d 148 [some (.ref 115), some (.int v1), some (.int v2), some (.int (nI r)), some (.int (nI z))] [] (xsA σ 122 (va_cpy (fun k => σ.2.1 120 (100 * r + k)) (σ.2.1 122) 0 0 z)) Post) : ∀ (n j : Nat), z + 1 ≤ j + n → j ≤ z → xEv kX9_readFor d 114 [some (.ref 115), some (.int v1), some (.int v2), some (.int (nI r)), some (.int (nI j))] [] (xsA σ 122 (va_cpy (fun k => σ.2.1 120 (100 * r + k)) (σ.2.1 122) 0 0 j)) Post := by
  intro n
  induction n with
  | zero => intro j hn hj; omega
  | succ n ih =>
    intro j hn hj
    refine xe_iload dX9_readFor_114 rfl ?_
    refine xe_aload_n dX9_readFor_116 rfl ?_
    refine xe_getf dX9_readFor_117 flX9_142 (by decide) rfl rfl ?_
    rw [xsA_1, hz]
    refine xe_icmp_ge (tgt := 148) dX9_readFor_120 (by decide) (fun h120 => ?_) (fun h120 => ?_)
    · have e := nLe (a := z) (by omega) (by omega) h120
      obtain rfl : j = z := by omega
      exact h
    · have e := nNle (a := z) (by omega) (by omega) h120
      refine xe_aload_n dX9_readFor_123 rfl ?_
      refine xe_getr dX9_readFor_124 flX9_30 (by decide) rfl rfl ?_
      refine xe_iload dX9_readFor_127 rfl ?_
      refine xe_aload_n dX9_readFor_129 rfl ?_
      refine xe_getr dX9_readFor_130 flX9_24 (by decide) rfl rfl ?_
      refine xe_bipush (v := 100) dX9_readFor_133 rfl ?_
      refine xe_iload_n dX9_readFor_135 rfl ?_
      refine xe_imul dX9_readFor_136 ?_
      refine xe_iload dX9_readFor_137 rfl ?_
      refine xe_iadd dX9_readFor_139 ?_
      refine xn_iaload (j := 100 * r + j) dX9_readFor_140 (by decide) rfl (by rw [show (100 : Int32) = nI 100 from rfl, pk_mul, nI_add]) (by omega) (by decide) ?_
      rw [xsA_ne (by decide)]
      refine xn_iastore dX9_readFor_141 (by decide) rfl (by first | with_reducible rfl | (simp only [xl, pk_mul, nI_add, nI_1]; done) | (simp only [xl, pk_mul, nI_add, nI_1]; rfl)) (by omega) (by decide) ?_
      refine xn_inc (j := j) (lv2 := [_, _, _, _, _]) dX9_readFor_142 (by decide) rfl rfl ?_
      refine xe_goto (tgt := 114) dX9_readFor_145 (by decide) ?_
      refine xe_st ?_ (ih (j + 1) (by omega) (by omega))
      rw [xsA_A, xsA_get]
      rw [← cpy_succ (f := fun k => σ.2.1 120 (100 * r + k))]

theorem sX9_readFor {d : Nat} (hd : 20 ≤ d) {σ : xSt} {Post : Option Value → xSt → Prop} (i : Nat) (f : Int32) (hi : i < 6) (hM : MCo σ) (hR : RUo σ) (h : ∀ σ2, KM σ σ2 → σ2.1 115 14 = (mSem σ (nmO i (fun k => σ.2.1 116 (9 * i + k)) f)).1 → σ2.1 115 15 = (mSem σ (nmO i (fun k => σ.2.1 116 (9 * i + k)) f)).2 → Post none σ2) : xM kX9_readFor d [.ref 115, .int (nI i), .int f] σ Post := by
  obtain ⟨d, rfl⟩ : ∃ e, d = e + 1 := ⟨d - 1, by omega⟩
  refine xM_start (lv := [some (.ref 115), some (.int (nI i)), some (.int f), none, none]) rfl ?_
  refine xe_aload_n dX9_readFor_0 rfl ?_
  refine xe_getr dX9_readFor_1 flX9_33 (by decide) rfl rfl ?_
  refine xe_iconst (v := 0) dX9_readFor_4 rfl ?_
  refine xe_iload_n dX9_readFor_5 rfl ?_
  refine xn_iastore dX9_readFor_6 (by decide) rfl (by first | with_reducible rfl | (simp only [xl, pk_mul, nI_add, nI_1]; done) | (simp only [xl, pk_mul, nI_add, nI_1]; rfl)) (by omega) (by decide) ?_
  refine xe_aload_n dX9_readFor_7 rfl ?_
  refine xe_getr dX9_readFor_8 flX9_33 (by decide) rfl rfl ?_
  refine xe_iconst (v := 1) dX9_readFor_11 rfl ?_
  refine xe_aload_n dX9_readFor_12 rfl ?_
  refine xe_iload_n dX9_readFor_13 rfl ?_
  refine xe_iconst (v := 0) dX9_readFor_14 rfl ?_
  refine xe_callv (k2 := kX9_one) (vs := [_, _]) dX9_readFor_15 okX9_one mlX9_93 imX9_one slX9_one (Or.inl ⟨9, _, _, by decide, rfl, rfl, rfl⟩) rfl rfl (Nat.le_of_ble_eq_true rfl) (Nat.le_of_ble_eq_true rfl) (sX9_one (by omega) i 0 (by omega) ?_)
  refine xn_iastore dX9_readFor_18 (by decide) rfl (by first | with_reducible rfl | (simp only [xl, pk_mul, nI_add, nI_1]; done) | (simp only [xl, pk_mul, nI_add, nI_1]; rfl)) (by omega) (by decide) ?_
  refine xe_aload_n dX9_readFor_19 rfl ?_
  refine xe_getr dX9_readFor_20 flX9_33 (by decide) rfl rfl ?_
  refine xe_iconst (v := 2) dX9_readFor_23 rfl ?_
  refine xe_aload_n dX9_readFor_24 rfl ?_
  refine xe_iload_n dX9_readFor_25 rfl ?_
  refine xe_iconst (v := 1) dX9_readFor_26 rfl ?_
  refine xe_callv (k2 := kX9_one) (vs := [_, _]) dX9_readFor_27 okX9_one mlX9_93 imX9_one slX9_one (Or.inl ⟨9, _, _, by decide, rfl, rfl, rfl⟩) rfl rfl (Nat.le_of_ble_eq_true rfl) (Nat.le_of_ble_eq_true rfl) (sX9_one (by omega) i 1 (by omega) ?_)
  refine xn_iastore dX9_readFor_30 (by decide) rfl (by first | with_reducible rfl | (simp only [xl, pk_mul, nI_add, nI_1]; done) | (simp only [xl, pk_mul, nI_add, nI_1]; rfl)) (by omega) (by decide) ?_
  refine xe_aload_n dX9_readFor_31 rfl ?_
  refine xe_getr dX9_readFor_32 flX9_33 (by decide) rfl rfl ?_
  refine xe_iconst (v := 3) dX9_readFor_35 rfl ?_
  refine xe_iload_n dX9_readFor_36 rfl ?_
  refine xn_iastore dX9_readFor_37 (by decide) rfl (by first | with_reducible rfl | (simp only [xl, pk_mul, nI_add, nI_1]; done) | (simp only [xl, pk_mul, nI_add, nI_1]; rfl)) (by omega) (by decide) ?_
  refine xe_aload_n dX9_readFor_38 rfl ?_
  refine xe_getr dX9_readFor_39 flX9_33 (by decide) rfl rfl ?_
  refine xe_iconst (v := 4) dX9_readFor_42 rfl ?_
  refine xe_aload_n dX9_readFor_43 rfl ?_
  refine xe_iload_n dX9_readFor_44 rfl ?_
  refine xe_iconst (v := 2) dX9_readFor_45 rfl ?_
  refine xe_callv (k2 := kX9_one) (vs := [_, _]) dX9_readFor_46 okX9_one mlX9_93 imX9_one slX9_one (Or.inl ⟨9, _, _, by decide, rfl, rfl, rfl⟩) rfl rfl (Nat.le_of_ble_eq_true rfl) (Nat.le_of_ble_eq_true rfl) (sX9_one (by omega) i 2 (by omega) ?_)
  refine xn_iastore dX9_readFor_49 (by decide) rfl (by first | with_reducible rfl | (simp only [xl, pk_mul, nI_add, nI_1]; done) | (simp only [xl, pk_mul, nI_add, nI_1]; rfl)) (by omega) (by decide) ?_
  refine xe_aload_n dX9_readFor_50 rfl ?_
  refine xe_getr dX9_readFor_51 flX9_33 (by decide) rfl rfl ?_
  refine xe_iconst (v := 5) dX9_readFor_54 rfl ?_
  refine xe_aload_n dX9_readFor_55 rfl ?_
  refine xe_iload_n dX9_readFor_56 rfl ?_
  refine xe_iconst (v := 3) dX9_readFor_57 rfl ?_
  refine xe_callv (k2 := kX9_one) (vs := [_, _]) dX9_readFor_58 okX9_one mlX9_93 imX9_one slX9_one (Or.inl ⟨9, _, _, by decide, rfl, rfl, rfl⟩) rfl rfl (Nat.le_of_ble_eq_true rfl) (Nat.le_of_ble_eq_true rfl) (sX9_one (by omega) i 3 (by omega) ?_)
  refine xe_bipush (v := 10) dX9_readFor_61 rfl ?_
  refine xe_irem dX9_readFor_63 (by decide) ?_
  refine xn_iastore dX9_readFor_64 (by decide) rfl (by first | with_reducible rfl | (simp only [xl, pk_mul, nI_add, nI_1]; done) | (simp only [xl, pk_mul, nI_add, nI_1]; rfl)) (by omega) (by decide) ?_
  simp only [xsA_A, xsA_get, xsA_ne (show (116 : Nat) ≠ 123 by decide)]
  generalize hg : upd (upd (upd (upd (upd (upd (σ.2.1 123) 0 (nI i)) 1 (σ.2.1 116 (9 * i + 0))) 2 (σ.2.1 116 (9 * i + 1))) 3 f) 4 (σ.2.1 116 (9 * i + 2))) 5 (σ.2.1 116 (9 * i + 3) - σ.2.1 116 (9 * i + 3) / 10 * 10) = g
  have hnm : ∀ k, k < 6 → g k = nmO i (fun k => σ.2.1 116 (9 * i + k)) f k := by
    intro k hk
    rw [← hg]
    rcases (show k = 0 ∨ k = 1 ∨ k = 2 ∨ k = 3 ∨ k = 4 ∨ k = 5 by omega) with rfl | rfl | rfl | rfl | rfl | rfl <;> rfl
  obtain ⟨⟨r, hr, hr6⟩, hsz⟩ := hR
  refine xe_aload_n dX9_readFor_65 rfl ?_
  refine xe_getr dX9_readFor_66 flX9_9 (by decide) rfl rfl ?_
  refine xe_bipush (v := 57) dX9_readFor_69 rfl ?_
  refine xn_iaload dX9_readFor_71 (by decide) rfl (by first | with_reducible rfl | (simp only [xl, pk_mul, nI_add, nI_1]; done) | (simp only [xl, pk_mul, nI_add, nI_1]; rfl)) (by omega) (by decide) ?_
  rw [xsA_ne (by decide), hr]
  refine xe_if_ne (tgt := 91) dX9_readFor_72 (by decide) (fun h72 => ?_) (fun h72 => ?_)
  · have hr0 : ¬ r = 0 := fun z => h72 (by rw [z]; rfl)
    obtain ⟨z, hz, hz1⟩ := hsz (r - 1) (by omega)
    refine xe_aload_n dX9_readFor_91 rfl ?_
    refine xe_getr dX9_readFor_92 flX9_9 (by decide) rfl rfl ?_
    refine xe_bipush (v := 57) dX9_readFor_95 rfl ?_
    refine xn_iaload dX9_readFor_97 (by decide) rfl (by first | with_reducible rfl | (simp only [xl, pk_mul, nI_add, nI_1]; done) | (simp only [xl, pk_mul, nI_add, nI_1]; rfl)) (by omega) (by decide) ?_
    rw [xsA_ne (by decide), hr]
    refine xe_iconst (v := 1) dX9_readFor_98 rfl ?_
    refine xe_isub dX9_readFor_99 ?_
    refine xe_top (x2 := nI (r - 1)) (by rw [show (1 : Int32) = nI 1 from rfl, pk_sub (by omega)]) ?_
    refine xe_istore_n (lv2 := [_, _, _, _, _]) dX9_readFor_100 (by decide) rfl ?_
    refine xe_aload_n dX9_readFor_101 rfl ?_
    refine xe_aload_n dX9_readFor_102 rfl ?_
    refine xe_getr dX9_readFor_103 flX9_27 (by decide) rfl rfl ?_
    refine xe_iload_n dX9_readFor_106 rfl ?_
    refine xn_iaload dX9_readFor_107 (by decide) rfl (by first | with_reducible rfl | (simp only [xl, pk_mul, nI_add, nI_1]; done) | (simp only [xl, pk_mul, nI_add, nI_1]; rfl)) (by omega) (by decide) ?_
    rw [xsA_ne (by decide), hz]
    refine xe_putf dX9_readFor_108 flX9_142 (by decide) rfl rfl rfl rfl ?_
    refine xe_iconst (v := 0) dX9_readFor_111 rfl ?_
    refine xe_istore (lv2 := [_, _, _, _, _]) dX9_readFor_112 (by decide) rfl ?_
    refine xe_st (σ2 := xsA (xsF (xsA σ 123 g) 115 10 (nI z)) 122 (va_cpy (fun k => (xsF (xsA σ 123 g) 115 10 (nI z)).2.1 120 (100 * (r - 1) + k)) ((xsF (xsA σ 123 g) 115 10 (nI z)).2.1 122) 0 0 0)) (by rw [cpy_zero, xsA_self]) ?_
    refine lX9_readFor (σ := xsF (xsA σ 123 g) 115 10 (nI z)) (r - 1) z (by omega) xsF_get hz1 _ _ ?_ (z + 1) 0 (by omega) (by omega)
    have k1 : KM σ (xsA (xsF (xsA σ 123 g) 115 10 (nI z)) 122 (va_cpy (fun k => (xsF (xsA σ 123 g) 115 10 (nI z)).2.1 120 (100 * (r - 1) + k)) ((xsF (xsA σ 123 g) 115 10 (nI z)).2.1 122) 0 0 z)) := ((KM.A (by omega)).tr (KM.F (by omega))).tr (KM.A (by omega))
    have hM2 := hM.km k1
    have z1 : (xsA (xsF (xsA σ 123 g) 115 10 (nI z)) 122 (va_cpy (fun k => (xsF (xsA σ 123 g) 115 10 (nI z)).2.1 120 (100 * (r - 1) + k)) ((xsF (xsA σ 123 g) 115 10 (nI z)).2.1 122) 0 0 z)).1 115 10 = nI z := by rw [xsA_1]; exact xsF_get
    refine xe_aload_n dX9_readFor_148 rfl ?_
    refine xe_callv (k2 := kX9_readAll) (vs := []) dX9_readFor_149 okX9_readAll mlX9_183 imX9_readAll slX9_readAll (Or.inl ⟨9, _, _, by decide, rfl, rfl, rfl⟩) rfl rfl (Nat.le_of_ble_eq_true rfl) (Nat.le_of_ble_eq_true rfl) (sX9_readAll (by omega) z z1 hz1 hM2.1 hM2.2.1 hM2.2.2.1 (fun w2 => ?_))
    refine xe_pop dX9_readFor_152 rfl ?_
    refine xe_vret dX9_readFor_153 rfl ?_
    have e : (mRd ((xsA (xsF (xsA σ 123 g) 115 10 (nI z)) 122 (va_cpy (fun k => (xsF (xsA σ 123 g) 115 10 (nI z)).2.1 120 (100 * (r - 1) + k)) ((xsF (xsA σ 123 g) 115 10 (nI z)).2.1 122) 0 0 z)).2.1 122) ((xsA (xsF (xsA σ 123 g) 115 10 (nI z)) 122 (va_cpy (fun k => (xsF (xsA σ 123 g) 115 10 (nI z)).2.1 120 (100 * (r - 1) + k)) ((xsF (xsA σ 123 g) 115 10 (nI z)).2.1 122) 0 0 z)).2.1 123) z).1 = mSem σ (nmO i (fun k => σ.2.1 116 (9 * i + k)) f) := by
      unfold mSem rdT
      rw [hr, if_neg (show ¬ nI r = 0 from fun q => hr0 (nEq (b := 0) (by omega) (by omega) q)), cN_nI (by omega), hz, cN_nI (by omega)]
      congr 1
      refine mRd_cg (fun k hk => ?_) (fun k hk => ?_)
      · rw [xsA_get]; simp only [va_cpy, xsF_A, xsA_ne (show (120 : Nat) ≠ 123 by decide)]; simp [hk]
      · rw [xsA_ne (by decide), xsF_A, xsA_get]; exact hnm k hk
    refine h _ (k1.tr KM.mS) ?_ ?_
    · rw [mS_sum, ← e]
    · rw [mS_keep, ← e]
  · refine xe_aload_n dX9_readFor_75 rfl ?_
    refine xe_aload_n dX9_readFor_76 rfl ?_
    refine xe_getr dX9_readFor_77 flX9_33 (by decide) rfl rfl ?_
    refine xe_iconst (v := 4) dX9_readFor_80 rfl ?_
    refine xn_iaload dX9_readFor_81 (by decide) rfl (by first | with_reducible rfl | (simp only [xl, pk_mul, nI_add, nI_1]; done) | (simp only [xl, pk_mul, nI_add, nI_1]; rfl)) (by omega) (by decide) ?_
    rw [xsA_get]
    refine xe_putf dX9_readFor_82 flX9_177 (by decide) rfl rfl rfl rfl ?_
    refine xe_aload_n dX9_readFor_85 rfl ?_
    refine xe_iconst (v := 5) dX9_readFor_86 rfl ?_
    refine xe_putf dX9_readFor_87 flX9_174 (by decide) rfl rfl rfl rfl ?_
    refine xe_vret dX9_readFor_90 rfl ?_
    have hs0 : mSem σ (nmO i (fun k => σ.2.1 116 (9 * i + k)) f) = (nmO i (fun k => σ.2.1 116 (9 * i + k)) f 4, 5) := by unfold mSem; rw [hr, if_pos h72]
    refine h _ (((KM.A (by omega)).tr (KM.F (by omega))).tr (KM.F (by omega))) ?_ ?_
    · rw [xsF_ne (Or.inr (by decide)), xsF_get, hs0, hnm 4 (by omega)]
    · rw [xsF_get, hs0]
