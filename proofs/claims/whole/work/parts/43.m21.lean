theorem KM2.setF {σ σ2 : xSt} {j : Nat} {v : Int32} (h : KM2 σ σ2) : KM2 (xsF σ 115 j v) (xsF σ2 115 j v) := by
  refine ⟨h.1, h.2.1, fun c hc => ?_, fun i hi => ?_⟩
  · funext i; rw [xsF_ne (Or.inl hc), xsF_ne (Or.inl hc), h.2.2.1 c hc]
  · by_cases e : i = j
    · subst e; rw [xsF_get, xsF_get]
    · rw [xsF_ne (Or.inr e), xsF_ne (Or.inr e)]; exact h.2.2.2 i hi
theorem KM2.F {σ : xSt} {j : Nat} {v : Int32} (h : 10 ≤ j ∧ j ≤ 15) : KM2 σ (xsF σ 115 j v) := (KM.F h).two
theorem xsF_comm {σ : xSt} {c i j : Nat} {v w : Int32} (h : i ≠ j) : xsF (xsF σ c i v) c j w = xsF (xsF σ c j w) c i v := by
  unfold xsF
  simp only [va_up_self, va_up2]
  rw [show upd (upd (σ.1 c) i v) j w = upd (upd (σ.1 c) j w) i v from by funext k; unfold upd; by_cases h1 : k = j <;> by_cases h2 : k = i <;> simp_all]
/-- a text becomes cellar number ru -/
def cS (σ : xSt) (ru t : Nat) : xSt := xsA (xsF (xsA (xsA (xsF σ 115 5 0) 120 (va_cpy (σ.2.1 119) (σ.2.1 120) 0 (100 * ru) t)) 121 (upd (σ.2.1 121) ru (nI t))) 115 8 (nI (ru + 1))) 116 (upd (σ.2.1 116) 57 (nI (ru + 1)))
theorem cpyS_succ {f g : Nat → Int32} {s a j : Nat} : upd (va_cpy f g s a j) (a + j) (f (s + j)) = va_cpy f g s a (j + 1) := by
  funext k
  unfold upd va_cpy
  by_cases h : k = a + j
  · subst h; simp
  · by_cases h2 : a ≤ k ∧ k < a + j
    · rw [if_neg h, if_pos h2, if_pos (by omega)]
    · rw [if_neg h, if_neg h2, if_neg (by omega)]
theorem cpyS_0 {f g : Nat → Int32} {s a : Nat} : va_cpy f g s a 0 = g := by funext k; unfold va_cpy; rw [if_neg (by omega)]

theorem lX9_cellar1 {d : Nat} {σ : xSt} {Post : Option Value → xSt → Prop} (t : Nat) (hz : σ.1 115 10 = nI t) (h1 : t ≤ 100) (h : xEv kX9_cellar d 48 [some (.ref 115), some (.int (nI t))] [] (xsA σ 122 (va_cpy (σ.2.1 119) (σ.2.1 122) 0 0 t)) Post) : ∀ (n j : Nat), t + 1 ≤ j + n → j ≤ t → xEv kX9_cellar d 22 [some (.ref 115), some (.int (nI j))] [] (xsA σ 122 (va_cpy (σ.2.1 119) (σ.2.1 122) 0 0 j)) Post := by
  intro n
  induction n with
  | zero => intro j hn hj; omega
  | succ n ih =>
    intro j hn hj
    refine xe_iload_n dX9_cellar_22 rfl ?_
    refine xe_aload_n dX9_cellar_23 rfl ?_
    refine xe_getf dX9_cellar_24 flX9_142 (by decide) rfl rfl ?_
    rw [xsA_1, hz]
    refine xe_icmp_ge (tgt := 48) dX9_cellar_27 (by decide) (fun h27 => ?_) (fun h27 => ?_)
    · have e := nLe (a := t) (by omega) (by omega) h27
      obtain rfl : j = t := by omega
      exact h
    · have e := nNle (a := t) (by omega) (by omega) h27
      refine xe_aload_n dX9_cellar_30 rfl ?_
      refine xe_getr dX9_cellar_31 flX9_30 (by decide) rfl rfl ?_
      refine xe_iload_n dX9_cellar_34 rfl ?_
      refine xe_aload_n dX9_cellar_35 rfl ?_
      refine xe_getr dX9_cellar_36 flX9_21 (by decide) rfl rfl ?_
      refine xe_iload_n dX9_cellar_39 rfl ?_
      refine xn_iaload (j := j) dX9_cellar_40 (by decide) rfl rfl (by omega) (by decide) ?_
      rw [xsA_ne (by decide)]
      refine xn_iastore (j := j) dX9_cellar_41 (by decide) rfl rfl (by omega) (by decide) ?_
      refine xn_inc (j := j) (lv2 := [_, _]) dX9_cellar_42 (by decide) rfl rfl ?_
      refine xe_goto (tgt := 22) dX9_cellar_45 (by decide) ?_
      refine xe_st ?_ (ih (j + 1) (by omega) (by omega))
      rw [xsA_A, xsA_get, cpy_succ]

theorem lX9_cellar2 {d : Nat} {σ : xSt} {Post : Option Value → xSt → Prop} (t ru : Nat) (hz : σ.1 115 10 = nI t) (h1 : t ≤ 100) (hr : σ.1 115 8 = nI ru) (hr6 : ru < 6) (h : xEv kX9_cellar d 104 [some (.ref 115), some (.int (nI t))] [] (xsA σ 120 (va_cpy (σ.2.1 122) (σ.2.1 120) 0 (100 * ru) t)) Post) : ∀ (n j : Nat), t + 1 ≤ j + n → j ≤ t → xEv kX9_cellar d 70 [some (.ref 115), some (.int (nI j))] [] (xsA σ 120 (va_cpy (σ.2.1 122) (σ.2.1 120) 0 (100 * ru) j)) Post := by
  intro n
  induction n with
  | zero => intro j hn hj; omega
  | succ n ih =>
    intro j hn hj
    refine xe_iload_n dX9_cellar_70 rfl ?_
    refine xe_aload_n dX9_cellar_71 rfl ?_
    refine xe_getf dX9_cellar_72 flX9_142 (by decide) rfl rfl ?_
    rw [xsA_1, hz]
    refine xe_icmp_ge (tgt := 104) dX9_cellar_75 (by decide) (fun h75 => ?_) (fun h75 => ?_)
    · have e := nLe (a := t) (by omega) (by omega) h75
      obtain rfl : j = t := by omega
      exact h
    · have e := nNle (a := t) (by omega) (by omega) h75
      refine xe_aload_n dX9_cellar_78 rfl ?_
      refine xe_getr dX9_cellar_79 flX9_24 (by decide) rfl rfl ?_
      refine xe_bipush (v := 100) dX9_cellar_82 rfl ?_
      refine xe_aload_n dX9_cellar_84 rfl ?_
      refine xe_getf dX9_cellar_85 flX9_186 (by decide) rfl rfl ?_
      rw [xsA_1, hr]
      refine xe_imul dX9_cellar_88 ?_
      refine xe_iload_n dX9_cellar_89 rfl ?_
      refine xe_iadd dX9_cellar_90 ?_
      refine xe_aload_n dX9_cellar_91 rfl ?_
      refine xe_getr dX9_cellar_92 flX9_30 (by decide) rfl rfl ?_
      refine xe_iload_n dX9_cellar_95 rfl ?_
      refine xn_iaload (j := j) dX9_cellar_96 (by decide) rfl rfl (by omega) (by decide) ?_
      rw [xsA_ne (by decide)]
      refine xn_iastore (j := 100 * ru + j) dX9_cellar_97 (by decide) rfl (by simp only [xl, pk_mul, nI_add]) (by omega) (by decide) ?_
      refine xn_inc (j := j) (lv2 := [_, _]) dX9_cellar_98 (by decide) rfl rfl ?_
      refine xe_goto (tgt := 70) dX9_cellar_101 (by decide) ?_
      refine xe_st ?_ (ih (j + 1) (by omega) (by omega))
      have q := cpyS_succ (f := σ.2.1 122) (g := σ.2.1 120) (s := 0) (a := 100 * ru) (j := j)
      rw [Nat.zero_add] at q
      rw [xsA_A, xsA_get, q]

theorem sX9_cellar {d : Nat} (hd : 20 ≤ d) {σ : xSt} {Post : Option Value → xSt → Prop} (ru t : Nat) (hru : σ.1 115 8 = nI ru) (hr6 : ru ≤ 6) (ht : σ.1 115 5 = nI t) (ht1 : t ≤ 100) (hM : MCo σ) (h : (ru = 6 → Post (some (.int (-4))) σ) ∧ (ru < 6 → pOk2 t (mRd (σ.2.1 119) (fun _ => 0) t).2 = false → ∀ σ2, KM2 (xsF σ 115 5 0) σ2 → Post (some (.int (-10 - nI (mRd (σ.2.1 119) (fun _ => 0) t).2.1))) σ2) ∧ (ru < 6 → pOk2 t (mRd (σ.2.1 119) (fun _ => 0) t).2 = true → ∀ σ2, KM2 (cS σ ru t) σ2 → Post (some (.int (nI ru))) σ2)) : xM kX9_cellar d [.ref 115] σ Post := by
  obtain ⟨d, rfl⟩ : ∃ e, d = e + 1 := ⟨d - 1, by omega⟩
  refine xM_start (lv := [some (.ref 115), none]) rfl ?_
  refine xe_aload_n dX9_cellar_0 rfl ?_
  refine xe_getf dX9_cellar_1 flX9_186 (by decide) rfl rfl ?_
  rw [hru]
  refine xe_bipush (v := 6) dX9_cellar_4 rfl ?_
  refine xe_icmp_ne (tgt := 12) dX9_cellar_6 (by decide) (fun h6 => ?_) (fun h6 => ?_)
  · have hlt : ru < 6 := Nat.lt_of_le_of_ne hr6 (fun z => h6 (by rw [z]; rfl))
    refine xe_aload_n dX9_cellar_12 rfl ?_
    refine xe_aload_n dX9_cellar_13 rfl ?_
    refine xe_getf dX9_cellar_14 flX9_132 (by decide) rfl rfl ?_
    rw [ht]
    refine xe_putf dX9_cellar_17 flX9_142 (by decide) rfl rfl rfl rfl ?_
    refine xe_iconst (v := 0) dX9_cellar_20 rfl ?_
    refine xe_istore_n (lv2 := [_, _]) dX9_cellar_21 (by decide) rfl ?_
    refine xe_st (σ2 := xsA (xsF σ 115 10 (nI t)) 122 (va_cpy ((xsF σ 115 10 (nI t)).2.1 119) ((xsF σ 115 10 (nI t)).2.1 122) 0 0 0)) (by rw [cpy_zero, xsA_self]) ?_
    refine lX9_cellar1 t xsF_get ht1 ?_ (t + 1) 0 (by omega) (by omega)
    refine xe_aload_n dX9_cellar_48 rfl ?_
    refine xe_iconst (v := 0) dX9_cellar_49 rfl ?_
    refine xe_putf dX9_cellar_50 flX9_132 (by decide) rfl rfl rfl rfl ?_
    show xEv _ _ _ _ _ (xsF (xsA (xsF σ 115 10 (nI t)) 122 (va_cpy (σ.2.1 119) (σ.2.1 122) 0 0 t)) 115 5 0) Post
    have z10 : (xsF (xsA (xsF σ 115 10 (nI t)) 122 (va_cpy (σ.2.1 119) (σ.2.1 122) 0 0 t)) 115 5 0).1 115 10 = nI t := by rw [xsF_ne (Or.inr (by decide)), xsA_1]; exact xsF_get
    have k1 : KM2 (xsF σ 115 5 0) (xsF (xsA (xsF σ 115 10 (nI t)) 122 (va_cpy (σ.2.1 119) (σ.2.1 122) 0 0 t)) 115 5 0) := by
      have q : (xsF (xsA (xsF σ 115 10 (nI t)) 122 (va_cpy (σ.2.1 119) (σ.2.1 122) 0 0 t)) 115 5 0) = xsA (xsF (xsF σ 115 5 0) 115 10 (nI t)) 122 (va_cpy (σ.2.1 119) (σ.2.1 122) 0 0 t) := by rw [xsF_comm (by decide)]; rfl
      rw [q]
      exact (KM2.F (by omega)).tr (KM2.A (by omega))
    have hM1 : MCo (xsF (xsA (xsF σ 115 10 (nI t)) 122 (va_cpy (σ.2.1 119) (σ.2.1 122) 0 0 t)) 115 5 0) := (show MCo (xsF σ 115 5 0) from hM).km2 k1
    refine xe_aload_n dX9_cellar_53 rfl ?_
    refine xe_callv (k2 := kX9_readAll) (vs := []) dX9_cellar_54 okX9_readAll mlX9_183 imX9_readAll slX9_readAll (Or.inl ⟨9, _, _, by decide, rfl, rfl, rfl⟩) rfl rfl (Nat.le_of_ble_eq_true rfl) (Nat.le_of_ble_eq_true rfl) (sX9_readAll (by omega) t z10 ht1 hM1.1 hM1.2.1 hM1.2.2.1 (fun w2 => ?_))
    have er : mRd ((xsF (xsA (xsF σ 115 10 (nI t)) 122 (va_cpy (σ.2.1 119) (σ.2.1 122) 0 0 t)) 115 5 0).2.1 122) ((xsF (xsA (xsF σ 115 10 (nI t)) 122 (va_cpy (σ.2.1 119) (σ.2.1 122) 0 0 t)) 115 5 0).2.1 123) t = mRd (σ.2.1 119) ((xsF (xsA (xsF σ 115 10 (nI t)) 122 (va_cpy (σ.2.1 119) (σ.2.1 122) 0 0 t)) 115 5 0).2.1 123) t := mRd_cg (fun k hk => by rw [xsF_A, xsA_get]; simp [va_cpy, hk]) (fun _ _ => rfl)
    rw [er]
    have ep : (mRd (σ.2.1 119) ((xsF (xsA (xsF σ 115 10 (nI t)) 122 (va_cpy (σ.2.1 119) (σ.2.1 122) 0 0 t)) 115 5 0).2.1 123) t).2 = (mRd (σ.2.1 119) (fun _ => 0) t).2 := (mRd_nm _ _ _ _).2
    rw [ep]
    generalize hτ : mS (xsF (xsA (xsF σ 115 10 (nI t)) 122 (va_cpy (σ.2.1 119) (σ.2.1 122) 0 0 t)) 115 5 0) (mRd (σ.2.1 119) (fun _ => 0) t).2 w2 (mRd (σ.2.1 119) ((xsF (xsA (xsF σ 115 10 (nI t)) 122 (va_cpy (σ.2.1 119) (σ.2.1 122) 0 0 t)) 115 5 0).2.1 123) t).1.1 (mRd (σ.2.1 119) ((xsF (xsA (xsF σ 115 10 (nI t)) 122 (va_cpy (σ.2.1 119) (σ.2.1 122) 0 0 t)) 115 5 0).2.1 123) t).1.2 = τ
    have kτ : KM2 (xsF σ 115 5 0) τ := by rw [← hτ]; exact k1.tr KM.mS.two
    have eat : τ.1 115 11 = nI (mRd (σ.2.1 119) (fun _ => 0) t).2.1 := by rw [← hτ]; exact mS_at
    have esz : τ.1 115 10 = nI t := by rw [← hτ, mS_size]; exact z10
    have e122 : τ.2.1 122 = va_cpy (σ.2.1 119) (σ.2.1 122) 0 0 t := by rw [← hτ, mS_A, xsF_A, xsA_get]
    have e8 : τ.1 115 8 = nI ru := by rw [kτ.2.2.2 8 (by omega), xsF_ne (Or.inr (by decide))]; exact hru
    refine xe_if_ne (tgt := 68) dX9_cellar_57 (by decide) (fun h57 => ?_) (fun h57 => ?_)
    · refine xe_iconst (v := 0) dX9_cellar_68 rfl ?_
      refine xe_istore_n (lv2 := [_, _]) dX9_cellar_69 (by decide) rfl ?_
      refine xe_st (σ2 := xsA τ 120 (va_cpy (τ.2.1 122) (τ.2.1 120) 0 (100 * ru) 0)) (by rw [cpyS_0, xsA_self]) ?_
      refine lX9_cellar2 t ru esz ht1 e8 hlt ?_ (t + 1) 0 (by omega) (by omega)
      refine xe_aload_n dX9_cellar_104 rfl ?_
      refine xe_getr dX9_cellar_105 flX9_27 (by decide) rfl rfl ?_
      refine xe_aload_n dX9_cellar_108 rfl ?_
      refine xe_getf dX9_cellar_109 flX9_186 (by decide) rfl rfl ?_
      rw [xsA_1, e8]
      refine xe_aload_n dX9_cellar_112 rfl ?_
      refine xe_getf dX9_cellar_113 flX9_142 (by decide) rfl rfl ?_
      rw [xsA_1, esz]
      refine xn_iastore (j := ru) dX9_cellar_116 (by decide) rfl rfl (by omega) (by decide) ?_
      refine xe_aload_n dX9_cellar_117 rfl ?_
      refine xe_dup dX9_cellar_118 rfl ?_
      refine xe_getf dX9_cellar_119 flX9_186 (by decide) rfl rfl ?_
      rw [xsA_1, xsA_1, e8]
      refine xe_iconst (v := 1) dX9_cellar_122 rfl ?_
      refine xe_iadd dX9_cellar_123 ?_
      rw [nI_1]
      refine xe_putf dX9_cellar_124 flX9_186 (by decide) rfl rfl rfl rfl ?_
      refine xe_aload_n dX9_cellar_127 rfl ?_
      refine xe_getr dX9_cellar_128 flX9_9 (by decide) rfl rfl ?_
      refine xe_bipush (v := 57) dX9_cellar_131 rfl ?_
      refine xe_aload_n dX9_cellar_133 rfl ?_
      refine xe_getf dX9_cellar_134 flX9_186 (by decide) rfl rfl ?_
      rw [xsF_get]
      refine xn_iastore dX9_cellar_137 (by decide) rfl (by first | with_reducible rfl | (simp only [xl, pk_mul, nI_add, nI_1]; done) | (simp only [xl, pk_mul, nI_add, nI_1]; rfl)) (by omega) (by decide) ?_
      refine xe_aload_n dX9_cellar_138 rfl ?_
      refine xe_getf dX9_cellar_139 flX9_186 (by decide) rfl rfl ?_
      rw [xsA_1, xsF_get]
      refine xe_iconst (v := 1) dX9_cellar_142 rfl ?_
      refine xe_isub dX9_cellar_143 ?_
      refine xe_iret dX9_cellar_144 rfl rfl ?_
      rw [nI_pred]
      refine h.2.2 hlt (bI_ne0.mp h57) _ ?_
      have q := (((kτ.set (c := 120) (g := va_cpy (σ.2.1 119) (σ.2.1 120) 0 (100 * ru) t)).set (c := 121) (g := upd (σ.2.1 121) ru (nI t))).setF (j := 8) (v := nI (ru + 1))).set (c := 116) (g := upd (σ.2.1 116) 57 (nI (ru + 1)))
      have g1 : va_cpy (τ.2.1 122) (τ.2.1 120) 0 (100 * ru) t = va_cpy (σ.2.1 119) (σ.2.1 120) 0 (100 * ru) t := by
        rw [e122, kτ.1 120 (by omega)]
        funext k; unfold va_cpy
        by_cases hk : 100 * ru ≤ k ∧ k < 100 * ru + t
        · rw [if_pos hk, if_pos hk, if_pos (by omega)]; exact congrArg (σ.2.1 119) (by omega)
        · rw [if_neg hk, if_neg hk]; rfl
      have g2 : ∀ g, (xsA τ 120 g).2.1 121 = σ.2.1 121 := fun g => by rw [xsA_ne (by decide), kτ.1 121 (by omega)]; rfl
      have g3 : ∀ g g2 v, (xsF (xsA (xsA τ 120 g) 121 g2) 115 8 v).2.1 116 = σ.2.1 116 := fun g g2 v => by rw [xsF_A, xsA_ne (by decide), xsA_ne (by decide), kτ.1 116 (by omega)]; rfl
      rw [g1, g2, g3]
      exact q
    · refine xe_bipush (v := -10) dX9_cellar_60 rfl ?_
      refine xe_aload_n dX9_cellar_62 rfl ?_
      refine xe_getf dX9_cellar_63 flX9_139 (by decide) rfl rfl ?_
      refine xe_isub dX9_cellar_66 ?_
      refine xe_iret dX9_cellar_67 rfl rfl ?_
      rw [eat]
      exact h.2.1 hlt (bI_eq0.mp h57) τ kτ
  · refine xe_bipush (v := -4) dX9_cellar_9 rfl ?_
    refine xe_iret dX9_cellar_11 rfl rfl ?_
    exact h.1 (nEq (b := 6) (by omega) (by omega) h6)
