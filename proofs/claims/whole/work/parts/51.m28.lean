theorem rng01 {x : Int32} (h : rng x 0 1) : x = 0 ∨ x = 1 := by
  obtain ⟨i, hi, rfl⟩ := rng_nat (m := 1) (by omega) h
  match i, hi with
  | 0, _ => exact Or.inl rfl
  | 1, _ => exact Or.inr rfl

theorem sX8_mean {d : Nat} (hd : 4 ≤ d) {σ : xSt} {Post : Option Value → xSt → Prop} {n m p k : Nat} (G : Nat → Int32) (S : xSem) (x pt : Int32) (hJ : RepJ σ 1 G n m p k) (hc : CO G n m p k) (hS : JSem σ S) (hs : SOk n G) (h : ∀ τ, JK σ τ → Post (some (.long (meanV S n G x pt))) τ) : xM kX8_mean d [.ref 0, .int x, .int pt] σ Post := by
  obtain ⟨d, rfl⟩ : ∃ e, d = e + 1 := ⟨d - 1, by omega⟩
  refine xM_start (lv := [some (.ref 0), some (.int x), some (.int pt), none, none, none]) rfl ?_
  have hn6 : n ≤ 6 := hc.2.1
  refine xe_iload_n dX8_mean_0 rfl ?_
  refine xe_if_lt (tgt := 29) dX8_mean_1 (by decide) (fun h1 => ?_) (fun h1 => ?_)
  · refine xe_ldc2 dX8_mean_29 cnX8_272 ?_
    refine xe_lret dX8_mean_32 rfl ?_
    have c0 : ¬ ((rng x 0 60 ∧ rng pt 0 1) ∧ ¬ n = 0) := by first | exact fun z => absurd z.1.1.1 (Int32.not_le.mpr h1) | exact fun z => absurd z.1.1.2 (Int32.not_le.mpr h7) | exact fun z => z.2 (nEq (b := 0) (by omega) (by omega) (hJ.P.1.symm.trans h26)) | exact fun z => (rng01 z.1.2).elim h11 h16
    have e := h σ Un.rf
    rw [meanV, if_neg c0] at e
    exact e
  · refine xe_iload_n dX8_mean_4 rfl ?_
    refine xe_bipush (v := 60) dX8_mean_5 rfl ?_
    refine xe_icmp_gt (tgt := 29) dX8_mean_7 (by decide) (fun h7 => ?_) (fun h7 => ?_)
    · refine xe_ldc2 dX8_mean_29 cnX8_272 ?_
      refine xe_lret dX8_mean_32 rfl ?_
      have c0 : ¬ ((rng x 0 60 ∧ rng pt 0 1) ∧ ¬ n = 0) := by first | exact fun z => absurd z.1.1.1 (Int32.not_le.mpr h1) | exact fun z => absurd z.1.1.2 (Int32.not_le.mpr h7) | exact fun z => z.2 (nEq (b := 0) (by omega) (by omega) (hJ.P.1.symm.trans h26)) | exact fun z => (rng01 z.1.2).elim h11 h16
      have e := h σ Un.rf
      rw [meanV, if_neg c0] at e
      exact e
    · refine xe_iload_n dX8_mean_10 rfl ?_
      refine xe_if_eq (tgt := 19) dX8_mean_11 (by decide) (fun h11 => ?_) (fun h11 => ?_)
      · refine xe_aload_n dX8_mean_19 rfl ?_
        refine xe_getr dX8_mean_20 flX8_12 (by decide) rfl rfl ?_
        refine xe_getf dX8_mean_23 flX8_208 (by decide) rfl rfl ?_
        refine xe_if_ne (tgt := 33) dX8_mean_26 (by decide) (fun h26 => ?_) (fun h26 => ?_)
        · have c0 : rng x 0 60 := ⟨Int32.not_lt.mp h1, Int32.not_lt.mp h7⟩
          obtain ⟨v, hv6, rfl⟩ := rng_nat (m := 60) (by omega) c0
          have ev : cN (nI v) = v := cN_nI (by omega)
          have cp : rng pt 0 1 := by first | (rw [h11]; decide) | (rw [h16]; decide)
          rw [hJ.P.1] at h26
          have hn0 : ¬ n = 0 := fun z => h26 (by rw [z]; rfl)
          refine xe_aload_n dX8_mean_33 rfl ?_
          refine xe_getr dX8_mean_34 flX8_21 (by decide) rfl rfl ?_
          refine xe_aload_n dX8_mean_37 rfl ?_
          refine xe_getr dX8_mean_38 flX8_12 (by decide) rfl rfl ?_
          refine xe_callv (k2 := kX5_copyPotsFrom) (vs := [_]) dX8_mean_41 okX5_copyPotsFrom mlX8_224 imX5_copyPotsFrom slX5_copyPotsFrom (Or.inl ⟨5, _, _, by decide, rfl, rfl, rfl⟩) rfl rfl (Nat.le_of_ble_eq_true rfl) (Nat.le_of_ble_eq_true rfl) (sX5_copyPotsFrom (by omega) isS53 isS1 (by omega) hJ.P.1 hc.2.1 (fun τ hu hcp => ?_))
          refine xe_aload_n dX8_mean_44 rfl ?_
          refine xe_getr dX8_mean_45 flX8_21 (by decide) rfl rfl ?_
          refine xe_iload_n dX8_mean_48 rfl ?_
          obtain ⟨cc, l, hH, hk⟩ := (hS.jk (JK.t hu)).keep
          refine xe_aload_n dX8_mean_49 rfl ?_
          refine xe_callv (k2 := kX8_holding) (vs := []) dX8_mean_50 okX8_holding mlX8_146 imX8_holding slX8_holding (Or.inl ⟨8, _, _, by decide, rfl, rfl, rfl⟩) rfl rfl (Nat.le_of_ble_eq_true rfl) (Nat.le_of_ble_eq_true rfl) (sX8_holding (by omega) hH ?_)
          refine xe_getf dX8_mean_53 flX8_149 hH.1.1.1 hH.1.1.2 rfl ?_
          rw [hk]
          refine xe_callv (k2 := kX5_ripenAll) (vs := [_, _]) dX8_mean_56 okX5_ripenAll mlX8_220 imX5_ripenAll slX5_ripenAll (Or.inl ⟨5, _, _, by decide, rfl, rfl, rfl⟩) rfl rfl (Nat.le_of_ble_eq_true rfl) (Nat.le_of_ble_eq_true rfl) (sX5_ripenAll (by omega) _ G isS53 hc.2.1 (by omega) hs (hcp G hJ.P) (fun υ hu2 hT => ?_))
          refine xe_aload_n dX8_mean_59 rfl ?_
          refine xe_getr dX8_mean_60 flX8_21 (by decide) rfl rfl ?_
          refine xe_callv (k2 := kX5_sugarOfAll) (vs := []) dX8_mean_63 okX5_sugarOfAll mlX8_228 imX5_sugarOfAll slX5_sugarOfAll (Or.inl ⟨5, _, _, by decide, rfl, rfl, rfl⟩) rfl rfl (Nat.le_of_ble_eq_true rfl) (Nat.le_of_ble_eq_true rfl) (sX5_sugarOfAll (by omega) _ isS53 hn6 hT ?_)
          obtain ⟨y, hy, ey⟩ := iS_nat (f := fun i => tkGs (kpS S) n G v (9 * i + 2)) n (fun i hi => tkGs_sok hn6 hs v i hi)
          rw [ey]
          refine xe_istore_n (lv2 := [_, _, _, _, _, _]) dX8_mean_66 (by decide) rfl ?_
          refine xe_aload_n dX8_mean_67 rfl ?_
          refine xe_getr dX8_mean_68 flX8_21 (by decide) rfl rfl ?_
          refine xe_getf dX8_mean_71 flX8_208 (by decide) rfl rfl ?_
          rw [hT.1]
          refine xe_istore (lv2 := [_, _, _, _, _, _]) dX8_mean_74 (by decide) rfl ?_
          refine xe_iload_n dX8_mean_76 rfl ?_
          refine xe_iload dX8_mean_77 rfl ?_
          refine xe_calls (k2 := kX8_commonDivisor) (vs := [_, _]) dX8_mean_79 okX8_commonDivisor mlX8_276 stX8_commonDivisor rfl rfl (Nat.le_of_ble_eq_true rfl) (Nat.le_of_ble_eq_true rfl) (sX8_commonDivisor (by omega) y n (by omega) (by omega) ?_)
          refine xe_istore (lv2 := [_, _, _, _, _, _]) dX8_mean_82 (by decide) rfl ?_
          have hg0 : 0 < Nat.gcd y n := Nat.gcd_pos_of_pos_right y (by omega)
          have hgn : Nat.gcd y n ≤ n := Nat.gcd_le_right y (by omega)
          refine xe_iload dX8_mean_84 rfl ?_
          refine xe_if_ne (tgt := 93) dX8_mean_86 (by decide) (fun h86 => ?_) (fun h86 => absurd h86 (nI_ne0 hg0 (by omega)))
          refine xe_iload_n dX8_mean_93 rfl ?_
          refine xe_if_ne (tgt := 101) dX8_mean_94 (by decide) (fun h94 => ?_) (fun h94 => ?_)
          · refine xe_iload dX8_mean_101 rfl ?_
            refine xe_iload dX8_mean_103 rfl ?_
            refine xe_idiv dX8_mean_105 (nI_ne0 hg0 (by omega)) ?_
            refine xe_top (x2 := nI ((if pt = 0 then y else n) / Nat.gcd y n)) (by first | (rw [if_pos h94]; exact pk_div (by omega) hg0 (by omega)) | (rw [if_neg h94]; exact pk_div (by omega) hg0 (by omega))) ?_
            refine xe_i2l dX8_mean_106 ?_
            refine xe_lret dX8_mean_107 rfl ?_
            have e := h υ ((JK.t hu).tr (JK.t hu2))
            rw [meanV, if_pos ⟨⟨c0, cp⟩, hn0⟩, ev, ey, cN_nI (by omega), frV] at e
            rw [nI_l (Nat.lt_of_le_of_lt (Nat.div_le_self _ _) (by split <;> omega))]
            first | (rw [if_pos h94] at e; rw [if_pos h94]; exact e) | (rw [if_neg h94] at e; rw [if_neg h94]; exact e)
          · refine xe_iload_n dX8_mean_97 rfl ?_
            refine xe_goto (tgt := 103) dX8_mean_98 (by decide) ?_
            refine xe_iload dX8_mean_103 rfl ?_
            refine xe_idiv dX8_mean_105 (nI_ne0 hg0 (by omega)) ?_
            refine xe_top (x2 := nI ((if pt = 0 then y else n) / Nat.gcd y n)) (by first | (rw [if_pos h94]; exact pk_div (by omega) hg0 (by omega)) | (rw [if_neg h94]; exact pk_div (by omega) hg0 (by omega))) ?_
            refine xe_i2l dX8_mean_106 ?_
            refine xe_lret dX8_mean_107 rfl ?_
            have e := h υ ((JK.t hu).tr (JK.t hu2))
            rw [meanV, if_pos ⟨⟨c0, cp⟩, hn0⟩, ev, ey, cN_nI (by omega), frV] at e
            rw [nI_l (Nat.lt_of_le_of_lt (Nat.div_le_self _ _) (by split <;> omega))]
            first | (rw [if_pos h94] at e; rw [if_pos h94]; exact e) | (rw [if_neg h94] at e; rw [if_neg h94]; exact e)
        · refine xe_ldc2 dX8_mean_29 cnX8_272 ?_
          refine xe_lret dX8_mean_32 rfl ?_
          have c0 : ¬ ((rng x 0 60 ∧ rng pt 0 1) ∧ ¬ n = 0) := by first | exact fun z => absurd z.1.1.1 (Int32.not_le.mpr h1) | exact fun z => absurd z.1.1.2 (Int32.not_le.mpr h7) | exact fun z => z.2 (nEq (b := 0) (by omega) (by omega) (hJ.P.1.symm.trans h26)) | exact fun z => (rng01 z.1.2).elim h11 h16
          have e := h σ Un.rf
          rw [meanV, if_neg c0] at e
          exact e
      · refine xe_iload_n dX8_mean_14 rfl ?_
        refine xe_iconst (v := 1) dX8_mean_15 rfl ?_
        refine xe_icmp_ne (tgt := 29) dX8_mean_16 (by decide) (fun h16 => ?_) (fun h16 => ?_)
        · refine xe_ldc2 dX8_mean_29 cnX8_272 ?_
          refine xe_lret dX8_mean_32 rfl ?_
          have c0 : ¬ ((rng x 0 60 ∧ rng pt 0 1) ∧ ¬ n = 0) := by first | exact fun z => absurd z.1.1.1 (Int32.not_le.mpr h1) | exact fun z => absurd z.1.1.2 (Int32.not_le.mpr h7) | exact fun z => z.2 (nEq (b := 0) (by omega) (by omega) (hJ.P.1.symm.trans h26)) | exact fun z => (rng01 z.1.2).elim h11 h16
          have e := h σ Un.rf
          rw [meanV, if_neg c0] at e
          exact e
        · refine xe_aload_n dX8_mean_19 rfl ?_
          refine xe_getr dX8_mean_20 flX8_12 (by decide) rfl rfl ?_
          refine xe_getf dX8_mean_23 flX8_208 (by decide) rfl rfl ?_
          refine xe_if_ne (tgt := 33) dX8_mean_26 (by decide) (fun h26 => ?_) (fun h26 => ?_)
          · have c0 : rng x 0 60 := ⟨Int32.not_lt.mp h1, Int32.not_lt.mp h7⟩
            obtain ⟨v, hv6, rfl⟩ := rng_nat (m := 60) (by omega) c0
            have ev : cN (nI v) = v := cN_nI (by omega)
            have cp : rng pt 0 1 := by first | (rw [h11]; decide) | (rw [h16]; decide)
            rw [hJ.P.1] at h26
            have hn0 : ¬ n = 0 := fun z => h26 (by rw [z]; rfl)
            refine xe_aload_n dX8_mean_33 rfl ?_
            refine xe_getr dX8_mean_34 flX8_21 (by decide) rfl rfl ?_
            refine xe_aload_n dX8_mean_37 rfl ?_
            refine xe_getr dX8_mean_38 flX8_12 (by decide) rfl rfl ?_
            refine xe_callv (k2 := kX5_copyPotsFrom) (vs := [_]) dX8_mean_41 okX5_copyPotsFrom mlX8_224 imX5_copyPotsFrom slX5_copyPotsFrom (Or.inl ⟨5, _, _, by decide, rfl, rfl, rfl⟩) rfl rfl (Nat.le_of_ble_eq_true rfl) (Nat.le_of_ble_eq_true rfl) (sX5_copyPotsFrom (by omega) isS53 isS1 (by omega) hJ.P.1 hc.2.1 (fun τ hu hcp => ?_))
            refine xe_aload_n dX8_mean_44 rfl ?_
            refine xe_getr dX8_mean_45 flX8_21 (by decide) rfl rfl ?_
            refine xe_iload_n dX8_mean_48 rfl ?_
            obtain ⟨cc, l, hH, hk⟩ := (hS.jk (JK.t hu)).keep
            refine xe_aload_n dX8_mean_49 rfl ?_
            refine xe_callv (k2 := kX8_holding) (vs := []) dX8_mean_50 okX8_holding mlX8_146 imX8_holding slX8_holding (Or.inl ⟨8, _, _, by decide, rfl, rfl, rfl⟩) rfl rfl (Nat.le_of_ble_eq_true rfl) (Nat.le_of_ble_eq_true rfl) (sX8_holding (by omega) hH ?_)
            refine xe_getf dX8_mean_53 flX8_149 hH.1.1.1 hH.1.1.2 rfl ?_
            rw [hk]
            refine xe_callv (k2 := kX5_ripenAll) (vs := [_, _]) dX8_mean_56 okX5_ripenAll mlX8_220 imX5_ripenAll slX5_ripenAll (Or.inl ⟨5, _, _, by decide, rfl, rfl, rfl⟩) rfl rfl (Nat.le_of_ble_eq_true rfl) (Nat.le_of_ble_eq_true rfl) (sX5_ripenAll (by omega) _ G isS53 hc.2.1 (by omega) hs (hcp G hJ.P) (fun υ hu2 hT => ?_))
            refine xe_aload_n dX8_mean_59 rfl ?_
            refine xe_getr dX8_mean_60 flX8_21 (by decide) rfl rfl ?_
            refine xe_callv (k2 := kX5_sugarOfAll) (vs := []) dX8_mean_63 okX5_sugarOfAll mlX8_228 imX5_sugarOfAll slX5_sugarOfAll (Or.inl ⟨5, _, _, by decide, rfl, rfl, rfl⟩) rfl rfl (Nat.le_of_ble_eq_true rfl) (Nat.le_of_ble_eq_true rfl) (sX5_sugarOfAll (by omega) _ isS53 hn6 hT ?_)
            obtain ⟨y, hy, ey⟩ := iS_nat (f := fun i => tkGs (kpS S) n G v (9 * i + 2)) n (fun i hi => tkGs_sok hn6 hs v i hi)
            rw [ey]
            refine xe_istore_n (lv2 := [_, _, _, _, _, _]) dX8_mean_66 (by decide) rfl ?_
            refine xe_aload_n dX8_mean_67 rfl ?_
            refine xe_getr dX8_mean_68 flX8_21 (by decide) rfl rfl ?_
            refine xe_getf dX8_mean_71 flX8_208 (by decide) rfl rfl ?_
            rw [hT.1]
            refine xe_istore (lv2 := [_, _, _, _, _, _]) dX8_mean_74 (by decide) rfl ?_
            refine xe_iload_n dX8_mean_76 rfl ?_
            refine xe_iload dX8_mean_77 rfl ?_
            refine xe_calls (k2 := kX8_commonDivisor) (vs := [_, _]) dX8_mean_79 okX8_commonDivisor mlX8_276 stX8_commonDivisor rfl rfl (Nat.le_of_ble_eq_true rfl) (Nat.le_of_ble_eq_true rfl) (sX8_commonDivisor (by omega) y n (by omega) (by omega) ?_)
            refine xe_istore (lv2 := [_, _, _, _, _, _]) dX8_mean_82 (by decide) rfl ?_
            have hg0 : 0 < Nat.gcd y n := Nat.gcd_pos_of_pos_right y (by omega)
            have hgn : Nat.gcd y n ≤ n := Nat.gcd_le_right y (by omega)
            refine xe_iload dX8_mean_84 rfl ?_
            refine xe_if_ne (tgt := 93) dX8_mean_86 (by decide) (fun h86 => ?_) (fun h86 => absurd h86 (nI_ne0 hg0 (by omega)))
            refine xe_iload_n dX8_mean_93 rfl ?_
            refine xe_if_ne (tgt := 101) dX8_mean_94 (by decide) (fun h94 => ?_) (fun h94 => ?_)
            · refine xe_iload dX8_mean_101 rfl ?_
              refine xe_iload dX8_mean_103 rfl ?_
              refine xe_idiv dX8_mean_105 (nI_ne0 hg0 (by omega)) ?_
              refine xe_top (x2 := nI ((if pt = 0 then y else n) / Nat.gcd y n)) (by first | (rw [if_pos h94]; exact pk_div (by omega) hg0 (by omega)) | (rw [if_neg h94]; exact pk_div (by omega) hg0 (by omega))) ?_
              refine xe_i2l dX8_mean_106 ?_
              refine xe_lret dX8_mean_107 rfl ?_
              have e := h υ ((JK.t hu).tr (JK.t hu2))
              rw [meanV, if_pos ⟨⟨c0, cp⟩, hn0⟩, ev, ey, cN_nI (by omega), frV] at e
              rw [nI_l (Nat.lt_of_le_of_lt (Nat.div_le_self _ _) (by split <;> omega))]
              first | (rw [if_pos h94] at e; rw [if_pos h94]; exact e) | (rw [if_neg h94] at e; rw [if_neg h94]; exact e)
            · refine xe_iload_n dX8_mean_97 rfl ?_
              refine xe_goto (tgt := 103) dX8_mean_98 (by decide) ?_
              refine xe_iload dX8_mean_103 rfl ?_
              refine xe_idiv dX8_mean_105 (nI_ne0 hg0 (by omega)) ?_
              refine xe_top (x2 := nI ((if pt = 0 then y else n) / Nat.gcd y n)) (by first | (rw [if_pos h94]; exact pk_div (by omega) hg0 (by omega)) | (rw [if_neg h94]; exact pk_div (by omega) hg0 (by omega))) ?_
              refine xe_i2l dX8_mean_106 ?_
              refine xe_lret dX8_mean_107 rfl ?_
              have e := h υ ((JK.t hu).tr (JK.t hu2))
              rw [meanV, if_pos ⟨⟨c0, cp⟩, hn0⟩, ev, ey, cN_nI (by omega), frV] at e
              rw [nI_l (Nat.lt_of_le_of_lt (Nat.div_le_self _ _) (by split <;> omega))]
              first | (rw [if_pos h94] at e; rw [if_pos h94]; exact e) | (rw [if_neg h94] at e; rw [if_neg h94]; exact e)
          · refine xe_ldc2 dX8_mean_29 cnX8_272 ?_
            refine xe_lret dX8_mean_32 rfl ?_
            have c0 : ¬ ((rng x 0 60 ∧ rng pt 0 1) ∧ ¬ n = 0) := by first | exact fun z => absurd z.1.1.1 (Int32.not_le.mpr h1) | exact fun z => absurd z.1.1.2 (Int32.not_le.mpr h7) | exact fun z => z.2 (nEq (b := 0) (by omega) (by omega) (hJ.P.1.symm.trans h26)) | exact fun z => (rng01 z.1.2).elim h11 h16
            have e := h σ Un.rf
            rw [meanV, if_neg c0] at e
            exact e

theorem RepJ.hd {σ τ : xSt} {n m m2 p k : Nat} {G G2 f g e : Nat → Int32} (h : RepJ σ 1 G n m p k) (h6 : n ≤ 6) (hu : Un (rC 15) σ τ) (hR : RepR τ 15 m2 f g e) (hf : ∀ r, r < m2 → f r = G2 (59 + 3 * r) ∧ g r = G2 (59 + 3 * r + 1) ∧ e r = G2 (59 + 3 * r + 2)) (hp : p ≤ 10) (hk : k ≤ 8) (hG : ∀ c, ¬ (58 ≤ c ∧ c ≤ 76) → G2 c = G c) : RepJ τ 1 G2 n m2 p k :=
  ⟨(hu.f (by unfold rC; omega) 0).trans (h.w.trans (hG 55 (by omega)).symm), (hu.f (by unfold rC; omega) 1).trans (h.t.trans (hG 56 (by omega)).symm), (hu.f (by unfold rC; omega) 2).trans (h.h.trans (by rw [hG 57 (by omega)])),
   (h.P.un hu h6 (by unfold rC; omega) (fun c _ _ => by unfold rC; omega)).cg (fun c hc => (hG c (by omega)).symm), hR.cg hf,
   (h.L.un hu (fun c hc => by unfold rC at *; omega)).cg (fun r hr => ⟨(hG _ (by omega)).symm, (hG _ (by omega)).symm, rfl⟩),
   (h.B.un hu (fun c hc => by unfold rC at *; omega)).cg (fun r hr => ⟨(hG _ (by omega)).symm, (hG _ (by omega)).symm, rfl⟩)⟩
theorem RepJ.pl {σ τ : xSt} {n m p p2 k : Nat} {G G2 f g : Nat → Int32} (h : RepJ σ 1 G n m p k) (h6 : n ≤ 6) (hu : Un (rC 19) σ τ) (hR : RepR τ 19 p2 f g (fun _ => 0)) (hf : ∀ r, r < p2 → f r = G2 (78 + 2 * r) ∧ g r = G2 (79 + 2 * r)) (hm : m ≤ 6) (hk : k ≤ 8) (hG : ∀ c, ¬ (77 ≤ c ∧ c ≤ 97) → G2 c = G c) : RepJ τ 1 G2 n m p2 k :=
  ⟨(hu.f (by unfold rC; omega) 0).trans (h.w.trans (hG 55 (by omega)).symm), (hu.f (by unfold rC; omega) 1).trans (h.t.trans (hG 56 (by omega)).symm), (hu.f (by unfold rC; omega) 2).trans (h.h.trans (by rw [hG 57 (by omega)])),
   (h.P.un hu h6 (by unfold rC; omega) (fun c _ _ => by unfold rC; omega)).cg (fun c hc => (hG c (by omega)).symm),
   (h.H.un hu (fun c hc => by unfold rC at *; omega)).cg (fun r hr => ⟨(hG _ (by omega)).symm, (hG _ (by omega)).symm, (hG _ (by omega)).symm⟩), hR.cg (fun r hr => ⟨(hf r hr).1, (hf r hr).2, rfl⟩),
   (h.B.un hu (fun c hc => by unfold rC at *; omega)).cg (fun r hr => ⟨(hG _ (by omega)).symm, (hG _ (by omega)).symm, rfl⟩)⟩
theorem RepJ.bk {σ τ : xSt} {n m p k k2 : Nat} {G G2 f g : Nat → Int32} (h : RepJ σ 1 G n m p k) (h6 : n ≤ 6) (hu : Un (rC 23) σ τ) (hR : RepR τ 23 k2 f g (fun _ => 0)) (hf : ∀ r, r < k2 → f r = G2 (99 + 2 * r) ∧ g r = G2 (100 + 2 * r)) (hm : m ≤ 6) (hp : p ≤ 10) (hG : ∀ c, ¬ (98 ≤ c ∧ c ≤ 114) → G2 c = G c) : RepJ τ 1 G2 n m p k2 :=
  ⟨(hu.f (by unfold rC; omega) 0).trans (h.w.trans (hG 55 (by omega)).symm), (hu.f (by unfold rC; omega) 1).trans (h.t.trans (hG 56 (by omega)).symm), (hu.f (by unfold rC; omega) 2).trans (h.h.trans (by rw [hG 57 (by omega)])),
   (h.P.un hu h6 (by unfold rC; omega) (fun c _ _ => by unfold rC; omega)).cg (fun c hc => (hG c (by omega)).symm),
   (h.H.un hu (fun c hc => by unfold rC at *; omega)).cg (fun r hr => ⟨(hG _ (by omega)).symm, (hG _ (by omega)).symm, (hG _ (by omega)).symm⟩),
   (h.L.un hu (fun c hc => by unfold rC at *; omega)).cg (fun r hr => ⟨(hG _ (by omega)).symm, (hG _ (by omega)).symm, rfl⟩), hR.cg (fun r hr => ⟨(hf r hr).1, (hf r hr).2, rfl⟩)⟩
theorem upd0 {m : Nat} : upd (fun _ => (0 : Int32)) m 0 = fun _ => 0 := by funext j; unfold upd; split <;> rfl
theorem hearG1_a {G : Nat → Int32} {m r : Nat} {pp f s : Int32} : upd (fun r => G (59 + 3 * r)) m pp r = hearG1 G m pp f s (59 + 3 * r) := by
  unfold hearG1; simp only [upd]
  by_cases z : r = m
  · rw [if_pos z, if_neg (by omega), if_neg (by omega), if_neg (by omega), if_pos (by omega)]
  · rw [if_neg z, if_neg (by omega), if_neg (by omega), if_neg (by omega), if_neg (by omega)]
theorem hearG1_b {G : Nat → Int32} {m r : Nat} {pp f s : Int32} : upd (fun r => G (59 + 3 * r + 1)) m f r = hearG1 G m pp f s (59 + 3 * r + 1) := by
  unfold hearG1; simp only [upd]
  by_cases z : r = m
  · rw [if_pos z, if_neg (by omega), if_neg (by omega), if_pos (by omega)]
  · rw [if_neg z, if_neg (by omega), if_neg (by omega), if_neg (by omega), if_neg (by omega)]
theorem hearG1_c {G : Nat → Int32} {m r : Nat} {pp f s : Int32} : upd (fun r => G (59 + 3 * r + 2)) m s r = hearG1 G m pp f s (59 + 3 * r + 2) := by
  unfold hearG1; simp only [upd]
  by_cases z : r = m
  · rw [if_pos z, if_neg (by omega), if_pos (by omega)]
  · rw [if_neg z, if_neg (by omega), if_neg (by omega), if_neg (by omega), if_neg (by omega)]
theorem hearG1_o {G : Nat → Int32} {m c : Nat} {pp f s : Int32} (hm : m < 6) (h : ¬ (58 ≤ c ∧ c ≤ 76)) : hearG1 G m pp f s c = G c := by
  unfold hearG1; simp only [upd]
  rw [if_neg (by omega), if_neg (by omega), if_neg (by omega), if_neg (by omega)]
theorem bookG1_a {G : Nat → Int32} {m r : Nat} {pp s : Int32} : upd (fun r => G (99 + 2 * r)) m pp r = bookG1 G m pp s (99 + 2 * r) := by
  unfold bookG1; simp only [upd]
  by_cases z : r = m
  · rw [if_pos z, if_neg (by omega), if_neg (by omega), if_pos (by omega)]
  · rw [if_neg z, if_neg (by omega), if_neg (by omega), if_neg (by omega)]
theorem bookG1_b {G : Nat → Int32} {m r : Nat} {pp s : Int32} : upd (fun r => G (100 + 2 * r)) m s r = bookG1 G m pp s (100 + 2 * r) := by
  unfold bookG1; simp only [upd]
  by_cases z : r = m
  · rw [if_pos z, if_neg (by omega), if_pos (by omega)]
  · rw [if_neg z, if_neg (by omega), if_neg (by omega), if_neg (by omega)]
theorem bookG1_o {G : Nat → Int32} {m c : Nat} {pp s : Int32} (hm : m < 8) (h : ¬ (98 ≤ c ∧ c ≤ 114)) : bookG1 G m pp s c = G c := by
  unfold bookG1; simp only [upd]
  rw [if_neg (by omega), if_neg (by omega), if_neg (by omega)]
theorem planG1_a {G : Nat → Int32} {m r : Nat} {pp s : Int32} : upd (fun r => G (78 + 2 * r)) m pp r = planG1 G m pp s (78 + 2 * r) := by
  unfold planG1; simp only [upd]
  by_cases z : r = m
  · rw [if_pos z, if_neg (by omega), if_neg (by omega), if_pos (by omega)]
  · rw [if_neg z, if_neg (by omega), if_neg (by omega), if_neg (by omega)]
theorem planG1_b {G : Nat → Int32} {m r : Nat} {pp s : Int32} : upd (fun r => G (79 + 2 * r)) m s r = planG1 G m pp s (79 + 2 * r) := by
  unfold planG1; simp only [upd]
  by_cases z : r = m
  · rw [if_pos z, if_neg (by omega), if_pos (by omega)]
  · rw [if_neg z, if_neg (by omega), if_neg (by omega), if_neg (by omega)]
theorem planG1_o {G : Nat → Int32} {m c : Nat} {pp s : Int32} (hm : m < 10) (h : ¬ (77 ≤ c ∧ c ≤ 97)) : planG1 G m pp s c = G c := by
  unfold planG1; simp only [upd]
  rw [if_neg (by omega), if_neg (by omega), if_neg (by omega)]
theorem sC.r {a c : Nat} (ha : 1 ≤ a) (ha2 : a ≤ 23) (h : rC a c) : sC 1 c := by unfold rC at h; unfold sC; omega

theorem sX8_hear {d : Nat} (hd : 1 ≤ d) {σ : xSt} {Post : Option Value → xSt → Prop} {n m p k : Nat} (G : Nat → Int32) (pp f s : Int32) (hJ : RepJ σ 1 G n m p k) (hc : CO G n m p k) (h : ∀ τ n2 m2 p2 k2, Un (sC 1) σ τ → RepJ τ 1 (hearG G pp f s) n2 m2 p2 k2 → CO (hearG G pp f s) n2 m2 p2 k2 → Post (some (.int (hearV G pp f s))) τ) : xM kX8_hear d [.ref 0, .int pp, .int f, .int s] σ Post := by
  obtain ⟨d, rfl⟩ : ∃ e, d = e + 1 := ⟨d - 1, by omega⟩
  refine xM_start (lv := [some (.ref 0), some (.int pp), some (.int f), some (.int s)]) rfl ?_
  have hn6 : n ≤ 6 := hc.2.1
  have hm6 : m ≤ 6 := hc.2.2.2.1
  have hp10 : p ≤ 10 := hc.2.2.2.2.2.1
  have hk8 : k ≤ 8 := hc.2.2.2.2.2.2.2
  refine xe_iload_n dX8_hear_0 rfl ?_
  refine xe_iconst (v := -1) dX8_hear_1 rfl ?_
  refine xe_icmp_ne (tgt := 16) dX8_hear_2 (by decide) (fun h2 => ?_) (fun h2 => ?_)
  · refine xe_aload_n dX8_hear_16 rfl ?_
    refine xe_getr dX8_hear_17 flX8_12 (by decide) rfl rfl ?_
    refine xe_iload_n dX8_hear_20 rfl ?_
    refine xe_callv (k2 := kX5_potAt) (vs := [_]) dX8_hear_21 okX5_potAt mlX8_90 imX5_potAt slX5_potAt (Or.inl ⟨5, _, _, by decide, rfl, rfl, rfl⟩) rfl rfl (Nat.le_of_ble_eq_true rfl) (Nat.le_of_ble_eq_true rfl) (sX5_potAt (by omega) n pp isS1 hJ.P.1 hc.2.1 ⟨fun i hi ei => ?_, fun hx => ?_⟩)
    · skip
      have cp : pOk (G 54) pp := by rw [hc.1, ei]; exact ⟨nI_pos' (by omega), nI_lt hi (by omega)⟩
      refine xe_ifnull dX8_hear_24 ?_
      refine xe_iload_n dX8_hear_27 rfl ?_
      refine xe_calls (k2 := kX8_isFact) (vs := [_]) dX8_hear_28 okX8_isFact mlX8_102 stX8_isFact rfl rfl (Nat.le_of_ble_eq_true rfl) (Nat.le_of_ble_eq_true rfl) (sX8_isFact (by omega) f ?_)
      refine xe_if_ne (tgt := 36) dX8_hear_31 (by decide) (fun h31 => ?_) (fun h31 => ?_)
      · have cf : rng f 0 7 := (xb_ne0 rfl).mp h31
        refine xe_iload_n dX8_hear_36 rfl ?_
        refine xe_iconst (v := -1) dX8_hear_37 rfl ?_
        refine xe_icmp_lt (tgt := 46) dX8_hear_38 (by decide) (fun h38 => ?_) (fun h38 => ?_)
        · refine xe_bipush (v := -2) dX8_hear_46 rfl ?_
          refine xe_iret dX8_hear_48 rfl rfl ?_
          have cs : ¬ rng s (-1) 1 := by first | exact fun z => absurd z.1 (Int32.not_le.mpr h38) | exact fun z => h43 z.2
          have e := h σ n m p k Un.rf
          rw [hearV, if_neg h2, if_pos ⟨cp, cf⟩, if_neg cs, hearG, if_neg h2, if_neg (fun z => cs z.2.1)] at e
          exact e hJ hc
        · refine xe_iload_n dX8_hear_41 rfl ?_
          refine xe_iconst (v := 1) dX8_hear_42 rfl ?_
          refine xe_icmp_le (tgt := 49) dX8_hear_43 (by decide) (fun h43 => ?_) (fun h43 => ?_)
          · have cs : rng s (-1) 1 := ⟨Int32.not_lt.mp h38, h43⟩
            refine xe_aload_n dX8_hear_49 rfl ?_
            refine xe_getr dX8_hear_50 flX8_12 (by decide) rfl rfl ?_
            refine xe_getr dX8_hear_53 flX8_255 (by decide) rfl rfl ?_
            refine xe_iload_n dX8_hear_56 rfl ?_
            refine xe_iload_n dX8_hear_57 rfl ?_
            refine xe_iload_n dX8_hear_58 rfl ?_
            refine xe_callv (k2 := kX4_append) (vs := [_, _, _]) dX8_hear_59 okX4_append mlX8_264 imX4_append slX4_append (Or.inl ⟨4, _, _, by decide, rfl, rfl, rfl⟩) rfl rfl (Nat.le_of_ble_eq_true rfl) (Nat.le_of_ble_eq_true rfl) (sX4_append (by omega) (c := 15) pp f s _ _ _ isS1.h (by omega) hJ.H hm6 ⟨fun e6 => ?_, fun hlt τ hu hR => ?_⟩)
            · skip
              refine xe_iret dX8_hear_62 rfl rfl ?_
              have c6 : G 58 = 6 := by rw [hc.2.2.1, e6]; rfl
              have e := h σ n m p k Un.rf
              rw [hearV, if_neg h2, if_pos ⟨cp, cf⟩, if_pos cs, if_pos c6, hearG, if_neg h2, if_neg (fun z => z.2.2 c6)] at e
              exact e hJ hc
            · skip
              refine xe_iret dX8_hear_62 rfl rfl ?_
              have c6 : ¬ G 58 = 6 := fun z => by have := nEq (b := 6) (by omega) (by omega) (hc.2.2.1.symm.trans z); omega
              have e := h τ n (m + 1) p k (hu.mono (fun c => sC.r (by omega) (by omega)))
              rw [hearV, if_neg h2, if_pos ⟨cp, cf⟩, if_pos cs, if_neg c6, hearG, if_neg h2, if_pos ⟨⟨cp, cf⟩, cs, c6⟩, hc.2.2.1, cN_nI (by omega), nI_1] at e
              refine e (hJ.hd hn6 hu hR (fun r hr => ?_) hp10 hk8 (fun c h => ?_)) ⟨?_, hn6, pk_us, by omega, ?_, hp10, ?_, hk8⟩
              · exact ⟨hearG1_a, hearG1_b, hearG1_c⟩
              · exact hearG1_o hlt h
              · rw [hearG1_o hlt (by omega)]; exact hc.1
              · rw [hearG1_o hlt (by omega)]; exact hc.2.2.2.2.1
              · rw [hearG1_o hlt (by omega)]; exact hc.2.2.2.2.2.2.1
          · refine xe_bipush (v := -2) dX8_hear_46 rfl ?_
            refine xe_iret dX8_hear_48 rfl rfl ?_
            have cs : ¬ rng s (-1) 1 := by first | exact fun z => absurd z.1 (Int32.not_le.mpr h38) | exact fun z => h43 z.2
            have e := h σ n m p k Un.rf
            rw [hearV, if_neg h2, if_pos ⟨cp, cf⟩, if_neg cs, hearG, if_neg h2, if_neg (fun z => cs z.2.1)] at e
            exact e hJ hc
      · refine xe_iconst (v := -1) dX8_hear_34 rfl ?_
        refine xe_iret dX8_hear_35 rfl rfl ?_
        have cf : ¬ rng f 0 7 := (xb_eq0 rfl).mp h31
        have e := h σ n m p k Un.rf
        rw [hearV, if_neg h2, if_neg (fun z => cf z.2), hearG, if_neg h2, if_neg (fun z => cf z.1.2)] at e
        exact e hJ hc
    · skip
      rw [← hc.1] at hx
      refine xe_ifnullN (tgt := 34) dX8_hear_24 (by decide) ?_
      refine xe_iconst (v := -1) dX8_hear_34 rfl ?_
      refine xe_iret dX8_hear_35 rfl rfl ?_
      have e := h σ n m p k Un.rf
      rw [hearV, if_neg h2, if_neg (fun z => hx z.1), hearG, if_neg h2, if_neg (fun z => hx z.1.1)] at e
      exact e hJ hc
  · refine xe_aload_n dX8_hear_5 rfl ?_
    refine xe_getr dX8_hear_6 flX8_12 (by decide) rfl rfl ?_
    refine xe_getr dX8_hear_9 flX8_255 (by decide) rfl rfl ?_
    refine xe_callv (k2 := kX4_empty) (vs := []) dX8_hear_12 okX4_empty mlX8_259 imX4_empty slX4_empty (Or.inl ⟨4, _, _, by decide, rfl, rfl, rfl⟩) rfl rfl (Nat.le_of_ble_eq_true rfl) (Nat.le_of_ble_eq_true rfl) (sX4_empty (by omega) (c := 15) isS1.h (fun τ hu hR => ?_))
    refine xe_iret dX8_hear_15 rfl rfl ?_
    have e := h τ n 0 p k (hu.mono (fun c => sC.r (by omega) (by omega)))
    rw [hearV, if_pos h2, hearG, if_pos h2] at e
    refine e (hJ.hd hn6 hu (hR (fun _ => 0) (fun _ => 0) (fun _ => 0)) (fun r hr => absurd hr (by omega)) hp10 hk8 (fun c h => pk_un (by omega))) ⟨?_, hn6, pk_us, by omega, ?_, hp10, ?_, hk8⟩ <;> rw [pk_un (by omega)]
    · exact hc.1
    · exact hc.2.2.2.2.1
    · exact hc.2.2.2.2.2.2.1

theorem sX8_book {d : Nat} (hd : 1 ≤ d) {σ : xSt} {Post : Option Value → xSt → Prop} {n m p k : Nat} (G : Nat → Int32) (pp s : Int32) (hJ : RepJ σ 1 G n m p k) (hc : CO G n m p k) (h : ∀ τ n2 m2 p2 k2, Un (sC 1) σ τ → RepJ τ 1 (bookG G pp s) n2 m2 p2 k2 → CO (bookG G pp s) n2 m2 p2 k2 → Post (some (.int (bookV G pp s))) τ) : xM kX8_book d [.ref 0, .int pp, .int s] σ Post := by
  obtain ⟨d, rfl⟩ : ∃ e, d = e + 1 := ⟨d - 1, by omega⟩
  refine xM_start (lv := [some (.ref 0), some (.int pp), some (.int s)]) rfl ?_
  have hn6 : n ≤ 6 := hc.2.1
  have hm6 : m ≤ 6 := hc.2.2.2.1
  have hp10 : p ≤ 10 := hc.2.2.2.2.2.1
  have hk8 : k ≤ 8 := hc.2.2.2.2.2.2.2
  refine xe_iload_n dX8_book_0 rfl ?_
  refine xe_iconst (v := -1) dX8_book_1 rfl ?_
  refine xe_icmp_ne (tgt := 16) dX8_book_2 (by decide) (fun h2 => ?_) (fun h2 => ?_)
  · refine xe_aload_n dX8_book_16 rfl ?_
    refine xe_getr dX8_book_17 flX8_12 (by decide) rfl rfl ?_
    refine xe_iload_n dX8_book_20 rfl ?_
    refine xe_callv (k2 := kX5_potAt) (vs := [_]) dX8_book_21 okX5_potAt mlX8_90 imX5_potAt slX5_potAt (Or.inl ⟨5, _, _, by decide, rfl, rfl, rfl⟩) rfl rfl (Nat.le_of_ble_eq_true rfl) (Nat.le_of_ble_eq_true rfl) (sX5_potAt (by omega) n pp isS1 hJ.P.1 hc.2.1 ⟨fun i hi ei => ?_, fun hx => ?_⟩)
    · skip
      have cp : pOk (G 54) pp := by rw [hc.1, ei]; exact ⟨nI_pos' (by omega), nI_lt hi (by omega)⟩
      refine xe_ifnonnull (tgt := 29) dX8_book_24 (by decide) ?_
      refine xe_iload_n dX8_book_29 rfl ?_
      refine xe_calls (k2 := kX8_isDigit) (vs := [_]) dX8_book_30 okX8_isDigit mlX8_82 stX8_isDigit rfl rfl (Nat.le_of_ble_eq_true rfl) (Nat.le_of_ble_eq_true rfl) (sX8_isDigit (by omega) s ?_)
      refine xe_if_ne (tgt := 39) dX8_book_33 (by decide) (fun h33 => ?_) (fun h33 => ?_)
      · have cs : rng s 0 9 := (xb_ne0 rfl).mp h33
        refine xe_aload_n dX8_book_39 rfl ?_
        refine xe_getr dX8_book_40 flX8_12 (by decide) rfl rfl ?_
        refine xe_getr dX8_book_43 flX8_319 (by decide) rfl rfl ?_
        refine xe_iload_n dX8_book_46 rfl ?_
        refine xe_iload_n dX8_book_47 rfl ?_
        refine xe_iconst (v := 0) dX8_book_48 rfl ?_
        refine xe_callv (k2 := kX4_append) (vs := [_, _, _]) dX8_book_49 okX4_append mlX8_264 imX4_append slX4_append (Or.inl ⟨4, _, _, by decide, rfl, rfl, rfl⟩) rfl rfl (Nat.le_of_ble_eq_true rfl) (Nat.le_of_ble_eq_true rfl) (sX4_append (by omega) (c := 23) pp s 0 _ _ _ isS1.b (by omega) hJ.B hk8 ⟨fun e6 => ?_, fun hlt τ hu hR => ?_⟩)
        · skip
          refine xe_iret dX8_book_52 rfl rfl ?_
          have c6 : G 98 = 8 := by rw [hc.2.2.2.2.2.2.1, e6]; rfl
          have e := h σ n m p k Un.rf
          rw [bookV, if_neg h2, if_pos cp, if_pos cs, if_pos c6, bookG, if_neg h2, if_neg (fun z => z.2.2 c6)] at e
          exact e hJ hc
        · skip
          rw [upd0] at hR
          refine xe_iret dX8_book_52 rfl rfl ?_
          have c6 : ¬ G 98 = 8 := fun z => by have := nEq (b := 8) (by omega) (by omega) (hc.2.2.2.2.2.2.1.symm.trans z); omega
          have e := h τ n m p (k + 1) (hu.mono (fun c => sC.r (by omega) (by omega)))
          rw [bookV, if_neg h2, if_pos cp, if_pos cs, if_neg c6, bookG, if_neg h2, if_pos ⟨cp, cs, c6⟩, hc.2.2.2.2.2.2.1, cN_nI (by omega), nI_1] at e
          refine e (hJ.bk hn6 hu hR (fun r hr => ?_) hm6 hp10 (fun c h => ?_)) ⟨?_, hn6, ?_, hm6, ?_, hp10, pk_us, by omega⟩
          · exact ⟨bookG1_a, bookG1_b⟩
          · exact bookG1_o hlt h
          · rw [bookG1_o hlt (by omega)]; exact hc.1
          · rw [bookG1_o hlt (by omega)]; exact hc.2.2.1
          · rw [bookG1_o hlt (by omega)]; exact hc.2.2.2.2.1
      · refine xe_bipush (v := -2) dX8_book_36 rfl ?_
        refine xe_iret dX8_book_38 rfl rfl ?_
        have cs : ¬ rng s 0 9 := (xb_eq0 rfl).mp h33
        have e := h σ n m p k Un.rf
        rw [bookV, if_neg h2, if_pos cp, if_neg cs, bookG, if_neg h2, if_neg (fun z => cs z.2.1)] at e
        exact e hJ hc
    · skip
      rw [← hc.1] at hx
      refine xe_ifnonnullN dX8_book_24 ?_
      refine xe_iconst (v := -1) dX8_book_27 rfl ?_
      refine xe_iret dX8_book_28 rfl rfl ?_
      have e := h σ n m p k Un.rf
      rw [bookV, if_neg h2, if_neg hx, bookG, if_neg h2, if_neg (fun z => hx z.1)] at e
      exact e hJ hc
  · refine xe_aload_n dX8_book_5 rfl ?_
    refine xe_getr dX8_book_6 flX8_12 (by decide) rfl rfl ?_
    refine xe_getr dX8_book_9 flX8_319 (by decide) rfl rfl ?_
    refine xe_callv (k2 := kX4_empty) (vs := []) dX8_book_12 okX4_empty mlX8_259 imX4_empty slX4_empty (Or.inl ⟨4, _, _, by decide, rfl, rfl, rfl⟩) rfl rfl (Nat.le_of_ble_eq_true rfl) (Nat.le_of_ble_eq_true rfl) (sX4_empty (by omega) (c := 23) isS1.b (fun τ hu hR => ?_))
    refine xe_iret dX8_book_15 rfl rfl ?_
    have e := h τ n m p 0 (hu.mono (fun c => sC.r (by omega) (by omega)))
    rw [bookV, if_pos h2, bookG, if_pos h2] at e
    refine e (hJ.bk hn6 hu (hR (fun _ => 0) (fun _ => 0) _) (fun r hr => absurd hr (by omega)) hm6 hp10 (fun c h => pk_un (by omega))) ⟨?_, hn6, ?_, hm6, ?_, hp10, pk_us, by omega⟩ <;> rw [pk_un (by omega)]
    · exact hc.1
    · exact hc.2.2.1
    · exact hc.2.2.2.2.1

theorem planOk0 {G : Nat → Int32} {w x : Int32} (h : w = 0) : planOk G w x := Or.inl h
theorem planOk1 {G : Nat → Int32} {w x : Int32} (h : w = 1) : planOk G w x ↔ (0 ≤ x ∧ pOk (G 54) (x / 10) ∧ rng (x - x / 10 * 10) 0 7) := by
  subst h; exact ⟨fun z => by rcases z with z | z | z | z <;> first | exact z.2 | exact absurd z (by decide) | exact absurd z.1 (by decide), fun z => Or.inr (Or.inl ⟨rfl, z⟩)⟩
theorem planOk2 {G : Nat → Int32} {w x : Int32} (h : w = 2) : planOk G w x ↔ pOk (G 54) x := by
  subst h; exact ⟨fun z => by rcases z with z | z | z | z <;> first | exact absurd z (by decide) | exact absurd z.1 (by decide) | exact z.2, fun z => Or.inr (Or.inr (Or.inl ⟨rfl, z⟩))⟩
theorem planOk3 {G : Nat → Int32} {w x : Int32} (h : w = 3) : planOk G w x ↔ rng x 0 7 := by
  subst h; exact ⟨fun z => by rcases z with z | z | z | z <;> first | exact absurd z (by decide) | exact absurd z.1 (by decide) | exact z.2, fun z => Or.inr (Or.inr (Or.inr ⟨rfl, z⟩))⟩

theorem sX8_canGo {d : Nat} (hd : 1 ≤ d) {σ : xSt} {Post : Option Value → xSt → Prop} {n m p k : Nat} (G : Nat → Int32) (w x : Int32) (hJ : RepJ σ 1 G n m p k) (hc : CO G n m p k) (h : Post (some (.int (xb (planOk G w x)))) σ) : xM kX8_canGo d [.ref 0, .int w, .int x] σ Post := by
  obtain ⟨d, rfl⟩ : ∃ e, d = e + 1 := ⟨d - 1, by omega⟩
  refine xM_start (lv := [some (.ref 0), some (.int w), some (.int x)]) rfl ?_
  have hn6 : n ≤ 6 := hc.2.1
  refine xe_iload_n dX8_canGo_0 rfl ?_
  refine xn_tsw (tgs := [32, 34, 68, 85]) (td := 90) dX8_canGo_1 rfl rfl rfl (fun i1 t1 hg1 hx1 => ?_) (fun hx1 => ?_)
  · match i1, hg1, hx1 with
    | 0, hg1, hx1 =>
      cases hg1
      have cw : w = 0 := Int32.toInt_inj.mp (by rw [hx1]; rfl)
      refine xe_iconst (v := 1) dX8_canGo_32 rfl ?_
      refine xe_iret dX8_canGo_33 rfl (by first | rfl | decide | assumption | exact bI_nar _ | exact xb_narrow rfl | exact xb_narrow (by assumption)) ?_
      rw [← xb1 (planOk0 cw)] at h; exact h
    | 1, hg1, hx1 =>
      cases hg1
      have cw : w = 1 := Int32.toInt_inj.mp (by rw [hx1]; rfl)
      refine xe_iload_n dX8_canGo_34 rfl ?_
      refine xe_if_lt (tgt := 66) dX8_canGo_35 (by decide) (fun h35 => ?_) (fun h35 => ?_)
      · refine xe_iconst (v := 0) dX8_canGo_66 rfl ?_
        refine xe_iret dX8_canGo_67 rfl (by first | rfl | decide | assumption | exact bI_nar _ | exact xb_narrow rfl | exact xb_narrow (by assumption)) ?_
        first
        | (rw [← xb1 ((planOk1 cw).mpr ⟨Int32.not_lt.mp h35, cp, (xb_ne0 rfl).mp h59⟩)] at h; exact h)
        | (rw [← xb0 (fun z => absurd ((planOk1 cw).mp z).1 (Int32.not_le.mpr h35))] at h; exact h)
        | (rw [← xb0 (fun z => hx ((planOk1 cw).mp z).2.1)] at h; exact h)
        | (rw [← xb0 (fun z => (xb_eq0 rfl).mp h59 ((planOk1 cw).mp z).2.2)] at h; exact h)
      · refine xe_aload_n dX8_canGo_38 rfl ?_
        refine xe_getr dX8_canGo_39 flX8_12 (by decide) rfl rfl ?_
        refine xe_iload_n dX8_canGo_42 rfl ?_
        refine xe_bipush (v := 10) dX8_canGo_43 rfl ?_
        refine xe_idiv dX8_canGo_45 (by decide) ?_
        refine xe_callv (k2 := kX5_potAt) (vs := [_]) dX8_canGo_46 okX5_potAt mlX8_90 imX5_potAt slX5_potAt (Or.inl ⟨5, _, _, by decide, rfl, rfl, rfl⟩) rfl rfl (Nat.le_of_ble_eq_true rfl) (Nat.le_of_ble_eq_true rfl) (sX5_potAt (by omega) n (x / 10) isS1 hJ.P.1 hc.2.1 ⟨fun i hi ei => ?_, fun hx => ?_⟩)
        · skip
          have cp : pOk (G 54) (x / 10) := by rw [hc.1, ei]; exact ⟨nI_pos' (by omega), nI_lt hi (by omega)⟩
          refine xe_ifnull dX8_canGo_49 ?_
          refine xe_iload_n dX8_canGo_52 rfl ?_
          refine xe_bipush (v := 10) dX8_canGo_53 rfl ?_
          refine xe_irem dX8_canGo_55 (by decide) ?_
          refine xe_calls (k2 := kX8_isFact) (vs := [_]) dX8_canGo_56 okX8_isFact mlX8_102 stX8_isFact rfl rfl (Nat.le_of_ble_eq_true rfl) (Nat.le_of_ble_eq_true rfl) (sX8_isFact (by omega) _ ?_)
          refine xe_if_eq (tgt := 66) dX8_canGo_59 (by decide) (fun h59 => ?_) (fun h59 => ?_)
          · refine xe_iconst (v := 0) dX8_canGo_66 rfl ?_
            refine xe_iret dX8_canGo_67 rfl (by first | rfl | decide | assumption | exact bI_nar _ | exact xb_narrow rfl | exact xb_narrow (by assumption)) ?_
            first
            | (rw [← xb1 ((planOk1 cw).mpr ⟨Int32.not_lt.mp h35, cp, (xb_ne0 rfl).mp h59⟩)] at h; exact h)
            | (rw [← xb0 (fun z => absurd ((planOk1 cw).mp z).1 (Int32.not_le.mpr h35))] at h; exact h)
            | (rw [← xb0 (fun z => hx ((planOk1 cw).mp z).2.1)] at h; exact h)
            | (rw [← xb0 (fun z => (xb_eq0 rfl).mp h59 ((planOk1 cw).mp z).2.2)] at h; exact h)
          · refine xe_iconst (v := 1) dX8_canGo_62 rfl ?_
            refine xe_goto (tgt := 67) dX8_canGo_63 (by decide) ?_
            refine xe_iret dX8_canGo_67 rfl (by first | rfl | decide | assumption | exact bI_nar _ | exact xb_narrow rfl | exact xb_narrow (by assumption)) ?_
            first
            | (rw [← xb1 ((planOk1 cw).mpr ⟨Int32.not_lt.mp h35, cp, (xb_ne0 rfl).mp h59⟩)] at h; exact h)
            | (rw [← xb0 (fun z => absurd ((planOk1 cw).mp z).1 (Int32.not_le.mpr h35))] at h; exact h)
            | (rw [← xb0 (fun z => hx ((planOk1 cw).mp z).2.1)] at h; exact h)
            | (rw [← xb0 (fun z => (xb_eq0 rfl).mp h59 ((planOk1 cw).mp z).2.2)] at h; exact h)
        · skip
          rw [← hc.1] at hx
          refine xe_ifnullN (tgt := 66) dX8_canGo_49 (by decide) ?_
          refine xe_iconst (v := 0) dX8_canGo_66 rfl ?_
          refine xe_iret dX8_canGo_67 rfl (by first | rfl | decide | assumption | exact bI_nar _ | exact xb_narrow rfl | exact xb_narrow (by assumption)) ?_
          first
          | (rw [← xb1 ((planOk1 cw).mpr ⟨Int32.not_lt.mp h35, cp, (xb_ne0 rfl).mp h59⟩)] at h; exact h)
          | (rw [← xb0 (fun z => absurd ((planOk1 cw).mp z).1 (Int32.not_le.mpr h35))] at h; exact h)
          | (rw [← xb0 (fun z => hx ((planOk1 cw).mp z).2.1)] at h; exact h)
          | (rw [← xb0 (fun z => (xb_eq0 rfl).mp h59 ((planOk1 cw).mp z).2.2)] at h; exact h)
    | 2, hg1, hx1 =>
      cases hg1
      have cw : w = 2 := Int32.toInt_inj.mp (by rw [hx1]; rfl)
      refine xe_aload_n dX8_canGo_68 rfl ?_
      refine xe_getr dX8_canGo_69 flX8_12 (by decide) rfl rfl ?_
      refine xe_iload_n dX8_canGo_72 rfl ?_
      refine xe_callv (k2 := kX5_potAt) (vs := [_]) dX8_canGo_73 okX5_potAt mlX8_90 imX5_potAt slX5_potAt (Or.inl ⟨5, _, _, by decide, rfl, rfl, rfl⟩) rfl rfl (Nat.le_of_ble_eq_true rfl) (Nat.le_of_ble_eq_true rfl) (sX5_potAt (by omega) n x isS1 hJ.P.1 hc.2.1 ⟨fun i hi ei => ?_, fun hx => ?_⟩)
      · skip
        have cp : pOk (G 54) x := by rw [hc.1, ei]; exact ⟨nI_pos' (by omega), nI_lt hi (by omega)⟩
        refine xe_ifnull dX8_canGo_76 ?_
        refine xe_iconst (v := 1) dX8_canGo_79 rfl ?_
        refine xe_goto (tgt := 84) dX8_canGo_80 (by decide) ?_
        refine xe_iret dX8_canGo_84 rfl (by first | rfl | decide | assumption | exact bI_nar _ | exact xb_narrow rfl | exact xb_narrow (by assumption)) ?_
        rw [← xb1 ((planOk2 cw).mpr cp)] at h; exact h
      · skip
        rw [← hc.1] at hx
        refine xe_ifnullN (tgt := 83) dX8_canGo_76 (by decide) ?_
        refine xe_iconst (v := 0) dX8_canGo_83 rfl ?_
        refine xe_iret dX8_canGo_84 rfl (by first | rfl | decide | assumption | exact bI_nar _ | exact xb_narrow rfl | exact xb_narrow (by assumption)) ?_
        rw [← xb0 (fun z => hx ((planOk2 cw).mp z))] at h; exact h
    | 3, hg1, hx1 =>
      cases hg1
      have cw : w = 3 := Int32.toInt_inj.mp (by rw [hx1]; rfl)
      refine xe_iload_n dX8_canGo_85 rfl ?_
      refine xe_calls (k2 := kX8_isFact) (vs := [_]) dX8_canGo_86 okX8_isFact mlX8_102 stX8_isFact rfl rfl (Nat.le_of_ble_eq_true rfl) (Nat.le_of_ble_eq_true rfl) (sX8_isFact (by omega) x ?_)
      refine xe_iret dX8_canGo_89 rfl (by first | rfl | decide | assumption | exact bI_nar _ | exact xb_narrow rfl | exact xb_narrow (by assumption)) ?_
      rw [xb_congr (planOk3 cw)] at h; exact h
    | i1 + 4, hg1, hx1 => simp at hg1
  · skip
    have cw : ∀ v : Int32, 0 ≤ v.toInt → v.toInt ≤ 3 → ¬ w = v := fun v q1 q2 z => by rw [z] at hx1; omega
    refine xe_iconst (v := 0) dX8_canGo_90 rfl ?_
    refine xe_iret dX8_canGo_91 rfl (by first | rfl | decide | assumption | exact bI_nar _ | exact xb_narrow rfl | exact xb_narrow (by assumption)) ?_
    rw [← xb0 (fun z => ?_)] at h; exact h
    rcases z with z | z | z | z
    · exact cw 0 (by decide) (by decide) z
    · exact cw 1 (by decide) (by decide) z.1
    · exact cw 2 (by decide) (by decide) z.1
    · exact cw 3 (by decide) (by decide) z.1

theorem sX8_plan {d : Nat} (hd : 2 ≤ d) {σ : xSt} {Post : Option Value → xSt → Prop} {n m p k : Nat} (G : Nat → Int32) (w x : Int32) (hJ : RepJ σ 1 G n m p k) (hc : CO G n m p k) (h : ∀ τ n2 m2 p2 k2, Un (sC 1) σ τ → RepJ τ 1 (planG G w x) n2 m2 p2 k2 → CO (planG G w x) n2 m2 p2 k2 → Post (some (.int (planV G w x))) τ) : xM kX8_plan d [.ref 0, .int w, .int x] σ Post := by
  obtain ⟨d, rfl⟩ : ∃ e, d = e + 1 := ⟨d - 1, by omega⟩
  refine xM_start (lv := [some (.ref 0), some (.int w), some (.int x)]) rfl ?_
  have hn6 : n ≤ 6 := hc.2.1
  have hm6 : m ≤ 6 := hc.2.2.2.1
  have hp10 : p ≤ 10 := hc.2.2.2.2.2.1
  have hk8 : k ≤ 8 := hc.2.2.2.2.2.2.2
  refine xe_iload_n dX8_plan_0 rfl ?_
  refine xe_iconst (v := -1) dX8_plan_1 rfl ?_
  refine xe_icmp_ne (tgt := 16) dX8_plan_2 (by decide) (fun h2 => ?_) (fun h2 => ?_)
  · refine xe_aload_n dX8_plan_16 rfl ?_
    refine xe_iload_n dX8_plan_17 rfl ?_
    refine xe_iload_n dX8_plan_18 rfl ?_
    refine xe_callv (k2 := kX8_canGo) (vs := [_, _]) dX8_plan_19 okX8_canGo mlX8_310 imX8_canGo slX8_canGo (Or.inl ⟨8, _, _, by decide, rfl, rfl, rfl⟩) rfl rfl (Nat.le_of_ble_eq_true rfl) (Nat.le_of_ble_eq_true rfl) (sX8_canGo (by omega) G w x hJ hc ?_)
    refine xe_if_ne (tgt := 27) dX8_plan_22 (by decide) (fun h22 => ?_) (fun h22 => ?_)
    · have cs : planOk G w x := (xb_ne0 rfl).mp h22
      refine xe_aload_n dX8_plan_27 rfl ?_
      refine xe_getr dX8_plan_28 flX8_12 (by decide) rfl rfl ?_
      refine xe_getr dX8_plan_31 flX8_307 (by decide) rfl rfl ?_
      refine xe_iload_n dX8_plan_34 rfl ?_
      refine xe_iload_n dX8_plan_35 rfl ?_
      refine xe_iconst (v := 0) dX8_plan_36 rfl ?_
      refine xe_callv (k2 := kX4_append) (vs := [_, _, _]) dX8_plan_37 okX4_append mlX8_264 imX4_append slX4_append (Or.inl ⟨4, _, _, by decide, rfl, rfl, rfl⟩) rfl rfl (Nat.le_of_ble_eq_true rfl) (Nat.le_of_ble_eq_true rfl) (sX4_append (by omega) (c := 19) w x 0 _ _ _ isS1.l (by omega) hJ.L hp10 ⟨fun e6 => ?_, fun hlt τ hu hR => ?_⟩)
      · skip
        refine xe_iret dX8_plan_40 rfl rfl ?_
        have c6 : G 77 = 10 := by rw [hc.2.2.2.2.1, e6]; rfl
        have e := h σ n m p k Un.rf
        rw [planV, if_neg h2, if_pos cs, if_pos c6, planG, if_neg h2, if_neg (fun z => z.2 c6)] at e
        exact e hJ hc
      · skip
        rw [upd0] at hR
        refine xe_iret dX8_plan_40 rfl rfl ?_
        have c6 : ¬ G 77 = 10 := fun z => by have := nEq (b := 10) (by omega) (by omega) (hc.2.2.2.2.1.symm.trans z); omega
        have e := h τ n m (p + 1) k (hu.mono (fun c => sC.r (by omega) (by omega)))
        rw [planV, if_neg h2, if_pos cs, if_neg c6, planG, if_neg h2, if_pos ⟨cs, c6⟩, hc.2.2.2.2.1, cN_nI (by omega), nI_1] at e
        refine e (hJ.pl hn6 hu hR (fun r hr => ?_) hm6 hk8 (fun c h => ?_)) ⟨?_, hn6, ?_, hm6, pk_us, by omega, ?_, hk8⟩
        · exact ⟨planG1_a, planG1_b⟩
        · exact planG1_o hlt h
        · rw [planG1_o hlt (by omega)]; exact hc.1
        · rw [planG1_o hlt (by omega)]; exact hc.2.2.1
        · rw [planG1_o hlt (by omega)]; exact hc.2.2.2.2.2.2.1
    · refine xe_iconst (v := -1) dX8_plan_25 rfl ?_
      refine xe_iret dX8_plan_26 rfl rfl ?_
      have cs : ¬ planOk G w x := (xb_eq0 rfl).mp h22
      have e := h σ n m p k Un.rf
      rw [planV, if_neg h2, if_neg cs, planG, if_neg h2, if_neg (fun z => cs z.1)] at e
      exact e hJ hc
  · refine xe_aload_n dX8_plan_5 rfl ?_
    refine xe_getr dX8_plan_6 flX8_12 (by decide) rfl rfl ?_
    refine xe_getr dX8_plan_9 flX8_307 (by decide) rfl rfl ?_
    refine xe_callv (k2 := kX4_empty) (vs := []) dX8_plan_12 okX4_empty mlX8_259 imX4_empty slX4_empty (Or.inl ⟨4, _, _, by decide, rfl, rfl, rfl⟩) rfl rfl (Nat.le_of_ble_eq_true rfl) (Nat.le_of_ble_eq_true rfl) (sX4_empty (by omega) (c := 19) isS1.l (fun τ hu hR => ?_))
    refine xe_iret dX8_plan_15 rfl rfl ?_
    have e := h τ n m 0 k (hu.mono (fun c => sC.r (by omega) (by omega)))
    rw [planV, if_pos h2, planG, if_pos h2] at e
    refine e (hJ.pl hn6 hu (hR (fun _ => 0) (fun _ => 0) _) (fun r hr => absurd hr (by omega)) hm6 hk8 (fun c h => pk_un (by omega))) ⟨?_, hn6, ?_, hm6, pk_us, by omega, ?_, hk8⟩ <;> rw [pk_un (by omega)]
    · exact hc.1
    · exact hc.2.2.1
    · exact hc.2.2.2.2.2.2.1
