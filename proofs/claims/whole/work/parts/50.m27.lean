theorem RepJ.new {σ τ : xSt} {n n2 m p k : Nat} {G G2 : Nat → Int32} (h : RepJ σ 1 G n m p k) (hu : Un (tC 1) σ τ) (h0 : τ.1 1 0 = G2 55) (h1 : τ.1 1 1 = G2 56) (h2 : τ.1 1 2 = G2 57 - 1) (hT : RepT τ 1 n2 G2) (hG : ∀ c, 58 ≤ c → G2 c = G c) : RepJ τ 1 G2 n2 m p k :=
  ⟨h0, h1, h2, hT,
   (h.H.un hu (fun c hc => by unfold tC; unfold rC at hc; omega)).cg (fun r _ => ⟨(hG _ (by omega)).symm, (hG _ (by omega)).symm, (hG _ (by omega)).symm⟩),
   (h.L.un hu (fun c hc => by unfold tC; unfold rC at hc; omega)).cg (fun r _ => ⟨(hG _ (by omega)).symm, (hG _ (by omega)).symm, rfl⟩),
   (h.B.un hu (fun c hc => by unfold tC; unfold rC at hc; omega)).cg (fun r _ => ⟨(hG _ (by omega)).symm, (hG _ (by omega)).symm, rfl⟩)⟩
theorem tkGs_sok {kp : Int32} {n : Nat} {G : Nat → Int32} (h6 : n ≤ 6) (h : SOk n G) (m : Nat) : SOk n (tkGs kp n G m) := fun i hi => by
  obtain ⟨s, hs, e⟩ := h i hi
  obtain ⟨t, ht, e2⟩ := tkPs_sok (kp := kp) (a := pV G i) e hs m
  exact ⟨t, ht, (tkGs_in h6 hi m 2 (by omega)).trans e2⟩
theorem iS_nat {f : Nat → Int32} : ∀ n, (∀ i, i < n → ∃ s, s ≤ 9 ∧ f i = nI s) → ∃ x, x ≤ 9 * n ∧ iS f n = nI x := by
  intro n
  induction n with
  | zero => intro _; exact ⟨0, by omega, rfl⟩
  | succ n ih =>
    intro h
    obtain ⟨x, hx, e⟩ := ih (fun i hi => h i (by omega))
    obtain ⟨s, hs, e2⟩ := h n (by omega)
    refine ⟨x + s, by omega, ?_⟩
    show iS f n + f n = _
    rw [e, e2, nI_add]

theorem sX8_pass {d : Nat} (hd : 3 ≤ d) {σ : xSt} {Post : Option Value → xSt → Prop} {n m p k : Nat} (G : Nat → Int32) (S : xSem) (x : Int32) (hJ : RepJ σ 1 G n m p k) (hc : CO G n m p k) (hS : JSem σ S) (hs : SOk n G) (h : ∀ τ n2 m2 p2 k2, Un (sC 1) σ τ → RepJ τ 1 (passG (kpS S) n G x) n2 m2 p2 k2 → CO (passG (kpS S) n G x) n2 m2 p2 k2 → Post (some (.int (passV G x))) τ) : xM kX8_pass d [.ref 0, .int x] σ Post := by
  obtain ⟨d, rfl⟩ : ∃ e, d = e + 1 := ⟨d - 1, by omega⟩
  refine xM_start (lv := [some (.ref 0), some (.int x)]) rfl ?_
  obtain ⟨cc, l, hH, hk⟩ := hS.keep
  have hn6 : n ≤ 6 := hc.2.1
  refine xe_iload_n dX8_pass_0 rfl ?_
  refine xe_if_lt (tgt := 10) dX8_pass_1 (by decide) (fun h1 => ?_) (fun h1 => ?_)
  · refine xe_bipush (v := -2) dX8_pass_10 rfl ?_
    refine xe_iret dX8_pass_12 rfl rfl ?_
    have c0 : ¬ rng x 0 60 := by first | exact fun z => absurd z.1 (Int32.not_le.mpr h1) | exact fun z => h7 z.2
    have e := h σ n m p k Un.rf
    rw [passV, if_neg c0, passG, if_neg (fun z => c0 z.1)] at e
    exact e hJ hc
  · refine xe_iload_n dX8_pass_4 rfl ?_
    refine xe_bipush (v := 60) dX8_pass_5 rfl ?_
    refine xe_icmp_le (tgt := 13) dX8_pass_7 (by decide) (fun h7 => ?_) (fun h7 => ?_)
    · have c0 : rng x 0 60 := ⟨Int32.not_lt.mp h1, h7⟩
      obtain ⟨u, hu6, rfl⟩ := rng_nat (m := 60) (by omega) c0
      have eu : cN (nI u) = u := cN_nI (by omega)
      refine xe_aload_n dX8_pass_13 rfl ?_
      refine xe_getr dX8_pass_14 flX8_12 (by decide) rfl rfl ?_
      refine xe_getf dX8_pass_17 flX8_143 (by decide) rfl rfl ?_
      rw [hJ.t]
      refine xe_iload_n dX8_pass_20 rfl ?_
      refine xe_iadd dX8_pass_21 ?_
      refine xe_sipush (v := 9999) dX8_pass_22 rfl ?_
      refine xe_icmp_le (tgt := 31) dX8_pass_25 (by decide) (fun h25 => ?_) (fun h25 => ?_)
      · refine xe_aload_n dX8_pass_31 rfl ?_
        refine xe_getr dX8_pass_32 flX8_12 (by decide) rfl rfl ?_
        refine xe_iload_n dX8_pass_35 rfl ?_
        refine xe_aload_n dX8_pass_36 rfl ?_
        refine xe_callv (k2 := kX8_holding) (vs := []) dX8_pass_37 okX8_holding mlX8_146 imX8_holding slX8_holding (Or.inl ⟨8, _, _, by decide, rfl, rfl, rfl⟩) rfl rfl (Nat.le_of_ble_eq_true rfl) (Nat.le_of_ble_eq_true rfl) (sX8_holding (by omega) hH ?_)
        refine xe_getf dX8_pass_40 flX8_149 hH.1.1.1 hH.1.1.2 rfl ?_
        rw [hk]
        refine xe_callv (k2 := kX5_ripenAll) (vs := [_, _]) dX8_pass_43 okX5_ripenAll mlX8_220 imX5_ripenAll slX5_ripenAll (Or.inl ⟨5, _, _, by decide, rfl, rfl, rfl⟩) rfl rfl (Nat.le_of_ble_eq_true rfl) (Nat.le_of_ble_eq_true rfl) (sX5_ripenAll (by omega) _ G isS1 hn6 (by omega) hs hJ.P (fun τ hu hT => ?_))
        refine xe_aload_n dX8_pass_46 rfl ?_
        refine xe_getr dX8_pass_47 flX8_12 (by decide) rfl rfl ?_
        refine xe_dup dX8_pass_50 rfl ?_
        refine xe_getf dX8_pass_51 flX8_143 (by decide) rfl rfl ?_
        rw [show τ.1 1 1 = G 56 from (hu.2 1 (by omega)).trans hJ.t]
        refine xe_iload_n dX8_pass_54 rfl ?_
        refine xe_iadd dX8_pass_55 ?_
        refine xe_putf dX8_pass_56 flX8_143 (by decide) rfl rfl rfl rfl ?_
        refine xe_aload_n dX8_pass_59 rfl ?_
        refine xe_getr dX8_pass_60 flX8_12 (by decide) rfl rfl ?_
        refine xe_getf dX8_pass_63 flX8_143 (by decide) rfl rfl ?_
        refine xe_iret dX8_pass_66 rfl rfl ?_
        have hF : Un (fun c => c = 1) τ (xsF τ 1 1 (G 56 + nI u)) := Un.F rfl
        rw [xsF_get]
        have e := h (xsF τ 1 1 (G 56 + nI u)) n m p k ((hu.1.mono (fun c => sC.t)).tr (hF.mono (fun c h => by unfold sC; omega)))
        rw [passV, if_pos c0, if_pos h25, passG, if_pos ⟨c0, h25⟩, eu] at e
        refine e (hJ.new (hu.1.tr (hF.mono (fun c h => Or.inl h))) ?_ ?_ ?_ ⟨(xsF_ne (Or.inr (by omega))).trans hT.1, fun i hi => (hT.2 i hi).un hF (by omega) (by omega)⟩ (fun c h => tkGs_hi hn6 (by omega) (by omega) u)) (hc.cg (tkGs_hi hn6 (by omega) (by omega) u) (tkGs_hi hn6 (by omega) (by omega) u) (tkGs_hi hn6 (by omega) (by omega) u) (tkGs_hi hn6 (by omega) (by omega) u))
        · rw [xsF_ne (Or.inr (by omega)), tkGs_hi hn6 (by omega) (by omega)]; exact (hu.2 0 (by omega)).trans hJ.w
        · rw [xsF_get, tkGs_56]
        · rw [xsF_ne (Or.inr (by omega)), tkGs_hi hn6 (by omega) (by omega)]; exact (hu.2 2 (by omega)).trans hJ.h
      · refine xe_bipush (v := -3) dX8_pass_28 rfl ?_
        refine xe_iret dX8_pass_30 rfl rfl ?_
        have e := h σ n m p k Un.rf
        rw [passV, if_pos c0, if_neg h25, passG, if_neg (fun z => h25 z.2)] at e
        exact e hJ hc
    · refine xe_bipush (v := -2) dX8_pass_10 rfl ?_
      refine xe_iret dX8_pass_12 rfl rfl ?_
      have c0 : ¬ rng x 0 60 := by first | exact fun z => absurd z.1 (Int32.not_le.mpr h1) | exact fun z => h7 z.2
      have e := h σ n m p k Un.rf
      rw [passV, if_neg c0, passG, if_neg (fun z => c0 z.1)] at e
      exact e hJ hc

theorem lX8_when {d : Nat} {σ : xSt} {Post : Option Value → xSt → Prop} (hd : 3 ≤ d) {i f : Nat} (S : xSem) (a : Nat → Int32) (s : Nat) (hs9 : s ≤ 9) (hs : a 2 = nI s) (c : Nat) (hf : f < 8) : ∀ (q j : Nat) (τ : xSt), j + q = 61 → JSem τ S → RepP τ 79 i (tkPs (kpS S) a j) → JK σ τ → (∀ υ, JK σ υ → Post (some (.int (whF S i a f q j))) υ) → xEv kX8_when (d + 1) 19 [some (.ref 0), some (.ref c), some (.int (nI f)), some (.int (kpS S)), some (.int (nI j))] [] τ Post := by
  intro q
  induction q with
  | zero =>
    intro j τ hq hS hr hk h
    refine xe_iload dX8_when_19 rfl ?_
    refine xe_bipush (v := 60) dX8_when_21 rfl ?_
    refine xe_icmp_gt (tgt := 56) dX8_when_23 (by decide) (fun h23 => ?_) (fun h23 => absurd (show nI 60 < nI j from nI_lt (by omega) (by omega)) h23)
    refine xe_bipush (v := -5) dX8_when_56 rfl ?_
    refine xe_iret dX8_when_58 rfl rfl ?_
    exact h τ hk
  | succ q ih =>
    intro j τ hq hS hr hk h
    rw [whF] at h
    refine xe_iload dX8_when_19 rfl ?_
    refine xe_bipush (v := 60) dX8_when_21 rfl ?_
    refine xe_icmp_gt (tgt := 56) dX8_when_23 (by decide) (fun h23 => absurd h23 (show ¬ nI 60 < nI j from nI_nlt (by omega) (by omega))) (fun h23 => ?_)
    refine xe_aload_n dX8_when_26 rfl ?_
    refine xe_aload_n dX8_when_27 rfl ?_
    refine xe_getr dX8_when_28 flX8_27 (by decide) rfl rfl ?_
    refine xe_iload_n dX8_when_31 rfl ?_
    refine xe_callv (k2 := kX8_clearOf) (vs := [_, _]) dX8_when_32 okX8_clearOf mlX8_105 imX8_clearOf slX8_clearOf (Or.inl ⟨8, _, _, by decide, rfl, rfl, rfl⟩) rfl rfl (Nat.le_of_ble_eq_true rfl) (Nat.le_of_ble_eq_true rfl) (sX8_clearOf (by omega) S _ hS isP79 hf hr ?_)
    refine xe_iconst (v := 4) dX8_when_35 rfl ?_
    refine xe_icmp_lt (tgt := 42) dX8_when_36 (by decide) (fun h36 => ?_) (fun h36 => ?_)
    · obtain ⟨t, ht9, ht⟩ := tkPs_sok (kp := kpS S) hs hs9 j
      refine xe_aload_n dX8_when_42 rfl ?_
      refine xe_getr dX8_when_43 flX8_27 (by decide) rfl rfl ?_
      refine xe_iload_n dX8_when_46 rfl ?_
      refine xe_callv (k2 := kX3_ripen) (vs := [_]) dX8_when_47 okX3_ripen mlX8_204 imX3_ripen slX3_ripen (Or.inl ⟨3, _, _, by decide, rfl, rfl, rfl⟩) rfl rfl (Nat.le_of_ble_eq_true rfl) (Nat.le_of_ble_eq_true rfl) (sX3_ripen (by omega) i _ (kpS S) t isP79 hr ht ht9 (fun υ hu2 hr2 => ?_))
      refine xn_inc (j := j) (lv2 := [_, _, _, _, _]) dX8_when_50 (by decide) rfl rfl ?_
      refine xe_goto (tgt := 19) dX8_when_53 (by decide) ?_
      rw [if_neg (c := 4 ≤ Clr S i (tkPs (kpS S) a j) f) (Int32.not_le.mpr h36)] at h
      exact ih (j + 1) υ (by omega) (hS.jk (JK.p hu2)) hr2 (hk.tr (JK.p hu2)) h
    · refine xe_iload dX8_when_39 rfl ?_
      refine xe_iret dX8_when_41 rfl rfl ?_
      rw [if_pos (c := 4 ≤ Clr S i (tkPs (kpS S) a j) f) (Int32.not_lt.mp h36)] at h
      exact h τ hk

theorem sX8_when {d : Nat} (hd : 4 ≤ d) {σ : xSt} {Post : Option Value → xSt → Prop} {c i f : Nat} (S : xSem) (a : Nat → Int32) (s : Nat) (hS : JSem σ S) (hp : isP c) (hc : c < 53) (hf : f < 8) (hr : RepP σ c i a) (hs9 : s ≤ 9) (hs : a 2 = nI s) (h : ∀ τ, JK σ τ → Post (some (.int (whF S i a f 61 0))) τ) : xM kX8_when d [.ref 0, .ref c, .int (nI f)] σ Post := by
  obtain ⟨d, rfl⟩ : ∃ e, d = e + 1 := ⟨d - 1, by omega⟩
  refine xM_start (lv := [some (.ref 0), some (.ref c), some (.int (nI f)), none, none]) rfl ?_
  obtain ⟨cc, l, hH, hk⟩ := hS.keep
  refine xe_aload_n dX8_when_0 rfl ?_
  refine xe_callv (k2 := kX8_holding) (vs := []) dX8_when_1 okX8_holding mlX8_146 imX8_holding slX8_holding (Or.inl ⟨8, _, _, by decide, rfl, rfl, rfl⟩) rfl rfl (Nat.le_of_ble_eq_true rfl) (Nat.le_of_ble_eq_true rfl) (sX8_holding (by omega) hH ?_)
  refine xe_getf dX8_when_4 flX8_149 hH.1.1.1 hH.1.1.2 rfl ?_
  rw [hk]
  refine xe_istore_n (lv2 := [_, _, _, _, _]) dX8_when_7 (by decide) rfl ?_
  refine xe_aload_n dX8_when_8 rfl ?_
  refine xe_getr dX8_when_9 flX8_27 (by decide) rfl rfl ?_
  refine xe_aload_n dX8_when_12 rfl ?_
  refine xe_callv (k2 := kX3_copyFrom) (vs := [_]) dX8_when_13 okX3_copyFrom mlX8_200 imX3_copyFrom slX3_copyFrom (Or.inl ⟨3, _, _, by decide, rfl, rfl, rfl⟩) rfl rfl (Nat.le_of_ble_eq_true rfl) (Nat.le_of_ble_eq_true rfl) (sX3_copyFrom (by omega) isP79 hp (by omega) (by omega) (by omega) (fun τ hu hcp => ?_))
  refine xe_iconst (v := 0) dX8_when_16 rfl ?_
  refine xe_istore (lv2 := [_, _, _, _, _]) dX8_when_17 (by decide) rfl ?_
  exact lX8_when (d := d) (by omega) S a s hs9 hs c hf 61 0 τ (by omega) (hS.jk (JK.p hu)) (hcp i a hr) (JK.p hu) h

theorem lX8_found {d : Nat} {σ : xSt} {Post : Option Value → xSt → Prop} (hd : 3 ≤ d) {n m p k f : Nat} (G : Nat → Int32) (S : xSem) (hJ : RepJ σ 1 G n m p k) (hc : CO G n m p k) (hS : JSem σ S) (hf : f < 8) (h : Post (some (.int (iS (fnd1 S G f) n))) σ) : ∀ (q j : Nat) (v4 v5 : Option Value), n + 1 ≤ j + q → j ≤ n → xEv kX8_found (d + 1) 4 [some (.ref 0), some (.int (nI f)), some (.int (iS (fnd1 S G f) j)), some (.int (nI j)), v4, v5] [] σ Post := by
  intro q
  induction q with
  | zero => intro j v4 v5 hq hj; omega
  | succ q ih =>
    intro j v4 v5 hq hj
    have hn6 : n ≤ 6 := hc.2.1
    refine xe_iload_n dX8_found_4 rfl ?_
    refine xe_aload_n dX8_found_5 rfl ?_
    refine xe_getr dX8_found_6 flX8_12 (by decide) rfl rfl ?_
    refine xe_getf dX8_found_9 flX8_208 (by decide) rfl rfl ?_
    rw [hJ.P.1]
    refine xe_icmp_ge (tgt := 76) dX8_found_12 (by decide) (fun h12 => ?_) (fun h12 => ?_)
    · obtain rfl : j = n := by have := nLe (by omega) (by omega) h12; omega
      refine xe_iload_n dX8_found_76 rfl ?_
      refine xe_iret dX8_found_77 rfl rfl ?_
      exact h
    · have hlt := nNle (by omega) (by omega) h12
      have hj6 : j < 6 := by omega
      refine xe_aload_n dX8_found_15 rfl ?_
      refine xe_aload_n dX8_found_16 rfl ?_
      refine xe_getr dX8_found_17 flX8_12 (by decide) rfl rfl ?_
      refine xe_getr dX8_found_20 flX8_211 (by decide) rfl rfl ?_
      refine xe_iload_n dX8_found_23 rfl ?_
      refine xn_aaload dX8_found_24 (by decide) rfl (by decide) (by first | with_reducible rfl | (simp only [xl, pk_mul, nI_add, nI_1]; done) | (simp only [xl, pk_mul, nI_add, nI_1]; rfl)) (by omega) (by decide) (isS.t hj6) ?_
      refine xe_iload_n dX8_found_25 rfl ?_
      refine xe_callv (k2 := kX8_clearOf) (vs := [_, _]) dX8_found_26 okX8_clearOf mlX8_105 imX8_clearOf slX8_clearOf (Or.inl ⟨8, _, _, by decide, rfl, rfl, rfl⟩) rfl rfl (Nat.le_of_ble_eq_true rfl) (Nat.le_of_ble_eq_true rfl) (sX8_clearOf (by omega) S _ hS (isS1.p hj6) hf (hJ.P.2 j hlt) ?_)
      refine xe_istore (lv2 := [_, _, _, _, _, _]) dX8_found_29 (by decide) rfl ?_
      refine xe_aload_n dX8_found_31 rfl ?_
      refine xe_iload dX8_found_32 rfl ?_
      refine xe_iload_n dX8_found_34 rfl ?_
      refine xe_callv (k2 := kX8_saidBy) (vs := [_, _]) dX8_found_35 okX8_saidBy mlX8_197 imX8_saidBy slX8_saidBy (Or.inl ⟨8, _, _, by decide, rfl, rfl, rfl⟩) rfl rfl (Nat.le_of_ble_eq_true rfl) (Nat.le_of_ble_eq_true rfl) (sX8_saidBy (by omega) _ f ?_)
      rw [hJ.w]
      refine xe_istore (lv2 := [_, _, _, _, _, _]) dX8_found_38 (by decide) rfl ?_
      refine xe_iload dX8_found_40 rfl ?_
      refine xe_bipush (v := -5) dX8_found_42 rfl ?_
      refine xe_icmp_eq (tgt := 70) dX8_found_44 (by decide) (fun h44 => ?_) (fun h44 => ?_)
      · refine xn_inc (j := j) (lv2 := [_, _, _, _, _, _]) dX8_found_70 (by decide) rfl rfl ?_
        refine xe_goto (tgt := 4) dX8_found_73 (by decide) ?_
        have L := ih (j + 1) (some (.int (Clr S j (pV G j) f))) (some (.int (syB (Clr S j (pV G j) f) f (G 55)))) (by omega) (by omega)
        rw [show iS (fnd1 S G f) (j + 1) = iS (fnd1 S G f) j + fnd1 S G f j from rfl, fnd1] at L
        first
        | (rw [if_pos (c := syB (Clr S j (pV G j) f) f (G 55) = -5) h44, Int32.add_zero] at L; exact L)
        | (rw [if_neg (c := syB (Clr S j (pV G j) f) f (G 55) = -5) h44, if_pos (c := syB (Clr S j (pV G j) f) f (G 55) = 1) h51] at L; exact L)
        | (rw [if_neg (c := syB (Clr S j (pV G j) f) f (G 55) = -5) h44, if_neg (c := syB (Clr S j (pV G j) f) f (G 55) = 1) h51] at L; exact L)
      · refine xe_iload_n dX8_found_47 rfl ?_
        refine xe_iload dX8_found_48 rfl ?_
        refine xe_iconst (v := 1) dX8_found_50 rfl ?_
        refine xe_icmp_ne (tgt := 62) dX8_found_51 (by decide) (fun h51 => ?_) (fun h51 => ?_)
        · refine xe_iload dX8_found_62 rfl ?_
          refine xe_mabs dX8_found_64 mlX8_215 (by omega) (Nat.le_of_ble_eq_true rfl) ?_
          refine xe_ineg dX8_found_67 ?_
          refine xe_iadd dX8_found_68 ?_
          refine xe_istore_n (lv2 := [_, _, _, _, _, _]) dX8_found_69 (by decide) rfl ?_
          refine xn_inc (j := j) (lv2 := [_, _, _, _, _, _]) dX8_found_70 (by decide) rfl rfl ?_
          refine xe_goto (tgt := 4) dX8_found_73 (by decide) ?_
          have L := ih (j + 1) (some (.int (Clr S j (pV G j) f))) (some (.int (syB (Clr S j (pV G j) f) f (G 55)))) (by omega) (by omega)
          rw [show iS (fnd1 S G f) (j + 1) = iS (fnd1 S G f) j + fnd1 S G f j from rfl, fnd1] at L
          first
          | (rw [if_pos (c := syB (Clr S j (pV G j) f) f (G 55) = -5) h44, Int32.add_zero] at L; exact L)
          | (rw [if_neg (c := syB (Clr S j (pV G j) f) f (G 55) = -5) h44, if_pos (c := syB (Clr S j (pV G j) f) f (G 55) = 1) h51] at L; exact L)
          | (rw [if_neg (c := syB (Clr S j (pV G j) f) f (G 55) = -5) h44, if_neg (c := syB (Clr S j (pV G j) f) f (G 55) = 1) h51] at L; exact L)
        · refine xe_iload dX8_found_54 rfl ?_
          refine xe_mabs dX8_found_56 mlX8_215 (by omega) (Nat.le_of_ble_eq_true rfl) ?_
          refine xe_goto (tgt := 68) dX8_found_59 (by decide) ?_
          refine xe_iadd dX8_found_68 ?_
          refine xe_istore_n (lv2 := [_, _, _, _, _, _]) dX8_found_69 (by decide) rfl ?_
          refine xn_inc (j := j) (lv2 := [_, _, _, _, _, _]) dX8_found_70 (by decide) rfl rfl ?_
          refine xe_goto (tgt := 4) dX8_found_73 (by decide) ?_
          have L := ih (j + 1) (some (.int (Clr S j (pV G j) f))) (some (.int (syB (Clr S j (pV G j) f) f (G 55)))) (by omega) (by omega)
          rw [show iS (fnd1 S G f) (j + 1) = iS (fnd1 S G f) j + fnd1 S G f j from rfl, fnd1] at L
          first
          | (rw [if_pos (c := syB (Clr S j (pV G j) f) f (G 55) = -5) h44, Int32.add_zero] at L; exact L)
          | (rw [if_neg (c := syB (Clr S j (pV G j) f) f (G 55) = -5) h44, if_pos (c := syB (Clr S j (pV G j) f) f (G 55) = 1) h51] at L; exact L)
          | (rw [if_neg (c := syB (Clr S j (pV G j) f) f (G 55) = -5) h44, if_neg (c := syB (Clr S j (pV G j) f) f (G 55) = 1) h51] at L; exact L)

theorem sX8_found {d : Nat} (hd : 4 ≤ d) {σ : xSt} {Post : Option Value → xSt → Prop} {n m p k f : Nat} (G : Nat → Int32) (S : xSem) (hJ : RepJ σ 1 G n m p k) (hc : CO G n m p k) (hS : JSem σ S) (hf : f < 8) (h : Post (some (.int (iS (fnd1 S G f) n))) σ) : xM kX8_found d [.ref 0, .int (nI f)] σ Post := by
  obtain ⟨d, rfl⟩ : ∃ e, d = e + 1 := ⟨d - 1, by omega⟩
  refine xM_start (lv := [some (.ref 0), some (.int (nI f)), none, none, none, none]) rfl ?_
  refine xe_iconst (v := 0) dX8_found_0 rfl ?_
  refine xe_istore_n (lv2 := [_, _, _, _, _, _]) dX8_found_1 (by decide) rfl ?_
  refine xe_iconst (v := 0) dX8_found_2 rfl ?_
  refine xe_istore_n (lv2 := [_, _, _, _, _, _]) dX8_found_3 (by decide) rfl ?_
  exact lX8_found (d := d) (by omega) G S hJ hc hS hf h (n + 1) 0 _ _ (by omega) (by omega)

theorem onOk_iff {G : Nat → Int32} {n : Nat} (hn : G 54 = nI n) (h6 : n ≤ 6) (w : Int32) : onOk G w ↔ (w = 0 ∨ ∃ i, i < n ∧ (w = nI (10 + i) ∨ w = nI (20 + i))) := by
  unfold onOk
  rw [hn]
  have P : ∀ t : Nat, t < 100 → (pOk (nI n) (w - nI t) ↔ ∃ i, i < n ∧ w = nI (t + i)) := by
    intro t ht
    constructor
    · intro z
      obtain ⟨i, hi, e⟩ := pOk_nat (by omega) z
      exact ⟨i, hi, by rw [← nI_add, ← e, Int32.add_comm, Int32.sub_add_cancel]⟩
    · rintro ⟨i, hi, rfl⟩
      rw [pk_sub (by omega), show t + i - t = i by omega]
      exact ⟨nI_pos' (by omega), nI_lt hi (by omega)⟩
  rw [show (10 : Int32) = nI 10 from rfl, show (20 : Int32) = nI 20 from rfl, P 10 (by omega), P 20 (by omega)]
  constructor
  · rintro (z | ⟨i, hi, e⟩ | ⟨i, hi, e⟩)
    · exact Or.inl z
    · exact Or.inr ⟨i, hi, Or.inl e⟩
    · exact Or.inr ⟨i, hi, Or.inr e⟩
  · rintro (z | ⟨i, hi, e | e⟩)
    · exact Or.inl z
    · exact Or.inr (Or.inl ⟨i, hi, e⟩)
    · exact Or.inr (Or.inr ⟨i, hi, e⟩)
theorem w1030 {w : Int32} (h1 : ¬ w < 10) (h2 : ¬ 30 ≤ w) : ∃ u, 10 ≤ u ∧ u < 30 ∧ w = nI u := by
  obtain ⟨u, hu, rfl⟩ := nI_of (x := w) (fun z => h1 (Int32.lt_trans z (by decide)))
  exact ⟨u, nNlt (b := 10) hu (by omega) h1, nNle (a := 30) (by omega) hu h2, rfl⟩
theorem w10_a {w : Int32} {i : Nat} (hi : i < 6) (hw : w = nI (10 + i) ∨ w = nI (20 + i)) (q : w < 20) : w - 10 = nI i := by
  rcases hw with rfl | rfl
  · rw [show (10 : Int32) = nI 10 from rfl, pk_sub (by omega)]; congr 1; omega
  · exact absurd (nLt (b := 20) (by omega) (by omega) q) (by omega)
theorem w20_a {w : Int32} {i : Nat} (hi : i < 6) (hw : w = nI (10 + i) ∨ w = nI (20 + i)) (q : ¬ w < 20) : w - 20 = nI i := by
  rcases hw with rfl | rfl
  · exact absurd (nI_lt (a := 10 + i) (b := 20) (by omega) (by omega)) q
  · rw [show (20 : Int32) = nI 20 from rfl, pk_sub (by omega)]; congr 1; omega
theorem w10_rem {u : Nat} (hu : u < 1000) : nI u - nI u / 10 * 10 = nI (u % 10) := pk_rem (d := 10) (by omega) (by omega) (by omega)

theorem lX8_on44 {d : Nat} {σ : xSt} {Post : Option Value → xSt → Prop} (hd : 3 ≤ d) {n m p k : Nat} (G : Nat → Int32) (S : xSem) (x w v3 : Int32) (hJ : RepJ σ 1 G n m p k) (hc : CO G n m p k) (hS : JSem σ S) (hs : SOk n G) (hw : w = 0 ∨ ∃ i, i < n ∧ (w = nI (10 + i) ∨ w = nI (20 + i))) (h : ∀ τ, JK σ τ → Post (some (.int (onV S n G x w))) τ) : xEv kX8_on (d + 1) 44 [some (.ref 0), some (.int x), some (.int w), some (.int v3), none] [] σ Post := by
  have hn6 : n ≤ 6 := hc.2.1
  have hO := (onOk_iff hc.1 hn6 w).mpr hw
  refine xe_iload_n dX8_on_44 rfl ?_
  refine xe_if_lt (tgt := 54) dX8_on_45 (by decide) (fun h45 => ?_) (fun h45 => ?_)
  · refine xe_bipush (v := -2) dX8_on_54 rfl ?_
    refine xe_iret dX8_on_56 rfl rfl ?_
    have c0 : ¬ rng x 0 60 := by first | exact fun z => absurd z.1 (Int32.not_le.mpr h45) | exact fun z => h51 z.2
    have e := h σ Un.rf
    rw [onV, if_pos hO, if_neg c0] at e
    exact e
  · refine xe_iload_n dX8_on_48 rfl ?_
    refine xe_bipush (v := 60) dX8_on_49 rfl ?_
    refine xe_icmp_le (tgt := 57) dX8_on_51 (by decide) (fun h51 => ?_) (fun h51 => ?_)
    · have c0 : rng x 0 60 := ⟨Int32.not_lt.mp h45, h51⟩
      obtain ⟨v, hv6, rfl⟩ := rng_nat (m := 60) (by omega) c0
      have ev : cN (nI v) = v := cN_nI (by omega)
      refine xe_aload_n dX8_on_57 rfl ?_
      refine xe_getr dX8_on_58 flX8_21 (by decide) rfl rfl ?_
      refine xe_aload_n dX8_on_61 rfl ?_
      refine xe_getr dX8_on_62 flX8_12 (by decide) rfl rfl ?_
      refine xe_callv (k2 := kX5_copyPotsFrom) (vs := [_]) dX8_on_65 okX5_copyPotsFrom mlX8_224 imX5_copyPotsFrom slX5_copyPotsFrom (Or.inl ⟨5, _, _, by decide, rfl, rfl, rfl⟩) rfl rfl (Nat.le_of_ble_eq_true rfl) (Nat.le_of_ble_eq_true rfl) (sX5_copyPotsFrom (by omega) isS53 isS1 (by omega) hJ.P.1 hc.2.1 (fun τ hu hcp => ?_))
      refine xe_aload_n dX8_on_68 rfl ?_
      refine xe_getr dX8_on_69 flX8_21 (by decide) rfl rfl ?_
      refine xe_iload_n dX8_on_72 rfl ?_
      obtain ⟨cc, l, hH, hk⟩ := (hS.jk (JK.t hu)).keep
      refine xe_aload_n dX8_on_73 rfl ?_
      refine xe_callv (k2 := kX8_holding) (vs := []) dX8_on_74 okX8_holding mlX8_146 imX8_holding slX8_holding (Or.inl ⟨8, _, _, by decide, rfl, rfl, rfl⟩) rfl rfl (Nat.le_of_ble_eq_true rfl) (Nat.le_of_ble_eq_true rfl) (sX8_holding (by omega) hH ?_)
      refine xe_getf dX8_on_77 flX8_149 hH.1.1.1 hH.1.1.2 rfl ?_
      rw [hk]
      refine xe_callv (k2 := kX5_ripenAll) (vs := [_, _]) dX8_on_80 okX5_ripenAll mlX8_220 imX5_ripenAll slX5_ripenAll (Or.inl ⟨5, _, _, by decide, rfl, rfl, rfl⟩) rfl rfl (Nat.le_of_ble_eq_true rfl) (Nat.le_of_ble_eq_true rfl) (sX5_ripenAll (by omega) _ G isS53 hc.2.1 (by omega) hs (hcp G hJ.P) (fun υ hu2 hT => ?_))
      refine xe_iload_n dX8_on_83 rfl ?_
      refine xe_if_ne (tgt := 95) dX8_on_84 (by decide) (fun h84 => ?_) (fun h84 => ?_)
      · obtain ⟨i, hi, hw⟩ := hw.resolve_left h84
        have e10 : w - w / 10 * 10 = nI i := by rcases hw with rfl | rfl <;> rw [w10_rem (by omega)] <;> congr 1 <;> omega
        refine xe_aload_n dX8_on_95 rfl ?_
        refine xe_getr dX8_on_96 flX8_21 (by decide) rfl rfl ?_
        refine xe_iload_n dX8_on_99 rfl ?_
        refine xe_bipush (v := 10) dX8_on_100 rfl ?_
        refine xe_irem dX8_on_102 (by decide) ?_
        rw [e10]
        refine xe_callv (k2 := kX5_potAt) (vs := [_]) dX8_on_103 okX5_potAt mlX8_90 imX5_potAt slX5_potAt (Or.inl ⟨5, _, _, by decide, rfl, rfl, rfl⟩) rfl rfl (Nat.le_of_ble_eq_true rfl) (Nat.le_of_ble_eq_true rfl) (sX5_potAt (by omega) n _ isS53 hT.1 hc.2.1 ⟨fun i2 hi2 ei => ?_, fun hx => ?_⟩)
        · skip
          obtain rfl : i = i2 := nEq (by omega) (by omega) ei
          have hp := isS53.p (i := i) (by omega)
          have hr := hT.2 i hi
          refine xe_astore (lv2 := [_, _, _, _, _]) dX8_on_106 (by decide) rfl ?_
          refine xe_aload dX8_on_108 rfl ?_
          refine xe_ifnonnull (tgt := 117) dX8_on_110 (by decide) ?_
          refine xe_iload_n dX8_on_117 rfl ?_
          refine xe_bipush (v := 20) dX8_on_118 rfl ?_
          refine xe_icmp_ge (tgt := 131) dX8_on_120 (by decide) (fun h120 => ?_) (fun h120 => ?_)
          · refine xe_aload_n dX8_on_131 rfl ?_
            refine xe_aload dX8_on_132 rfl ?_
            refine xe_iconst (v := 0) dX8_on_134 rfl ?_
            refine xe_callv (k2 := kX8_says) (vs := [_, _]) dX8_on_135 okX8_says mlX8_108 imX8_says slX8_says (Or.inl ⟨8, _, _, by decide, rfl, rfl, rfl⟩) rfl rfl (Nat.le_of_ble_eq_true rfl) (Nat.le_of_ble_eq_true rfl) (sX8_says (by omega) S _ ((hS.jk (JK.t hu)).jk (JK.t hu2)) hp (f := 0) (by omega) hr ?_)
            refine xe_iret dX8_on_138 rfl rfl ?_
            have e := h υ ((JK.t hu).tr (JK.t hu2))
            rw [onV, if_pos hO, if_pos c0, if_neg h84, ev] at e
            first
            | (have q : w < 20 := Int32.not_le.mp h120; have q2 := w10_a (by omega) hw q; rw [if_pos q, q2, cN_nI (by omega)] at e; rw [show υ.1 (53 + 2 + 2 * i) 3 = tkGs (kpS S) n G v (9 * i + 2) from hr.2.1 2 (by omega)]; exact e)
            | (have q : ¬ w < 20 := Int32.not_lt.mpr h120; have q2 := w20_a (by omega) hw q; rw [if_neg q, q2, cN_nI (by omega)] at e; rw [show υ.1 1 0 = G 55 from (((JK.t hu).tr (JK.t hu2)).f (by unfold JSc; omega) 0).trans hJ.w]; exact e)
          · refine xe_aload dX8_on_123 rfl ?_
            refine xe_getf dX8_on_125 flX8_117 hp.1.1 hp.1.2 rfl ?_
            refine xe_goto (tgt := 138) dX8_on_128 (by decide) ?_
            refine xe_iret dX8_on_138 rfl rfl ?_
            have e := h υ ((JK.t hu).tr (JK.t hu2))
            rw [onV, if_pos hO, if_pos c0, if_neg h84, ev] at e
            first
            | (have q : w < 20 := Int32.not_le.mp h120; have q2 := w10_a (by omega) hw q; rw [if_pos q, q2, cN_nI (by omega)] at e; rw [show υ.1 (53 + 2 + 2 * i) 3 = tkGs (kpS S) n G v (9 * i + 2) from hr.2.1 2 (by omega)]; exact e)
            | (have q : ¬ w < 20 := Int32.not_lt.mpr h120; have q2 := w20_a (by omega) hw q; rw [if_neg q, q2, cN_nI (by omega)] at e; rw [show υ.1 1 0 = G 55 from (((JK.t hu).tr (JK.t hu2)).f (by unfold JSc; omega) 0).trans hJ.w]; exact e)
        · skip
          exact absurd (show pOk (nI n) (nI i) from ⟨nI_pos' (by omega), nI_lt hi (by omega)⟩) hx
      · refine xe_aload_n dX8_on_87 rfl ?_
        refine xe_getr dX8_on_88 flX8_21 (by decide) rfl rfl ?_
        refine xe_callv (k2 := kX5_sugarOfAll) (vs := []) dX8_on_91 okX5_sugarOfAll mlX8_228 imX5_sugarOfAll slX5_sugarOfAll (Or.inl ⟨5, _, _, by decide, rfl, rfl, rfl⟩) rfl rfl (Nat.le_of_ble_eq_true rfl) (Nat.le_of_ble_eq_true rfl) (sX5_sugarOfAll (by omega) _ isS53 hn6 hT ?_)
        refine xe_iret dX8_on_94 rfl rfl ?_
        have e := h υ ((JK.t hu).tr (JK.t hu2))
        rw [onV, if_pos hO, if_pos c0, if_pos h84, ev] at e
        exact e
    · refine xe_bipush (v := -2) dX8_on_54 rfl ?_
      refine xe_iret dX8_on_56 rfl rfl ?_
      have c0 : ¬ rng x 0 60 := by first | exact fun z => absurd z.1 (Int32.not_le.mpr h45) | exact fun z => h51 z.2
      have e := h σ Un.rf
      rw [onV, if_pos hO, if_neg c0] at e
      exact e

theorem sX8_on {d : Nat} (hd : 4 ≤ d) {σ : xSt} {Post : Option Value → xSt → Prop} {n m p k : Nat} (G : Nat → Int32) (S : xSem) (x w : Int32) (hJ : RepJ σ 1 G n m p k) (hc : CO G n m p k) (hS : JSem σ S) (hs : SOk n G) (h : ∀ τ, JK σ τ → Post (some (.int (onV S n G x w))) τ) : xM kX8_on d [.ref 0, .int x, .int w] σ Post := by
  obtain ⟨d, rfl⟩ : ∃ e, d = e + 1 := ⟨d - 1, by omega⟩
  refine xM_start (lv := [some (.ref 0), some (.int x), some (.int w), none, none]) rfl ?_
  have hn6 : n ≤ 6 := hc.2.1
  have hO := onOk_iff hc.1 hn6 w
  refine xe_iload_n dX8_on_0 rfl ?_
  refine xe_bipush (v := 10) dX8_on_1 rfl ?_
  refine xe_icmp_lt (tgt := 16) dX8_on_3 (by decide) (fun h3 => ?_) (fun h3 => ?_)
  · refine xe_iconst (v := 0) dX8_on_16 rfl ?_
    refine xe_istore_n (lv2 := [_, _, _, _, _]) dX8_on_17 (by decide) rfl ?_
    refine xe_iload_n dX8_on_18 rfl ?_
    refine xe_if_eq (tgt := 44) dX8_on_19 (by decide) (fun h19 => ?_) (fun h19 => ?_)
    · first | exact lX8_on44 (d := d) (by omega) G S x w _ hJ hc hS hs (Or.inl h19) h | exact lX8_on44 (d := d) (by omega) G S x w _ hJ hc hS hs (Or.inr ⟨i, hi, hw⟩) h
    · refine xe_iload_n dX8_on_22 rfl ?_
      refine xe_if_eq (tgt := 40) dX8_on_23 (by decide) (fun h23 => ?_) (fun h23 => ?_)
      · first
        | exact absurd h23 (by decide)
        | skip
          refine xe_sipush (v := -10001) dX8_on_40 rfl ?_
          refine xe_iret dX8_on_43 rfl rfl ?_
          have e := h σ Un.rf
          have hO2 : ¬ onOk G w := by
            rw [hO]
            rintro (z | ⟨i, hi, z⟩)
            · exact h19 z
            · first
              | (rcases z with rfl | rfl <;> exact absurd h3 (nI_nlt (b := 10) (by omega) (by omega)))
              | (rcases z with rfl | rfl <;> exact absurd h9 (nI_ge (b := 30) (by omega) (by omega)))
              | (refine hx ⟨nI_pos' (by omega), nI_lt ?_ (by omega)⟩; rw [← ew] at z; rcases z with z | z <;> have z := nEq (by omega) (by omega) z <;> omega)
          rw [onV, if_neg hO2] at e
          exact e
      · first
        | exact absurd h23 (by decide)
        | skip
          refine xe_aload_n dX8_on_26 rfl ?_
          refine xe_getr dX8_on_27 flX8_12 (by decide) rfl rfl ?_
          refine xe_iload_n dX8_on_30 rfl ?_
          refine xe_bipush (v := 10) dX8_on_31 rfl ?_
          obtain ⟨u, hu1, hu2, ew⟩ := w1030 h3 h9
          have ew := ew.symm
          have e10 : w - w / 10 * 10 = nI (u % 10) := by rw [← ew]; exact w10_rem (by omega)
          refine xe_irem dX8_on_33 (by decide) ?_
          rw [e10]
          refine xe_callv (k2 := kX5_potAt) (vs := [_]) dX8_on_34 okX5_potAt mlX8_90 imX5_potAt slX5_potAt (Or.inl ⟨5, _, _, by decide, rfl, rfl, rfl⟩) rfl rfl (Nat.le_of_ble_eq_true rfl) (Nat.le_of_ble_eq_true rfl) (sX5_potAt (by omega) n _ isS1 hJ.P.1 hc.2.1 ⟨fun i hi ei => ?_, fun hx => ?_⟩)
          · skip
            have hw : w = nI (10 + i) ∨ w = nI (20 + i) := by
              rw [← ew]; have ei := nEq (by omega) (by omega) ei; by_cases z : u < 20
              · left; congr 1; omega
              · right; congr 1; omega
            refine xe_ifnonnull (tgt := 44) dX8_on_37 (by decide) ?_
            first | exact lX8_on44 (d := d) (by omega) G S x w _ hJ hc hS hs (Or.inl h19) h | exact lX8_on44 (d := d) (by omega) G S x w _ hJ hc hS hs (Or.inr ⟨i, hi, hw⟩) h
          · skip
            refine xe_ifnonnullN dX8_on_37 ?_
            refine xe_sipush (v := -10001) dX8_on_40 rfl ?_
            refine xe_iret dX8_on_43 rfl rfl ?_
            have e := h σ Un.rf
            have hO2 : ¬ onOk G w := by
              rw [hO]
              rintro (z | ⟨i, hi, z⟩)
              · exact h19 z
              · first
                | (rcases z with rfl | rfl <;> exact absurd h3 (nI_nlt (b := 10) (by omega) (by omega)))
                | (rcases z with rfl | rfl <;> exact absurd h9 (nI_ge (b := 30) (by omega) (by omega)))
                | (refine hx ⟨nI_pos' (by omega), nI_lt ?_ (by omega)⟩; rw [← ew] at z; rcases z with z | z <;> have z := nEq (by omega) (by omega) z <;> omega)
            rw [onV, if_neg hO2] at e
            exact e
  · refine xe_iload_n dX8_on_6 rfl ?_
    refine xe_bipush (v := 30) dX8_on_7 rfl ?_
    refine xe_icmp_ge (tgt := 16) dX8_on_9 (by decide) (fun h9 => ?_) (fun h9 => ?_)
    · refine xe_iconst (v := 0) dX8_on_16 rfl ?_
      refine xe_istore_n (lv2 := [_, _, _, _, _]) dX8_on_17 (by decide) rfl ?_
      refine xe_iload_n dX8_on_18 rfl ?_
      refine xe_if_eq (tgt := 44) dX8_on_19 (by decide) (fun h19 => ?_) (fun h19 => ?_)
      · first | exact lX8_on44 (d := d) (by omega) G S x w _ hJ hc hS hs (Or.inl h19) h | exact lX8_on44 (d := d) (by omega) G S x w _ hJ hc hS hs (Or.inr ⟨i, hi, hw⟩) h
      · refine xe_iload_n dX8_on_22 rfl ?_
        refine xe_if_eq (tgt := 40) dX8_on_23 (by decide) (fun h23 => ?_) (fun h23 => ?_)
        · first
          | exact absurd h23 (by decide)
          | skip
            refine xe_sipush (v := -10001) dX8_on_40 rfl ?_
            refine xe_iret dX8_on_43 rfl rfl ?_
            have e := h σ Un.rf
            have hO2 : ¬ onOk G w := by
              rw [hO]
              rintro (z | ⟨i, hi, z⟩)
              · exact h19 z
              · first
                | (rcases z with rfl | rfl <;> exact absurd h3 (nI_nlt (b := 10) (by omega) (by omega)))
                | (rcases z with rfl | rfl <;> exact absurd h9 (nI_ge (b := 30) (by omega) (by omega)))
                | (refine hx ⟨nI_pos' (by omega), nI_lt ?_ (by omega)⟩; rw [← ew] at z; rcases z with z | z <;> have z := nEq (by omega) (by omega) z <;> omega)
            rw [onV, if_neg hO2] at e
            exact e
        · first
          | exact absurd h23 (by decide)
          | skip
            refine xe_aload_n dX8_on_26 rfl ?_
            refine xe_getr dX8_on_27 flX8_12 (by decide) rfl rfl ?_
            refine xe_iload_n dX8_on_30 rfl ?_
            refine xe_bipush (v := 10) dX8_on_31 rfl ?_
            obtain ⟨u, hu1, hu2, ew⟩ := w1030 h3 h9
            have ew := ew.symm
            have e10 : w - w / 10 * 10 = nI (u % 10) := by rw [← ew]; exact w10_rem (by omega)
            refine xe_irem dX8_on_33 (by decide) ?_
            rw [e10]
            refine xe_callv (k2 := kX5_potAt) (vs := [_]) dX8_on_34 okX5_potAt mlX8_90 imX5_potAt slX5_potAt (Or.inl ⟨5, _, _, by decide, rfl, rfl, rfl⟩) rfl rfl (Nat.le_of_ble_eq_true rfl) (Nat.le_of_ble_eq_true rfl) (sX5_potAt (by omega) n _ isS1 hJ.P.1 hc.2.1 ⟨fun i hi ei => ?_, fun hx => ?_⟩)
            · skip
              have hw : w = nI (10 + i) ∨ w = nI (20 + i) := by
                rw [← ew]; have ei := nEq (by omega) (by omega) ei; by_cases z : u < 20
                · left; congr 1; omega
                · right; congr 1; omega
              refine xe_ifnonnull (tgt := 44) dX8_on_37 (by decide) ?_
              first | exact lX8_on44 (d := d) (by omega) G S x w _ hJ hc hS hs (Or.inl h19) h | exact lX8_on44 (d := d) (by omega) G S x w _ hJ hc hS hs (Or.inr ⟨i, hi, hw⟩) h
            · skip
              refine xe_ifnonnullN dX8_on_37 ?_
              refine xe_sipush (v := -10001) dX8_on_40 rfl ?_
              refine xe_iret dX8_on_43 rfl rfl ?_
              have e := h σ Un.rf
              have hO2 : ¬ onOk G w := by
                rw [hO]
                rintro (z | ⟨i, hi, z⟩)
                · exact h19 z
                · first
                  | (rcases z with rfl | rfl <;> exact absurd h3 (nI_nlt (b := 10) (by omega) (by omega)))
                  | (rcases z with rfl | rfl <;> exact absurd h9 (nI_ge (b := 30) (by omega) (by omega)))
                  | (refine hx ⟨nI_pos' (by omega), nI_lt ?_ (by omega)⟩; rw [← ew] at z; rcases z with z | z <;> have z := nEq (by omega) (by omega) z <;> omega)
              rw [onV, if_neg hO2] at e
              exact e
    · refine xe_iconst (v := 1) dX8_on_12 rfl ?_
      refine xe_goto (tgt := 17) dX8_on_13 (by decide) ?_
      refine xe_istore_n (lv2 := [_, _, _, _, _]) dX8_on_17 (by decide) rfl ?_
      refine xe_iload_n dX8_on_18 rfl ?_
      refine xe_if_eq (tgt := 44) dX8_on_19 (by decide) (fun h19 => ?_) (fun h19 => ?_)
      · first | exact lX8_on44 (d := d) (by omega) G S x w _ hJ hc hS hs (Or.inl h19) h | exact lX8_on44 (d := d) (by omega) G S x w _ hJ hc hS hs (Or.inr ⟨i, hi, hw⟩) h
      · refine xe_iload_n dX8_on_22 rfl ?_
        refine xe_if_eq (tgt := 40) dX8_on_23 (by decide) (fun h23 => ?_) (fun h23 => ?_)
        · first
          | exact absurd h23 (by decide)
          | skip
            refine xe_sipush (v := -10001) dX8_on_40 rfl ?_
            refine xe_iret dX8_on_43 rfl rfl ?_
            have e := h σ Un.rf
            have hO2 : ¬ onOk G w := by
              rw [hO]
              rintro (z | ⟨i, hi, z⟩)
              · exact h19 z
              · first
                | (rcases z with rfl | rfl <;> exact absurd h3 (nI_nlt (b := 10) (by omega) (by omega)))
                | (rcases z with rfl | rfl <;> exact absurd h9 (nI_ge (b := 30) (by omega) (by omega)))
                | (refine hx ⟨nI_pos' (by omega), nI_lt ?_ (by omega)⟩; rw [← ew] at z; rcases z with z | z <;> have z := nEq (by omega) (by omega) z <;> omega)
            rw [onV, if_neg hO2] at e
            exact e
        · first
          | exact absurd h23 (by decide)
          | skip
            refine xe_aload_n dX8_on_26 rfl ?_
            refine xe_getr dX8_on_27 flX8_12 (by decide) rfl rfl ?_
            refine xe_iload_n dX8_on_30 rfl ?_
            refine xe_bipush (v := 10) dX8_on_31 rfl ?_
            obtain ⟨u, hu1, hu2, ew⟩ := w1030 h3 h9
            have ew := ew.symm
            have e10 : w - w / 10 * 10 = nI (u % 10) := by rw [← ew]; exact w10_rem (by omega)
            refine xe_irem dX8_on_33 (by decide) ?_
            rw [e10]
            refine xe_callv (k2 := kX5_potAt) (vs := [_]) dX8_on_34 okX5_potAt mlX8_90 imX5_potAt slX5_potAt (Or.inl ⟨5, _, _, by decide, rfl, rfl, rfl⟩) rfl rfl (Nat.le_of_ble_eq_true rfl) (Nat.le_of_ble_eq_true rfl) (sX5_potAt (by omega) n _ isS1 hJ.P.1 hc.2.1 ⟨fun i hi ei => ?_, fun hx => ?_⟩)
            · skip
              have hw : w = nI (10 + i) ∨ w = nI (20 + i) := by
                rw [← ew]; have ei := nEq (by omega) (by omega) ei; by_cases z : u < 20
                · left; congr 1; omega
                · right; congr 1; omega
              refine xe_ifnonnull (tgt := 44) dX8_on_37 (by decide) ?_
              first | exact lX8_on44 (d := d) (by omega) G S x w _ hJ hc hS hs (Or.inl h19) h | exact lX8_on44 (d := d) (by omega) G S x w _ hJ hc hS hs (Or.inr ⟨i, hi, hw⟩) h
            · skip
              refine xe_ifnonnullN dX8_on_37 ?_
              refine xe_sipush (v := -10001) dX8_on_40 rfl ?_
              refine xe_iret dX8_on_43 rfl rfl ?_
              have e := h σ Un.rf
              have hO2 : ¬ onOk G w := by
                rw [hO]
                rintro (z | ⟨i, hi, z⟩)
                · exact h19 z
                · first
                  | (rcases z with rfl | rfl <;> exact absurd h3 (nI_nlt (b := 10) (by omega) (by omega)))
                  | (rcases z with rfl | rfl <;> exact absurd h9 (nI_ge (b := 30) (by omega) (by omega)))
                  | (refine hx ⟨nI_pos' (by omega), nI_lt ?_ (by omega)⟩; rw [← ew] at z; rcases z with z | z <;> have z := nEq (by omega) (by omega) z <;> omega)
              rw [onV, if_neg hO2] at e
              exact e

theorem lX8_commonDivisor {d : Nat} {σ : xSt} {Post : Option Value → xSt → Prop} (A B : Int32) (x y : Nat) (hx : x < 1000) (hy : y ≤ 60) (h : Post (some (.int (nI (Nat.gcd x y)))) σ) : ∀ (q j X Y : Nat) (v5 : Option Value), 65 ≤ j + q → X < 1000 → Y + j ≤ y → Nat.gcd X Y = Nat.gcd x y → xEv kX8_commonDivisor d 7 [some (.int A), some (.int B), some (.int (nI X)), some (.int (nI Y)), some (.int (nI j)), v5] [] σ Post := by
  intro q
  induction q with
  | zero => intro j X Y v5 hq hX hY hg; omega
  | succ q ih =>
    intro j X Y v5 hq hX hY hg
    refine xe_iload dX8_commonDivisor_7 rfl ?_
    refine xe_bipush (v := 64) dX8_commonDivisor_9 rfl ?_
    refine xe_icmp_ge (tgt := 34) dX8_commonDivisor_11 (by decide) (fun h11 => absurd h11 (show ¬ nI 64 ≤ nI j from nI_ge (by omega) (by omega))) (fun h11 => ?_)
    refine xe_iload_n dX8_commonDivisor_14 rfl ?_
    refine xe_if_eq (tgt := 34) dX8_commonDivisor_15 (by decide) (fun h15 => ?_) (fun h15 => ?_)
    · have hY : Y = 0 := nEq (b := 0) (by omega) (by omega) h15
      rw [hY, Nat.gcd_zero_right] at hg
      refine xe_iload_n dX8_commonDivisor_34 rfl ?_
      refine xe_iret dX8_commonDivisor_35 rfl rfl ?_
      rw [hg]; exact h
    · have hY0 : ¬ Y = 0 := fun z => h15 (by rw [z]; rfl)
      refine xe_iload_n dX8_commonDivisor_18 rfl ?_
      refine xe_iload_n dX8_commonDivisor_19 rfl ?_
      refine xe_irem dX8_commonDivisor_20 (fun z => h15 z) ?_
      refine xe_top (x2 := nI (X % Y)) (pk_rem (by omega) (by omega) (by omega)) ?_
      refine xe_istore (lv2 := [_, _, _, _, _, _]) dX8_commonDivisor_21 (by decide) rfl ?_
      refine xe_iload_n dX8_commonDivisor_23 rfl ?_
      refine xe_istore_n (lv2 := [_, _, _, _, _, _]) dX8_commonDivisor_24 (by decide) rfl ?_
      refine xe_iload dX8_commonDivisor_25 rfl ?_
      refine xe_istore_n (lv2 := [_, _, _, _, _, _]) dX8_commonDivisor_27 (by decide) rfl ?_
      refine xn_inc (j := j) (lv2 := [_, _, _, _, _, _]) dX8_commonDivisor_28 (by decide) rfl rfl ?_
      refine xe_goto (tgt := 7) dX8_commonDivisor_31 (by decide) ?_
      refine ih (j + 1) Y (X % Y) _ (by omega) (by omega) (by have := Nat.mod_lt X (y := Y) (by omega); omega) ?_
      rw [← hg, Nat.gcd_comm X Y, Nat.gcd_rec Y X, Nat.gcd_comm]

theorem sX8_commonDivisor {d : Nat} (hd : 0 ≤ d) {σ : xSt} {Post : Option Value → xSt → Prop} (x y : Nat) (hx : x < 1000) (hy : y ≤ 60) (h : Post (some (.int (nI (Nat.gcd x y)))) σ) : xM kX8_commonDivisor d [.int (nI x), .int (nI y)] σ Post := by
  refine xM_start (lv := [some (.int (nI x)), some (.int (nI y)), none, none, none, none]) rfl ?_
  refine xe_iload_n dX8_commonDivisor_0 rfl ?_
  refine xe_istore_n (lv2 := [_, _, _, _, _, _]) dX8_commonDivisor_1 (by decide) rfl ?_
  refine xe_iload_n dX8_commonDivisor_2 rfl ?_
  refine xe_istore_n (lv2 := [_, _, _, _, _, _]) dX8_commonDivisor_3 (by decide) rfl ?_
  refine xe_iconst (v := 0) dX8_commonDivisor_4 rfl ?_
  refine xe_istore (lv2 := [_, _, _, _, _, _]) dX8_commonDivisor_5 (by decide) rfl ?_
  exact lX8_commonDivisor (d := d) _ _ x y hx hy h 65 0 x y _ (by omega) hx (by omega) rfl
