theorem mx0_nat {s : Nat} (h : s ≤ 9) : ∃ t, t ≤ 9 ∧ mxI 0 (nI s - 1) = nI t := by
  have key : ∀ s, s < 10 → mxI 0 (nI s - 1) = nI (s - 1) := by decide +kernel
  exact ⟨s - 1, by omega, key s (by omega)⟩
theorem pl1_sok {kp : Int32} {n b r : Nat} {P g : Nat → Int32} (h6 : n ≤ 6) (hP : PLo n P b) (hr : r < b) (hs : SOk n g) : SOk n (pl1 kp n P r g) := by
  rw [pl1]
  split
  · exact tkGs_sok (kp := kp) h6 hs 1
  · split
    · intro i hi
      obtain ⟨s, hs9, es⟩ := hs i hi
      unfold opG
      by_cases z : 9 * i + 2 = 9 * cN (P (79 + 2 * r) / 10) + 2
      · rw [z, pk_us]
        rw [z] at es
        rw [es]
        exact mx0_nat hs9
      · rw [pk_un z, pk_un (by omega)]; exact ⟨s, hs9, es⟩
    · split
      · intro i hi
        obtain ⟨s, hs9, es⟩ := hs i hi
        by_cases z : 9 * i + 2 = 9 * cN (P (79 + 2 * r)) + 2
        · rw [z, pk_us]; exact ⟨0, by omega, rfl⟩
        · rw [pk_un z]; exact ⟨s, hs9, es⟩
      · intro i hi
        rw [pk_un (by omega)]; exact hs i hi
theorem plA_sok {kp : Int32} {n b : Nat} {P : Nat → Int32} (h6 : n ≤ 6) (hP : PLo n P b) (hs : SOk n P) : ∀ k, k ≤ b → SOk n (plA kp n P k) := by
  intro k
  induction k with
  | zero => intro _; exact hs
  | succ k ih => intro hk; rw [plA_succ]; exact pl1_sok h6 hP (by omega) (ih (by omega))

theorem sX8_goOn {d : Nat} (hd : 3 ≤ d) {σ : xSt} {Post : Option Value → xSt → Prop} {n b r : Nat} (kp : Int32) (P g : Nat → Int32) (hT : RepT σ 53 n g) (h6 : n ≤ 6) (hs : SOk n g) (hP : PLo n P b) (hr : r < b) (h : ∀ τ, UnT 53 σ τ → RepT τ 53 n (pl1 kp n P r g) → Post none τ) : xM kX8_goOn d [.ref 0, .int (P (78 + 2 * r)), .int (P (79 + 2 * r)), .int kp] σ Post := by
  obtain ⟨d, rfl⟩ : ∃ e, d = e + 1 := ⟨d - 1, by omega⟩
  refine xM_start (lv := [some (.ref 0), some (.int (P (78 + 2 * r))), some (.int (P (79 + 2 * r))), some (.int kp), none]) rfl ?_
  rw [pl1] at h
  rcases hP r hr with e0 | ⟨e0, pt, f, hpt, hf, ep⟩ | ⟨e0, pt, hpt, ep⟩ | ⟨e0, f, hf, ep⟩
  · skip
    rw [e0, if_pos rfl] at h
    rw [e0]
    refine xe_iload_n dX8_goOn_0 rfl ?_
    refine xe_if_ne (tgt := 14) dX8_goOn_1 (by decide) (fun h1 => absurd rfl h1) (fun h1 => ?_)
    refine xe_aload_n dX8_goOn_4 rfl ?_
    refine xe_getr dX8_goOn_5 flX8_21 (by decide) rfl rfl ?_
    refine xe_iconst (v := 1) dX8_goOn_8 rfl ?_
    refine xe_iload_n dX8_goOn_9 rfl ?_
    refine xe_callv (k2 := kX5_ripenAll) (vs := [_, _]) dX8_goOn_10 okX5_ripenAll mlX8_220 imX5_ripenAll slX5_ripenAll (Or.inl ⟨5, _, _, by decide, rfl, rfl, rfl⟩) rfl rfl (Nat.le_of_ble_eq_true rfl) (Nat.le_of_ble_eq_true rfl) (sX5_ripenAll (by omega) (M := 1) kp g isS53 h6 (by omega) hs hT (fun τ hu hT2 => ?_))
    refine xe_vret dX8_goOn_13 rfl ?_
    exact h τ hu hT2
  · skip
    rw [e0, if_neg (by decide), if_pos rfl, ep, show nI (10 * pt + f) / 10 = nI pt from by rw [show (10 : Int32) = nI 10 from rfl, pk_div (by omega) (by omega) (by omega)]; congr 1; omega, cN_nI (by omega)] at h
    rw [e0, ep]
    refine xe_iload_n dX8_goOn_0 rfl ?_
    refine xe_if_ne (tgt := 14) dX8_goOn_1 (by decide) (fun h1 => ?_) (fun h1 => absurd h1 (by decide))
    refine xe_aload_n dX8_goOn_14 rfl ?_
    refine xe_getr dX8_goOn_15 flX8_21 (by decide) rfl rfl ?_
    refine xe_iload_n dX8_goOn_18 rfl ?_
    refine xe_iconst (v := 1) dX8_goOn_19 rfl ?_
    refine xe_icmp_ne (tgt := 30) dX8_goOn_20 (by decide) (fun h20 => absurd rfl h20) (fun h20 => ?_)
    refine xe_iload_n dX8_goOn_23 rfl ?_
    refine xe_bipush (v := 10) dX8_goOn_24 rfl ?_
    refine xe_idiv dX8_goOn_26 (by decide) ?_
    refine xe_goto (tgt := 31) dX8_goOn_27 (by decide) ?_
    refine xe_top (x2 := nI pt) (by rw [show (10 : Int32) = nI 10 from rfl, pk_div (by omega) (by omega) (by omega)]; congr 1; omega) ?_
    refine xe_callv (k2 := kX5_potAt) (vs := [_]) dX8_goOn_31 okX5_potAt mlX8_90 imX5_potAt slX5_potAt (Or.inl ⟨5, _, _, by decide, rfl, rfl, rfl⟩) rfl rfl (Nat.le_of_ble_eq_true rfl) (Nat.le_of_ble_eq_true rfl) (sX5_potAt (by omega) n _ isS53 hT.1 h6 ⟨fun i hi ei => ?_, fun hx => ?_⟩)
    · skip
      obtain rfl : pt = i := nEq (by omega) (by omega) ei
      have hp := isS53.p (i := pt) (by omega)
      have hrp := hT.2 pt hi
      refine xe_astore (lv2 := [_, _, _, _, _]) dX8_goOn_34 (by decide) rfl ?_
      refine xe_aload dX8_goOn_36 rfl ?_
      refine xe_ifnonnull (tgt := 42) dX8_goOn_38 (by decide) ?_
      refine xe_iload_n dX8_goOn_42 rfl ?_
      refine xe_iconst (v := 1) dX8_goOn_43 rfl ?_
      refine xe_icmp_ne (tgt := 55) dX8_goOn_44 (by decide) (fun h44 => absurd rfl h44) (fun h44 => ?_)
      refine xe_aload dX8_goOn_47 rfl ?_
      refine xe_callv (k2 := kX3_open) (vs := []) dX8_goOn_49 okX3_open mlX8_120 imX3_open slX3_open (Or.inl ⟨3, _, _, hp.1.1, hp.1.2, rfl, rfl⟩) rfl rfl (Nat.le_of_ble_eq_true rfl) (Nat.le_of_ble_eq_true rfl) (sX3_open (by omega) pt _ hp hrp (fun τ hu hr2 => ?_))
      refine xe_goto (tgt := 66) dX8_goOn_52 (by decide) ?_
      refine xe_vret dX8_goOn_66 rfl ?_
      refine h τ (UnT.p (by omega) hu) (hT.one hi hu hr2 (fun k hk => ?_) (fun c hc => ?_))
      · unfold opP opG; simp only [upd, pV, Nat.add_left_cancel_iff]
      · unfold opG; rw [pk_un (by omega), pk_un (by omega)]
    · skip
      exact absurd (show pOk (nI n) (nI pt) from ⟨nI_pos' (by omega), nI_lt hpt (by omega)⟩) hx
  · skip
    rw [e0, if_neg (by decide), if_neg (by decide), if_pos rfl, ep, cN_nI (by omega)] at h
    rw [e0, ep]
    refine xe_iload_n dX8_goOn_0 rfl ?_
    refine xe_if_ne (tgt := 14) dX8_goOn_1 (by decide) (fun h1 => ?_) (fun h1 => absurd h1 (by decide))
    refine xe_aload_n dX8_goOn_14 rfl ?_
    refine xe_getr dX8_goOn_15 flX8_21 (by decide) rfl rfl ?_
    refine xe_iload_n dX8_goOn_18 rfl ?_
    refine xe_iconst (v := 1) dX8_goOn_19 rfl ?_
    refine xe_icmp_ne (tgt := 30) dX8_goOn_20 (by decide) (fun h20 => ?_) (fun h20 => absurd h20 (by decide))
    refine xe_iload_n dX8_goOn_30 rfl ?_
    refine xe_callv (k2 := kX5_potAt) (vs := [_]) dX8_goOn_31 okX5_potAt mlX8_90 imX5_potAt slX5_potAt (Or.inl ⟨5, _, _, by decide, rfl, rfl, rfl⟩) rfl rfl (Nat.le_of_ble_eq_true rfl) (Nat.le_of_ble_eq_true rfl) (sX5_potAt (by omega) n _ isS53 hT.1 h6 ⟨fun i hi ei => ?_, fun hx => ?_⟩)
    · skip
      obtain rfl : pt = i := nEq (by omega) (by omega) ei
      have hp := isS53.p (i := pt) (by omega)
      have hrp := hT.2 pt hi
      refine xe_astore (lv2 := [_, _, _, _, _]) dX8_goOn_34 (by decide) rfl ?_
      refine xe_aload dX8_goOn_36 rfl ?_
      refine xe_ifnonnull (tgt := 42) dX8_goOn_38 (by decide) ?_
      refine xe_iload_n dX8_goOn_42 rfl ?_
      refine xe_iconst (v := 1) dX8_goOn_43 rfl ?_
      refine xe_icmp_ne (tgt := 55) dX8_goOn_44 (by decide) (fun h44 => ?_) (fun h44 => absurd h44 (by decide))
      refine xe_iload_n dX8_goOn_55 rfl ?_
      refine xe_iconst (v := 2) dX8_goOn_56 rfl ?_
      refine xe_icmp_ne (tgt := 66) dX8_goOn_57 (by decide) (fun h57 => absurd rfl h57) (fun h57 => ?_)
      refine xe_aload dX8_goOn_60 rfl ?_
      refine xe_iconst (v := 0) dX8_goOn_62 rfl ?_
      refine xe_putf dX8_goOn_63 flX8_117 hp.1.1 hp.1.2 rfl rfl rfl ?_
      refine xe_vret dX8_goOn_66 rfl ?_
      have hu : Un (pC (53 + 2 + 2 * pt)) σ (xsF σ (53 + 2 + 2 * pt) 3 0) := Un.F (Or.inl rfl)
      refine h _ (UnT.p (by omega) hu) (hT.one hi hu (hrp.set (k := 2) (by omega)) (fun k hk => ?_) (fun c hc => pk_un (by omega)))
      by_cases z : k = 2
      · subst z; rw [pk_us, pk_us]
      · rw [pk_un z, pk_un (by omega)]
    · skip
      exact absurd (show pOk (nI n) (nI pt) from ⟨nI_pos' (by omega), nI_lt hpt (by omega)⟩) hx
  · skip
    rw [e0, if_neg (by decide), if_neg (by decide), if_neg (by decide)] at h
    rw [e0]
    have hT3 := h σ UnT.rf (hT.cg (fun k hk => (pk_un (by omega)).symm))
    refine xe_iload_n dX8_goOn_0 rfl ?_
    refine xe_if_ne (tgt := 14) dX8_goOn_1 (by decide) (fun h1 => ?_) (fun h1 => absurd h1 (by decide))
    refine xe_aload_n dX8_goOn_14 rfl ?_
    refine xe_getr dX8_goOn_15 flX8_21 (by decide) rfl rfl ?_
    refine xe_iload_n dX8_goOn_18 rfl ?_
    refine xe_iconst (v := 1) dX8_goOn_19 rfl ?_
    refine xe_icmp_ne (tgt := 30) dX8_goOn_20 (by decide) (fun h20 => ?_) (fun h20 => absurd h20 (by decide))
    refine xe_iload_n dX8_goOn_30 rfl ?_
    refine xe_callv (k2 := kX5_potAt) (vs := [_]) dX8_goOn_31 okX5_potAt mlX8_90 imX5_potAt slX5_potAt (Or.inl ⟨5, _, _, by decide, rfl, rfl, rfl⟩) rfl rfl (Nat.le_of_ble_eq_true rfl) (Nat.le_of_ble_eq_true rfl) (sX5_potAt (by omega) n _ isS53 hT.1 h6 ⟨fun i hi ei => ?_, fun hx => ?_⟩)
    · skip
      refine xe_astore (lv2 := [_, _, _, _, _]) dX8_goOn_34 (by decide) rfl ?_
      refine xe_aload dX8_goOn_36 rfl ?_
      refine xe_ifnonnull (tgt := 42) dX8_goOn_38 (by decide) ?_
      refine xe_iload_n dX8_goOn_42 rfl ?_
      refine xe_iconst (v := 1) dX8_goOn_43 rfl ?_
      refine xe_icmp_ne (tgt := 55) dX8_goOn_44 (by decide) (fun h44 => ?_) (fun h44 => absurd h44 (by decide))
      refine xe_iload_n dX8_goOn_55 rfl ?_
      refine xe_iconst (v := 2) dX8_goOn_56 rfl ?_
      refine xe_icmp_ne (tgt := 66) dX8_goOn_57 (by decide) (fun h57 => ?_) (fun h57 => absurd h57 (by decide))
      refine xe_vret dX8_goOn_66 rfl ?_
      exact hT3
    · skip
      refine xe_astoreN (lv2 := [_, _, _, _, _]) dX8_goOn_34 (by decide) rfl ?_
      refine xe_aloadN dX8_goOn_36 rfl ?_
      refine xe_ifnonnullN dX8_goOn_38 ?_
      refine xe_vret dX8_goOn_41 rfl ?_
      exact hT3

theorem lX8_ends {d : Nat} {σ : xSt} {Post : Option Value → xSt → Prop} (hd : 3 ≤ d) {n m p k : Nat} (G : Nat → Int32) (S : xSem) (w : Int32) (cw : rng w 0 1) (hJ : RepJ σ 1 G n m p k) (hc : CO G n m p k) (hs : SOk n G) (hP : PLo n G p) (h : ∀ τ, JK σ τ → Post (some (.int (endsV S n G p w))) τ) : ∀ (q j : Nat) (τ : xSt), p + 1 ≤ j + q → j ≤ p → JK σ τ → RepT τ 53 n (plA (kpS S) n G j) → xEv kX8_ends (d + 1) 32 [some (.ref 0), some (.int w), some (.int (kpS S)), some (.int (nI j))] [] τ Post := by
  intro q
  induction q with
  | zero => intro j τ hq hj hk hT; omega
  | succ q ih =>
    intro j τ hq hj hk hT
    have hn6 : n ≤ 6 := hc.2.1
    have hp10 : p ≤ 10 := hc.2.2.2.2.2.1
    have hJ2 := hJ.jk hn6 hk
    refine xe_iload_n dX8_ends_32 rfl ?_
    refine xe_aload_n dX8_ends_33 rfl ?_
    refine xe_getr dX8_ends_34 flX8_12 (by decide) rfl rfl ?_
    refine xe_getr dX8_ends_37 flX8_307 (by decide) rfl rfl ?_
    refine xe_getf dX8_ends_40 flX8_282 (by decide) rfl rfl ?_
    refine xe_top (x2 := nI p) hJ2.L.1 ?_
    refine xe_icmp_ge (tgt := 81) dX8_ends_43 (by decide) (fun h43 => ?_) (fun h43 => ?_)
    · obtain rfl : j = p := by have := nLe (by omega) (by omega) h43; omega
      refine xe_iload_n dX8_ends_81 rfl ?_
      refine xe_if_ne (tgt := 95) dX8_ends_82 (by decide) (fun h82 => ?_) (fun h82 => ?_)
      · refine xe_aload_n dX8_ends_95 rfl ?_
        refine xe_getr dX8_ends_96 flX8_21 (by decide) rfl rfl ?_
        refine xe_callv (k2 := kX5_openedOfAll) (vs := []) dX8_ends_99 okX5_openedOfAll mlX8_316 imX5_openedOfAll slX5_openedOfAll (Or.inl ⟨5, _, _, by decide, rfl, rfl, rfl⟩) rfl rfl (Nat.le_of_ble_eq_true rfl) (Nat.le_of_ble_eq_true rfl) (sX5_openedOfAll (by omega) _ isS53 hn6 hT ?_)
        refine xe_iret dX8_ends_102 rfl rfl ?_
        have e := h τ hk
        rw [endsV, if_pos cw] at e
        first | (rw [if_pos h82] at e; exact e) | (rw [if_neg h82] at e; exact e)
      · refine xe_aload_n dX8_ends_85 rfl ?_
        refine xe_getr dX8_ends_86 flX8_21 (by decide) rfl rfl ?_
        refine xe_callv (k2 := kX5_sugarOfAll) (vs := []) dX8_ends_89 okX5_sugarOfAll mlX8_228 imX5_sugarOfAll slX5_sugarOfAll (Or.inl ⟨5, _, _, by decide, rfl, rfl, rfl⟩) rfl rfl (Nat.le_of_ble_eq_true rfl) (Nat.le_of_ble_eq_true rfl) (sX5_sugarOfAll (by omega) _ isS53 hn6 hT ?_)
        refine xe_goto (tgt := 102) dX8_ends_92 (by decide) ?_
        refine xe_iret dX8_ends_102 rfl rfl ?_
        have e := h τ hk
        rw [endsV, if_pos cw] at e
        first | (rw [if_pos h82] at e; exact e) | (rw [if_neg h82] at e; exact e)
    · have hlt := nNle (by omega) (by omega) h43
      obtain ⟨r1, r2, r3⟩ := hJ2.L.2 j hlt
      refine xe_aload_n dX8_ends_46 rfl ?_
      refine xe_aload_n dX8_ends_47 rfl ?_
      refine xe_getr dX8_ends_48 flX8_12 (by decide) rfl rfl ?_
      refine xe_getr dX8_ends_51 flX8_307 (by decide) rfl rfl ?_
      refine xe_getr dX8_ends_54 flX8_284 (by decide) rfl rfl ?_
      refine xe_iload_n dX8_ends_57 rfl ?_
      refine xn_iaload (j := j) dX8_ends_58 (by decide) rfl (by first | with_reducible rfl | (simp only [xl, pk_mul, nI_add, nI_1]; done) | (simp only [xl, pk_mul, nI_add, nI_1]; rfl)) (by omega) (by first | decide | omega) ?_
      refine xe_aload_n dX8_ends_59 rfl ?_
      refine xe_getr dX8_ends_60 flX8_12 (by decide) rfl rfl ?_
      refine xe_getr dX8_ends_63 flX8_307 (by decide) rfl rfl ?_
      refine xe_getr dX8_ends_66 flX8_287 (by decide) rfl rfl ?_
      refine xe_iload_n dX8_ends_69 rfl ?_
      refine xn_iaload (j := j) dX8_ends_70 (by decide) rfl (by first | with_reducible rfl | (simp only [xl, pk_mul, nI_add, nI_1]; done) | (simp only [xl, pk_mul, nI_add, nI_1]; rfl)) (by omega) (by first | decide | omega) ?_
      refine xe_iload_n dX8_ends_71 rfl ?_
      rw [r1, r2]
      refine xe_callv (k2 := kX8_goOn) (vs := [_, _, _]) dX8_ends_72 okX8_goOn mlX8_313 imX8_goOn slX8_goOn (Or.inl ⟨8, _, _, by decide, rfl, rfl, rfl⟩) rfl rfl (Nat.le_of_ble_eq_true rfl) (Nat.le_of_ble_eq_true rfl) (sX8_goOn (by omega) (kpS S) G _ hT hn6 (plA_sok hn6 hP hs j (by omega)) hP hlt (fun υ hu hT2 => ?_))
      refine xn_inc (j := j) (lv2 := [_, _, _, _]) dX8_ends_75 (by decide) rfl rfl ?_
      refine xe_goto (tgt := 32) dX8_ends_78 (by decide) ?_
      exact ih (j + 1) υ (by omega) (by omega) (hk.tr (JK.t hu)) hT2

theorem sX8_ends {d : Nat} (hd : 4 ≤ d) {σ : xSt} {Post : Option Value → xSt → Prop} {n m p k : Nat} (G : Nat → Int32) (S : xSem) (w : Int32) (hJ : RepJ σ 1 G n m p k) (hc : CO G n m p k) (hS : JSem σ S) (hs : SOk n G) (hP : PLo n G p) (h : ∀ τ, JK σ τ → Post (some (.int (endsV S n G p w))) τ) : xM kX8_ends d [.ref 0, .int w] σ Post := by
  obtain ⟨d, rfl⟩ : ∃ e, d = e + 1 := ⟨d - 1, by omega⟩
  refine xM_start (lv := [some (.ref 0), some (.int w), none, none]) rfl ?_
  obtain ⟨cc, l, hH, hkp⟩ := hS.keep
  have hn6 : n ≤ 6 := hc.2.1
  refine xe_iload_n dX8_ends_0 rfl ?_
  refine xe_if_eq (tgt := 11) dX8_ends_1 (by decide) (fun h1 => ?_) (fun h1 => ?_)
  · have cw : rng w 0 1 := by first | (rw [h1]; decide) | (rw [h6]; decide)
    refine xe_aload_n dX8_ends_11 rfl ?_
    refine xe_getr dX8_ends_12 flX8_21 (by decide) rfl rfl ?_
    refine xe_aload_n dX8_ends_15 rfl ?_
    refine xe_getr dX8_ends_16 flX8_12 (by decide) rfl rfl ?_
    refine xe_callv (k2 := kX5_copyPotsFrom) (vs := [_]) dX8_ends_19 okX5_copyPotsFrom mlX8_224 imX5_copyPotsFrom slX5_copyPotsFrom (Or.inl ⟨5, _, _, by decide, rfl, rfl, rfl⟩) rfl rfl (Nat.le_of_ble_eq_true rfl) (Nat.le_of_ble_eq_true rfl) (sX5_copyPotsFrom (by omega) isS53 isS1 (by omega) hJ.P.1 hn6 (fun τ hu hcp => ?_))
    refine xe_aload_n dX8_ends_22 rfl ?_
    refine xe_callv (k2 := kX8_holding) (vs := []) dX8_ends_23 okX8_holding mlX8_146 imX8_holding slX8_holding (Or.inl ⟨8, _, _, by decide, rfl, rfl, rfl⟩) rfl rfl (Nat.le_of_ble_eq_true rfl) (Nat.le_of_ble_eq_true rfl) (sX8_holding (by omega) (hH.un (JK.t hu) (by unfold JSc; omega) (by unfold JSc; omega) (fun c _ _ => by unfold JSc; omega)) ?_)
    refine xe_getf dX8_ends_26 flX8_149 hH.1.1.1 hH.1.1.2 rfl ?_
    refine xe_top (x2 := kpS S) ?_ ?_
    · rw [← hkp]; exact (JK.t hu : JK σ τ).f (by have := hH.2.2; unfold JSc; rcases this with ⟨a, b, c1, c2, c3, c4, c5⟩ | ⟨c1, c2⟩ <;> omega) 2
    refine xe_istore_n (lv2 := [_, _, _, _]) dX8_ends_29 (by decide) rfl ?_
    refine xe_iconst (v := 0) dX8_ends_30 rfl ?_
    refine xe_istore_n (lv2 := [_, _, _, _]) dX8_ends_31 (by decide) rfl ?_
    exact lX8_ends (d := d) (by omega) G S w cw hJ hc hs hP h (p + 1) 0 τ (by omega) (by omega) (JK.t hu) (hcp G hJ.P)
  · refine xe_iload_n dX8_ends_4 rfl ?_
    refine xe_iconst (v := 1) dX8_ends_5 rfl ?_
    refine xe_icmp_eq (tgt := 11) dX8_ends_6 (by decide) (fun h6 => ?_) (fun h6 => ?_)
    · have cw : rng w 0 1 := by first | (rw [h1]; decide) | (rw [h6]; decide)
      refine xe_aload_n dX8_ends_11 rfl ?_
      refine xe_getr dX8_ends_12 flX8_21 (by decide) rfl rfl ?_
      refine xe_aload_n dX8_ends_15 rfl ?_
      refine xe_getr dX8_ends_16 flX8_12 (by decide) rfl rfl ?_
      refine xe_callv (k2 := kX5_copyPotsFrom) (vs := [_]) dX8_ends_19 okX5_copyPotsFrom mlX8_224 imX5_copyPotsFrom slX5_copyPotsFrom (Or.inl ⟨5, _, _, by decide, rfl, rfl, rfl⟩) rfl rfl (Nat.le_of_ble_eq_true rfl) (Nat.le_of_ble_eq_true rfl) (sX5_copyPotsFrom (by omega) isS53 isS1 (by omega) hJ.P.1 hn6 (fun τ hu hcp => ?_))
      refine xe_aload_n dX8_ends_22 rfl ?_
      refine xe_callv (k2 := kX8_holding) (vs := []) dX8_ends_23 okX8_holding mlX8_146 imX8_holding slX8_holding (Or.inl ⟨8, _, _, by decide, rfl, rfl, rfl⟩) rfl rfl (Nat.le_of_ble_eq_true rfl) (Nat.le_of_ble_eq_true rfl) (sX8_holding (by omega) (hH.un (JK.t hu) (by unfold JSc; omega) (by unfold JSc; omega) (fun c _ _ => by unfold JSc; omega)) ?_)
      refine xe_getf dX8_ends_26 flX8_149 hH.1.1.1 hH.1.1.2 rfl ?_
      refine xe_top (x2 := kpS S) ?_ ?_
      · rw [← hkp]; exact (JK.t hu : JK σ τ).f (by have := hH.2.2; unfold JSc; rcases this with ⟨a, b, c1, c2, c3, c4, c5⟩ | ⟨c1, c2⟩ <;> omega) 2
      refine xe_istore_n (lv2 := [_, _, _, _]) dX8_ends_29 (by decide) rfl ?_
      refine xe_iconst (v := 0) dX8_ends_30 rfl ?_
      refine xe_istore_n (lv2 := [_, _, _, _]) dX8_ends_31 (by decide) rfl ?_
      exact lX8_ends (d := d) (by omega) G S w cw hJ hc hs hP h (p + 1) 0 τ (by omega) (by omega) (JK.t hu) (hcp G hJ.P)
    · refine xe_iconst (v := -1) dX8_ends_9 rfl ?_
      refine xe_iret dX8_ends_10 rfl rfl ?_
      have e := h σ Un.rf
      rw [endsV, if_neg (fun z => (rng01 z).elim h1 h6)] at e
      exact e
