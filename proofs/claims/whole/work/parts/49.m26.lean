theorem isS1 : isS 1 := Or.inl rfl
theorem isS27 : isS 27 := Or.inr (Or.inl rfl)
theorem isS53 : isS 53 := Or.inr (Or.inr rfl)
theorem lt_succ {x : Int32} {n : Nat} (hn : n + 1 < 2 ^ 31) : x < nI (n + 1) ↔ x ≤ nI n := by
  rw [Int32.lt_iff_toInt_lt, Int32.le_iff_toInt_le, nI_toInt hn, nI_toInt (by omega)]; omega
/-- the counts in the row -/
def CO (G : Nat → Int32) (n m p k : Nat) : Prop := G 54 = nI n ∧ n ≤ 6 ∧ G 58 = nI m ∧ m ≤ 6 ∧ G 77 = nI p ∧ p ≤ 10 ∧ G 98 = nI k ∧ k ≤ 8
theorem CO.cg {G G2 : Nat → Int32} {n m p k : Nat} (h : CO G n m p k) (h1 : G2 54 = G 54) (h2 : G2 58 = G 58) (h3 : G2 77 = G 77) (h4 : G2 98 = G 98) : CO G2 n m p k := by
  unfold CO at *; rw [h1, h2, h3, h4]; exact h
theorem RepP.set {σ : xSt} {c i k : Nat} {a : Nat → Int32} {v : Int32} (h : RepP σ c i a) (hk : k < 5) : RepP (xsF σ c (k + 1) v) c i (upd a k v) := by
  refine ⟨?_, fun j hj => ?_, fun j hj => ?_⟩
  · rw [xsF_ne (Or.inr (by omega))]; exact h.1
  · by_cases z : j = k
    · subst z; rw [xsF_get, pk_us]
    · rw [xsF_ne (Or.inr (by omega)), pk_un z]; exact h.2.1 j hj
  · rw [xsF_A, pk_un (by omega)]; exact h.2.2 j hj
theorem RepP.setA {σ : xSt} {c i k : Nat} {a : Nat → Int32} {v : Int32} (h : RepP σ c i a) : RepP (xsA σ (c + 1) (upd (σ.2.1 (c + 1)) k v)) c i (upd a (5 + k) v) := by
  refine ⟨h.1, fun j hj => ?_, fun j hj => ?_⟩
  · rw [xsA_1, pk_un (by omega)]; exact h.2.1 j hj
  · rw [xsA_get]
    by_cases z : j = k
    · subst z; rw [pk_us, pk_us]
    · rw [pk_un z, pk_un (by omega)]; exact h.2.2 j hj
theorem RepT.one {σ τ : xSt} {b n i : Nat} {G G2 a : Nat → Int32} (h : RepT σ b n G) (hi : i < n) (hu : Un (pC (b + 2 + 2 * i)) σ τ) (hr : RepP τ (b + 2 + 2 * i) i a) (hin : ∀ k, k < 9 → a k = G2 (9 * i + k)) (hout : ∀ c, ¬ (9 * i ≤ c ∧ c < 9 * i + 9) → G2 c = G c) : RepT τ b n G2 := by
  refine ⟨(hu.f (by unfold pC; omega) 4).trans h.1, fun j hj => ?_⟩
  by_cases z : j = i
  · subst z; exact hr.cg hin
  · exact ((h.2 j hj).un hu (by unfold pC; omega) (by unfold pC; omega)).cg (fun k hk => (hout _ (by omega)).symm)
theorem RepJ.one {σ τ : xSt} {b n m p k i : Nat} {G G2 a : Nat → Int32} (h : RepJ σ b G n m p k) (h6 : n ≤ 6) (hi : i < n) (hu : Un (pC (b + 2 + 2 * i)) σ τ) (hr : RepP τ (b + 2 + 2 * i) i a) (hin : ∀ k, k < 9 → a k = G2 (9 * i + k)) (hout : ∀ c, ¬ (9 * i ≤ c ∧ c < 9 * i + 9) → G2 c = G c) : RepJ τ b G2 n m p k :=
  h.ut (UnT.p (by omega) hu) (h.P.one hi hu hr hin hout) (fun c hc => hout c (by omega))
theorem RepJ.up {σ τ : xSt} {b n m p k i j : Nat} {G : Nat → Int32} {v : Int32} (h : RepJ σ b G n m p k) (h6 : n ≤ 6) (hi : i < n) (hj : j < 9) (hu : Un (pC (b + 2 + 2 * i)) σ τ) (hr : RepP τ (b + 2 + 2 * i) i (upd (pV G i) j v)) : RepJ τ b (upd G (9 * i + j) v) n m p k := by
  refine h.one h6 hi hu hr (fun k hk => ?_) (fun c hc => pk_un (k := 9 * i + j) (by omega))
  by_cases z : k = j
  · subst z; rw [pk_us, pk_us]
  · rw [pk_un z, pk_un (by omega)]
theorem sC.p {i c : Nat} (hi : i < 6) (h : pC (1 + 2 + 2 * i) c) : sC 1 c := by unfold pC at h; unfold sC; omega
theorem sC.t {c : Nat} (h : tC 1 c) : sC 1 c := by unfold tC at h; unfold sC; omega
theorem JSem.keep {σ : xSt} {S : xSem} (h : JSem σ S) : ∃ cc l, JH σ cc l ∧ σ.1 cc 2 = kpS S := let ⟨cc, l, a, b, _⟩ := h; ⟨cc, l, a, b⟩

theorem sX8_pot {d : Nat} (hd : 3 ≤ d) {σ : xSt} {Post : Option Value → xSt → Prop} {n m p k : Nat} (G : Nat → Int32) (kd v sg : Int32) (hJ : RepJ σ 1 G n m p k) (hc : CO G n m p k) (h : ∀ τ n2 m2 p2 k2, Un (sC 1) σ τ → RepJ τ 1 (potG G kd v sg) n2 m2 p2 k2 → CO (potG G kd v sg) n2 m2 p2 k2 → Post (some (.int (potV G kd v sg))) τ) : xM kX8_pot d [.ref 0, .int kd, .int v, .int sg] σ Post := by
  obtain ⟨d, rfl⟩ : ∃ e, d = e + 1 := ⟨d - 1, by omega⟩
  refine xM_start (lv := [some (.ref 0), some (.int kd), some (.int v), some (.int sg)]) rfl ?_
  have hn6 : n ≤ 6 := hc.2.1
  refine xe_iload_n dX8_pot_0 rfl ?_
  refine xe_if_lt (tgt := 10) dX8_pot_1 (by decide) (fun h1 => ?_) (fun h1 => ?_)
  · refine xe_iconst (v := -1) dX8_pot_10 rfl ?_
    refine xe_iret dX8_pot_11 rfl rfl ?_
    have c0 : ¬ rng kd 0 6 := by first | exact fun z => absurd z.1 (Int32.not_le.mpr h1) | exact fun z => h7 ((lt_succ (n := 6) (by omega)).mpr z.2)
    have e := h σ n m p k Un.rf
    rw [potV, if_neg c0, potG, if_neg (fun z => c0 z.1)] at e
    exact e hJ hc
  · refine xe_iload_n dX8_pot_4 rfl ?_
    refine xe_bipush (v := 7) dX8_pot_5 rfl ?_
    refine xe_icmp_lt (tgt := 12) dX8_pot_7 (by decide) (fun h7 => ?_) (fun h7 => ?_)
    · have c0 : rng kd 0 6 := ⟨Int32.not_lt.mp h1, (lt_succ (n := 6) (by omega)).mp h7⟩
      refine xe_iload_n dX8_pot_12 rfl ?_
      refine xe_calls (k2 := kX8_isDigit) (vs := [_]) dX8_pot_13 okX8_isDigit mlX8_82 stX8_isDigit rfl rfl (Nat.le_of_ble_eq_true rfl) (Nat.le_of_ble_eq_true rfl) (sX8_isDigit (by omega) v ?_)
      refine xe_if_eq (tgt := 26) dX8_pot_16 (by decide) (fun h16 => ?_) (fun h16 => ?_)
      · refine xe_bipush (v := -2) dX8_pot_26 rfl ?_
        refine xe_iret dX8_pot_28 rfl rfl ?_
        have c1 : ¬ (rng v 0 9 ∧ rng sg 0 9) := by first | exact fun z => (xb_eq0 rfl).mp h16 z.1 | exact fun z => (xb_eq0 rfl).mp h23 z.2
        have e := h σ n m p k Un.rf
        rw [potV, if_pos c0, if_neg c1, potG, if_neg (fun z => c1 z.2.1)] at e
        exact e hJ hc
      · refine xe_iload_n dX8_pot_19 rfl ?_
        refine xe_calls (k2 := kX8_isDigit) (vs := [_]) dX8_pot_20 okX8_isDigit mlX8_82 stX8_isDigit rfl rfl (Nat.le_of_ble_eq_true rfl) (Nat.le_of_ble_eq_true rfl) (sX8_isDigit (by omega) sg ?_)
        refine xe_if_ne (tgt := 29) dX8_pot_23 (by decide) (fun h23 => ?_) (fun h23 => ?_)
        · have c1 : rng v 0 9 ∧ rng sg 0 9 := ⟨(xb_ne0 rfl).mp h16, (xb_ne0 rfl).mp h23⟩
          refine xe_aload_n dX8_pot_29 rfl ?_
          refine xe_getr dX8_pot_30 flX8_12 (by decide) rfl rfl ?_
          refine xe_iload_n dX8_pot_33 rfl ?_
          refine xe_iload_n dX8_pot_34 rfl ?_
          refine xe_iload_n dX8_pot_35 rfl ?_
          refine xe_callv (k2 := kX5_addPot) (vs := [_, _, _]) dX8_pot_36 okX5_addPot mlX8_86 imX5_addPot slX5_addPot (Or.inl ⟨5, _, _, by decide, rfl, rfl, rfl⟩) rfl rfl (Nat.le_of_ble_eq_true rfl) (Nat.le_of_ble_eq_true rfl) (sX5_addPot (by omega) kd v sg G isS1 hJ.P hn6 ⟨fun e6 => ?_, fun hlt τ hu hT => ?_⟩)
          · skip
            refine xe_iret dX8_pot_39 rfl rfl ?_
            have c6 : G 54 = 6 := by rw [hc.1, e6]; rfl
            have e := h σ n m p k Un.rf
            rw [potV, if_pos c0, if_pos c1, if_pos c6, potG, if_neg (fun z => z.2.2 c6)] at e
            exact e hJ hc
          · skip
            refine xe_iret dX8_pot_39 rfl rfl ?_
            have c6 : ¬ G 54 = 6 := fun z => by have := nEq (b := 6) (by omega) (by omega) (hc.1.symm.trans z); omega
            have e := h τ (n + 1) m p k (hu.1.mono (fun c => sC.t))
            rw [potV, if_pos c0, if_pos c1, if_neg c6, potG, if_pos ⟨c0, c1, c6⟩, hc.1, cN_nI (by omega)] at e
            refine e (hJ.ut hu hT (fun c h => potG1_hi hlt h)) ⟨pk_us, by omega, ?_, hc.2.2.2.1, ?_, hc.2.2.2.2.2.1, ?_, hc.2.2.2.2.2.2.2⟩
            · rw [potG1_hi hlt (by omega)]; exact hc.2.2.1
            · rw [potG1_hi hlt (by omega)]; exact hc.2.2.2.2.1
            · rw [potG1_hi hlt (by omega)]; exact hc.2.2.2.2.2.2.1
        · refine xe_bipush (v := -2) dX8_pot_26 rfl ?_
          refine xe_iret dX8_pot_28 rfl rfl ?_
          have c1 : ¬ (rng v 0 9 ∧ rng sg 0 9) := by first | exact fun z => (xb_eq0 rfl).mp h16 z.1 | exact fun z => (xb_eq0 rfl).mp h23 z.2
          have e := h σ n m p k Un.rf
          rw [potV, if_pos c0, if_neg c1, potG, if_neg (fun z => c1 z.2.1)] at e
          exact e hJ hc
    · refine xe_iconst (v := -1) dX8_pot_10 rfl ?_
      refine xe_iret dX8_pot_11 rfl rfl ?_
      have c0 : ¬ rng kd 0 6 := by first | exact fun z => absurd z.1 (Int32.not_le.mpr h1) | exact fun z => h7 ((lt_succ (n := 6) (by omega)).mpr z.2)
      have e := h σ n m p k Un.rf
      rw [potV, if_neg c0, potG, if_neg (fun z => c0 z.1)] at e
      exact e hJ hc

theorem sX8_world {d : Nat} (hd : 0 ≤ d) {σ : xSt} {Post : Option Value → xSt → Prop} {n m p k : Nat} (G : Nat → Int32) (f : Int32) (hJ : RepJ σ 1 G n m p k) (hc : CO G n m p k) (h : ∀ τ n2 m2 p2 k2, Un (sC 1) σ τ → RepJ τ 1 (worldG G f) n2 m2 p2 k2 → CO (worldG G f) n2 m2 p2 k2 → Post (some (.int (worldV G f))) τ) : xM kX8_world d [.ref 0, .int f] σ Post := by
  refine xM_start (lv := [some (.ref 0), some (.int f), none]) rfl ?_
  refine xe_iload_n dX8_world_0 rfl ?_
  refine xe_if_lt (tgt := 11) dX8_world_1 (by decide) (fun h1 => ?_) (fun h1 => ?_)
  · refine xe_bipush (v := -2) dX8_world_11 rfl ?_
    refine xe_iret dX8_world_13 rfl rfl ?_
    have c0 : ¬ rng f 0 255 := by first | exact fun z => absurd z.1 (Int32.not_le.mpr h1) | exact fun z => h8 z.2
    have e := h σ n m p k Un.rf
    rw [worldV, if_neg c0, worldG, if_neg c0] at e
    exact e hJ hc
  · refine xe_iload_n dX8_world_4 rfl ?_
    refine xe_sipush (v := 255) dX8_world_5 rfl ?_
    refine xe_icmp_le (tgt := 14) dX8_world_8 (by decide) (fun h8 => ?_) (fun h8 => ?_)
    · refine xe_aload_n dX8_world_14 rfl ?_
      refine xe_getr dX8_world_15 flX8_12 (by decide) rfl rfl ?_
      refine xe_getf dX8_world_18 flX8_114 (by decide) rfl rfl ?_
      refine xe_istore_n (lv2 := [_, _, _]) dX8_world_21 (by decide) rfl ?_
      refine xe_aload_n dX8_world_22 rfl ?_
      refine xe_getr dX8_world_23 flX8_12 (by decide) rfl rfl ?_
      refine xe_iload_n dX8_world_26 rfl ?_
      refine xe_putf dX8_world_27 flX8_114 (by decide) rfl rfl rfl rfl ?_
      refine xe_iload_n dX8_world_30 rfl ?_
      refine xe_iret dX8_world_31 rfl rfl ?_
      have c0 : rng f 0 255 := ⟨Int32.not_lt.mp h1, h8⟩
      have e := h (xsF σ 1 0 f) n m p k (Un.F (by unfold sC; omega))
      rw [worldV, if_pos c0, worldG, if_pos c0] at e
      rw [hJ.w]
      have hF : Un (fun c => c = 1) σ (xsF σ 1 0 f) := Un.F rfl
      have h6 : n ≤ 6 := hc.2.1
      refine e ⟨by rw [xsF_get, pk_us], by rw [xsF_ne (by omega), pk_un (by omega)]; exact hJ.t, by rw [xsF_ne (by omega), pk_un (by omega)]; exact hJ.h, ⟨by rw [xsF_ne (by omega)]; exact hJ.P.1, fun i hi => ((hJ.P.2 i hi).un hF (by omega) (by omega)).cg (fun k hk => (pk_un (f := G) (j := 9 * i + k) (k := 55) (by omega)).symm)⟩, ?_, ?_, ?_⟩ (hc.cg (pk_un (by omega)) (pk_un (by omega)) (pk_un (by omega)) (pk_un (by omega)))
      · exact (hJ.H.un hF (fun c hc => by unfold rC at hc; omega)).cg (fun r _ => ⟨(pk_un (f := G) (j := 59 + 3 * r) (k := 55) (by omega)).symm, (pk_un (f := G) (j := 59 + 3 * r + 1) (k := 55) (by omega)).symm, (pk_un (f := G) (j := 59 + 3 * r + 2) (k := 55) (by omega)).symm⟩)
      · exact (hJ.L.un hF (fun c hc => by unfold rC at hc; omega)).cg (fun r _ => ⟨(pk_un (f := G) (j := 78 + 2 * r) (k := 55) (by omega)).symm, (pk_un (f := G) (j := 79 + 2 * r) (k := 55) (by omega)).symm, rfl⟩)
      · exact (hJ.B.un hF (fun c hc => by unfold rC at hc; omega)).cg (fun r _ => ⟨(pk_un (f := G) (j := 99 + 2 * r) (k := 55) (by omega)).symm, (pk_un (f := G) (j := 100 + 2 * r) (k := 55) (by omega)).symm, rfl⟩)
    · refine xe_bipush (v := -2) dX8_world_11 rfl ?_
      refine xe_iret dX8_world_13 rfl rfl ?_
      have c0 : ¬ rng f 0 255 := by first | exact fun z => absurd z.1 (Int32.not_le.mpr h1) | exact fun z => h8 z.2
      have e := h σ n m p k Un.rf
      rw [worldV, if_neg c0, worldG, if_neg c0] at e
      exact e hJ hc

theorem sX8_sugar {d : Nat} (hd : 1 ≤ d) {σ : xSt} {Post : Option Value → xSt → Prop} {n m p k : Nat} (G : Nat → Int32) (pp x : Int32) (hJ : RepJ σ 1 G n m p k) (hc : CO G n m p k) (h : ∀ τ n2 m2 p2 k2, Un (sC 1) σ τ → RepJ τ 1 (sugarG G pp x) n2 m2 p2 k2 → CO (sugarG G pp x) n2 m2 p2 k2 → Post (some (.int (sugarV G pp x))) τ) : xM kX8_sugar d [.ref 0, .int pp, .int x] σ Post := by
  obtain ⟨d, rfl⟩ : ∃ e, d = e + 1 := ⟨d - 1, by omega⟩
  refine xM_start (lv := [some (.ref 0), some (.int pp), some (.int x), none, none]) rfl ?_
  refine xe_aload_n dX8_sugar_0 rfl ?_
  refine xe_getr dX8_sugar_1 flX8_12 (by decide) rfl rfl ?_
  refine xe_iload_n dX8_sugar_4 rfl ?_
  refine xe_callv (k2 := kX5_potAt) (vs := [_]) dX8_sugar_5 okX5_potAt mlX8_90 imX5_potAt slX5_potAt (Or.inl ⟨5, _, _, by decide, rfl, rfl, rfl⟩) rfl rfl (Nat.le_of_ble_eq_true rfl) (Nat.le_of_ble_eq_true rfl) (sX5_potAt (by omega) n pp isS1 hJ.P.1 hc.2.1 ⟨fun i hi ei => ?_, fun hx => ?_⟩)
  · skip
    subst ei
    have hn6 : n ≤ 6 := hc.2.1
    have hp := isS1.p (i := i) (by omega)
    have hr := hJ.P.2 i hi
    have cp : pOk (G 54) (nI i) := by rw [hc.1]; exact ⟨nI_pos' (by omega), nI_lt hi (by omega)⟩
    have ei : cN (nI i) = i := cN_nI (by omega)
    refine xe_astore_n (lv2 := [_, _, _, _, _]) dX8_sugar_8 (by decide) rfl ?_
    refine xe_aload_n dX8_sugar_9 rfl ?_
    refine xe_ifnonnull (tgt := 15) dX8_sugar_10 (by decide) ?_
    refine xe_iload_n dX8_sugar_15 rfl ?_
    refine xe_calls (k2 := kX8_isDigit) (vs := [_]) dX8_sugar_16 okX8_isDigit mlX8_82 stX8_isDigit rfl rfl (Nat.le_of_ble_eq_true rfl) (Nat.le_of_ble_eq_true rfl) (sX8_isDigit (by omega) x ?_)
    refine xe_if_ne (tgt := 25) dX8_sugar_19 (by decide) (fun h19 => ?_) (fun h19 => ?_)
    · refine xe_aload_n dX8_sugar_25 rfl ?_
      refine xe_getf dX8_sugar_26 flX8_117 hp.1.1 hp.1.2 rfl ?_
      refine xe_istore (lv2 := [_, _, _, _, _]) dX8_sugar_29 (by decide) rfl ?_
      refine xe_aload_n dX8_sugar_31 rfl ?_
      refine xe_iload_n dX8_sugar_32 rfl ?_
      refine xe_putf dX8_sugar_33 flX8_117 hp.1.1 hp.1.2 rfl rfl rfl ?_
      refine xe_iload dX8_sugar_36 rfl ?_
      refine xe_iret dX8_sugar_38 rfl rfl ?_
      have c1 : rng x 0 9 := (xb_ne0 rfl).mp h19
      have hu : Un (pC (1 + 2 + 2 * i)) σ (xsF σ (1 + 2 + 2 * i) 3 x) := Un.F (Or.inl rfl)
      have e := h (xsF σ (1 + 2 + 2 * i) 3 x) n m p k (hu.mono (fun c => sC.p (by omega)))
      rw [sugarV, if_pos cp, if_pos c1, sugarG, if_pos ⟨cp, c1⟩, ei] at e
      rw [show σ.1 (1 + 2 + 2 * i) 3 = G (9 * i + 2) from hr.2.1 2 (by omega)]
      exact e (hJ.up hn6 hi (by omega) hu (hr.set (k := 2) (by omega))) (hc.cg (pk_un (by omega)) (pk_un (by omega)) (pk_un (by omega)) (pk_un (by omega)))
    · refine xe_bipush (v := -2) dX8_sugar_22 rfl ?_
      refine xe_iret dX8_sugar_24 rfl rfl ?_
      have c1 : ¬ rng x 0 9 := (xb_eq0 rfl).mp h19
      have e := h σ n m p k Un.rf
      rw [sugarV, if_pos cp, if_neg c1, sugarG, if_neg (fun z => c1 z.2)] at e
      exact e hJ hc
  · skip
    rw [← hc.1] at hx
    refine xe_astore_nN (lv2 := [_, _, _, _, _]) dX8_sugar_8 (by decide) rfl ?_
    refine xe_aload_nN dX8_sugar_9 rfl ?_
    refine xe_ifnonnullN dX8_sugar_10 ?_
    refine xe_iconst (v := -1) dX8_sugar_13 rfl ?_
    refine xe_iret dX8_sugar_14 rfl rfl ?_
    have e := h σ n m p k Un.rf
    rw [sugarV, if_neg hx, sugarG, if_neg (fun z => hx z.1)] at e
    exact e hJ hc

theorem sX8_row {d : Nat} (hd : 1 ≤ d) {σ : xSt} {Post : Option Value → xSt → Prop} {n m p k : Nat} (G : Nat → Int32) (pp t x : Int32) (hJ : RepJ σ 1 G n m p k) (hc : CO G n m p k) (h : ∀ τ n2 m2 p2 k2, Un (sC 1) σ τ → RepJ τ 1 (rowG G pp t x) n2 m2 p2 k2 → CO (rowG G pp t x) n2 m2 p2 k2 → Post (some (.int (rowV G pp t x))) τ) : xM kX8_row d [.ref 0, .int pp, .int t, .int x] σ Post := by
  obtain ⟨d, rfl⟩ : ∃ e, d = e + 1 := ⟨d - 1, by omega⟩
  refine xM_start (lv := [some (.ref 0), some (.int pp), some (.int t), some (.int x), none, none]) rfl ?_
  refine xe_aload_n dX8_row_0 rfl ?_
  refine xe_getr dX8_row_1 flX8_12 (by decide) rfl rfl ?_
  refine xe_iload_n dX8_row_4 rfl ?_
  refine xe_callv (k2 := kX5_potAt) (vs := [_]) dX8_row_5 okX5_potAt mlX8_90 imX5_potAt slX5_potAt (Or.inl ⟨5, _, _, by decide, rfl, rfl, rfl⟩) rfl rfl (Nat.le_of_ble_eq_true rfl) (Nat.le_of_ble_eq_true rfl) (sX5_potAt (by omega) n pp isS1 hJ.P.1 hc.2.1 ⟨fun i hi ei => ?_, fun hx => ?_⟩)
  · skip
    subst ei
    have hn6 : n ≤ 6 := hc.2.1
    have hp := isS1.p (i := i) (by omega)
    have hr := hJ.P.2 i hi
    have cp : pOk (G 54) (nI i) := by rw [hc.1]; exact ⟨nI_pos' (by omega), nI_lt hi (by omega)⟩
    have ei : cN (nI i) = i := cN_nI (by omega)
    refine xe_astore (lv2 := [_, _, _, _, _, _]) dX8_row_8 (by decide) rfl ?_
    refine xe_aload dX8_row_10 rfl ?_
    refine xe_ifnull dX8_row_12 ?_
    refine xe_iload_n dX8_row_15 rfl ?_
    refine xe_if_lt (tgt := 24) dX8_row_16 (by decide) (fun h16 => ?_) (fun h16 => ?_)
    · refine xe_iconst (v := -1) dX8_row_24 rfl ?_
      refine xe_iret dX8_row_25 rfl rfl ?_
      have ct : ¬ rng t 0 3 := by first | exact fun z => absurd z.1 (Int32.not_le.mpr h16) | exact fun z => h21 ((lt_succ (n := 3) (by omega)).mpr z.2)
      have e := h σ n m p k Un.rf
      rw [rowV, if_neg (fun z => ct z.2), rowG, if_neg (fun z => ct z.1.2)] at e
      exact e hJ hc
    · refine xe_iload_n dX8_row_19 rfl ?_
      refine xe_iconst (v := 4) dX8_row_20 rfl ?_
      refine xe_icmp_lt (tgt := 26) dX8_row_21 (by decide) (fun h21 => ?_) (fun h21 => ?_)
      · have ct : rng t 0 3 := ⟨Int32.not_lt.mp h16, (lt_succ (n := 3) (by omega)).mp h21⟩
        obtain ⟨u, hu3, rfl⟩ := rng_nat (m := 3) (by omega) ct
        have eu : cN (nI u) = u := cN_nI (by omega)
        refine xe_iload_n dX8_row_26 rfl ?_
        refine xe_calls (k2 := kX8_isDigit) (vs := [_]) dX8_row_27 okX8_isDigit mlX8_82 stX8_isDigit rfl rfl (Nat.le_of_ble_eq_true rfl) (Nat.le_of_ble_eq_true rfl) (sX8_isDigit (by omega) x ?_)
        refine xe_if_ne (tgt := 36) dX8_row_30 (by decide) (fun h30 => ?_) (fun h30 => ?_)
        · refine xe_aload dX8_row_36 rfl ?_
          refine xe_getf dX8_row_38 flX8_123 hp.1.1 hp.1.2 rfl ?_
          rw [show σ.1 (1 + 2 + 2 * i) 1 = G (9 * i) from hr.2.1 0 (by omega)]
          refine xe_bipush (v := 6) dX8_row_41 rfl ?_
          refine xe_icmp_eq (tgt := 49) dX8_row_43 (by decide) (fun h43 => ?_) (fun h43 => ?_)
          · refine xe_aload dX8_row_49 rfl ?_
            refine xe_getr dX8_row_51 flX8_126 hp.1.1 hp.1.2 rfl ?_
            refine xe_iload_n dX8_row_54 rfl ?_
            refine xn_iaload (j := u) dX8_row_55 hp.2.1 hp.2.2 (by first | with_reducible rfl | (simp only [xl, pk_mul, nI_add, nI_1]; done) | (simp only [xl, pk_mul, nI_add, nI_1]; rfl)) (by omega) (by first | decide | omega) ?_
            refine xe_istore (lv2 := [_, _, _, _, _, _]) dX8_row_56 (by decide) rfl ?_
            refine xe_aload dX8_row_58 rfl ?_
            refine xe_getr dX8_row_60 flX8_126 hp.1.1 hp.1.2 rfl ?_
            refine xe_iload_n dX8_row_63 rfl ?_
            refine xe_iload_n dX8_row_64 rfl ?_
            refine xn_iastore (j := u) dX8_row_65 hp.2.1 hp.2.2 (by first | with_reducible rfl | (simp only [xl, pk_mul, nI_add, nI_1]; done) | (simp only [xl, pk_mul, nI_add, nI_1]; rfl)) (by omega) (by first | decide | omega) ?_
            refine xe_iload dX8_row_66 rfl ?_
            refine xe_iret dX8_row_68 rfl rfl ?_
            have c1 : rng x 0 9 := (xb_ne0 rfl).mp h30
            have hu : Un (pC (1 + 2 + 2 * i)) σ (xsA σ (1 + 2 + 2 * i + 1) (upd (σ.2.1 (1 + 2 + 2 * i + 1)) u x)) := Un.A (Or.inr rfl)
            have e := h _ n m p k (hu.mono (fun c => sC.p (by omega)))
            rw [rowV, if_pos ⟨cp, ct⟩, if_pos c1, ei, if_pos h43, rowG, ei, if_pos ⟨⟨cp, ct⟩, c1, h43⟩, eu] at e
            rw [hr.2.2 u (by omega)]
            exact e (hJ.up hn6 hi (by omega) hu hr.setA) (hc.cg (pk_un (by omega)) (pk_un (by omega)) (pk_un (by omega)) (pk_un (by omega)))
          · refine xe_bipush (v := -3) dX8_row_46 rfl ?_
            refine xe_iret dX8_row_48 rfl rfl ?_
            have c1 : rng x 0 9 := (xb_ne0 rfl).mp h30
            have e := h σ n m p k Un.rf
            rw [rowV, if_pos ⟨cp, ct⟩, if_pos c1, ei, if_neg h43, rowG, ei, if_neg (fun z => h43 z.2.2)] at e
            exact e hJ hc
        · refine xe_bipush (v := -2) dX8_row_33 rfl ?_
          refine xe_iret dX8_row_35 rfl rfl ?_
          have c1 : ¬ rng x 0 9 := (xb_eq0 rfl).mp h30
          have e := h σ n m p k Un.rf
          rw [rowV, if_pos ⟨cp, ct⟩, if_neg c1, rowG, if_neg (fun z => c1 z.2.1)] at e
          exact e hJ hc
      · refine xe_iconst (v := -1) dX8_row_24 rfl ?_
        refine xe_iret dX8_row_25 rfl rfl ?_
        have ct : ¬ rng t 0 3 := by first | exact fun z => absurd z.1 (Int32.not_le.mpr h16) | exact fun z => h21 ((lt_succ (n := 3) (by omega)).mpr z.2)
        have e := h σ n m p k Un.rf
        rw [rowV, if_neg (fun z => ct z.2), rowG, if_neg (fun z => ct z.1.2)] at e
        exact e hJ hc
  · skip
    rw [← hc.1] at hx
    refine xe_astoreN (lv2 := [_, _, _, _, _, _]) dX8_row_8 (by decide) rfl ?_
    refine xe_aloadN dX8_row_10 rfl ?_
    refine xe_ifnullN (tgt := 24) dX8_row_12 (by decide) ?_
    refine xe_iconst (v := -1) dX8_row_24 rfl ?_
    refine xe_iret dX8_row_25 rfl rfl ?_
    have e := h σ n m p k Un.rf
    rw [rowV, if_neg (fun z => hx z.1), rowG, if_neg (fun z => hx z.1.1)] at e
    exact e hJ hc

theorem sX8_spoon {d : Nat} (hd : 4 ≤ d) {σ : xSt} {Post : Option Value → xSt → Prop} {n m p k : Nat} (G : Nat → Int32) (S : xSem) (pp f : Int32) (hJ : RepJ σ 1 G n m p k) (hc : CO G n m p k) (hS : JSem σ S) (h : ∀ τ n2 m2 p2 k2, Un (sC 1) σ τ → RepJ τ 1 (spoonG G pp f) n2 m2 p2 k2 → CO (spoonG G pp f) n2 m2 p2 k2 → Post (some (.int (spoonV S G pp f))) τ) : xM kX8_spoon d [.ref 0, .int pp, .int f] σ Post := by
  obtain ⟨d, rfl⟩ : ∃ e, d = e + 1 := ⟨d - 1, by omega⟩
  refine xM_start (lv := [some (.ref 0), some (.int pp), some (.int f), none, none]) rfl ?_
  refine xe_aload_n dX8_spoon_0 rfl ?_
  refine xe_getr dX8_spoon_1 flX8_12 (by decide) rfl rfl ?_
  refine xe_iload_n dX8_spoon_4 rfl ?_
  refine xe_callv (k2 := kX5_potAt) (vs := [_]) dX8_spoon_5 okX5_potAt mlX8_90 imX5_potAt slX5_potAt (Or.inl ⟨5, _, _, by decide, rfl, rfl, rfl⟩) rfl rfl (Nat.le_of_ble_eq_true rfl) (Nat.le_of_ble_eq_true rfl) (sX5_potAt (by omega) n pp isS1 hJ.P.1 hc.2.1 ⟨fun i hi ei => ?_, fun hx => ?_⟩)
  · skip
    subst ei
    have hn6 : n ≤ 6 := hc.2.1
    have hp := isS1.p (i := i) (by omega)
    have hr := hJ.P.2 i hi
    have cp : pOk (G 54) (nI i) := by rw [hc.1]; exact ⟨nI_pos' (by omega), nI_lt hi (by omega)⟩
    have ei : cN (nI i) = i := cN_nI (by omega)
    refine xe_astore_n (lv2 := [_, _, _, _, _]) dX8_spoon_8 (by decide) rfl ?_
    refine xe_aload_n dX8_spoon_9 rfl ?_
    refine xe_ifnull dX8_spoon_10 ?_
    refine xe_iload_n dX8_spoon_13 rfl ?_
    refine xe_calls (k2 := kX8_isFact) (vs := [_]) dX8_spoon_14 okX8_isFact mlX8_102 stX8_isFact rfl rfl (Nat.le_of_ble_eq_true rfl) (Nat.le_of_ble_eq_true rfl) (sX8_isFact (by omega) f ?_)
    refine xe_if_ne (tgt := 24) dX8_spoon_17 (by decide) (fun h17 => ?_) (fun h17 => ?_)
    · have cf : rng f 0 7 := (xb_ne0 rfl).mp h17
      obtain ⟨g, hg7, rfl⟩ := rng_nat (m := 7) (by omega) cf
      have hg : g < 8 := by omega
      have eg : cN (nI g) = g := cN_nI (by omega)
      refine xe_aload_n dX8_spoon_24 rfl ?_
      refine xe_aload_n dX8_spoon_25 rfl ?_
      refine xe_iload_n dX8_spoon_26 rfl ?_
      refine xe_callv (k2 := kX8_says) (vs := [_, _]) dX8_spoon_27 okX8_says mlX8_108 imX8_says slX8_says (Or.inl ⟨8, _, _, by decide, rfl, rfl, rfl⟩) rfl rfl (Nat.le_of_ble_eq_true rfl) (Nat.le_of_ble_eq_true rfl) (sX8_says (by omega) S _ hS hp hg hr ?_)
      refine xe_istore (lv2 := [_, _, _, _, _]) dX8_spoon_30 (by decide) rfl ?_
      refine xe_aload_n dX8_spoon_32 rfl ?_
      refine xe_callv (k2 := kX3_open) (vs := []) dX8_spoon_33 okX3_open mlX8_120 imX3_open slX3_open (Or.inl ⟨3, _, _, hp.1.1, hp.1.2, rfl, rfl⟩) rfl rfl (Nat.le_of_ble_eq_true rfl) (Nat.le_of_ble_eq_true rfl) (sX3_open (by omega) i _ hp hr (fun τ hu hr2 => ?_))
      refine xe_iload dX8_spoon_36 rfl ?_
      refine xe_iret dX8_spoon_38 rfl rfl ?_
      have e := h τ n m p k (hu.mono (fun c => sC.p (by omega)))
      rw [spoonV, if_pos ⟨cp, cf⟩, spoonG, if_pos ⟨cp, cf⟩, ei, eg] at e
      rw [hJ.w]
      refine e (hJ.one hn6 hi hu hr2 (fun k hk => ?_) (fun c h => ?_)) (hc.cg ?_ ?_ ?_ ?_)
      · unfold opP opG; simp only [upd, pV, Nat.add_left_cancel_iff]
      all_goals (unfold opG; rw [pk_un (by omega), pk_un (by omega)])
    · refine xe_sipush (v := -10001) dX8_spoon_20 rfl ?_
      refine xe_iret dX8_spoon_23 rfl rfl ?_
      have cf : ¬ rng f 0 7 := (xb_eq0 rfl).mp h17
      have e := h σ n m p k Un.rf
      rw [spoonV, if_neg (fun z => cf z.2), spoonG, if_neg (fun z => cf z.2)] at e
      exact e hJ hc
  · skip
    rw [← hc.1] at hx
    refine xe_astore_nN (lv2 := [_, _, _, _, _]) dX8_spoon_8 (by decide) rfl ?_
    refine xe_aload_nN dX8_spoon_9 rfl ?_
    refine xe_ifnullN (tgt := 20) dX8_spoon_10 (by decide) ?_
    refine xe_sipush (v := -10001) dX8_spoon_20 rfl ?_
    refine xe_iret dX8_spoon_23 rfl rfl ?_
    have e := h σ n m p k Un.rf
    rw [spoonV, if_neg (fun z => hx z.1), spoonG, if_neg (fun z => hx z.1)] at e
    exact e hJ hc
