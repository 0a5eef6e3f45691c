def BKo (n : Nat) (G : Nat → Int32) (k : Nat) : Prop := ∀ r, r < k → ∃ p, p < n ∧ G (99 + 2 * r) = nI p
theorem lkF_succ (G : Nat → Int32) (c j : Nat) : lkF G (c + 1) j = if G (9 * cN (G (99 + 2 * j)) + 2) = G (100 + 2 * j) then lkF G c (j + 1) else nI j := rfl

theorem lX8_looked {d : Nat} {σ : xSt} {Post : Option Value → xSt → Prop} (hd : 0 ≤ d) {n m p k : Nat} (G : Nat → Int32) (hJ : RepJ σ 1 G n m p k) (hc : CO G n m p k) (hb : BKo n G k) : ∀ (q j : Nat) (v3 : Option Value), j + q = k → Post (some (.int (lkF G q j))) σ → xEv kX8_looked (d + 1) 10 [some (.ref 0), some (.ref 23), some (.int (nI j)), v3] [] σ Post := by
  have hn6 : n ≤ 6 := hc.2.1
  have hk8 : k ≤ 8 := hc.2.2.2.2.2.2.2
  intro q
  induction q with
  | zero =>
    intro j v3 hq h
    refine xe_iload_n dX8_looked_10 rfl ?_
    refine xe_aload_n dX8_looked_11 rfl ?_
    refine xe_getf dX8_looked_12 flX8_282 (by decide) rfl rfl ?_
    refine xe_icmp_ge (tgt := 57) dX8_looked_15 (by decide) (fun h15 => ?_) (fun h15 => absurd (by rw [hJ.B.1]; exact nI_le (by omega) (by omega)) h15)
    refine xe_bipush (v := -5) dX8_looked_57 rfl ?_
    refine xe_iret dX8_looked_59 rfl rfl ?_
    exact h
  | succ q ih =>
    intro j v3 hq h
    rw [lkF_succ] at h
    obtain ⟨pt, hpt, ept⟩ := hb j (by omega)
    obtain ⟨r1, r2, r3⟩ := hJ.B.2 j (by omega)
    refine xe_iload_n dX8_looked_10 rfl ?_
    refine xe_aload_n dX8_looked_11 rfl ?_
    refine xe_getf dX8_looked_12 flX8_282 (by decide) rfl rfl ?_
    refine xe_icmp_ge (tgt := 57) dX8_looked_15 (by decide) (fun h15 => absurd h15 (by rw [hJ.B.1]; exact nI_ge (by omega) (by omega))) (fun h15 => ?_)
    refine xe_aload_n dX8_looked_18 rfl ?_
    refine xe_getr dX8_looked_19 flX8_12 (by decide) rfl rfl ?_
    refine xe_aload_n dX8_looked_22 rfl ?_
    refine xe_getr dX8_looked_23 flX8_284 (by decide) rfl rfl ?_
    refine xe_iload_n dX8_looked_26 rfl ?_
    refine xn_iaload (j := j) dX8_looked_27 (by decide) rfl (by first | with_reducible rfl | (simp only [xl, pk_mul, nI_add, nI_1]; done) | (simp only [xl, pk_mul, nI_add, nI_1]; rfl)) (by omega) (by first | decide | omega) ?_
    refine xe_top (x2 := nI pt) (r1.trans ept) ?_
    refine xe_callv (k2 := kX5_potAt) (vs := [_]) dX8_looked_28 okX5_potAt mlX8_90 imX5_potAt slX5_potAt (Or.inl ⟨5, _, _, by decide, rfl, rfl, rfl⟩) rfl rfl (Nat.le_of_ble_eq_true rfl) (Nat.le_of_ble_eq_true rfl) (sX5_potAt (by omega) n _ isS1 hJ.P.1 hn6 ⟨fun i hi ei => ?_, fun hx => ?_⟩)
    · skip
      obtain rfl : pt = i := nEq (by omega) (by omega) ei
      have hp := isS1.p (i := pt) (by omega)
      have hr := hJ.P.2 pt hi
      refine xe_astore_n (lv2 := [_, _, _, _]) dX8_looked_31 (by decide) rfl ?_
      refine xe_aload_n dX8_looked_32 rfl ?_
      refine xe_ifnull dX8_looked_33 ?_
      refine xe_aload_n dX8_looked_36 rfl ?_
      refine xe_getf dX8_looked_37 flX8_117 hp.1.1 hp.1.2 rfl ?_
      refine xe_top (x2 := G (9 * pt + 2)) (hr.2.1 2 (by omega)) ?_
      refine xe_aload_n dX8_looked_40 rfl ?_
      refine xe_getr dX8_looked_41 flX8_287 (by decide) rfl rfl ?_
      refine xe_iload_n dX8_looked_44 rfl ?_
      refine xn_iaload (j := j) dX8_looked_45 (by decide) rfl (by first | with_reducible rfl | (simp only [xl, pk_mul, nI_add, nI_1]; done) | (simp only [xl, pk_mul, nI_add, nI_1]; rfl)) (by omega) (by first | decide | omega) ?_
      refine xe_top (x2 := G (100 + 2 * j)) r2 ?_
      refine xe_icmp_eq (tgt := 51) dX8_looked_46 (by decide) (fun h46 => ?_) (fun h46 => ?_)
      · refine xn_inc (j := j) (lv2 := [_, _, _, _]) dX8_looked_51 (by decide) rfl rfl ?_
        refine xe_goto (tgt := 10) dX8_looked_54 (by decide) ?_
        rw [ept, cN_nI (by omega), if_pos h46] at h
        exact ih (j + 1) _ (by omega) h
      · refine xe_iload_n dX8_looked_49 rfl ?_
        refine xe_iret dX8_looked_50 rfl rfl ?_
        rw [ept, cN_nI (by omega), if_neg h46] at h
        exact h
    · skip
      exact absurd (show pOk (nI n) (nI pt) from ⟨nI_pos' (by omega), nI_lt hpt (by omega)⟩) hx

theorem sX8_looked {d : Nat} (hd : 1 ≤ d) {σ : xSt} {Post : Option Value → xSt → Prop} {n m p k : Nat} (G : Nat → Int32) (hJ : RepJ σ 1 G n m p k) (hc : CO G n m p k) (hb : BKo n G k) (h : Post (some (.int (lookedV G))) σ) : xM kX8_looked d [.ref 0] σ Post := by
  obtain ⟨d, rfl⟩ : ∃ e, d = e + 1 := ⟨d - 1, by omega⟩
  refine xM_start (lv := [some (.ref 0), none, none, none]) rfl ?_
  refine xe_aload_n dX8_looked_0 rfl ?_
  refine xe_getr dX8_looked_1 flX8_12 (by decide) rfl rfl ?_
  refine xe_getr dX8_looked_4 flX8_319 (by decide) rfl rfl ?_
  refine xe_astore_n (lv2 := [_, _, _, _]) dX8_looked_7 (by decide) rfl ?_
  refine xe_iconst (v := 0) dX8_looked_8 rfl ?_
  refine xe_istore_n (lv2 := [_, _, _, _]) dX8_looked_9 (by decide) rfl ?_
  rw [lookedV, hc.2.2.2.2.2.2.1, cN_nI (by have := hc.2.2.2.2.2.2.2; omega)] at h
  exact lX8_looked (d := d) (by omega) G hJ hc hb k 0 _ (by omega) h

theorem sX8_image {d : Nat} (hd : 4 ≤ d) {σ : xSt} {Post : Option Value → xSt → Prop} {n m p k : Nat} (G : Nat → Int32) (hJ : RepJ σ 1 G n m p k) (hc : CO G n m p k) (h : ∀ τ, Un (sC 27) σ τ → RepJ τ 27 G n m p k → Post (some (.int (G 54))) (xsF τ 0 4 1)) : xM kX8_image d [.ref 0] σ Post := by
  obtain ⟨d, rfl⟩ : ∃ e, d = e + 1 := ⟨d - 1, by omega⟩
  refine xM_start (lv := [some (.ref 0)]) rfl ?_
  refine xe_aload_n dX8_image_0 rfl ?_
  refine xe_getr dX8_image_1 flX8_18 (by decide) rfl rfl ?_
  refine xe_aload_n dX8_image_4 rfl ?_
  refine xe_getr dX8_image_5 flX8_12 (by decide) rfl rfl ?_
  refine xe_callv (k2 := kX5_copyFrom) (vs := [_]) dX8_image_8 okX5_copyFrom mlX8_336 imX5_copyFrom slX5_copyFrom (Or.inl ⟨5, _, _, by decide, rfl, rfl, rfl⟩) rfl rfl (Nat.le_of_ble_eq_true rfl) (Nat.le_of_ble_eq_true rfl) (sX5_copyFrom (by omega) G isS27 isS1 (by omega) hJ hc.2.1 hc.2.2.2.1 hc.2.2.2.2.2.1 hc.2.2.2.2.2.2.2 (fun τ hu hJ2 => ?_))
  refine xe_aload_n dX8_image_11 rfl ?_
  refine xe_iconst (v := 1) dX8_image_12 rfl ?_
  refine xe_putf dX8_image_13 flX8_31 (by decide) rfl rfl (by first | rfl | decide | assumption | exact bI_nar _ | exact xb_narrow rfl | exact xb_narrow (by assumption)) rfl ?_
  refine xe_aload_n dX8_image_16 rfl ?_
  refine xe_getr dX8_image_17 flX8_12 (by decide) rfl rfl ?_
  refine xe_getf dX8_image_20 flX8_208 (by decide) rfl rfl ?_
  refine xe_iret dX8_image_23 rfl rfl ?_
  rw [xsF_ne (Or.inl (by omega)), hu.f (by unfold sC; omega), hJ.P.1, ← hc.1]
  exact h τ hu hJ2

theorem sX8_undo {d : Nat} (hd : 4 ≤ d) {σ : xSt} {Post : Option Value → xSt → Prop} {n m p k : Nat} (G : Nat → Int32) (h : (σ.1 0 4 = 0 → Post (some (.int (-3))) σ) ∧ (¬ σ.1 0 4 = 0 → RepJ σ 27 G n m p k ∧ CO G n m p k ∧ ∀ τ, Un (sC 1) σ τ → RepJ τ 1 G n m p k → Post (some (.int (G 54))) τ)) : xM kX8_undo d [.ref 0] σ Post := by
  obtain ⟨d, rfl⟩ : ∃ e, d = e + 1 := ⟨d - 1, by omega⟩
  refine xM_start (lv := [some (.ref 0)]) rfl ?_
  refine xe_aload_n dX8_undo_0 rfl ?_
  refine xe_getf dX8_undo_1 flX8_31 (by decide) rfl rfl ?_
  refine xe_if_ne (tgt := 10) dX8_undo_4 (by decide) (fun h4 => ?_) (fun h4 => ?_)
  · obtain ⟨hJ, hc, h⟩ := h.2 h4
    refine xe_aload_n dX8_undo_10 rfl ?_
    refine xe_getr dX8_undo_11 flX8_12 (by decide) rfl rfl ?_
    refine xe_aload_n dX8_undo_14 rfl ?_
    refine xe_getr dX8_undo_15 flX8_18 (by decide) rfl rfl ?_
    refine xe_callv (k2 := kX5_copyFrom) (vs := [_]) dX8_undo_18 okX5_copyFrom mlX8_336 imX5_copyFrom slX5_copyFrom (Or.inl ⟨5, _, _, by decide, rfl, rfl, rfl⟩) rfl rfl (Nat.le_of_ble_eq_true rfl) (Nat.le_of_ble_eq_true rfl) (sX5_copyFrom (by omega) G isS1 isS27 (by omega) hJ hc.2.1 hc.2.2.2.1 hc.2.2.2.2.2.1 hc.2.2.2.2.2.2.2 (fun τ hu hJ2 => ?_))
    refine xe_aload_n dX8_undo_21 rfl ?_
    refine xe_getr dX8_undo_22 flX8_12 (by decide) rfl rfl ?_
    refine xe_getf dX8_undo_25 flX8_208 (by decide) rfl rfl ?_
    refine xe_iret dX8_undo_28 rfl rfl ?_
    rw [hJ2.P.1, ← hc.1]
    exact h τ hu hJ2
  · refine xe_bipush (v := -3) dX8_undo_7 rfl ?_
    refine xe_iret dX8_undo_9 rfl rfl ?_
    exact h.1 h4

theorem sX8_count {d : Nat} (hd : 0 ≤ d) {σ : xSt} {Post : Option Value → xSt → Prop} {n m p k : Nat} (G : Nat → Int32) (w : Int32) (hJ : RepJ σ 1 G n m p k) (hc : CO G n m p k) (h : Post (some (.int (countV G (σ.1 0 8) (σ.1 81 1) (σ.1 100 1) w))) σ) : xM kX8_count d [.ref 0, .int w] σ Post := by
  refine xM_start (lv := [some (.ref 0), some (.int w)]) rfl ?_
  refine xe_iload_n dX8_count_0 rfl ?_
  refine xn_tsw (tgs := [44, 52, 57, 68, 79, 90, 98]) (td := 106) dX8_count_1 rfl rfl rfl (fun i1 t1 hg1 hx1 => ?_) (fun hx1 => ?_)
  · match i1, hg1, hx1 with
    | 0, hg1, hx1 =>
      cases hg1
      have cw : w = 0 := Int32.toInt_inj.mp (by rw [hx1]; rfl)
      refine xe_aload_n dX8_count_44 rfl ?_
      refine xe_getr dX8_count_45 flX8_12 (by decide) rfl rfl ?_
      refine xe_getf dX8_count_48 flX8_208 (by decide) rfl rfl ?_
      refine xe_iret dX8_count_51 rfl rfl ?_
      subst cw
      rw [hJ.P.1, ← hc.1]
      exact h
    | 1, hg1, hx1 =>
      cases hg1
      have cw : w = 1 := Int32.toInt_inj.mp (by rw [hx1]; rfl)
      refine xe_aload_n dX8_count_52 rfl ?_
      refine xe_getf dX8_count_53 flX8_53 (by decide) rfl rfl ?_
      refine xe_iret dX8_count_56 rfl rfl ?_
      subst cw
      exact h
    | 2, hg1, hx1 =>
      cases hg1
      have cw : w = 2 := Int32.toInt_inj.mp (by rw [hx1]; rfl)
      refine xe_aload_n dX8_count_57 rfl ?_
      refine xe_getr dX8_count_58 flX8_12 (by decide) rfl rfl ?_
      refine xe_getr dX8_count_61 flX8_255 (by decide) rfl rfl ?_
      refine xe_getf dX8_count_64 flX8_282 (by decide) rfl rfl ?_
      refine xe_iret dX8_count_67 rfl rfl ?_
      subst cw
      rw [show σ.1 15 3 = G 58 from hJ.H.1.trans hc.2.2.1.symm]
      exact h
    | 3, hg1, hx1 =>
      cases hg1
      have cw : w = 3 := Int32.toInt_inj.mp (by rw [hx1]; rfl)
      refine xe_aload_n dX8_count_68 rfl ?_
      refine xe_getr dX8_count_69 flX8_12 (by decide) rfl rfl ?_
      refine xe_getr dX8_count_72 flX8_307 (by decide) rfl rfl ?_
      refine xe_getf dX8_count_75 flX8_282 (by decide) rfl rfl ?_
      refine xe_iret dX8_count_78 rfl rfl ?_
      subst cw
      rw [show σ.1 19 3 = G 77 from hJ.L.1.trans hc.2.2.2.2.1.symm]
      exact h
    | 4, hg1, hx1 =>
      cases hg1
      have cw : w = 4 := Int32.toInt_inj.mp (by rw [hx1]; rfl)
      refine xe_aload_n dX8_count_79 rfl ?_
      refine xe_getr dX8_count_80 flX8_12 (by decide) rfl rfl ?_
      refine xe_getr dX8_count_83 flX8_319 (by decide) rfl rfl ?_
      refine xe_getf dX8_count_86 flX8_282 (by decide) rfl rfl ?_
      refine xe_iret dX8_count_89 rfl rfl ?_
      subst cw
      rw [show σ.1 23 3 = G 98 from hJ.B.1.trans hc.2.2.2.2.2.2.1.symm]
      exact h
    | 5, hg1, hx1 =>
      cases hg1
      have cw : w = 5 := Int32.toInt_inj.mp (by rw [hx1]; rfl)
      refine xe_aload_n dX8_count_90 rfl ?_
      refine xe_getr dX8_count_91 flX8_38 (by decide) rfl rfl ?_
      refine xe_getf dX8_count_94 flX8_357 (by decide) rfl rfl ?_
      refine xe_iret dX8_count_97 rfl rfl ?_
      subst cw
      exact h
    | 6, hg1, hx1 =>
      cases hg1
      have cw : w = 6 := Int32.toInt_inj.mp (by rw [hx1]; rfl)
      refine xe_aload_n dX8_count_98 rfl ?_
      refine xe_getr dX8_count_99 flX8_71 (by decide) rfl rfl ?_
      refine xe_getf dX8_count_102 flX8_360 (by decide) rfl rfl ?_
      refine xe_iret dX8_count_105 rfl rfl ?_
      subst cw
      exact h
    | i1 + 7, hg1, hx1 => simp at hg1
  · skip
    have cw : ∀ v : Int32, 0 ≤ v.toInt → v.toInt ≤ 6 → ¬ w = v := fun v q1 q2 z => by rw [z] at hx1; omega
    refine xe_bipush (v := -2) dX8_count_106 rfl ?_
    refine xe_iret dX8_count_108 rfl rfl ?_
    rw [countV, if_neg (cw 0 (by decide) (by decide)), if_neg (cw 1 (by decide) (by decide)), if_neg (cw 2 (by decide) (by decide)), if_neg (cw 3 (by decide) (by decide)), if_neg (cw 4 (by decide) (by decide)), if_neg (cw 5 (by decide) (by decide)), if_neg (cw 6 (by decide) (by decide))] at h
    exact h

def jU (t : Int32) : Nat → Int32 → Int32
  | 0, x => x
  | q + 1, x => if x = t ∨ x ≤ 0 then x else jU t q (xABOVE (cN x))
theorem jU_un : ∀ κ, κ < 7 → ∀ t, t < 7 → (jU (nI t) 7 (nI κ) = nI t ↔ unL 4 (nI κ) (nI t) = nI t) := by decide +kernel
theorem xABOVE_ok : ∀ κ, κ < 7 → ¬ nI κ ≤ 0 → ∃ j, j < 7 ∧ xABOVE κ = nI j := by
  intro κ hκ h
  match κ, hκ, h with
  | 0, _, h => exact absurd (by decide) h
  | 1, _, _ => exact ⟨0, by omega, rfl⟩
  | 2, _, _ => exact ⟨0, by omega, rfl⟩
  | 3, _, _ => exact ⟨0, by omega, rfl⟩
  | 4, _, _ => exact ⟨1, by omega, rfl⟩
  | 5, _, _ => exact ⟨2, by omega, rfl⟩
  | 6, _, _ => exact ⟨3, by omega, rfl⟩

theorem lX8_isUnder31 {d : Nat} {σ : xSt} {Post : Option Value → xSt → Prop} (x0 t y : Int32) (j : Int32) (h : Post (some (.int (xb (y = t)))) σ) : xEv kX8_isUnder d 31 [some (.int x0), some (.int t), some (.int y), some (.int j)] [] σ Post := by
  refine xe_iload_n dX8_isUnder_31 rfl ?_
  refine xe_iload_n dX8_isUnder_32 rfl ?_
  refine xe_icmp_ne (tgt := 40) dX8_isUnder_33 (by decide) (fun h33 => ?_) (fun h33 => ?_)
  · refine xe_iconst (v := 0) dX8_isUnder_40 rfl ?_
    refine xe_iret dX8_isUnder_41 rfl (by first | rfl | decide | assumption | exact bI_nar _ | exact xb_narrow rfl | exact xb_narrow (by assumption)) ?_
    first | (rw [xb, if_pos h33] at h; exact h) | (rw [xb, if_neg h33] at h; exact h)
  · refine xe_iconst (v := 1) dX8_isUnder_36 rfl ?_
    refine xe_goto (tgt := 41) dX8_isUnder_37 (by decide) ?_
    refine xe_iret dX8_isUnder_41 rfl (by first | rfl | decide | assumption | exact bI_nar _ | exact xb_narrow rfl | exact xb_narrow (by assumption)) ?_
    first | (rw [xb, if_pos h33] at h; exact h) | (rw [xb, if_neg h33] at h; exact h)

theorem lX8_isUnder {d : Nat} {σ : xSt} {Post : Option Value → xSt → Prop} (x0 t : Int32) : ∀ (q j κ : Nat), j + q = 7 → κ < 7 → Post (some (.int (xb (jU t q (nI κ) = t)))) σ → xEv kX8_isUnder d 4 [some (.int x0), some (.int t), some (.int (nI κ)), some (.int (nI j))] [] σ Post := by
  intro q
  induction q with
  | zero =>
    intro j κ hq hκ h
    refine xe_iload_n dX8_isUnder_4 rfl ?_
    refine xe_bipush (v := 7) dX8_isUnder_5 rfl ?_
    refine xe_icmp_ge (tgt := 31) dX8_isUnder_7 (by decide) (fun h7 => ?_) (fun h7 => absurd (show nI 7 ≤ nI j from nI_le (by omega) (by omega)) h7)
    exact lX8_isUnder31 (d := d) x0 t _ _ h
  | succ q ih =>
    intro j κ hq hκ h
    rw [jU] at h
    refine xe_iload_n dX8_isUnder_4 rfl ?_
    refine xe_bipush (v := 7) dX8_isUnder_5 rfl ?_
    refine xe_icmp_ge (tgt := 31) dX8_isUnder_7 (by decide) (fun h7 => absurd h7 (show ¬ nI 7 ≤ nI j from nI_ge (by omega) (by omega))) (fun h7 => ?_)
    refine xe_iload_n dX8_isUnder_10 rfl ?_
    refine xe_iload_n dX8_isUnder_11 rfl ?_
    refine xe_icmp_eq (tgt := 31) dX8_isUnder_12 (by decide) (fun h12 => ?_) (fun h12 => ?_)
    · first | (rw [if_pos (Or.inl h12)] at h; exact lX8_isUnder31 (d := d) x0 t _ _ h) | (rw [if_pos (Or.inr h16)] at h; exact lX8_isUnder31 (d := d) x0 t _ _ h)
    · refine xe_iload_n dX8_isUnder_15 rfl ?_
      refine xe_if_le (tgt := 31) dX8_isUnder_16 (by decide) (fun h16 => ?_) (fun h16 => ?_)
      · first | (rw [if_pos (Or.inl h12)] at h; exact lX8_isUnder31 (d := d) x0 t _ _ h) | (rw [if_pos (Or.inr h16)] at h; exact lX8_isUnder31 (d := d) x0 t _ _ h)
      · refine xe_above dX8_isUnder_19 fwX8_354 ?_
        refine xe_iload_n dX8_isUnder_22 rfl ?_
        refine xe_ldAbove dX8_isUnder_23 (vp_in_nI (by omega) (by omega)) ?_
        obtain ⟨κ2, hκ2, e2⟩ := xABOVE_ok κ hκ h16
        refine xe_top (x2 := nI κ2) (by rw [nI_clamp (by omega)]; exact e2) ?_
        refine xe_istore_n (lv2 := [_, _, _, _]) dX8_isUnder_24 (by decide) rfl ?_
        refine xn_inc (j := j) (lv2 := [_, _, _, _]) dX8_isUnder_25 (by decide) rfl rfl ?_
        refine xe_goto (tgt := 4) dX8_isUnder_28 (by decide) ?_
        rw [if_neg (c := nI κ = t ∨ nI κ ≤ 0) (fun z => z.elim h12 h16), cN_nI (by omega), e2] at h
        exact ih (j + 1) κ2 (by omega) hκ2 h

theorem sX8_isUnder {d : Nat} (hd : 0 ≤ d) {σ : xSt} {Post : Option Value → xSt → Prop} {κ : Nat} (t : Int32) (hκ : κ < 7) (h : Post (some (.int (xb (jU t 7 (nI κ) = t)))) σ) : xM kX8_isUnder d [.int (nI κ), .int t] σ Post := by
  refine xM_start (lv := [some (.int (nI κ)), some (.int t), none, none]) rfl ?_
  refine xe_iload_n dX8_isUnder_0 rfl ?_
  refine xe_istore_n (lv2 := [_, _, _, _]) dX8_isUnder_1 (by decide) rfl ?_
  refine xe_iconst (v := 0) dX8_isUnder_2 rfl ?_
  refine xe_istore_n (lv2 := [_, _, _, _]) dX8_isUnder_3 (by decide) rfl ?_
  exact lX8_isUnder (d := d) _ t 7 0 κ (by omega) hκ h

theorem sX8_taken {d : Nat} (hd : 1 ≤ d) {σ : xSt} {Post : Option Value → xSt → Prop} {n m p k : Nat} (G : Nat → Int32) (pp t : Int32) (hJ : RepJ σ 1 G n m p k) (hc : CO G n m p k) (hk : ∀ i, i < n → ∃ j, j ≤ 6 ∧ G (9 * i) = nI j) (h : Post (some (.int (takenV G pp t))) σ) : xM kX8_taken d [.ref 0, .int pp, .int t] σ Post := by
  obtain ⟨d, rfl⟩ : ∃ e, d = e + 1 := ⟨d - 1, by omega⟩
  refine xM_start (lv := [some (.ref 0), some (.int pp), some (.int t), none]) rfl ?_
  refine xe_iload_n dX8_taken_0 rfl ?_
  refine xe_if_lt (tgt := 10) dX8_taken_1 (by decide) (fun h1 => ?_) (fun h1 => ?_)
  · refine xe_bipush (v := -2) dX8_taken_10 rfl ?_
    refine xe_iret dX8_taken_12 rfl rfl ?_
    have ct : ¬ rng t 0 6 := by first | exact fun z => absurd z.1 (Int32.not_le.mpr h1) | exact fun z => h7 ((lt_succ (n := 6) (by omega)).mpr z.2)
    rw [takenV, if_neg ct] at h; exact h
  · refine xe_iload_n dX8_taken_4 rfl ?_
    refine xe_bipush (v := 7) dX8_taken_5 rfl ?_
    refine xe_icmp_lt (tgt := 13) dX8_taken_7 (by decide) (fun h7 => ?_) (fun h7 => ?_)
    · have ct : rng t 0 6 := ⟨Int32.not_lt.mp h1, (lt_succ (n := 6) (by omega)).mp h7⟩
      obtain ⟨u, hu6, rfl⟩ := rng_nat (m := 6) (by omega) ct
      refine xe_aload_n dX8_taken_13 rfl ?_
      refine xe_getr dX8_taken_14 flX8_12 (by decide) rfl rfl ?_
      refine xe_iload_n dX8_taken_17 rfl ?_
      refine xe_callv (k2 := kX5_potAt) (vs := [_]) dX8_taken_18 okX5_potAt mlX8_90 imX5_potAt slX5_potAt (Or.inl ⟨5, _, _, by decide, rfl, rfl, rfl⟩) rfl rfl (Nat.le_of_ble_eq_true rfl) (Nat.le_of_ble_eq_true rfl) (sX5_potAt (by omega) n pp isS1 hJ.P.1 hc.2.1 ⟨fun i hi ei => ?_, fun hx => ?_⟩)
      · skip
        subst ei
        have hn6 : n ≤ 6 := hc.2.1
        have hp := isS1.p (i := i) (by omega)
        have hr := hJ.P.2 i hi
        have cp : pOk (G 54) (nI i) := by rw [hc.1]; exact ⟨nI_pos' (by omega), nI_lt hi (by omega)⟩
        have ei : cN (nI i) = i := cN_nI (by omega)
        refine xe_astore_n (lv2 := [_, _, _, _]) dX8_taken_21 (by decide) rfl ?_
        refine xe_aload_n dX8_taken_22 rfl ?_
        refine xe_ifnonnull (tgt := 29) dX8_taken_23 (by decide) ?_
        obtain ⟨κ, hκ, eκ⟩ := hk i hi
        have hκ7 : κ < 7 := by omega
        have e1 : σ.1 (1 + 2 + 2 * i) 1 = nI κ := (hr.2.1 0 (by omega)).trans eκ
        refine xe_aload_n dX8_taken_29 rfl ?_
        refine xe_getf dX8_taken_30 flX8_123 hp.1.1 hp.1.2 rfl ?_
        rw [e1]
        refine xe_iload_n dX8_taken_33 rfl ?_
        refine xe_calls (k2 := kX8_isUnder) (vs := [_, _]) dX8_taken_34 okX8_isUnder mlX8_351 stX8_isUnder rfl rfl (Nat.le_of_ble_eq_true rfl) (Nat.le_of_ble_eq_true rfl) (sX8_isUnder (by omega) _ hκ7 ?_)
        refine xe_if_eq (tgt := 47) dX8_taken_37 (by decide) (fun h37 => ?_) (fun h37 => ?_)
        · refine xe_bipush (v := -12) dX8_taken_47 rfl ?_
          refine xe_iret dX8_taken_49 rfl rfl ?_
          rw [takenV, if_pos ct, if_pos cp, ei, eκ] at h
          have q := jU_un κ hκ7 u (by omega)
          first | (rw [if_pos (q.mp ((xb_ne0 rfl).mp h37))] at h; exact h) | (rw [if_neg (fun z => (xb_eq0 rfl).mp h37 (q.mpr z))] at h; exact h)
        · refine xe_aload_n dX8_taken_40 rfl ?_
          refine xe_getf dX8_taken_41 flX8_123 hp.1.1 hp.1.2 rfl ?_
          rw [e1]
          refine xe_goto (tgt := 49) dX8_taken_44 (by decide) ?_
          refine xe_iret dX8_taken_49 rfl rfl ?_
          rw [takenV, if_pos ct, if_pos cp, ei, eκ] at h
          have q := jU_un κ hκ7 u (by omega)
          first | (rw [if_pos (q.mp ((xb_ne0 rfl).mp h37))] at h; exact h) | (rw [if_neg (fun z => (xb_eq0 rfl).mp h37 (q.mpr z))] at h; exact h)
      · skip
        rw [← hc.1] at hx
        refine xe_astore_nN (lv2 := [_, _, _, _]) dX8_taken_21 (by decide) rfl ?_
        refine xe_aload_nN dX8_taken_22 rfl ?_
        refine xe_ifnonnullN dX8_taken_23 ?_
        refine xe_bipush (v := -11) dX8_taken_26 rfl ?_
        refine xe_iret dX8_taken_28 rfl rfl ?_
        rw [takenV, if_pos ct, if_neg hx] at h; exact h
    · refine xe_bipush (v := -2) dX8_taken_10 rfl ?_
      refine xe_iret dX8_taken_12 rfl rfl ?_
      have ct : ¬ rng t 0 6 := by first | exact fun z => absurd z.1 (Int32.not_le.mpr h1) | exact fun z => h7 ((lt_succ (n := 6) (by omega)).mpr z.2)
      rw [takenV, if_neg ct] at h; exact h

theorem i2b_nI : ∀ u, u < 128 → vp_nar .byte ((nI u).toInt8.toInt32) = nI u := by decide +kernel

theorem sX7_append {d : Nat} (hd : 0 ≤ d) {σ : xSt} {Post : Option Value → xSt → Prop} (t u : Nat) (ht : σ.1 81 1 = nI t) (ht1 : t ≤ 100) (hu : u < 128) (h : (t = 100 → Post (some (.int (-4))) σ) ∧ (t < 100 → Post (some (.int (nI (t + 1)))) (xsF (xsA σ 82 (upd (σ.2.1 82) t (nI u))) 81 1 (nI (t + 1))))) : xM kX7_append d [.ref 81, .int (nI u)] σ Post := by
  refine xM_start (lv := [some (.ref 81), some (.int (nI u))]) rfl ?_
  refine xe_aload_n dX7_append_0 rfl ?_
  refine xe_getf dX7_append_1 flX7_15 (by decide) rfl rfl ?_
  refine xe_bipush (v := 100) dX7_append_4 rfl ?_
  refine xe_icmp_lt (tgt := 12) dX7_append_6 (by decide) (fun h6 => ?_) (fun h6 => ?_)
  · rw [ht] at h6
    have hlt := nLt (b := 100) (by omega) (by omega) h6
    refine xe_aload_n dX7_append_12 rfl ?_
    refine xe_getr dX7_append_13 flX7_11 (by decide) rfl rfl ?_
    refine xe_aload_n dX7_append_16 rfl ?_
    refine xe_getf dX7_append_17 flX7_15 (by decide) rfl rfl ?_
    refine xe_iload_n dX7_append_20 rfl ?_
    refine xe_i2b dX7_append_21 ?_
    refine xn_bastore (j := t) dX7_append_22 (by decide) rfl ht hlt (by decide) ?_
    rw [i2b_nI u hu]
    refine xe_aload_n dX7_append_23 rfl ?_
    refine xe_dup dX7_append_24 rfl ?_
    refine xe_getf dX7_append_25 flX7_15 (by decide) rfl rfl ?_
    refine xe_iconst (v := 1) dX7_append_28 rfl ?_
    refine xe_iadd dX7_append_29 ?_
    refine xe_putf dX7_append_30 flX7_15 (by decide) rfl rfl rfl rfl ?_
    refine xe_aload_n dX7_append_33 rfl ?_
    refine xe_getf dX7_append_34 flX7_15 (by decide) rfl rfl ?_
    refine xe_iret dX7_append_37 rfl rfl ?_
    rw [xsF_get]
    simp only [xsA_1, ht, nI_1]
    exact h.2 hlt
  · refine xe_bipush (v := -4) dX7_append_9 rfl ?_
    refine xe_iret dX7_append_11 rfl rfl ?_
    rw [ht] at h6
    refine h.1 ?_
    have := nNlt (b := 100) (by omega) (by omega) h6; omega

theorem sX8_feed {d : Nat} (hd : 1 ≤ d) {σ : xSt} {Post : Option Value → xSt → Prop} (t : Nat) (s : Int32) (ht : σ.1 81 1 = nI t) (ht1 : t ≤ 100) (h : Post (some (.int (feedV (nI t) s))) (if rng s 0 127 ∧ t < 100 then xsF (xsA σ 82 (upd (σ.2.1 82) t s)) 81 1 (nI (t + 1)) else σ)) : xM kX8_feed d [.ref 0, .int s] σ Post := by
  obtain ⟨d, rfl⟩ : ∃ e, d = e + 1 := ⟨d - 1, by omega⟩
  refine xM_start (lv := [some (.ref 0), some (.int s)]) rfl ?_
  refine xe_iload_n dX8_feed_0 rfl ?_
  refine xe_if_lt (tgt := 10) dX8_feed_1 (by decide) (fun h1 => ?_) (fun h1 => ?_)
  · refine xe_bipush (v := -2) dX8_feed_10 rfl ?_
    refine xe_iret dX8_feed_12 rfl rfl ?_
    have c0 : ¬ rng s 0 127 := by first | exact fun z => absurd z.1 (Int32.not_le.mpr h1) | exact fun z => h7 z.2
    rw [feedV, if_neg c0, if_neg (fun z => c0 z.1)] at h; exact h
  · refine xe_iload_n dX8_feed_4 rfl ?_
    refine xe_bipush (v := 127) dX8_feed_5 rfl ?_
    refine xe_icmp_le (tgt := 13) dX8_feed_7 (by decide) (fun h7 => ?_) (fun h7 => ?_)
    · have c0 : rng s 0 127 := ⟨Int32.not_lt.mp h1, h7⟩
      obtain ⟨u, hu, rfl⟩ := rng_nat (m := 127) (by omega) c0
      refine xe_aload_n dX8_feed_13 rfl ?_
      refine xe_getr dX8_feed_14 flX8_38 (by decide) rfl rfl ?_
      refine xe_iload_n dX8_feed_17 rfl ?_
      refine xe_callv (k2 := kX7_append) (vs := [_]) dX8_feed_18 okX7_append mlX8_129 imX7_append slX7_append (Or.inl ⟨7, _, _, by decide, rfl, rfl, rfl⟩) rfl rfl (Nat.le_of_ble_eq_true rfl) (Nat.le_of_ble_eq_true rfl) (sX7_append (by omega) t u ht ht1 (by omega) ⟨fun e => ?_, fun hlt => ?_⟩)
      · skip
        refine xe_iret dX8_feed_21 rfl rfl ?_
        subst e
        rw [feedV, if_pos c0, if_pos (show nI 100 = 100 from rfl), if_neg (fun z => absurd z.2 (by omega))] at h; exact h
      · skip
        refine xe_iret dX8_feed_21 rfl rfl ?_
        rw [feedV, if_pos c0, if_neg (show ¬ nI t = 100 from fun z => absurd (nEq (b := 100) (by omega) (by omega) z) (by omega)), if_pos ⟨c0, hlt⟩, nI_1] at h; exact h
    · refine xe_bipush (v := -2) dX8_feed_10 rfl ?_
      refine xe_iret dX8_feed_12 rfl rfl ?_
      have c0 : ¬ rng s 0 127 := by first | exact fun z => absurd z.1 (Int32.not_le.mpr h1) | exact fun z => h7 z.2
      rw [feedV, if_neg c0, if_neg (fun z => c0 z.1)] at h; exact h
