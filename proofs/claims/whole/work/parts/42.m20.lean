theorem sX9_body {d : Nat} (hd : 0 ≤ d) {σ : xSt} {Post : Option Value → xSt → Prop} (t : aT) (b : Int32) (ht : t.1 < 2 ^ 30) (h : Post (some (.int b)) (aS σ (nt t b))) : xM kX9_body d [.ref 115, .int b] (aS σ t) Post := by
  refine xM_start (lv := [some (.ref 115), some (.int b)]) rfl ?_
  refine xe_aload_n dX9_body_0 rfl ?_
  refine xe_getf dX9_body_1 flX9_252 (by decide) rfl rfl ?_
  rw [aS_ran]
  refine xe_bipush (v := 20) dX9_body_4 rfl ?_
  refine xe_icmp_ge (tgt := 19) dX9_body_6 (by decide) (fun h6 => ?_) (fun h6 => ?_)
  · refine xe_aload_n dX9_body_19 rfl ?_
    refine xe_dup dX9_body_20 rfl ?_
    refine xe_getf dX9_body_21 flX9_252 (by decide) rfl rfl ?_
    first | rw [aS_ran] | rw [xsA_1, aS_ran]
    refine xe_iconst (v := 1) dX9_body_24 rfl ?_
    refine xe_iadd dX9_body_25 ?_
    refine xe_putf dX9_body_26 flX9_252 (by decide) rfl rfl rfl rfl ?_
    refine xe_iload_n dX9_body_29 rfl ?_
    refine xe_iret dX9_body_30 rfl rfl ?_
    rw [aS_note] at h
    first
    | (have q := nNle (a := 20) (b := t.1) (by omega) (by omega) h6; rw [if_pos q] at h; rw [aS_tr]; exact h)
    | (have q := nLe (a := 20) (b := t.1) (by omega) (by omega) h6; rw [if_neg (by omega)] at h; rw [show xsA (aS σ t) 133 t.2 = aS σ t from by rw [← aS_tr (σ := σ) (t := t)]; exact xsA_self] at h; exact h)
  · refine xe_aload_n dX9_body_9 rfl ?_
    refine xe_getr dX9_body_10 flX9_65 (by decide) rfl rfl ?_
    refine xe_aload_n dX9_body_13 rfl ?_
    refine xe_getf dX9_body_14 flX9_252 (by decide) rfl rfl ?_
    rw [aS_ran]
    refine xe_iload_n dX9_body_17 rfl ?_
    refine xn_iastore (j := t.1) dX9_body_18 (by decide) rfl rfl (by have := nNle (a := 20) (by omega) (by omega) h6; omega) (by decide) ?_
    refine xe_aload_n dX9_body_19 rfl ?_
    refine xe_dup dX9_body_20 rfl ?_
    refine xe_getf dX9_body_21 flX9_252 (by decide) rfl rfl ?_
    first | rw [aS_ran] | rw [xsA_1, aS_ran]
    refine xe_iconst (v := 1) dX9_body_24 rfl ?_
    refine xe_iadd dX9_body_25 ?_
    refine xe_putf dX9_body_26 flX9_252 (by decide) rfl rfl rfl rfl ?_
    refine xe_iload_n dX9_body_29 rfl ?_
    refine xe_iret dX9_body_30 rfl rfl ?_
    rw [aS_note] at h
    first
    | (have q := nNle (a := 20) (b := t.1) (by omega) (by omega) h6; rw [if_pos q] at h; rw [aS_tr]; exact h)
    | (have q := nLe (a := 20) (b := t.1) (by omega) (by omega) h6; rw [if_neg (by omega)] at h; rw [show xsA (aS σ t) 133 t.2 = aS σ t from by rw [← aS_tr (σ := σ) (t := t)]; exact xsA_self] at h; exact h)

theorem lX9_byKind3 {d : Nat} {τ : xSt} {Post : Option Value → xSt → Prop} (hM : MCo τ) (v1 v2 x : Int32) (a : Nat) (ha : a < 3) (v6 : Option Value) : ∀ (c k : Nat), k < 7 → (c = 3 ∨ (c = 2 ∧ k ≤ 3) ∨ (c = 1 ∧ k = 0)) → xEv kX9_byKind d 29 [some (.ref 115), some (.int v1), some (.int v2), some (.int (nI a)), some (.int x), some (.int (nI (fndK a c k))), v6] [] τ Post → xEv kX9_byKind d 3 [some (.ref 115), some (.int v1), some (.int v2), some (.int (nI a)), some (.int x), some (.int (nI k)), v6] [] τ Post := by
  intro c
  induction c with
  | zero => intro k hk hc; omega
  | succ c ih =>
    intro k hk hc h
    rw [fndK] at h
    refine xe_aload_n dX9_byKind_3 rfl ?_
    refine xe_getr dX9_byKind_4 flX9_62 (by decide) rfl rfl ?_
    refine xe_iconst (v := 3) dX9_byKind_7 rfl ?_
    refine xe_iload dX9_byKind_8 rfl ?_
    refine xe_imul dX9_byKind_10 ?_
    refine xe_iload_n dX9_byKind_11 rfl ?_
    refine xe_iadd dX9_byKind_12 ?_
    refine xn_iaload (j := 3 * k + a) dX9_byKind_13 (by decide) rfl (by simp only [xl, pk_mul, nI_add]) (by omega) (by decide) ?_
    rw [hM.2.2.2.2 _ (by omega)]
    refine xe_if_ne (tgt := 29) dX9_byKind_14 (by decide) (fun h14 => ?_) (fun h14 => ?_)
    · rw [if_neg h14] at h
      exact h
    · refine xe_aload_n dX9_byKind_17 rfl ?_
      refine xe_getr dX9_byKind_18 flX9_59 (by decide) rfl rfl ?_
      refine xe_iload dX9_byKind_21 rfl ?_
      refine xn_iaload (j := k) dX9_byKind_23 (by decide) rfl rfl (by omega) (by decide) ?_
      rw [hM.2.2.2.1 _ (by omega)]
      refine xe_istore (lv2 := [_, _, _, _, _, _, _]) dX9_byKind_24 (by decide) rfl ?_
      refine xe_goto (tgt := 3) dX9_byKind_26 (by decide) ?_
      rw [if_pos h14] at h
      have hk0 : ¬ k = 0 := by
        intro z; subst z
        rcases (show a = 0 ∨ a = 1 ∨ a = 2 by omega) with q | q | q <;> subst q <;> exact absurd h14 (by decide)
      have hu : ∃ u, u < 4 ∧ xABOVE k = nI u ∧ (k ≤ 3 → u = 0) := by
        rcases (show k = 1 ∨ k = 2 ∨ k = 3 ∨ k = 4 ∨ k = 5 ∨ k = 6 by omega) with q | q | q | q | q | q <;> subst q
        · exact ⟨0, by omega, rfl, fun _ => rfl⟩
        · exact ⟨0, by omega, rfl, fun _ => rfl⟩
        · exact ⟨0, by omega, rfl, fun _ => rfl⟩
        · exact ⟨1, by omega, rfl, fun _ => by omega⟩
        · exact ⟨2, by omega, rfl, fun _ => by omega⟩
        · exact ⟨3, by omega, rfl, fun _ => by omega⟩
      obtain ⟨u, hu4, eu, hu3⟩ := hu
      rw [eu, cN_nI (by omega)] at h
      rw [eu]
      exact ih u (by omega) (by omega) h

/-- what byKind says of n levels -/
def acB (σ : xSt) (κ i : Nat) (v : Int32) (n k a : Nat) : Prop := ∀ (d : Nat), 2 * n + 2 ≤ d → ∀ (x : Int32) (t : aT), t.1 + 3 ^ n ≤ 1000000 → ∀ (Post : Option Value → xSt → Prop), Post (some (.int (aF κ i v n k a x t).1)) (aS σ (aF κ i v n k a x t).2) → xM kX9_byKind d [.ref 115, .int (nI k), .int (nI i), .int (nI a), .int x] (aS σ t) Post
theorem sX9_begin {σ : xSt} (κ i : Nat) (hi : i < 6) (v : Int32) (hκ : σ.2.1 116 (9 * i) = nI κ) (n a : Nat) (hB : acB σ κ i v n κ a) {d : Nat} (hd : 2 * n + 3 ≤ d) (x : Int32) (t : aT) (ht : t.1 + 3 ^ n ≤ 1000000) {Post : Option Value → xSt → Prop} (h : Post (some (.int (aF κ i v n κ a x t).1)) (aS σ (aF κ i v n κ a x t).2)) : xM kX9_begin d [.ref 115, .int (nI i), .int (nI a), .int x] (aS σ t) Post := by
  obtain ⟨d, rfl⟩ : ∃ e, d = e + 1 := ⟨d - 1, by omega⟩
  refine xM_start (lv := [some (.ref 115), some (.int (nI i)), some (.int (nI a)), some (.int x)]) rfl ?_
  refine xe_aload_n dX9_begin_0 rfl ?_
  refine xe_aload_n dX9_begin_1 rfl ?_
  refine xe_iload_n dX9_begin_2 rfl ?_
  refine xe_iconst (v := 0) dX9_begin_3 rfl ?_
  refine xe_callv (k2 := kX9_one) (vs := [_, _]) dX9_begin_4 okX9_one mlX9_93 imX9_one slX9_one (Or.inl ⟨9, _, _, by decide, rfl, rfl, rfl⟩) rfl rfl (Nat.le_of_ble_eq_true rfl) (Nat.le_of_ble_eq_true rfl) (sX9_one (by omega) i 0 (by omega) ?_)
  rw [aS_A (by decide), show σ.2.1 116 (9 * i + 0) = nI κ from hκ]
  refine xe_iload_n dX9_begin_7 rfl ?_
  refine xe_iload_n dX9_begin_8 rfl ?_
  refine xe_iload_n dX9_begin_9 rfl ?_
  refine xe_callv (k2 := kX9_byKind) (vs := [_, _, _, _]) dX9_begin_10 okX9_byKind mlX9_255 imX9_byKind slX9_byKind (Or.inl ⟨9, _, _, by decide, rfl, rfl, rfl⟩) rfl rfl (Nat.le_of_ble_eq_true rfl) (Nat.le_of_ble_eq_true rfl) (hB d (by omega) x t ht _ ?_)
  refine xe_iret dX9_begin_13 rfl rfl ?_
  exact h

theorem sX9_byKind {σ : xSt} (hM : MCo σ) (κ i : Nat) (hi : i < 6) (hκ7 : κ < 7) (hκ : σ.2.1 116 (9 * i) = nI κ) : ∀ (n k a : Nat), k < 7 → a < 3 → okA κ n k a = true → acB σ κ i (σ.2.1 116 (9 * i + 1)) n k a := by
  intro n
  induction n with
  | zero => intro k a hk ha hok; exact absurd hok (by simp [okA])
  | succ n ih =>
    intro k a hk ha hok d hd x t ht Post h
    have h3 : 3 ^ (n + 1) = 3 ^ n + 3 ^ n + 3 ^ n := by rw [Nat.pow_succ]; omega
    have hp : 1 ≤ 3 ^ n := Nat.pos_of_ne_zero (by simp)
    have e1 : ∀ b, (nt t b).1 = t.1 + 1 := fun _ => rfl
    have hM2 : ∀ t, MCo (aS σ t) := fun t => by unfold MCo; rw [aS_A (by decide), aS_A (by decide), aS_A (by decide), aS_A (by decide), aS_A (by decide)]; exact hM
    obtain ⟨d, rfl⟩ : ∃ e, d = e + 1 := ⟨d - 1, by omega⟩
    refine xM_start (lv := [some (.ref 115), some (.int (nI k)), some (.int (nI i)), some (.int (nI a)), some (.int x), none, none]) rfl ?_
    refine xe_iload_n dX9_byKind_0 rfl ?_
    refine xe_istore (lv2 := [_, _, _, _, _, _, _]) dX9_byKind_1 (by decide) rfl ?_
    refine lX9_byKind3 (hM2 t) _ _ x a ha _ 3 k hk (Or.inl rfl) ?_
    rw [aF] at h
    rw [okA] at hok
    have eB : aB a k = xBODIES (3 * fndK a 3 k + a) := rfl
    have eU : aU a k = cN (xABOVE (fndK a 3 k)) := rfl
    rcases fnd_all k hk a ha with ⟨q, rfl⟩ | ⟨q, rfl⟩ | ⟨q, rfl⟩ | ⟨q, rfl⟩ | ⟨q, rfl⟩ | ⟨q, rfl⟩ | ⟨q, rfl⟩ | ⟨q, rfl⟩ | ⟨q, rfl⟩ | ⟨q, rfl⟩ | ⟨q, rfl⟩
    · skip
      have eb : aB 0 k = 10 := by rw [eB, q]; rfl
      rw [eb] at h
      rw [if_pos (show (10 : Int32) = 10 from rfl)] at h
      rw [q]
      refine xe_aload_n dX9_byKind_29 rfl ?_
      refine xe_getr dX9_byKind_30 flX9_59 (by decide) rfl rfl ?_
      refine xe_iload dX9_byKind_33 rfl ?_
      refine xn_iaload (j := 0) dX9_byKind_35 (by decide) rfl rfl (by omega) (by decide) ?_
      rw [(hM2 t).2.2.2.1 0 (by omega)]
      refine xe_istore (lv2 := [_, _, _, _, _, _, _]) dX9_byKind_36 (by decide) rfl ?_
      refine xe_aload_n dX9_byKind_38 rfl ?_
      refine xe_aload_n dX9_byKind_39 rfl ?_
      refine xe_getr dX9_byKind_40 flX9_62 (by decide) rfl rfl ?_
      refine xe_iconst (v := 3) dX9_byKind_43 rfl ?_
      refine xe_iload dX9_byKind_44 rfl ?_
      refine xe_imul dX9_byKind_46 ?_
      refine xe_iload_n dX9_byKind_47 rfl ?_
      refine xe_iadd dX9_byKind_48 ?_
      refine xn_iaload (j := 0) dX9_byKind_49 (by decide) rfl rfl (by omega) (by decide) ?_
      rw [(hM2 t).2.2.2.2 0 (by omega)]
      refine xe_callv (k2 := kX9_body) (vs := [_]) dX9_byKind_50 okX9_body mlX9_259 imX9_body slX9_body (Or.inl ⟨9, _, _, by decide, rfl, rfl, rfl⟩) rfl rfl (Nat.le_of_ble_eq_true rfl) (Nat.le_of_ble_eq_true rfl) (sX9_body (by omega) t 10 (by omega) ?_)
      refine xe_lookup (off := 91) (tgt := 144) dX9_byKind_53 (by decide) (by decide) (by decide) ?_
      refine xe_iload dX9_byKind_144 rfl ?_
      refine xe_iload_n dX9_byKind_146 rfl ?_
      refine xe_iadd dX9_byKind_147 ?_
      refine xe_iret dX9_byKind_148 rfl rfl ?_
      exact h
    · skip
      have eb : aB 1 k = 11 := by rw [eB, q]; rfl
      rw [eb] at h hok
      rw [if_neg (show ¬ (11 : Int32) = 10 by decide), if_pos (show (11 : Int32) = 11 from rfl)] at h hok
      rw [q]
      refine xe_aload_n dX9_byKind_29 rfl ?_
      refine xe_getr dX9_byKind_30 flX9_59 (by decide) rfl rfl ?_
      refine xe_iload dX9_byKind_33 rfl ?_
      refine xn_iaload (j := 0) dX9_byKind_35 (by decide) rfl rfl (by omega) (by decide) ?_
      rw [(hM2 t).2.2.2.1 0 (by omega)]
      refine xe_istore (lv2 := [_, _, _, _, _, _, _]) dX9_byKind_36 (by decide) rfl ?_
      refine xe_aload_n dX9_byKind_38 rfl ?_
      refine xe_aload_n dX9_byKind_39 rfl ?_
      refine xe_getr dX9_byKind_40 flX9_62 (by decide) rfl rfl ?_
      refine xe_iconst (v := 3) dX9_byKind_43 rfl ?_
      refine xe_iload dX9_byKind_44 rfl ?_
      refine xe_imul dX9_byKind_46 ?_
      refine xe_iload_n dX9_byKind_47 rfl ?_
      refine xe_iadd dX9_byKind_48 ?_
      refine xn_iaload (j := 1) dX9_byKind_49 (by decide) rfl rfl (by omega) (by decide) ?_
      rw [(hM2 t).2.2.2.2 1 (by omega)]
      refine xe_callv (k2 := kX9_body) (vs := [_]) dX9_byKind_50 okX9_body mlX9_259 imX9_body slX9_body (Or.inl ⟨9, _, _, by decide, rfl, rfl, rfl⟩) rfl rfl (Nat.le_of_ble_eq_true rfl) (Nat.le_of_ble_eq_true rfl) (sX9_body (by omega) t 11 (by omega) ?_)
      refine xe_lookup (off := 96) (tgt := 149) dX9_byKind_53 (by decide) (by decide) (by decide) ?_
      refine xe_aload_n dX9_byKind_149 rfl ?_
      refine xe_iload_n dX9_byKind_150 rfl ?_
      refine xe_iconst (v := 0) dX9_byKind_151 rfl ?_
      refine xe_iload dX9_byKind_152 rfl ?_
      refine xe_callv (k2 := kX9_begin) (vs := [_, _, _]) dX9_byKind_154 okX9_begin mlX9_262 imX9_begin slX9_begin (Or.inl ⟨9, _, _, by decide, rfl, rfl, rfl⟩) rfl rfl (Nat.le_of_ble_eq_true rfl) (Nat.le_of_ble_eq_true rfl) (sX9_begin κ i hi (σ.2.1 116 (9 * i + 1)) hκ n 0 (ih κ 0 hκ7 (by omega) hok) (by omega) x (nt t 11) (by rw [e1]; omega) ?_)
      refine xe_aload_n dX9_byKind_157 rfl ?_
      refine xe_iload_n dX9_byKind_158 rfl ?_
      refine xe_iconst (v := 1) dX9_byKind_159 rfl ?_
      refine xe_callv (k2 := kX9_one) (vs := [_, _]) dX9_byKind_160 okX9_one mlX9_93 imX9_one slX9_one (Or.inl ⟨9, _, _, by decide, rfl, rfl, rfl⟩) rfl rfl (Nat.le_of_ble_eq_true rfl) (Nat.le_of_ble_eq_true rfl) (sX9_one (by omega) i 1 (by omega) ?_)
      rw [aS_A (by decide)]
      refine xe_isub dX9_byKind_163 ?_
      refine xe_iret dX9_byKind_164 rfl rfl ?_
      exact h
    · skip
      have eb : aB 2 k = 12 := by rw [eB, q]; rfl
      rw [eb] at h hok
      rw [if_neg (show ¬ (12 : Int32) = 10 by decide), if_neg (show ¬ (12 : Int32) = 11 by decide), if_pos (show (12 : Int32) = 12 from rfl)] at h hok
      rw [q]
      refine xe_aload_n dX9_byKind_29 rfl ?_
      refine xe_getr dX9_byKind_30 flX9_59 (by decide) rfl rfl ?_
      refine xe_iload dX9_byKind_33 rfl ?_
      refine xn_iaload (j := 0) dX9_byKind_35 (by decide) rfl rfl (by omega) (by decide) ?_
      rw [(hM2 t).2.2.2.1 0 (by omega)]
      refine xe_istore (lv2 := [_, _, _, _, _, _, _]) dX9_byKind_36 (by decide) rfl ?_
      refine xe_aload_n dX9_byKind_38 rfl ?_
      refine xe_aload_n dX9_byKind_39 rfl ?_
      refine xe_getr dX9_byKind_40 flX9_62 (by decide) rfl rfl ?_
      refine xe_iconst (v := 3) dX9_byKind_43 rfl ?_
      refine xe_iload dX9_byKind_44 rfl ?_
      refine xe_imul dX9_byKind_46 ?_
      refine xe_iload_n dX9_byKind_47 rfl ?_
      refine xe_iadd dX9_byKind_48 ?_
      refine xn_iaload (j := 2) dX9_byKind_49 (by decide) rfl rfl (by omega) (by decide) ?_
      rw [(hM2 t).2.2.2.2 2 (by omega)]
      refine xe_callv (k2 := kX9_body) (vs := [_]) dX9_byKind_50 okX9_body mlX9_259 imX9_body slX9_body (Or.inl ⟨9, _, _, by decide, rfl, rfl, rfl⟩) rfl rfl (Nat.le_of_ble_eq_true rfl) (Nat.le_of_ble_eq_true rfl) (sX9_body (by omega) t 12 (by omega) ?_)
      refine xe_lookup (off := 112) (tgt := 165) dX9_byKind_53 (by decide) (by decide) (by decide) ?_
      refine xe_aload_n dX9_byKind_165 rfl ?_
      refine xe_iload_n dX9_byKind_166 rfl ?_
      refine xe_iconst (v := 1) dX9_byKind_167 rfl ?_
      refine xe_iload dX9_byKind_168 rfl ?_
      refine xe_callv (k2 := kX9_begin) (vs := [_, _, _]) dX9_byKind_170 okX9_begin mlX9_262 imX9_begin slX9_begin (Or.inl ⟨9, _, _, by decide, rfl, rfl, rfl⟩) rfl rfl (Nat.le_of_ble_eq_true rfl) (Nat.le_of_ble_eq_true rfl) (sX9_begin κ i hi (σ.2.1 116 (9 * i + 1)) hκ n 1 (ih κ 1 hκ7 (by omega) hok) (by omega) x (nt t 12) (by rw [e1]; omega) ?_)
      refine xe_iconst (v := 2) dX9_byKind_173 rfl ?_
      refine xe_imul dX9_byKind_174 ?_
      refine xe_iret dX9_byKind_175 rfl rfl ?_
      exact h
    · skip
      have eb : aB 1 k = 20 := by rw [eB, q]; rfl
      have eu : aU 1 k = 0 := by rw [eU, q]; rfl
      rw [eb] at h hok
      rw [eu] at h hok
      rw [if_neg (show ¬ (20 : Int32) = 10 by decide), if_neg (show ¬ (20 : Int32) = 11 by decide), if_neg (show ¬ (20 : Int32) = 12 by decide), if_pos (show (20 : Int32) = 20 from rfl)] at h hok
      rw [q]
      refine xe_aload_n dX9_byKind_29 rfl ?_
      refine xe_getr dX9_byKind_30 flX9_59 (by decide) rfl rfl ?_
      refine xe_iload dX9_byKind_33 rfl ?_
      refine xn_iaload (j := 1) dX9_byKind_35 (by decide) rfl rfl (by omega) (by decide) ?_
      rw [(hM2 t).2.2.2.1 1 (by omega)]
      refine xe_istore (lv2 := [_, _, _, _, _, _, _]) dX9_byKind_36 (by decide) rfl ?_
      refine xe_aload_n dX9_byKind_38 rfl ?_
      refine xe_aload_n dX9_byKind_39 rfl ?_
      refine xe_getr dX9_byKind_40 flX9_62 (by decide) rfl rfl ?_
      refine xe_iconst (v := 3) dX9_byKind_43 rfl ?_
      refine xe_iload dX9_byKind_44 rfl ?_
      refine xe_imul dX9_byKind_46 ?_
      refine xe_iload_n dX9_byKind_47 rfl ?_
      refine xe_iadd dX9_byKind_48 ?_
      refine xn_iaload (j := 4) dX9_byKind_49 (by decide) rfl rfl (by omega) (by decide) ?_
      rw [(hM2 t).2.2.2.2 4 (by omega)]
      refine xe_callv (k2 := kX9_body) (vs := [_]) dX9_byKind_50 okX9_body mlX9_259 imX9_body slX9_body (Or.inl ⟨9, _, _, by decide, rfl, rfl, rfl⟩) rfl rfl (Nat.le_of_ble_eq_true rfl) (Nat.le_of_ble_eq_true rfl) (sX9_body (by omega) t 20 (by omega) ?_)
      refine xe_lookup (off := 123) (tgt := 176) dX9_byKind_53 (by decide) (by decide) (by decide) ?_
      refine xe_aload_n dX9_byKind_176 rfl ?_
      refine xe_iload dX9_byKind_177 rfl ?_
      refine xe_iload_n dX9_byKind_179 rfl ?_
      refine xe_iconst (v := 1) dX9_byKind_180 rfl ?_
      refine xe_iload dX9_byKind_181 rfl ?_
      refine xe_callv (k2 := kX9_byKind) (vs := [_, _, _, _]) dX9_byKind_183 okX9_byKind mlX9_255 imX9_byKind slX9_byKind (Or.inl ⟨9, _, _, by decide, rfl, rfl, rfl⟩) rfl rfl (Nat.le_of_ble_eq_true rfl) (Nat.le_of_ble_eq_true rfl) (ih 0 1 (by omega) (by omega) hok d (by omega) x (nt t 20) (by rw [e1]; omega) _ ?_)
      refine xe_bipush (v := 6) dX9_byKind_186 rfl ?_
      refine xe_ixor dX9_byKind_188 ?_
      refine xe_iret dX9_byKind_189 rfl rfl ?_
      exact h
    · skip
      have eb : aB 0 k = 30 := by rw [eB, q]; rfl
      have eu : aU 0 k = 0 := by rw [eU, q]; rfl
      rw [eb] at h hok
      rw [eu] at h hok
      rw [if_neg (show ¬ (30 : Int32) = 10 by decide), if_neg (show ¬ (30 : Int32) = 11 by decide), if_neg (show ¬ (30 : Int32) = 12 by decide), if_neg (show ¬ (30 : Int32) = 20 by decide), if_pos (show (30 : Int32) = 30 from rfl)] at h hok
      rw [q]
      refine xe_aload_n dX9_byKind_29 rfl ?_
      refine xe_getr dX9_byKind_30 flX9_59 (by decide) rfl rfl ?_
      refine xe_iload dX9_byKind_33 rfl ?_
      refine xn_iaload (j := 2) dX9_byKind_35 (by decide) rfl rfl (by omega) (by decide) ?_
      rw [(hM2 t).2.2.2.1 2 (by omega)]
      refine xe_istore (lv2 := [_, _, _, _, _, _, _]) dX9_byKind_36 (by decide) rfl ?_
      refine xe_aload_n dX9_byKind_38 rfl ?_
      refine xe_aload_n dX9_byKind_39 rfl ?_
      refine xe_getr dX9_byKind_40 flX9_62 (by decide) rfl rfl ?_
      refine xe_iconst (v := 3) dX9_byKind_43 rfl ?_
      refine xe_iload dX9_byKind_44 rfl ?_
      refine xe_imul dX9_byKind_46 ?_
      refine xe_iload_n dX9_byKind_47 rfl ?_
      refine xe_iadd dX9_byKind_48 ?_
      refine xn_iaload (j := 6) dX9_byKind_49 (by decide) rfl rfl (by omega) (by decide) ?_
      rw [(hM2 t).2.2.2.2 6 (by omega)]
      refine xe_callv (k2 := kX9_body) (vs := [_]) dX9_byKind_50 okX9_body mlX9_259 imX9_body slX9_body (Or.inl ⟨9, _, _, by decide, rfl, rfl, rfl⟩) rfl rfl (Nat.le_of_ble_eq_true rfl) (Nat.le_of_ble_eq_true rfl) (sX9_body (by omega) t 30 (by omega) ?_)
      refine xe_lookup (off := 137) (tgt := 190) dX9_byKind_53 (by decide) (by decide) (by decide) ?_
      refine xe_aload_n dX9_byKind_190 rfl ?_
      refine xe_iload dX9_byKind_191 rfl ?_
      refine xe_iload_n dX9_byKind_193 rfl ?_
      refine xe_iconst (v := 0) dX9_byKind_194 rfl ?_
      refine xe_iload dX9_byKind_195 rfl ?_
      refine xe_iconst (v := 3) dX9_byKind_197 rfl ?_
      refine xe_imul dX9_byKind_198 ?_
      refine xe_callv (k2 := kX9_byKind) (vs := [_, _, _, _]) dX9_byKind_199 okX9_byKind mlX9_255 imX9_byKind slX9_byKind (Or.inl ⟨9, _, _, by decide, rfl, rfl, rfl⟩) rfl rfl (Nat.le_of_ble_eq_true rfl) (Nat.le_of_ble_eq_true rfl) (ih 0 0 (by omega) (by omega) hok d (by omega) (x * 3) (nt t 30) (by rw [e1]; omega) _ ?_)
      refine xe_iret dX9_byKind_202 rfl rfl ?_
      exact h
    · skip
      have eb : aB 2 k = 40 := by rw [eB, q]; rfl
      have eu : aU 2 k = 0 := by rw [eU, q]; rfl
      rw [eb] at h hok
      rw [eu] at h hok
      rw [if_neg (show ¬ (40 : Int32) = 10 by decide), if_neg (show ¬ (40 : Int32) = 11 by decide), if_neg (show ¬ (40 : Int32) = 12 by decide), if_neg (show ¬ (40 : Int32) = 20 by decide), if_neg (show ¬ (40 : Int32) = 30 by decide), if_pos (show (40 : Int32) = 40 from rfl)] at h hok
      rw [Bool.and_eq_true] at hok
      rw [q]
      refine xe_aload_n dX9_byKind_29 rfl ?_
      refine xe_getr dX9_byKind_30 flX9_59 (by decide) rfl rfl ?_
      refine xe_iload dX9_byKind_33 rfl ?_
      refine xn_iaload (j := 3) dX9_byKind_35 (by decide) rfl rfl (by omega) (by decide) ?_
      rw [(hM2 t).2.2.2.1 3 (by omega)]
      refine xe_istore (lv2 := [_, _, _, _, _, _, _]) dX9_byKind_36 (by decide) rfl ?_
      refine xe_aload_n dX9_byKind_38 rfl ?_
      refine xe_aload_n dX9_byKind_39 rfl ?_
      refine xe_getr dX9_byKind_40 flX9_62 (by decide) rfl rfl ?_
      refine xe_iconst (v := 3) dX9_byKind_43 rfl ?_
      refine xe_iload dX9_byKind_44 rfl ?_
      refine xe_imul dX9_byKind_46 ?_
      refine xe_iload_n dX9_byKind_47 rfl ?_
      refine xe_iadd dX9_byKind_48 ?_
      refine xn_iaload (j := 11) dX9_byKind_49 (by decide) rfl rfl (by omega) (by decide) ?_
      rw [(hM2 t).2.2.2.2 11 (by omega)]
      refine xe_callv (k2 := kX9_body) (vs := [_]) dX9_byKind_50 okX9_body mlX9_259 imX9_body slX9_body (Or.inl ⟨9, _, _, by decide, rfl, rfl, rfl⟩) rfl rfl (Nat.le_of_ble_eq_true rfl) (Nat.le_of_ble_eq_true rfl) (sX9_body (by omega) t 40 (by omega) ?_)
      refine xe_lookup (off := 150) (tgt := 203) dX9_byKind_53 (by decide) (by decide) (by decide) ?_
      refine xe_aload_n dX9_byKind_203 rfl ?_
      refine xe_iload dX9_byKind_204 rfl ?_
      refine xe_iload_n dX9_byKind_206 rfl ?_
      refine xe_iconst (v := 2) dX9_byKind_207 rfl ?_
      refine xe_iload dX9_byKind_208 rfl ?_
      refine xe_callv (k2 := kX9_byKind) (vs := [_, _, _, _]) dX9_byKind_210 okX9_byKind mlX9_255 imX9_byKind slX9_byKind (Or.inl ⟨9, _, _, by decide, rfl, rfl, rfl⟩) rfl rfl (Nat.le_of_ble_eq_true rfl) (Nat.le_of_ble_eq_true rfl) (ih 0 2 (by omega) (by omega) hok.1 d (by omega) x (nt t 40) (by rw [e1]; omega) _ ?_)
      refine xe_aload_n dX9_byKind_213 rfl ?_
      refine xe_iload_n dX9_byKind_214 rfl ?_
      refine xe_iconst (v := 1) dX9_byKind_215 rfl ?_
      refine xe_iconst (v := 1) dX9_byKind_216 rfl ?_
      refine xe_callv (k2 := kX9_begin) (vs := [_, _, _]) dX9_byKind_217 okX9_begin mlX9_262 imX9_begin slX9_begin (Or.inl ⟨9, _, _, by decide, rfl, rfl, rfl⟩) rfl rfl (Nat.le_of_ble_eq_true rfl) (Nat.le_of_ble_eq_true rfl) (sX9_begin κ i hi (σ.2.1 116 (9 * i + 1)) hκ n 1 (ih κ 1 hκ7 (by omega) hok.2) (by omega) 1 (aF κ i (σ.2.1 116 (9 * i + 1)) n 0 2 x (nt t 40)).2 (by have := aF_le κ i (σ.2.1 116 (9 * i + 1)) n 0 2 x (nt t 40); rw [e1] at this; omega) ?_)
      refine xe_iadd dX9_byKind_220 ?_
      refine xe_iret dX9_byKind_221 rfl rfl ?_
      exact h
    · skip
      have eb : aB 0 k = 50 := by rw [eB, q]; rfl
      have eu : aU 0 k = 1 := by rw [eU, q]; rfl
      rw [eb] at h hok
      rw [eu] at h hok
      rw [if_neg (show ¬ (50 : Int32) = 10 by decide), if_neg (show ¬ (50 : Int32) = 11 by decide), if_neg (show ¬ (50 : Int32) = 12 by decide), if_neg (show ¬ (50 : Int32) = 20 by decide), if_neg (show ¬ (50 : Int32) = 30 by decide), if_neg (show ¬ (50 : Int32) = 40 by decide), if_pos (show (50 : Int32) = 50 from rfl)] at h hok
      rw [q]
      refine xe_aload_n dX9_byKind_29 rfl ?_
      refine xe_getr dX9_byKind_30 flX9_59 (by decide) rfl rfl ?_
      refine xe_iload dX9_byKind_33 rfl ?_
      refine xn_iaload (j := 4) dX9_byKind_35 (by decide) rfl rfl (by omega) (by decide) ?_
      rw [(hM2 t).2.2.2.1 4 (by omega)]
      refine xe_istore (lv2 := [_, _, _, _, _, _, _]) dX9_byKind_36 (by decide) rfl ?_
      refine xe_aload_n dX9_byKind_38 rfl ?_
      refine xe_aload_n dX9_byKind_39 rfl ?_
      refine xe_getr dX9_byKind_40 flX9_62 (by decide) rfl rfl ?_
      refine xe_iconst (v := 3) dX9_byKind_43 rfl ?_
      refine xe_iload dX9_byKind_44 rfl ?_
      refine xe_imul dX9_byKind_46 ?_
      refine xe_iload_n dX9_byKind_47 rfl ?_
      refine xe_iadd dX9_byKind_48 ?_
      refine xn_iaload (j := 12) dX9_byKind_49 (by decide) rfl rfl (by omega) (by decide) ?_
      rw [(hM2 t).2.2.2.2 12 (by omega)]
      refine xe_callv (k2 := kX9_body) (vs := [_]) dX9_byKind_50 okX9_body mlX9_259 imX9_body slX9_body (Or.inl ⟨9, _, _, by decide, rfl, rfl, rfl⟩) rfl rfl (Nat.le_of_ble_eq_true rfl) (Nat.le_of_ble_eq_true rfl) (sX9_body (by omega) t 50 (by omega) ?_)
      refine xe_lookup (off := 169) (tgt := 222) dX9_byKind_53 (by decide) (by decide) (by decide) ?_
      refine xe_aload_n dX9_byKind_222 rfl ?_
      refine xe_iload dX9_byKind_223 rfl ?_
      refine xe_iload_n dX9_byKind_225 rfl ?_
      refine xe_iconst (v := 0) dX9_byKind_226 rfl ?_
      refine xe_iload dX9_byKind_227 rfl ?_
      refine xe_callv (k2 := kX9_byKind) (vs := [_, _, _, _]) dX9_byKind_229 okX9_byKind mlX9_255 imX9_byKind slX9_byKind (Or.inl ⟨9, _, _, by decide, rfl, rfl, rfl⟩) rfl rfl (Nat.le_of_ble_eq_true rfl) (Nat.le_of_ble_eq_true rfl) (ih 1 0 (by omega) (by omega) hok d (by omega) x (nt t 50) (by rw [e1]; omega) _ ?_)
      refine xe_ineg dX9_byKind_232 ?_
      refine xe_iret dX9_byKind_233 rfl rfl ?_
      exact h
    · skip
      have eb : aB 1 k = 51 := by rw [eB, q]; rfl
      have eu : aU 1 k = 1 := by rw [eU, q]; rfl
      rw [eb] at h hok
      rw [eu] at h hok
      rw [if_neg (show ¬ (51 : Int32) = 10 by decide), if_neg (show ¬ (51 : Int32) = 11 by decide), if_neg (show ¬ (51 : Int32) = 12 by decide), if_neg (show ¬ (51 : Int32) = 20 by decide), if_neg (show ¬ (51 : Int32) = 30 by decide), if_neg (show ¬ (51 : Int32) = 40 by decide), if_neg (show ¬ (51 : Int32) = 50 by decide), if_pos (show (51 : Int32) = 51 from rfl)] at h hok
      rw [q]
      refine xe_aload_n dX9_byKind_29 rfl ?_
      refine xe_getr dX9_byKind_30 flX9_59 (by decide) rfl rfl ?_
      refine xe_iload dX9_byKind_33 rfl ?_
      refine xn_iaload (j := 4) dX9_byKind_35 (by decide) rfl rfl (by omega) (by decide) ?_
      rw [(hM2 t).2.2.2.1 4 (by omega)]
      refine xe_istore (lv2 := [_, _, _, _, _, _, _]) dX9_byKind_36 (by decide) rfl ?_
      refine xe_aload_n dX9_byKind_38 rfl ?_
      refine xe_aload_n dX9_byKind_39 rfl ?_
      refine xe_getr dX9_byKind_40 flX9_62 (by decide) rfl rfl ?_
      refine xe_iconst (v := 3) dX9_byKind_43 rfl ?_
      refine xe_iload dX9_byKind_44 rfl ?_
      refine xe_imul dX9_byKind_46 ?_
      refine xe_iload_n dX9_byKind_47 rfl ?_
      refine xe_iadd dX9_byKind_48 ?_
      refine xn_iaload (j := 13) dX9_byKind_49 (by decide) rfl rfl (by omega) (by decide) ?_
      rw [(hM2 t).2.2.2.2 13 (by omega)]
      refine xe_callv (k2 := kX9_body) (vs := [_]) dX9_byKind_50 okX9_body mlX9_259 imX9_body slX9_body (Or.inl ⟨9, _, _, by decide, rfl, rfl, rfl⟩) rfl rfl (Nat.le_of_ble_eq_true rfl) (Nat.le_of_ble_eq_true rfl) (sX9_body (by omega) t 51 (by omega) ?_)
      refine xe_lookup (off := 181) (tgt := 234) dX9_byKind_53 (by decide) (by decide) (by decide) ?_
      refine xe_aload_n dX9_byKind_234 rfl ?_
      refine xe_iload dX9_byKind_235 rfl ?_
      refine xe_iload_n dX9_byKind_237 rfl ?_
      refine xe_iconst (v := 1) dX9_byKind_238 rfl ?_
      refine xe_iload dX9_byKind_239 rfl ?_
      refine xe_iconst (v := 1) dX9_byKind_241 rfl ?_
      refine xe_iadd dX9_byKind_242 ?_
      refine xe_callv (k2 := kX9_byKind) (vs := [_, _, _, _]) dX9_byKind_243 okX9_byKind mlX9_255 imX9_byKind slX9_byKind (Or.inl ⟨9, _, _, by decide, rfl, rfl, rfl⟩) rfl rfl (Nat.le_of_ble_eq_true rfl) (Nat.le_of_ble_eq_true rfl) (ih 1 1 (by omega) (by omega) hok d (by omega) (x + 1) (nt t 51) (by rw [e1]; omega) _ ?_)
      refine xe_iret dX9_byKind_246 rfl rfl ?_
      exact h
    · skip
      have eb : aB 2 k = 60 := by rw [eB, q]; rfl
      have eu : aU 2 k = 2 := by rw [eU, q]; rfl
      rw [eb] at h hok
      rw [eu] at h hok
      rw [if_neg (show ¬ (60 : Int32) = 10 by decide), if_neg (show ¬ (60 : Int32) = 11 by decide), if_neg (show ¬ (60 : Int32) = 12 by decide), if_neg (show ¬ (60 : Int32) = 20 by decide), if_neg (show ¬ (60 : Int32) = 30 by decide), if_neg (show ¬ (60 : Int32) = 40 by decide), if_neg (show ¬ (60 : Int32) = 50 by decide), if_neg (show ¬ (60 : Int32) = 51 by decide), if_pos (show (60 : Int32) = 60 from rfl)] at h hok
      rw [q]
      refine xe_aload_n dX9_byKind_29 rfl ?_
      refine xe_getr dX9_byKind_30 flX9_59 (by decide) rfl rfl ?_
      refine xe_iload dX9_byKind_33 rfl ?_
      refine xn_iaload (j := 5) dX9_byKind_35 (by decide) rfl rfl (by omega) (by decide) ?_
      rw [(hM2 t).2.2.2.1 5 (by omega)]
      refine xe_istore (lv2 := [_, _, _, _, _, _, _]) dX9_byKind_36 (by decide) rfl ?_
      refine xe_aload_n dX9_byKind_38 rfl ?_
      refine xe_aload_n dX9_byKind_39 rfl ?_
      refine xe_getr dX9_byKind_40 flX9_62 (by decide) rfl rfl ?_
      refine xe_iconst (v := 3) dX9_byKind_43 rfl ?_
      refine xe_iload dX9_byKind_44 rfl ?_
      refine xe_imul dX9_byKind_46 ?_
      refine xe_iload_n dX9_byKind_47 rfl ?_
      refine xe_iadd dX9_byKind_48 ?_
      refine xn_iaload (j := 17) dX9_byKind_49 (by decide) rfl rfl (by omega) (by decide) ?_
      rw [(hM2 t).2.2.2.2 17 (by omega)]
      refine xe_callv (k2 := kX9_body) (vs := [_]) dX9_byKind_50 okX9_body mlX9_259 imX9_body slX9_body (Or.inl ⟨9, _, _, by decide, rfl, rfl, rfl⟩) rfl rfl (Nat.le_of_ble_eq_true rfl) (Nat.le_of_ble_eq_true rfl) (sX9_body (by omega) t 60 (by omega) ?_)
      refine xe_lookup (off := 194) (tgt := 247) dX9_byKind_53 (by decide) (by decide) (by decide) ?_
      refine xe_aload_n dX9_byKind_247 rfl ?_
      refine xe_iload dX9_byKind_248 rfl ?_
      refine xe_iload_n dX9_byKind_250 rfl ?_
      refine xe_iconst (v := 2) dX9_byKind_251 rfl ?_
      refine xe_iload dX9_byKind_252 rfl ?_
      refine xe_iload_n dX9_byKind_254 rfl ?_
      refine xe_isub dX9_byKind_255 ?_
      refine xe_callv (k2 := kX9_byKind) (vs := [_, _, _, _]) dX9_byKind_256 okX9_byKind mlX9_255 imX9_byKind slX9_byKind (Or.inl ⟨9, _, _, by decide, rfl, rfl, rfl⟩) rfl rfl (Nat.le_of_ble_eq_true rfl) (Nat.le_of_ble_eq_true rfl) (ih 2 2 (by omega) (by omega) hok d (by omega) (x - nI i) (nt t 60) (by rw [e1]; omega) _ ?_)
      refine xe_iret dX9_byKind_259 rfl rfl ?_
      exact h
    · skip
      have eb : aB 1 k = 70 := by rw [eB, q]; rfl
      have eu : aU 1 k = 3 := by rw [eU, q]; rfl
      rw [eb] at h hok
      rw [eu] at h hok
      rw [if_neg (show ¬ (70 : Int32) = 10 by decide), if_neg (show ¬ (70 : Int32) = 11 by decide), if_neg (show ¬ (70 : Int32) = 12 by decide), if_neg (show ¬ (70 : Int32) = 20 by decide), if_neg (show ¬ (70 : Int32) = 30 by decide), if_neg (show ¬ (70 : Int32) = 40 by decide), if_neg (show ¬ (70 : Int32) = 50 by decide), if_neg (show ¬ (70 : Int32) = 51 by decide), if_neg (show ¬ (70 : Int32) = 60 by decide), if_pos (show (70 : Int32) = 70 from rfl)] at h hok
      rw [Bool.and_eq_true] at hok
      rw [q]
      refine xe_aload_n dX9_byKind_29 rfl ?_
      refine xe_getr dX9_byKind_30 flX9_59 (by decide) rfl rfl ?_
      refine xe_iload dX9_byKind_33 rfl ?_
      refine xn_iaload (j := 6) dX9_byKind_35 (by decide) rfl rfl (by omega) (by decide) ?_
      rw [(hM2 t).2.2.2.1 6 (by omega)]
      refine xe_istore (lv2 := [_, _, _, _, _, _, _]) dX9_byKind_36 (by decide) rfl ?_
      refine xe_aload_n dX9_byKind_38 rfl ?_
      refine xe_aload_n dX9_byKind_39 rfl ?_
      refine xe_getr dX9_byKind_40 flX9_62 (by decide) rfl rfl ?_
      refine xe_iconst (v := 3) dX9_byKind_43 rfl ?_
      refine xe_iload dX9_byKind_44 rfl ?_
      refine xe_imul dX9_byKind_46 ?_
      refine xe_iload_n dX9_byKind_47 rfl ?_
      refine xe_iadd dX9_byKind_48 ?_
      refine xn_iaload (j := 19) dX9_byKind_49 (by decide) rfl rfl (by omega) (by decide) ?_
      rw [(hM2 t).2.2.2.2 19 (by omega)]
      refine xe_callv (k2 := kX9_body) (vs := [_]) dX9_byKind_50 okX9_body mlX9_259 imX9_body slX9_body (Or.inl ⟨9, _, _, by decide, rfl, rfl, rfl⟩) rfl rfl (Nat.le_of_ble_eq_true rfl) (Nat.le_of_ble_eq_true rfl) (sX9_body (by omega) t 70 (by omega) ?_)
      refine xe_lookup (off := 207) (tgt := 260) dX9_byKind_53 (by decide) (by decide) (by decide) ?_
      refine xe_aload_n dX9_byKind_260 rfl ?_
      refine xe_iload dX9_byKind_261 rfl ?_
      refine xe_iload_n dX9_byKind_263 rfl ?_
      refine xe_iconst (v := 1) dX9_byKind_264 rfl ?_
      refine xe_iload dX9_byKind_265 rfl ?_
      refine xe_callv (k2 := kX9_byKind) (vs := [_, _, _, _]) dX9_byKind_267 okX9_byKind mlX9_255 imX9_byKind slX9_byKind (Or.inl ⟨9, _, _, by decide, rfl, rfl, rfl⟩) rfl rfl (Nat.le_of_ble_eq_true rfl) (Nat.le_of_ble_eq_true rfl) (ih 3 1 (by omega) (by omega) hok.1 d (by omega) x (nt t 70) (by rw [e1]; omega) _ ?_)
      refine xe_aload_n dX9_byKind_270 rfl ?_
      refine xe_iload dX9_byKind_271 rfl ?_
      refine xe_iload_n dX9_byKind_273 rfl ?_
      refine xe_iconst (v := 0) dX9_byKind_274 rfl ?_
      refine xe_iconst (v := 2) dX9_byKind_275 rfl ?_
      refine xe_callv (k2 := kX9_byKind) (vs := [_, _, _, _]) dX9_byKind_276 okX9_byKind mlX9_255 imX9_byKind slX9_byKind (Or.inl ⟨9, _, _, by decide, rfl, rfl, rfl⟩) rfl rfl (Nat.le_of_ble_eq_true rfl) (Nat.le_of_ble_eq_true rfl) (ih 3 0 (by omega) (by omega) hok.2 d (by omega) 2 (aF κ i (σ.2.1 116 (9 * i + 1)) n 3 1 x (nt t 70)).2 (by have := aF_le κ i (σ.2.1 116 (9 * i + 1)) n 3 1 x (nt t 70); rw [e1] at this; omega) _ ?_)
      refine xe_iadd dX9_byKind_279 ?_
      refine xe_iret dX9_byKind_280 rfl rfl ?_
      exact h
    · skip
      have eb : aB 0 k = 71 := by rw [eB, q]; rfl
      have eu : aU 0 k = 3 := by rw [eU, q]; rfl
      rw [eb] at h hok
      rw [eu] at h hok
      rw [if_neg (show ¬ (71 : Int32) = 10 by decide), if_neg (show ¬ (71 : Int32) = 11 by decide), if_neg (show ¬ (71 : Int32) = 12 by decide), if_neg (show ¬ (71 : Int32) = 20 by decide), if_neg (show ¬ (71 : Int32) = 30 by decide), if_neg (show ¬ (71 : Int32) = 40 by decide), if_neg (show ¬ (71 : Int32) = 50 by decide), if_neg (show ¬ (71 : Int32) = 51 by decide), if_neg (show ¬ (71 : Int32) = 60 by decide), if_neg (show ¬ (71 : Int32) = 70 by decide)] at h hok
      rw [q]
      refine xe_aload_n dX9_byKind_29 rfl ?_
      refine xe_getr dX9_byKind_30 flX9_59 (by decide) rfl rfl ?_
      refine xe_iload dX9_byKind_33 rfl ?_
      refine xn_iaload (j := 6) dX9_byKind_35 (by decide) rfl rfl (by omega) (by decide) ?_
      rw [(hM2 t).2.2.2.1 6 (by omega)]
      refine xe_istore (lv2 := [_, _, _, _, _, _, _]) dX9_byKind_36 (by decide) rfl ?_
      refine xe_aload_n dX9_byKind_38 rfl ?_
      refine xe_aload_n dX9_byKind_39 rfl ?_
      refine xe_getr dX9_byKind_40 flX9_62 (by decide) rfl rfl ?_
      refine xe_iconst (v := 3) dX9_byKind_43 rfl ?_
      refine xe_iload dX9_byKind_44 rfl ?_
      refine xe_imul dX9_byKind_46 ?_
      refine xe_iload_n dX9_byKind_47 rfl ?_
      refine xe_iadd dX9_byKind_48 ?_
      refine xn_iaload (j := 18) dX9_byKind_49 (by decide) rfl rfl (by omega) (by decide) ?_
      rw [(hM2 t).2.2.2.2 18 (by omega)]
      refine xe_callv (k2 := kX9_body) (vs := [_]) dX9_byKind_50 okX9_body mlX9_259 imX9_body slX9_body (Or.inl ⟨9, _, _, by decide, rfl, rfl, rfl⟩) rfl rfl (Nat.le_of_ble_eq_true rfl) (Nat.le_of_ble_eq_true rfl) (sX9_body (by omega) t 71 (by omega) ?_)
      refine xe_lookup (off := 228) (tgt := 281) dX9_byKind_53 (by decide) (by decide) (by decide) ?_
      refine xe_aload_n dX9_byKind_281 rfl ?_
      refine xe_iload dX9_byKind_282 rfl ?_
      refine xe_iload_n dX9_byKind_284 rfl ?_
      refine xe_iconst (v := 0) dX9_byKind_285 rfl ?_
      refine xe_iload dX9_byKind_286 rfl ?_
      refine xe_callv (k2 := kX9_byKind) (vs := [_, _, _, _]) dX9_byKind_288 okX9_byKind mlX9_255 imX9_byKind slX9_byKind (Or.inl ⟨9, _, _, by decide, rfl, rfl, rfl⟩) rfl rfl (Nat.le_of_ble_eq_true rfl) (Nat.le_of_ble_eq_true rfl) (ih 3 0 (by omega) (by omega) hok d (by omega) x (nt t 71) (by rw [e1]; omega) _ ?_)
      refine xe_aload_n dX9_byKind_291 rfl ?_
      refine xe_iload_n dX9_byKind_292 rfl ?_
      refine xe_iconst (v := 1) dX9_byKind_293 rfl ?_
      refine xe_callv (k2 := kX9_one) (vs := [_, _]) dX9_byKind_294 okX9_one mlX9_93 imX9_one slX9_one (Or.inl ⟨9, _, _, by decide, rfl, rfl, rfl⟩) rfl rfl (Nat.le_of_ble_eq_true rfl) (Nat.le_of_ble_eq_true rfl) (sX9_one (by omega) i 1 (by omega) ?_)
      rw [aS_A (by decide)]
      refine xe_ixor dX9_byKind_297 ?_
      refine xe_iret dX9_byKind_298 rfl rfl ?_
      exact h

def actV (G : Nat → Int32) (p a x : Int32) (tr : Nat → Int32) : Int32 × aT := if pOk (G 54) p ∧ rng a 0 2 then aF (cN (G (9 * cN p))) (cN p) (G (9 * cN p + 1)) 7 (cN (G (9 * cN p))) (cN a) x (0, tr) else (0, (0, tr))

theorem sX9_act {d : Nat} (hd : 20 ≤ d) {σ : xSt} {Post : Option Value → xSt → Prop} (n : Nat) (hn : σ.2.1 116 54 = nI n) (h6 : n ≤ 6) (p a x : Int32) (hM : MCo σ) (hk : ∀ i, i < n → ∃ j, j < 7 ∧ σ.2.1 116 (9 * i) = nI j) (h : Post (some (.int (actV (σ.2.1 116) p a x (σ.2.1 133)).1)) (aS σ (actV (σ.2.1 116) p a x (σ.2.1 133)).2)) : xM kX9_act d [.ref 115, .int p, .int a, .int x] σ Post := by
  obtain ⟨d, rfl⟩ : ∃ e, d = e + 1 := ⟨d - 1, by omega⟩
  refine xM_start (lv := [some (.ref 115), some (.int p), some (.int a), some (.int x)]) rfl ?_
  refine xe_aload_n dX9_act_0 rfl ?_
  refine xe_iconst (v := 0) dX9_act_1 rfl ?_
  refine xe_putf dX9_act_2 flX9_252 (by decide) rfl rfl rfl rfl ?_
  have e0 : xsF σ 115 27 0 = aS σ (0, σ.2.1 133) := by unfold aS; rw [xsA_self]; rfl
  refine xe_aload_n dX9_act_5 rfl ?_
  refine xe_iload_n dX9_act_6 rfl ?_
  refine xe_callv (k2 := kX9_isPot) (vs := [_]) dX9_act_7 okX9_isPot mlX9_101 imX9_isPot slX9_isPot (Or.inl ⟨9, _, _, by decide, rfl, rfl, rfl⟩) rfl rfl (Nat.le_of_ble_eq_true rfl) (Nat.le_of_ble_eq_true rfl) (tX9_isPot (by omega) _ n (show (xsF σ 115 27 0).2.1 116 54 = nI n from hn) h6 (fun r7 hr7 => ?_))
  refine xe_if_eq (tgt := 32) dX9_act_10 (by decide) (fun h10 => ?_) (fun h10 => ?_)
  · refine xe_iconst (v := 0) dX9_act_32 rfl ?_
    refine xe_iret dX9_act_33 rfl rfl ?_
    first
    | exact h
    | (have c : ¬ (pOk (σ.2.1 116 54) p ∧ rng a 0 2) := fun z => (xb_eq0 hr16).mp h19 z.2; rw [actV, if_neg c] at h; rw [e0]; exact h)
    | (have c : ¬ (pOk (σ.2.1 116 54) p ∧ rng a 0 2) := fun z => (xb_eq0 hr7).mp h10 (hn ▸ z.1); rw [actV, if_neg c] at h; rw [e0]; exact h)
  · refine xe_iload_n dX9_act_13 rfl ?_
    refine xe_iconst (v := 0) dX9_act_14 rfl ?_
    refine xe_iconst (v := 2) dX9_act_15 rfl ?_
    refine xe_calls (k2 := kX9_isIn) (vs := [_, _, _]) dX9_act_16 okX9_isIn mlX9_89 stX9_isIn rfl rfl (Nat.le_of_ble_eq_true rfl) (Nat.le_of_ble_eq_true rfl) (sX9_isIn (by omega) _ _ _ (fun r16 hr16 => ?_))
    refine xe_if_eq (tgt := 32) dX9_act_19 (by decide) (fun h19 => ?_) (fun h19 => ?_)
    · refine xe_iconst (v := 0) dX9_act_32 rfl ?_
      refine xe_iret dX9_act_33 rfl rfl ?_
      first
      | exact h
      | (have c : ¬ (pOk (σ.2.1 116 54) p ∧ rng a 0 2) := fun z => (xb_eq0 hr16).mp h19 z.2; rw [actV, if_neg c] at h; rw [e0]; exact h)
      | (have c : ¬ (pOk (σ.2.1 116 54) p ∧ rng a 0 2) := fun z => (xb_eq0 hr7).mp h10 (hn ▸ z.1); rw [actV, if_neg c] at h; rw [e0]; exact h)
    · have cp := (xb_ne0 hr7).mp h10
      have ca := (xb_ne0 hr16).mp h19
      obtain ⟨i, hi, rfl⟩ := pOk_nat (by omega) cp
      obtain ⟨u, hu, rfl⟩ := rng_nat (m := 2) (by omega) ca
      obtain ⟨κ, hκ, eκ⟩ := hk i hi
      rw [actV, if_pos ⟨hn ▸ cp, ca⟩, cN_nI (n := i) (by omega), cN_nI (n := u) (by omega), eκ, cN_nI (n := κ) (by omega)] at h
      rw [e0]
      refine xe_aload_n dX9_act_22 rfl ?_
      refine xe_iload_n dX9_act_23 rfl ?_
      refine xe_iload_n dX9_act_24 rfl ?_
      refine xe_iload_n dX9_act_25 rfl ?_
      refine xe_callv (k2 := kX9_begin) (vs := [_, _, _]) dX9_act_26 okX9_begin mlX9_262 imX9_begin slX9_begin (Or.inl ⟨9, _, _, by decide, rfl, rfl, rfl⟩) rfl rfl (Nat.le_of_ble_eq_true rfl) (Nat.le_of_ble_eq_true rfl) (sX9_begin κ i (by omega) (σ.2.1 116 (9 * i + 1)) eκ 7 u (sX9_byKind hM κ i (by omega) hκ eκ 7 κ u hκ (by omega) (okA_7 κ hκ u (by omega))) (by omega) x (0, σ.2.1 133) (show 0 + 3 ^ 7 ≤ 1000000 by decide) ?_)
      refine xe_goto (tgt := 33) dX9_act_29 (by decide) ?_
      refine xe_iret dX9_act_33 rfl rfl ?_
      first
      | exact h
      | (have c : ¬ (pOk (σ.2.1 116 54) p ∧ rng a 0 2) := fun z => (xb_eq0 hr16).mp h19 z.2; rw [actV, if_neg c] at h; rw [e0]; exact h)
      | (have c : ¬ (pOk (σ.2.1 116 54) p ∧ rng a 0 2) := fun z => (xb_eq0 hr7).mp h10 (hn ▸ z.1); rw [actV, if_neg c] at h; rw [e0]; exact h)
