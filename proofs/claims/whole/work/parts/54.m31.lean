/-! JamOath's acts -/
def jaS (σ : xSt) (t : aT) : xSt := xsF (xsA σ 101 t.2) 100 1 (nI t.1)
theorem jaS_ran {σ : xSt} {t : aT} : (jaS σ t).1 100 1 = nI t.1 := xsF_get
theorem jaS_tr {σ : xSt} {t : aT} : (jaS σ t).2.1 101 = t.2 := xsA_get
theorem jaS_f {σ : xSt} {t : aT} {c j : Nat} (h : c ≠ 100) : (jaS σ t).1 c j = σ.1 c j := xsF_ne (Or.inl h)
theorem jaS_un {σ : xSt} {t : aT} : Un (fun c => c = 100 ∨ c = 101) σ (jaS σ t) := (Un.A (P := fun c => c = 100 ∨ c = 101) (Or.inr rfl)).tr (Un.F (Or.inl rfl))
theorem jaS_note {σ : xSt} {t : aT} {b : Int32} : jaS σ (nt t b) = xsF (xsA (jaS σ t) 101 (if t.1 < 20 then upd t.2 t.1 b else t.2)) 100 1 (nI t.1 + 1) := by
  unfold jaS nt
  rw [nI_1, xsF_xsA, xsA_A, xsF_F]
theorem mn20 (t : Nat) (h : t < 2 ^ 30) : (if (20 : Int32) < nI t then (20 : Int32) else nI t) = nI (min t 20) := by
  by_cases z : 20 < t
  · rw [if_pos (c := (20 : Int32) < nI t) (show nI 20 < nI t from nI_lt z (by omega)), Nat.min_eq_right (by omega)]; rfl
  · rw [if_neg (c := (20 : Int32) < nI t) (show ¬ nI 20 < nI t from nI_nlt (by omega) (by omega)), Nat.min_eq_left (by omega)]
theorem mn20' (t : Nat) (h : t < 2 ^ 30) : mnI 20 (nI t) = nI (min t 20) := by
  unfold mnI
  by_cases z : t < 20
  · rw [if_pos (c := nI t < (20 : Int32)) (show nI t < nI 20 from nI_lt z (by omega)), Nat.min_eq_left (by omega)]
  · rw [if_neg (c := nI t < (20 : Int32)) (show ¬ nI t < nI 20 from nI_nlt (by omega) (by omega)), Nat.min_eq_right (by omega)]; rfl
def bfK (a : Nat) : Nat → Nat → Nat
  | 0, k => k
  | q + 1, k => if k = 0 ∨ ¬ xBODIES (3 * k + a) = 0 then k else bfK a q (cN (xABOVE k))
theorem bfK_fnd : ∀ k, k < 7 → ∀ a, a < 3 → bfK a 7 k = fndK a 3 k := by decide +kernel
theorem bfK_lt (a : Nat) : ∀ (q k : Nat), k < 7 → bfK a q k < 7 := by
  intro q
  induction q with
  | zero => intro k h; exact h
  | succ q ih =>
    intro k h
    rw [bfK]
    split
    · exact h
    · refine ih _ ?_
      have key : ∀ k, k < 7 → cN (xABOVE k) < 7 := by decide +kernel
      exact key k h

theorem sX0_forget {d : Nat} (hd : 0 ≤ d) {σ : xSt} {Post : Option Value → xSt → Prop}  (h : Post none (xsF σ 100 1 0)) : xM kX0_forget d [.ref 100] σ Post := by
  refine xM_start (lv := [some (.ref 100)]) rfl ?_
  refine xe_aload_n dX0_forget_0 rfl ?_
  refine xe_iconst (v := 0) dX0_forget_1 rfl ?_
  refine xe_putf dX0_forget_2 flX0_15 (by decide) rfl rfl rfl rfl ?_
  refine xe_vret dX0_forget_5 rfl ?_
  exact h

theorem sX0_keptCount {d : Nat} (hd : 1 ≤ d) {σ : xSt} {Post : Option Value → xSt → Prop} (t : Nat) (ht : σ.1 100 1 = nI t) (ht1 : t < 2 ^ 30) (h : Post (some (.int (nI (min t 20)))) σ) : xM kX0_keptCount d [.ref 100] σ Post := by
  obtain ⟨d, rfl⟩ : ∃ e, d = e + 1 := ⟨d - 1, by omega⟩
  refine xM_start (lv := [some (.ref 100)]) rfl ?_
  refine xe_aload_n dX0_keptCount_0 rfl ?_
  refine xe_getf dX0_keptCount_1 flX0_15 (by decide) rfl rfl ?_
  refine xe_bipush (v := 20) dX0_keptCount_4 rfl ?_
  refine xe_mmin dX0_keptCount_6 mlX0_19 (by omega) (Nat.le_of_ble_eq_true rfl) ?_
  rw [ht, mn20 t ht1]
  refine xe_iret dX0_keptCount_9 rfl rfl ?_
  exact h

theorem sX0_note {d : Nat} (hd : 0 ≤ d) {σ : xSt} {Post : Option Value → xSt → Prop} (t : aT) (b : Int32) (ht : t.1 < 2 ^ 30) (h : Post none (jaS σ (nt t b))) : xM kX0_note d [.ref 100, .int b] (jaS σ t) Post := by
  refine xM_start (lv := [some (.ref 100), some (.int b)]) rfl ?_
  refine xe_aload_n dX0_note_0 rfl ?_
  refine xe_getf dX0_note_1 flX0_15 (by decide) rfl rfl ?_
  rw [jaS_ran]
  refine xe_bipush (v := 20) dX0_note_4 rfl ?_
  refine xe_icmp_ge (tgt := 19) dX0_note_6 (by decide) (fun h6 => ?_) (fun h6 => ?_)
  · refine xe_aload_n dX0_note_19 rfl ?_
    refine xe_dup dX0_note_20 rfl ?_
    refine xe_getf dX0_note_21 flX0_15 (by decide) rfl rfl ?_
    first | rw [jaS_ran] | rw [xsA_1, jaS_ran]
    refine xe_iconst (v := 1) dX0_note_24 rfl ?_
    refine xe_iadd dX0_note_25 ?_
    refine xe_putf dX0_note_26 flX0_15 (by decide) rfl rfl rfl rfl ?_
    refine xe_vret dX0_note_29 rfl ?_
    rw [jaS_note] at h
    first
    | (have q := nNle (a := 20) (b := t.1) (by omega) (by omega) h6; rw [if_pos q] at h; rw [jaS_tr]; exact h)
    | (have q := nLe (a := 20) (b := t.1) (by omega) (by omega) h6; rw [if_neg (by omega)] at h; rw [show xsA (jaS σ t) 101 t.2 = jaS σ t from by rw [← jaS_tr (σ := σ) (t := t)]; exact xsA_self] at h; exact h)
  · refine xe_aload_n dX0_note_9 rfl ?_
    refine xe_getr dX0_note_10 flX0_11 (by decide) rfl rfl ?_
    refine xe_aload_n dX0_note_13 rfl ?_
    refine xe_getf dX0_note_14 flX0_15 (by decide) rfl rfl ?_
    rw [jaS_ran]
    refine xe_iload_n dX0_note_17 rfl ?_
    refine xn_iastore (j := t.1) dX0_note_18 (by decide) rfl rfl (by have := nNle (a := 20) (by omega) (by omega) h6; omega) (by decide) ?_
    refine xe_aload_n dX0_note_19 rfl ?_
    refine xe_dup dX0_note_20 rfl ?_
    refine xe_getf dX0_note_21 flX0_15 (by decide) rfl rfl ?_
    first | rw [jaS_ran] | rw [xsA_1, jaS_ran]
    refine xe_iconst (v := 1) dX0_note_24 rfl ?_
    refine xe_iadd dX0_note_25 ?_
    refine xe_putf dX0_note_26 flX0_15 (by decide) rfl rfl rfl rfl ?_
    refine xe_vret dX0_note_29 rfl ?_
    rw [jaS_note] at h
    first
    | (have q := nNle (a := 20) (b := t.1) (by omega) (by omega) h6; rw [if_pos q] at h; rw [jaS_tr]; exact h)
    | (have q := nLe (a := 20) (b := t.1) (by omega) (by omega) h6; rw [if_neg (by omega)] at h; rw [show xsA (jaS σ t) 101 t.2 = jaS σ t from by rw [← jaS_tr (σ := σ) (t := t)]; exact xsA_self] at h; exact h)

theorem lX0_bodyFrom38 {d : Nat} {σ : xSt} {Post : Option Value → xSt → Prop} (x0 j : Int32) (a k : Nat) (ha : a < 3) (hk : k < 7) (h : Post (some (.int (xBODIES (3 * k + a)))) σ) : xEv kX0_bodyFrom d 38 [some (.int x0), some (.int (nI a)), some (.int (nI k)), some (.int j)] [] σ Post := by
  refine xe_iload_n dX0_bodyFrom_38 rfl ?_
  refine xe_if_ge (tgt := 46) dX0_bodyFrom_39 (by decide) (fun h39 => ?_) (fun h39 => absurd (nI_pos' (by omega)) h39)
  refine xe_bodies dX0_bodyFrom_46 fwX0_25 ?_
  refine xe_iconst (v := 3) dX0_bodyFrom_49 rfl ?_
  refine xe_iload_n dX0_bodyFrom_50 rfl ?_
  refine xe_imul dX0_bodyFrom_51 ?_
  refine xe_iload_n dX0_bodyFrom_52 rfl ?_
  refine xe_iadd dX0_bodyFrom_53 ?_
  refine xe_top (x2 := nI (3 * k + a)) (by simp only [xl, pk_mul, nI_add]) ?_
  refine xe_ldBodies dX0_bodyFrom_54 (vp_in_nI (by omega) (by omega)) ?_
  rw [nI_clamp (by omega)]
  refine xe_iret dX0_bodyFrom_55 rfl rfl ?_
  exact h

theorem lX0_bodyFrom {d : Nat} {σ : xSt} {Post : Option Value → xSt → Prop} (x0 : Int32) (a : Nat) (ha : a < 3) : ∀ (q j k : Nat), j + q = 7 → k < 7 → Post (some (.int (xBODIES (3 * bfK a q k + a)))) σ → xEv kX0_bodyFrom d 4 [some (.int x0), some (.int (nI a)), some (.int (nI k)), some (.int (nI j))] [] σ Post := by
  intro q
  induction q with
  | zero =>
    intro j k hq hk h
    refine xe_iload_n dX0_bodyFrom_4 rfl ?_
    refine xe_bipush (v := 7) dX0_bodyFrom_5 rfl ?_
    refine xe_icmp_ge (tgt := 38) dX0_bodyFrom_7 (by decide) (fun h7 => ?_) (fun h7 => absurd (show nI 7 ≤ nI j from nI_le (by omega) (by omega)) h7)
    exact lX0_bodyFrom38 (d := d) x0 _ a k ha hk h
  | succ q ih =>
    intro j k hq hk h
    rw [bfK] at h
    refine xe_iload_n dX0_bodyFrom_4 rfl ?_
    refine xe_bipush (v := 7) dX0_bodyFrom_5 rfl ?_
    refine xe_icmp_ge (tgt := 38) dX0_bodyFrom_7 (by decide) (fun h7 => absurd h7 (show ¬ nI 7 ≤ nI j from nI_ge (by omega) (by omega))) (fun h7 => ?_)
    refine xe_iload_n dX0_bodyFrom_10 rfl ?_
    refine xe_if_le (tgt := 38) dX0_bodyFrom_11 (by decide) (fun h11 => ?_) (fun h11 => ?_)
    · first | (rw [if_pos (Or.inr h23)] at h; exact lX0_bodyFrom38 (d := d) x0 _ a k ha hk h) | (rw [if_pos (Or.inl (show k = 0 by have := nLe (b := 0) (by omega) (by omega) h11; omega))] at h; exact lX0_bodyFrom38 (d := d) x0 _ a k ha hk h)
    · refine xe_bodies dX0_bodyFrom_14 fwX0_25 ?_
      refine xe_iconst (v := 3) dX0_bodyFrom_17 rfl ?_
      refine xe_iload_n dX0_bodyFrom_18 rfl ?_
      refine xe_imul dX0_bodyFrom_19 ?_
      refine xe_iload_n dX0_bodyFrom_20 rfl ?_
      refine xe_iadd dX0_bodyFrom_21 ?_
      refine xe_top (x2 := nI (3 * k + a)) (by simp only [xl, pk_mul, nI_add]) ?_
      refine xe_ldBodies dX0_bodyFrom_22 (vp_in_nI (by omega) (by omega)) ?_
      rw [nI_clamp (by omega)]
      refine xe_if_ne (tgt := 38) dX0_bodyFrom_23 (by decide) (fun h23 => ?_) (fun h23 => ?_)
      · first | (rw [if_pos (Or.inr h23)] at h; exact lX0_bodyFrom38 (d := d) x0 _ a k ha hk h) | (rw [if_pos (Or.inl (show k = 0 by have := nLe (b := 0) (by omega) (by omega) h11; omega))] at h; exact lX0_bodyFrom38 (d := d) x0 _ a k ha hk h)
      · refine xe_aboveN rfl dX0_bodyFrom_26 ?_
        refine xe_iload_n dX0_bodyFrom_29 rfl ?_
        refine xe_ldAbove dX0_bodyFrom_30 (vp_in_nI (by omega) (by omega)) ?_
        obtain ⟨k2, hk2, e2⟩ := xABOVE_ok k hk h11
        refine xe_top (x2 := nI k2) (by rw [nI_clamp (by omega)]; exact e2) ?_
        refine xe_istore_n (lv2 := [_, _, _, _]) dX0_bodyFrom_31 (by decide) rfl ?_
        refine xn_inc (j := j) (lv2 := [_, _, _, _]) dX0_bodyFrom_32 (by decide) rfl rfl ?_
        refine xe_goto (tgt := 4) dX0_bodyFrom_35 (by decide) ?_
        rw [if_neg (c := k = 0 ∨ ¬ xBODIES (3 * k + a) = 0) (fun z => z.elim (fun q0 => h11 (by rw [q0]; decide)) (fun q0 => q0 h23)), e2, cN_nI (by omega)] at h
        exact ih (j + 1) k2 (by omega) hk2 h

theorem sX0_bodyFrom {d : Nat} (hd : 0 ≤ d) {σ : xSt} {Post : Option Value → xSt → Prop} (k a : Nat) (hk : k < 7) (ha : a < 3) (h : Post (some (.int (aB a k))) σ) : xM kX0_bodyFrom d [.int (nI k), .int (nI a)] σ Post := by
  refine xM_start (lv := [some (.int (nI k)), some (.int (nI a)), none, none]) rfl ?_
  refine xe_iload_n dX0_bodyFrom_0 rfl ?_
  refine xe_istore_n (lv2 := [_, _, _, _]) dX0_bodyFrom_1 (by decide) rfl ?_
  refine xe_iconst (v := 0) dX0_bodyFrom_2 rfl ?_
  refine xe_istore_n (lv2 := [_, _, _, _]) dX0_bodyFrom_3 (by decide) rfl ?_
  rw [aB, ← bfK_fnd k hk a ha] at h
  exact lX0_bodyFrom (d := d) _ a ha 7 0 k (by omega) hk h

/-- what perform says of n levels -/
def acJ (σ : xSt) (c κ i : Nat) (v : Int32) (n k a : Nat) : Prop := ∀ (d : Nat), n ≤ d → ∀ (x : Int32) (t : aT) (D : Nat), D + n ≤ 20 → t.1 + 3 ^ n ≤ 1000000 → ∀ (Post : Option Value → xSt → Prop), Post (some (.int (aF κ i v n k a x t).1)) (jaS σ (aF κ i v n k a x t).2) → xM kX0_perform d [.ref 100, .ref c, .int (nI k), .int (nI a), .int x, .int (nI D)] (jaS σ t) Post

theorem sX0_perform {σ : xSt} {c κ i : Nat} {v : Int32} (hp : isP c) (hc : c < 53) (hκ7 : κ < 7) (e0 : σ.1 c 0 = nI i) (eκ : σ.1 c 1 = nI κ) (ev : σ.1 c 2 = v) : ∀ (n k a : Nat), k < 7 → a < 3 → okA κ n k a = true → acJ σ c κ i v n k a := by
  intro n
  induction n with
  | zero => intro k a hk ha hok; exact absurd hok (by simp [okA])
  | succ n ih =>
    intro k a hk ha hok d hd x t D hD ht Post h
    have h3 : 3 ^ (n + 1) = 3 ^ n + 3 ^ n + 3 ^ n := by rw [Nat.pow_succ]; omega
    have hpw : 1 ≤ 3 ^ n := Nat.pos_of_ne_zero (by simp)
    have e1 : ∀ b, (nt t b).1 = t.1 + 1 := fun _ => rfl
    obtain ⟨d, rfl⟩ : ∃ e, d = e + 1 := ⟨d - 1, by omega⟩
    refine xM_start (lv := [some (.ref 100), some (.ref c), some (.int (nI k)), some (.int (nI a)), some (.int x), some (.int (nI D)), none, none]) rfl ?_
    rw [aF] at h
    rw [okA] at hok
    have eB : aB a k = xBODIES (3 * fndK a 3 k + a) := rfl
    have eU : aU a k = cN (xABOVE (fndK a 3 k)) := rfl
    rcases fnd_all k hk a ha with ⟨q, rfl⟩ | ⟨q, rfl⟩ | ⟨q, rfl⟩ | ⟨q, rfl⟩ | ⟨q, rfl⟩ | ⟨q, rfl⟩ | ⟨q, rfl⟩ | ⟨q, rfl⟩ | ⟨q, rfl⟩ | ⟨q, rfl⟩ | ⟨q, rfl⟩
    · skip
      have eb : aB 0 k = 10 := by rw [eB, q]; rfl
      rw [eb] at h
      rw [if_pos (show (10 : Int32) = 10 from rfl)] at h
      refine xe_iload dX0_perform_0 rfl ?_
      refine xe_bipush (v := 20) dX0_perform_2 rfl ?_
      refine xe_icmp_lt (tgt := 9) dX0_perform_4 (by decide) (fun h4 => ?_) (fun h4 => absurd (show nI D < nI 20 from nI_lt (by omega) (by omega)) h4)
      refine xe_iload_n dX0_perform_9 rfl ?_
      refine xe_iload_n dX0_perform_10 rfl ?_
      refine xe_calls (k2 := kX0_bodyFrom) (vs := [_, _]) dX0_perform_11 okX0_bodyFrom mlX0_31 stX0_bodyFrom rfl rfl (Nat.le_of_ble_eq_true rfl) (Nat.le_of_ble_eq_true rfl) (sX0_bodyFrom (by omega) k 0 hk (by omega) ?_)
      rw [eb]
      refine xe_istore (lv2 := [_, _, _, _, _, _, _, _]) dX0_perform_14 (by decide) rfl ?_
      refine xe_iload dX0_perform_16 rfl ?_
      refine xe_iconst (v := 1) dX0_perform_18 rfl ?_
      refine xe_iadd dX0_perform_19 ?_
      refine xe_top (x2 := nI (D + 1)) (nI_1 D) ?_
      refine xe_istore (lv2 := [_, _, _, _, _, _, _, _]) dX0_perform_20 (by decide) rfl ?_
      refine xe_aload_n dX0_perform_22 rfl ?_
      refine xe_iload dX0_perform_23 rfl ?_
      refine xe_callv (k2 := kX0_note) (vs := [_]) dX0_perform_25 okX0_note mlX0_34 imX0_note slX0_note (Or.inl ⟨0, _, _, by decide, rfl, rfl, rfl⟩) rfl rfl (Nat.le_of_ble_eq_true rfl) (Nat.le_of_ble_eq_true rfl) (sX0_note (by omega) t 10 (by omega) ?_)
      refine xe_iload dX0_perform_28 rfl ?_
      refine xe_lookup (off := 98) (tgt := 128) dX0_perform_30 (by decide) (by decide) (by decide) ?_
      refine xe_iload dX0_perform_128 rfl ?_
      refine xe_aload_n dX0_perform_130 rfl ?_
      refine xe_getf dX0_perform_131 flX0_38 hp.1.1 hp.1.2 rfl ?_
      rw [jaS_f (by omega), e0]
      refine xe_iadd dX0_perform_134 ?_
      refine xe_iret dX0_perform_135 rfl rfl ?_
      exact h
    · skip
      have eb : aB 1 k = 11 := by rw [eB, q]; rfl
      rw [eb] at h hok
      rw [if_neg (show ¬ (11 : Int32) = 10 by decide), if_pos (show (11 : Int32) = 11 from rfl)] at h hok
      refine xe_iload dX0_perform_0 rfl ?_
      refine xe_bipush (v := 20) dX0_perform_2 rfl ?_
      refine xe_icmp_lt (tgt := 9) dX0_perform_4 (by decide) (fun h4 => ?_) (fun h4 => absurd (show nI D < nI 20 from nI_lt (by omega) (by omega)) h4)
      refine xe_iload_n dX0_perform_9 rfl ?_
      refine xe_iload_n dX0_perform_10 rfl ?_
      refine xe_calls (k2 := kX0_bodyFrom) (vs := [_, _]) dX0_perform_11 okX0_bodyFrom mlX0_31 stX0_bodyFrom rfl rfl (Nat.le_of_ble_eq_true rfl) (Nat.le_of_ble_eq_true rfl) (sX0_bodyFrom (by omega) k 1 hk (by omega) ?_)
      rw [eb]
      refine xe_istore (lv2 := [_, _, _, _, _, _, _, _]) dX0_perform_14 (by decide) rfl ?_
      refine xe_iload dX0_perform_16 rfl ?_
      refine xe_iconst (v := 1) dX0_perform_18 rfl ?_
      refine xe_iadd dX0_perform_19 ?_
      refine xe_top (x2 := nI (D + 1)) (nI_1 D) ?_
      refine xe_istore (lv2 := [_, _, _, _, _, _, _, _]) dX0_perform_20 (by decide) rfl ?_
      refine xe_aload_n dX0_perform_22 rfl ?_
      refine xe_iload dX0_perform_23 rfl ?_
      refine xe_callv (k2 := kX0_note) (vs := [_]) dX0_perform_25 okX0_note mlX0_34 imX0_note slX0_note (Or.inl ⟨0, _, _, by decide, rfl, rfl, rfl⟩) rfl rfl (Nat.le_of_ble_eq_true rfl) (Nat.le_of_ble_eq_true rfl) (sX0_note (by omega) t 11 (by omega) ?_)
      refine xe_iload dX0_perform_28 rfl ?_
      refine xe_lookup (off := 106) (tgt := 136) dX0_perform_30 (by decide) (by decide) (by decide) ?_
      refine xe_aload_n dX0_perform_136 rfl ?_
      refine xe_aload_n dX0_perform_137 rfl ?_
      refine xe_aload_n dX0_perform_138 rfl ?_
      refine xe_getf dX0_perform_139 flX0_43 hp.1.1 hp.1.2 rfl ?_
      rw [jaS_f (by omega), eκ]
      refine xe_iconst (v := 0) dX0_perform_142 rfl ?_
      refine xe_iload dX0_perform_143 rfl ?_
      refine xe_iload dX0_perform_145 rfl ?_
      refine xe_callv (k2 := kX0_perform) (vs := [_, _, _, _, _]) dX0_perform_147 okX0_perform mlX0_46 imX0_perform slX0_perform (Or.inl ⟨0, _, _, by decide, rfl, rfl, rfl⟩) rfl rfl (Nat.le_of_ble_eq_true rfl) (Nat.le_of_ble_eq_true rfl) (ih κ 0 (by omega) (by omega) hok d (by omega) x (nt t 11) (D + 1) (by omega) (by rw [e1]; omega) _ ?_)
      refine xe_aload_n dX0_perform_150 rfl ?_
      refine xe_getf dX0_perform_151 flX0_50 hp.1.1 hp.1.2 rfl ?_
      rw [jaS_f (by omega), ev]
      refine xe_isub dX0_perform_154 ?_
      refine xe_iret dX0_perform_155 rfl rfl ?_
      exact h
    · skip
      have eb : aB 2 k = 12 := by rw [eB, q]; rfl
      rw [eb] at h hok
      rw [if_neg (show ¬ (12 : Int32) = 10 by decide), if_neg (show ¬ (12 : Int32) = 11 by decide), if_pos (show (12 : Int32) = 12 from rfl)] at h hok
      refine xe_iload dX0_perform_0 rfl ?_
      refine xe_bipush (v := 20) dX0_perform_2 rfl ?_
      refine xe_icmp_lt (tgt := 9) dX0_perform_4 (by decide) (fun h4 => ?_) (fun h4 => absurd (show nI D < nI 20 from nI_lt (by omega) (by omega)) h4)
      refine xe_iload_n dX0_perform_9 rfl ?_
      refine xe_iload_n dX0_perform_10 rfl ?_
      refine xe_calls (k2 := kX0_bodyFrom) (vs := [_, _]) dX0_perform_11 okX0_bodyFrom mlX0_31 stX0_bodyFrom rfl rfl (Nat.le_of_ble_eq_true rfl) (Nat.le_of_ble_eq_true rfl) (sX0_bodyFrom (by omega) k 2 hk (by omega) ?_)
      rw [eb]
      refine xe_istore (lv2 := [_, _, _, _, _, _, _, _]) dX0_perform_14 (by decide) rfl ?_
      refine xe_iload dX0_perform_16 rfl ?_
      refine xe_iconst (v := 1) dX0_perform_18 rfl ?_
      refine xe_iadd dX0_perform_19 ?_
      refine xe_top (x2 := nI (D + 1)) (nI_1 D) ?_
      refine xe_istore (lv2 := [_, _, _, _, _, _, _, _]) dX0_perform_20 (by decide) rfl ?_
      refine xe_aload_n dX0_perform_22 rfl ?_
      refine xe_iload dX0_perform_23 rfl ?_
      refine xe_callv (k2 := kX0_note) (vs := [_]) dX0_perform_25 okX0_note mlX0_34 imX0_note slX0_note (Or.inl ⟨0, _, _, by decide, rfl, rfl, rfl⟩) rfl rfl (Nat.le_of_ble_eq_true rfl) (Nat.le_of_ble_eq_true rfl) (sX0_note (by omega) t 12 (by omega) ?_)
      refine xe_iload dX0_perform_28 rfl ?_
      refine xe_lookup (off := 126) (tgt := 156) dX0_perform_30 (by decide) (by decide) (by decide) ?_
      refine xe_aload_n dX0_perform_156 rfl ?_
      refine xe_aload_n dX0_perform_157 rfl ?_
      refine xe_aload_n dX0_perform_158 rfl ?_
      refine xe_getf dX0_perform_159 flX0_43 hp.1.1 hp.1.2 rfl ?_
      rw [jaS_f (by omega), eκ]
      refine xe_iconst (v := 1) dX0_perform_162 rfl ?_
      refine xe_iload dX0_perform_163 rfl ?_
      refine xe_iload dX0_perform_165 rfl ?_
      refine xe_callv (k2 := kX0_perform) (vs := [_, _, _, _, _]) dX0_perform_167 okX0_perform mlX0_46 imX0_perform slX0_perform (Or.inl ⟨0, _, _, by decide, rfl, rfl, rfl⟩) rfl rfl (Nat.le_of_ble_eq_true rfl) (Nat.le_of_ble_eq_true rfl) (ih κ 1 (by omega) (by omega) hok d (by omega) x (nt t 12) (D + 1) (by omega) (by rw [e1]; omega) _ ?_)
      refine xe_iconst (v := 2) dX0_perform_170 rfl ?_
      refine xe_imul dX0_perform_171 ?_
      refine xe_iret dX0_perform_172 rfl rfl ?_
      exact h
    · skip
      have eb : aB 1 k = 20 := by rw [eB, q]; rfl
      have eu : aU 1 k = 0 := by rw [eU, q]; rfl
      rw [eb] at h hok
      rw [eu] at h hok
      rw [if_neg (show ¬ (20 : Int32) = 10 by decide), if_neg (show ¬ (20 : Int32) = 11 by decide), if_neg (show ¬ (20 : Int32) = 12 by decide), if_pos (show (20 : Int32) = 20 from rfl)] at h hok
      refine xe_iload dX0_perform_0 rfl ?_
      refine xe_bipush (v := 20) dX0_perform_2 rfl ?_
      refine xe_icmp_lt (tgt := 9) dX0_perform_4 (by decide) (fun h4 => ?_) (fun h4 => absurd (show nI D < nI 20 from nI_lt (by omega) (by omega)) h4)
      refine xe_iload_n dX0_perform_9 rfl ?_
      refine xe_iload_n dX0_perform_10 rfl ?_
      refine xe_calls (k2 := kX0_bodyFrom) (vs := [_, _]) dX0_perform_11 okX0_bodyFrom mlX0_31 stX0_bodyFrom rfl rfl (Nat.le_of_ble_eq_true rfl) (Nat.le_of_ble_eq_true rfl) (sX0_bodyFrom (by omega) k 1 hk (by omega) ?_)
      rw [eb]
      refine xe_istore (lv2 := [_, _, _, _, _, _, _, _]) dX0_perform_14 (by decide) rfl ?_
      refine xe_iload dX0_perform_16 rfl ?_
      refine xe_iconst (v := 1) dX0_perform_18 rfl ?_
      refine xe_iadd dX0_perform_19 ?_
      refine xe_top (x2 := nI (D + 1)) (nI_1 D) ?_
      refine xe_istore (lv2 := [_, _, _, _, _, _, _, _]) dX0_perform_20 (by decide) rfl ?_
      refine xe_aload_n dX0_perform_22 rfl ?_
      refine xe_iload dX0_perform_23 rfl ?_
      refine xe_callv (k2 := kX0_note) (vs := [_]) dX0_perform_25 okX0_note mlX0_34 imX0_note slX0_note (Or.inl ⟨0, _, _, by decide, rfl, rfl, rfl⟩) rfl rfl (Nat.le_of_ble_eq_true rfl) (Nat.le_of_ble_eq_true rfl) (sX0_note (by omega) t 20 (by omega) ?_)
      refine xe_iload dX0_perform_28 rfl ?_
      refine xe_lookup (off := 143) (tgt := 173) dX0_perform_30 (by decide) (by decide) (by decide) ?_
      refine xe_aload_n dX0_perform_173 rfl ?_
      refine xe_aload_n dX0_perform_174 rfl ?_
      refine xe_iconst (v := 0) dX0_perform_175 rfl ?_
      refine xe_iconst (v := 1) dX0_perform_176 rfl ?_
      refine xe_iload dX0_perform_177 rfl ?_
      refine xe_iload dX0_perform_179 rfl ?_
      refine xe_callv (k2 := kX0_perform) (vs := [_, _, _, _, _]) dX0_perform_181 okX0_perform mlX0_46 imX0_perform slX0_perform (Or.inl ⟨0, _, _, by decide, rfl, rfl, rfl⟩) rfl rfl (Nat.le_of_ble_eq_true rfl) (Nat.le_of_ble_eq_true rfl) (ih 0 1 (by omega) (by omega) hok d (by omega) x (nt t 20) (D + 1) (by omega) (by rw [e1]; omega) _ ?_)
      refine xe_bipush (v := 6) dX0_perform_184 rfl ?_
      refine xe_ixor dX0_perform_186 ?_
      refine xe_iret dX0_perform_187 rfl rfl ?_
      exact h
    · skip
      have eb : aB 0 k = 30 := by rw [eB, q]; rfl
      have eu : aU 0 k = 0 := by rw [eU, q]; rfl
      rw [eb] at h hok
      rw [eu] at h hok
      rw [if_neg (show ¬ (30 : Int32) = 10 by decide), if_neg (show ¬ (30 : Int32) = 11 by decide), if_neg (show ¬ (30 : Int32) = 12 by decide), if_neg (show ¬ (30 : Int32) = 20 by decide), if_pos (show (30 : Int32) = 30 from rfl)] at h hok
      refine xe_iload dX0_perform_0 rfl ?_
      refine xe_bipush (v := 20) dX0_perform_2 rfl ?_
      refine xe_icmp_lt (tgt := 9) dX0_perform_4 (by decide) (fun h4 => ?_) (fun h4 => absurd (show nI D < nI 20 from nI_lt (by omega) (by omega)) h4)
      refine xe_iload_n dX0_perform_9 rfl ?_
      refine xe_iload_n dX0_perform_10 rfl ?_
      refine xe_calls (k2 := kX0_bodyFrom) (vs := [_, _]) dX0_perform_11 okX0_bodyFrom mlX0_31 stX0_bodyFrom rfl rfl (Nat.le_of_ble_eq_true rfl) (Nat.le_of_ble_eq_true rfl) (sX0_bodyFrom (by omega) k 0 hk (by omega) ?_)
      rw [eb]
      refine xe_istore (lv2 := [_, _, _, _, _, _, _, _]) dX0_perform_14 (by decide) rfl ?_
      refine xe_iload dX0_perform_16 rfl ?_
      refine xe_iconst (v := 1) dX0_perform_18 rfl ?_
      refine xe_iadd dX0_perform_19 ?_
      refine xe_top (x2 := nI (D + 1)) (nI_1 D) ?_
      refine xe_istore (lv2 := [_, _, _, _, _, _, _, _]) dX0_perform_20 (by decide) rfl ?_
      refine xe_aload_n dX0_perform_22 rfl ?_
      refine xe_iload dX0_perform_23 rfl ?_
      refine xe_callv (k2 := kX0_note) (vs := [_]) dX0_perform_25 okX0_note mlX0_34 imX0_note slX0_note (Or.inl ⟨0, _, _, by decide, rfl, rfl, rfl⟩) rfl rfl (Nat.le_of_ble_eq_true rfl) (Nat.le_of_ble_eq_true rfl) (sX0_note (by omega) t 30 (by omega) ?_)
      refine xe_iload dX0_perform_28 rfl ?_
      refine xe_lookup (off := 158) (tgt := 188) dX0_perform_30 (by decide) (by decide) (by decide) ?_
      refine xe_aload_n dX0_perform_188 rfl ?_
      refine xe_aload_n dX0_perform_189 rfl ?_
      refine xe_iconst (v := 0) dX0_perform_190 rfl ?_
      refine xe_iconst (v := 0) dX0_perform_191 rfl ?_
      refine xe_iload dX0_perform_192 rfl ?_
      refine xe_iconst (v := 3) dX0_perform_194 rfl ?_
      refine xe_imul dX0_perform_195 ?_
      refine xe_iload dX0_perform_196 rfl ?_
      refine xe_callv (k2 := kX0_perform) (vs := [_, _, _, _, _]) dX0_perform_198 okX0_perform mlX0_46 imX0_perform slX0_perform (Or.inl ⟨0, _, _, by decide, rfl, rfl, rfl⟩) rfl rfl (Nat.le_of_ble_eq_true rfl) (Nat.le_of_ble_eq_true rfl) (ih 0 0 (by omega) (by omega) hok d (by omega) (x * 3) (nt t 30) (D + 1) (by omega) (by rw [e1]; omega) _ ?_)
      refine xe_iret dX0_perform_201 rfl rfl ?_
      exact h
    · skip
      have eb : aB 2 k = 40 := by rw [eB, q]; rfl
      have eu : aU 2 k = 0 := by rw [eU, q]; rfl
      rw [eb] at h hok
      rw [eu] at h hok
      rw [if_neg (show ¬ (40 : Int32) = 10 by decide), if_neg (show ¬ (40 : Int32) = 11 by decide), if_neg (show ¬ (40 : Int32) = 12 by decide), if_neg (show ¬ (40 : Int32) = 20 by decide), if_neg (show ¬ (40 : Int32) = 30 by decide), if_pos (show (40 : Int32) = 40 from rfl)] at h hok
      rw [Bool.and_eq_true] at hok
      refine xe_iload dX0_perform_0 rfl ?_
      refine xe_bipush (v := 20) dX0_perform_2 rfl ?_
      refine xe_icmp_lt (tgt := 9) dX0_perform_4 (by decide) (fun h4 => ?_) (fun h4 => absurd (show nI D < nI 20 from nI_lt (by omega) (by omega)) h4)
      refine xe_iload_n dX0_perform_9 rfl ?_
      refine xe_iload_n dX0_perform_10 rfl ?_
      refine xe_calls (k2 := kX0_bodyFrom) (vs := [_, _]) dX0_perform_11 okX0_bodyFrom mlX0_31 stX0_bodyFrom rfl rfl (Nat.le_of_ble_eq_true rfl) (Nat.le_of_ble_eq_true rfl) (sX0_bodyFrom (by omega) k 2 hk (by omega) ?_)
      rw [eb]
      refine xe_istore (lv2 := [_, _, _, _, _, _, _, _]) dX0_perform_14 (by decide) rfl ?_
      refine xe_iload dX0_perform_16 rfl ?_
      refine xe_iconst (v := 1) dX0_perform_18 rfl ?_
      refine xe_iadd dX0_perform_19 ?_
      refine xe_top (x2 := nI (D + 1)) (nI_1 D) ?_
      refine xe_istore (lv2 := [_, _, _, _, _, _, _, _]) dX0_perform_20 (by decide) rfl ?_
      refine xe_aload_n dX0_perform_22 rfl ?_
      refine xe_iload dX0_perform_23 rfl ?_
      refine xe_callv (k2 := kX0_note) (vs := [_]) dX0_perform_25 okX0_note mlX0_34 imX0_note slX0_note (Or.inl ⟨0, _, _, by decide, rfl, rfl, rfl⟩) rfl rfl (Nat.le_of_ble_eq_true rfl) (Nat.le_of_ble_eq_true rfl) (sX0_note (by omega) t 40 (by omega) ?_)
      refine xe_iload dX0_perform_28 rfl ?_
      refine xe_lookup (off := 172) (tgt := 202) dX0_perform_30 (by decide) (by decide) (by decide) ?_
      refine xe_aload_n dX0_perform_202 rfl ?_
      refine xe_aload_n dX0_perform_203 rfl ?_
      refine xe_iconst (v := 0) dX0_perform_204 rfl ?_
      refine xe_iconst (v := 2) dX0_perform_205 rfl ?_
      refine xe_iload dX0_perform_206 rfl ?_
      refine xe_iload dX0_perform_208 rfl ?_
      refine xe_callv (k2 := kX0_perform) (vs := [_, _, _, _, _]) dX0_perform_210 okX0_perform mlX0_46 imX0_perform slX0_perform (Or.inl ⟨0, _, _, by decide, rfl, rfl, rfl⟩) rfl rfl (Nat.le_of_ble_eq_true rfl) (Nat.le_of_ble_eq_true rfl) (ih 0 2 (by omega) (by omega) hok.1 d (by omega) x (nt t 40) (D + 1) (by omega) (by rw [e1]; omega) _ ?_)
      refine xe_aload_n dX0_perform_213 rfl ?_
      refine xe_aload_n dX0_perform_214 rfl ?_
      refine xe_aload_n dX0_perform_215 rfl ?_
      refine xe_getf dX0_perform_216 flX0_43 hp.1.1 hp.1.2 rfl ?_
      rw [jaS_f (by omega), eκ]
      refine xe_iconst (v := 1) dX0_perform_219 rfl ?_
      refine xe_iconst (v := 1) dX0_perform_220 rfl ?_
      refine xe_iload dX0_perform_221 rfl ?_
      refine xe_callv (k2 := kX0_perform) (vs := [_, _, _, _, _]) dX0_perform_223 okX0_perform mlX0_46 imX0_perform slX0_perform (Or.inl ⟨0, _, _, by decide, rfl, rfl, rfl⟩) rfl rfl (Nat.le_of_ble_eq_true rfl) (Nat.le_of_ble_eq_true rfl) (ih κ 1 (by omega) (by omega) hok.2 d (by omega) 1 (aF κ i v n 0 2 x (nt t 40)).2 (D + 1) (by omega) (by have := aF_le κ i v n 0 2 x (nt t 40); rw [e1] at this; omega) _ ?_)
      refine xe_iadd dX0_perform_226 ?_
      refine xe_iret dX0_perform_227 rfl rfl ?_
      exact h
    · skip
      have eb : aB 0 k = 50 := by rw [eB, q]; rfl
      have eu : aU 0 k = 1 := by rw [eU, q]; rfl
      rw [eb] at h hok
      rw [eu] at h hok
      rw [if_neg (show ¬ (50 : Int32) = 10 by decide), if_neg (show ¬ (50 : Int32) = 11 by decide), if_neg (show ¬ (50 : Int32) = 12 by decide), if_neg (show ¬ (50 : Int32) = 20 by decide), if_neg (show ¬ (50 : Int32) = 30 by decide), if_neg (show ¬ (50 : Int32) = 40 by decide), if_pos (show (50 : Int32) = 50 from rfl)] at h hok
      refine xe_iload dX0_perform_0 rfl ?_
      refine xe_bipush (v := 20) dX0_perform_2 rfl ?_
      refine xe_icmp_lt (tgt := 9) dX0_perform_4 (by decide) (fun h4 => ?_) (fun h4 => absurd (show nI D < nI 20 from nI_lt (by omega) (by omega)) h4)
      refine xe_iload_n dX0_perform_9 rfl ?_
      refine xe_iload_n dX0_perform_10 rfl ?_
      refine xe_calls (k2 := kX0_bodyFrom) (vs := [_, _]) dX0_perform_11 okX0_bodyFrom mlX0_31 stX0_bodyFrom rfl rfl (Nat.le_of_ble_eq_true rfl) (Nat.le_of_ble_eq_true rfl) (sX0_bodyFrom (by omega) k 0 hk (by omega) ?_)
      rw [eb]
      refine xe_istore (lv2 := [_, _, _, _, _, _, _, _]) dX0_perform_14 (by decide) rfl ?_
      refine xe_iload dX0_perform_16 rfl ?_
      refine xe_iconst (v := 1) dX0_perform_18 rfl ?_
      refine xe_iadd dX0_perform_19 ?_
      refine xe_top (x2 := nI (D + 1)) (nI_1 D) ?_
      refine xe_istore (lv2 := [_, _, _, _, _, _, _, _]) dX0_perform_20 (by decide) rfl ?_
      refine xe_aload_n dX0_perform_22 rfl ?_
      refine xe_iload dX0_perform_23 rfl ?_
      refine xe_callv (k2 := kX0_note) (vs := [_]) dX0_perform_25 okX0_note mlX0_34 imX0_note slX0_note (Or.inl ⟨0, _, _, by decide, rfl, rfl, rfl⟩) rfl rfl (Nat.le_of_ble_eq_true rfl) (Nat.le_of_ble_eq_true rfl) (sX0_note (by omega) t 50 (by omega) ?_)
      refine xe_iload dX0_perform_28 rfl ?_
      refine xe_lookup (off := 198) (tgt := 228) dX0_perform_30 (by decide) (by decide) (by decide) ?_
      refine xe_aload_n dX0_perform_228 rfl ?_
      refine xe_aload_n dX0_perform_229 rfl ?_
      refine xe_iconst (v := 1) dX0_perform_230 rfl ?_
      refine xe_iconst (v := 0) dX0_perform_231 rfl ?_
      refine xe_iload dX0_perform_232 rfl ?_
      refine xe_iload dX0_perform_234 rfl ?_
      refine xe_callv (k2 := kX0_perform) (vs := [_, _, _, _, _]) dX0_perform_236 okX0_perform mlX0_46 imX0_perform slX0_perform (Or.inl ⟨0, _, _, by decide, rfl, rfl, rfl⟩) rfl rfl (Nat.le_of_ble_eq_true rfl) (Nat.le_of_ble_eq_true rfl) (ih 1 0 (by omega) (by omega) hok d (by omega) x (nt t 50) (D + 1) (by omega) (by rw [e1]; omega) _ ?_)
      refine xe_ineg dX0_perform_239 ?_
      refine xe_iret dX0_perform_240 rfl rfl ?_
      exact h
    · skip
      have eb : aB 1 k = 51 := by rw [eB, q]; rfl
      have eu : aU 1 k = 1 := by rw [eU, q]; rfl
      rw [eb] at h hok
      rw [eu] at h hok
      rw [if_neg (show ¬ (51 : Int32) = 10 by decide), if_neg (show ¬ (51 : Int32) = 11 by decide), if_neg (show ¬ (51 : Int32) = 12 by decide), if_neg (show ¬ (51 : Int32) = 20 by decide), if_neg (show ¬ (51 : Int32) = 30 by decide), if_neg (show ¬ (51 : Int32) = 40 by decide), if_neg (show ¬ (51 : Int32) = 50 by decide), if_pos (show (51 : Int32) = 51 from rfl)] at h hok
      refine xe_iload dX0_perform_0 rfl ?_
      refine xe_bipush (v := 20) dX0_perform_2 rfl ?_
      refine xe_icmp_lt (tgt := 9) dX0_perform_4 (by decide) (fun h4 => ?_) (fun h4 => absurd (show nI D < nI 20 from nI_lt (by omega) (by omega)) h4)
      refine xe_iload_n dX0_perform_9 rfl ?_
      refine xe_iload_n dX0_perform_10 rfl ?_
      refine xe_calls (k2 := kX0_bodyFrom) (vs := [_, _]) dX0_perform_11 okX0_bodyFrom mlX0_31 stX0_bodyFrom rfl rfl (Nat.le_of_ble_eq_true rfl) (Nat.le_of_ble_eq_true rfl) (sX0_bodyFrom (by omega) k 1 hk (by omega) ?_)
      rw [eb]
      refine xe_istore (lv2 := [_, _, _, _, _, _, _, _]) dX0_perform_14 (by decide) rfl ?_
      refine xe_iload dX0_perform_16 rfl ?_
      refine xe_iconst (v := 1) dX0_perform_18 rfl ?_
      refine xe_iadd dX0_perform_19 ?_
      refine xe_top (x2 := nI (D + 1)) (nI_1 D) ?_
      refine xe_istore (lv2 := [_, _, _, _, _, _, _, _]) dX0_perform_20 (by decide) rfl ?_
      refine xe_aload_n dX0_perform_22 rfl ?_
      refine xe_iload dX0_perform_23 rfl ?_
      refine xe_callv (k2 := kX0_note) (vs := [_]) dX0_perform_25 okX0_note mlX0_34 imX0_note slX0_note (Or.inl ⟨0, _, _, by decide, rfl, rfl, rfl⟩) rfl rfl (Nat.le_of_ble_eq_true rfl) (Nat.le_of_ble_eq_true rfl) (sX0_note (by omega) t 51 (by omega) ?_)
      refine xe_iload dX0_perform_28 rfl ?_
      refine xe_lookup (off := 211) (tgt := 241) dX0_perform_30 (by decide) (by decide) (by decide) ?_
      refine xe_aload_n dX0_perform_241 rfl ?_
      refine xe_aload_n dX0_perform_242 rfl ?_
      refine xe_iconst (v := 1) dX0_perform_243 rfl ?_
      refine xe_iconst (v := 1) dX0_perform_244 rfl ?_
      refine xe_iload dX0_perform_245 rfl ?_
      refine xe_iconst (v := 1) dX0_perform_247 rfl ?_
      refine xe_iadd dX0_perform_248 ?_
      refine xe_iload dX0_perform_249 rfl ?_
      refine xe_callv (k2 := kX0_perform) (vs := [_, _, _, _, _]) dX0_perform_251 okX0_perform mlX0_46 imX0_perform slX0_perform (Or.inl ⟨0, _, _, by decide, rfl, rfl, rfl⟩) rfl rfl (Nat.le_of_ble_eq_true rfl) (Nat.le_of_ble_eq_true rfl) (ih 1 1 (by omega) (by omega) hok d (by omega) (x + 1) (nt t 51) (D + 1) (by omega) (by rw [e1]; omega) _ ?_)
      refine xe_iret dX0_perform_254 rfl rfl ?_
      exact h
    · skip
      have eb : aB 2 k = 60 := by rw [eB, q]; rfl
      have eu : aU 2 k = 2 := by rw [eU, q]; rfl
      rw [eb] at h hok
      rw [eu] at h hok
      rw [if_neg (show ¬ (60 : Int32) = 10 by decide), if_neg (show ¬ (60 : Int32) = 11 by decide), if_neg (show ¬ (60 : Int32) = 12 by decide), if_neg (show ¬ (60 : Int32) = 20 by decide), if_neg (show ¬ (60 : Int32) = 30 by decide), if_neg (show ¬ (60 : Int32) = 40 by decide), if_neg (show ¬ (60 : Int32) = 50 by decide), if_neg (show ¬ (60 : Int32) = 51 by decide), if_pos (show (60 : Int32) = 60 from rfl)] at h hok
      refine xe_iload dX0_perform_0 rfl ?_
      refine xe_bipush (v := 20) dX0_perform_2 rfl ?_
      refine xe_icmp_lt (tgt := 9) dX0_perform_4 (by decide) (fun h4 => ?_) (fun h4 => absurd (show nI D < nI 20 from nI_lt (by omega) (by omega)) h4)
      refine xe_iload_n dX0_perform_9 rfl ?_
      refine xe_iload_n dX0_perform_10 rfl ?_
      refine xe_calls (k2 := kX0_bodyFrom) (vs := [_, _]) dX0_perform_11 okX0_bodyFrom mlX0_31 stX0_bodyFrom rfl rfl (Nat.le_of_ble_eq_true rfl) (Nat.le_of_ble_eq_true rfl) (sX0_bodyFrom (by omega) k 2 hk (by omega) ?_)
      rw [eb]
      refine xe_istore (lv2 := [_, _, _, _, _, _, _, _]) dX0_perform_14 (by decide) rfl ?_
      refine xe_iload dX0_perform_16 rfl ?_
      refine xe_iconst (v := 1) dX0_perform_18 rfl ?_
      refine xe_iadd dX0_perform_19 ?_
      refine xe_top (x2 := nI (D + 1)) (nI_1 D) ?_
      refine xe_istore (lv2 := [_, _, _, _, _, _, _, _]) dX0_perform_20 (by decide) rfl ?_
      refine xe_aload_n dX0_perform_22 rfl ?_
      refine xe_iload dX0_perform_23 rfl ?_
      refine xe_callv (k2 := kX0_note) (vs := [_]) dX0_perform_25 okX0_note mlX0_34 imX0_note slX0_note (Or.inl ⟨0, _, _, by decide, rfl, rfl, rfl⟩) rfl rfl (Nat.le_of_ble_eq_true rfl) (Nat.le_of_ble_eq_true rfl) (sX0_note (by omega) t 60 (by omega) ?_)
      refine xe_iload dX0_perform_28 rfl ?_
      refine xe_lookup (off := 225) (tgt := 255) dX0_perform_30 (by decide) (by decide) (by decide) ?_
      refine xe_aload_n dX0_perform_255 rfl ?_
      refine xe_aload_n dX0_perform_256 rfl ?_
      refine xe_iconst (v := 2) dX0_perform_257 rfl ?_
      refine xe_iconst (v := 2) dX0_perform_258 rfl ?_
      refine xe_iload dX0_perform_259 rfl ?_
      refine xe_aload_n dX0_perform_261 rfl ?_
      refine xe_getf dX0_perform_262 flX0_38 hp.1.1 hp.1.2 rfl ?_
      rw [jaS_f (by omega), e0]
      refine xe_isub dX0_perform_265 ?_
      refine xe_iload dX0_perform_266 rfl ?_
      refine xe_callv (k2 := kX0_perform) (vs := [_, _, _, _, _]) dX0_perform_268 okX0_perform mlX0_46 imX0_perform slX0_perform (Or.inl ⟨0, _, _, by decide, rfl, rfl, rfl⟩) rfl rfl (Nat.le_of_ble_eq_true rfl) (Nat.le_of_ble_eq_true rfl) (ih 2 2 (by omega) (by omega) hok d (by omega) (x - nI i) (nt t 60) (D + 1) (by omega) (by rw [e1]; omega) _ ?_)
      refine xe_iret dX0_perform_271 rfl rfl ?_
      exact h
    · skip
      have eb : aB 1 k = 70 := by rw [eB, q]; rfl
      have eu : aU 1 k = 3 := by rw [eU, q]; rfl
      rw [eb] at h hok
      rw [eu] at h hok
      rw [if_neg (show ¬ (70 : Int32) = 10 by decide), if_neg (show ¬ (70 : Int32) = 11 by decide), if_neg (show ¬ (70 : Int32) = 12 by decide), if_neg (show ¬ (70 : Int32) = 20 by decide), if_neg (show ¬ (70 : Int32) = 30 by decide), if_neg (show ¬ (70 : Int32) = 40 by decide), if_neg (show ¬ (70 : Int32) = 50 by decide), if_neg (show ¬ (70 : Int32) = 51 by decide), if_neg (show ¬ (70 : Int32) = 60 by decide), if_pos (show (70 : Int32) = 70 from rfl)] at h hok
      rw [Bool.and_eq_true] at hok
      refine xe_iload dX0_perform_0 rfl ?_
      refine xe_bipush (v := 20) dX0_perform_2 rfl ?_
      refine xe_icmp_lt (tgt := 9) dX0_perform_4 (by decide) (fun h4 => ?_) (fun h4 => absurd (show nI D < nI 20 from nI_lt (by omega) (by omega)) h4)
      refine xe_iload_n dX0_perform_9 rfl ?_
      refine xe_iload_n dX0_perform_10 rfl ?_
      refine xe_calls (k2 := kX0_bodyFrom) (vs := [_, _]) dX0_perform_11 okX0_bodyFrom mlX0_31 stX0_bodyFrom rfl rfl (Nat.le_of_ble_eq_true rfl) (Nat.le_of_ble_eq_true rfl) (sX0_bodyFrom (by omega) k 1 hk (by omega) ?_)
      rw [eb]
      refine xe_istore (lv2 := [_, _, _, _, _, _, _, _]) dX0_perform_14 (by decide) rfl ?_
      refine xe_iload dX0_perform_16 rfl ?_
      refine xe_iconst (v := 1) dX0_perform_18 rfl ?_
      refine xe_iadd dX0_perform_19 ?_
      refine xe_top (x2 := nI (D + 1)) (nI_1 D) ?_
      refine xe_istore (lv2 := [_, _, _, _, _, _, _, _]) dX0_perform_20 (by decide) rfl ?_
      refine xe_aload_n dX0_perform_22 rfl ?_
      refine xe_iload dX0_perform_23 rfl ?_
      refine xe_callv (k2 := kX0_note) (vs := [_]) dX0_perform_25 okX0_note mlX0_34 imX0_note slX0_note (Or.inl ⟨0, _, _, by decide, rfl, rfl, rfl⟩) rfl rfl (Nat.le_of_ble_eq_true rfl) (Nat.le_of_ble_eq_true rfl) (sX0_note (by omega) t 70 (by omega) ?_)
      refine xe_iload dX0_perform_28 rfl ?_
      refine xe_lookup (off := 242) (tgt := 272) dX0_perform_30 (by decide) (by decide) (by decide) ?_
      refine xe_aload_n dX0_perform_272 rfl ?_
      refine xe_aload_n dX0_perform_273 rfl ?_
      refine xe_iconst (v := 3) dX0_perform_274 rfl ?_
      refine xe_iconst (v := 1) dX0_perform_275 rfl ?_
      refine xe_iload dX0_perform_276 rfl ?_
      refine xe_iload dX0_perform_278 rfl ?_
      refine xe_callv (k2 := kX0_perform) (vs := [_, _, _, _, _]) dX0_perform_280 okX0_perform mlX0_46 imX0_perform slX0_perform (Or.inl ⟨0, _, _, by decide, rfl, rfl, rfl⟩) rfl rfl (Nat.le_of_ble_eq_true rfl) (Nat.le_of_ble_eq_true rfl) (ih 3 1 (by omega) (by omega) hok.1 d (by omega) x (nt t 70) (D + 1) (by omega) (by rw [e1]; omega) _ ?_)
      refine xe_aload_n dX0_perform_283 rfl ?_
      refine xe_aload_n dX0_perform_284 rfl ?_
      refine xe_iconst (v := 3) dX0_perform_285 rfl ?_
      refine xe_iconst (v := 0) dX0_perform_286 rfl ?_
      refine xe_iconst (v := 2) dX0_perform_287 rfl ?_
      refine xe_iload dX0_perform_288 rfl ?_
      refine xe_callv (k2 := kX0_perform) (vs := [_, _, _, _, _]) dX0_perform_290 okX0_perform mlX0_46 imX0_perform slX0_perform (Or.inl ⟨0, _, _, by decide, rfl, rfl, rfl⟩) rfl rfl (Nat.le_of_ble_eq_true rfl) (Nat.le_of_ble_eq_true rfl) (ih 3 0 (by omega) (by omega) hok.2 d (by omega) 2 (aF κ i v n 3 1 x (nt t 70)).2 (D + 1) (by omega) (by have := aF_le κ i v n 3 1 x (nt t 70); rw [e1] at this; omega) _ ?_)
      refine xe_iadd dX0_perform_293 ?_
      refine xe_iret dX0_perform_294 rfl rfl ?_
      exact h
    · skip
      have eb : aB 0 k = 71 := by rw [eB, q]; rfl
      have eu : aU 0 k = 3 := by rw [eU, q]; rfl
      rw [eb] at h hok
      rw [eu] at h hok
      rw [if_neg (show ¬ (71 : Int32) = 10 by decide), if_neg (show ¬ (71 : Int32) = 11 by decide), if_neg (show ¬ (71 : Int32) = 12 by decide), if_neg (show ¬ (71 : Int32) = 20 by decide), if_neg (show ¬ (71 : Int32) = 30 by decide), if_neg (show ¬ (71 : Int32) = 40 by decide), if_neg (show ¬ (71 : Int32) = 50 by decide), if_neg (show ¬ (71 : Int32) = 51 by decide), if_neg (show ¬ (71 : Int32) = 60 by decide), if_neg (show ¬ (71 : Int32) = 70 by decide)] at h hok
      refine xe_iload dX0_perform_0 rfl ?_
      refine xe_bipush (v := 20) dX0_perform_2 rfl ?_
      refine xe_icmp_lt (tgt := 9) dX0_perform_4 (by decide) (fun h4 => ?_) (fun h4 => absurd (show nI D < nI 20 from nI_lt (by omega) (by omega)) h4)
      refine xe_iload_n dX0_perform_9 rfl ?_
      refine xe_iload_n dX0_perform_10 rfl ?_
      refine xe_calls (k2 := kX0_bodyFrom) (vs := [_, _]) dX0_perform_11 okX0_bodyFrom mlX0_31 stX0_bodyFrom rfl rfl (Nat.le_of_ble_eq_true rfl) (Nat.le_of_ble_eq_true rfl) (sX0_bodyFrom (by omega) k 0 hk (by omega) ?_)
      rw [eb]
      refine xe_istore (lv2 := [_, _, _, _, _, _, _, _]) dX0_perform_14 (by decide) rfl ?_
      refine xe_iload dX0_perform_16 rfl ?_
      refine xe_iconst (v := 1) dX0_perform_18 rfl ?_
      refine xe_iadd dX0_perform_19 ?_
      refine xe_top (x2 := nI (D + 1)) (nI_1 D) ?_
      refine xe_istore (lv2 := [_, _, _, _, _, _, _, _]) dX0_perform_20 (by decide) rfl ?_
      refine xe_aload_n dX0_perform_22 rfl ?_
      refine xe_iload dX0_perform_23 rfl ?_
      refine xe_callv (k2 := kX0_note) (vs := [_]) dX0_perform_25 okX0_note mlX0_34 imX0_note slX0_note (Or.inl ⟨0, _, _, by decide, rfl, rfl, rfl⟩) rfl rfl (Nat.le_of_ble_eq_true rfl) (Nat.le_of_ble_eq_true rfl) (sX0_note (by omega) t 71 (by omega) ?_)
      refine xe_iload dX0_perform_28 rfl ?_
      refine xe_lookup (off := 265) (tgt := 295) dX0_perform_30 (by decide) (by decide) (by decide) ?_
      refine xe_aload_n dX0_perform_295 rfl ?_
      refine xe_aload_n dX0_perform_296 rfl ?_
      refine xe_iconst (v := 3) dX0_perform_297 rfl ?_
      refine xe_iconst (v := 0) dX0_perform_298 rfl ?_
      refine xe_iload dX0_perform_299 rfl ?_
      refine xe_iload dX0_perform_301 rfl ?_
      refine xe_callv (k2 := kX0_perform) (vs := [_, _, _, _, _]) dX0_perform_303 okX0_perform mlX0_46 imX0_perform slX0_perform (Or.inl ⟨0, _, _, by decide, rfl, rfl, rfl⟩) rfl rfl (Nat.le_of_ble_eq_true rfl) (Nat.le_of_ble_eq_true rfl) (ih 3 0 (by omega) (by omega) hok d (by omega) x (nt t 71) (D + 1) (by omega) (by rw [e1]; omega) _ ?_)
      refine xe_aload_n dX0_perform_306 rfl ?_
      refine xe_getf dX0_perform_307 flX0_50 hp.1.1 hp.1.2 rfl ?_
      rw [jaS_f (by omega), ev]
      refine xe_ixor dX0_perform_310 ?_
      refine xe_iret dX0_perform_311 rfl rfl ?_
      exact h

theorem sX8_act {d : Nat} (hd : 9 ≤ d) {σ : xSt} {Post : Option Value → xSt → Prop} {n m p k : Nat} (G : Nat → Int32) (pp a x : Int32) (hJ : RepJ σ 1 G n m p k) (hc : CO G n m p k) (hk : ∀ i, i < n → ∃ j, j < 7 ∧ G (9 * i) = nI j) (h : Post (some (.int (actV G pp a x (σ.2.1 101)).1)) (jaS σ (actV G pp a x (σ.2.1 101)).2)) : xM kX8_act d [.ref 0, .int pp, .int a, .int x] σ Post := by
  obtain ⟨d, rfl⟩ : ∃ e, d = e + 1 := ⟨d - 1, by omega⟩
  refine xM_start (lv := [some (.ref 0), some (.int pp), some (.int a), some (.int x), none]) rfl ?_
  refine xe_aload_n dX8_act_0 rfl ?_
  refine xe_getr dX8_act_1 flX8_71 (by decide) rfl rfl ?_
  refine xe_callv (k2 := kX0_forget) (vs := []) dX8_act_4 okX0_forget mlX8_338 imX0_forget slX0_forget (Or.inl ⟨0, _, _, by decide, rfl, rfl, rfl⟩) rfl rfl (Nat.le_of_ble_eq_true rfl) (Nat.le_of_ble_eq_true rfl) (sX0_forget (by omega) ?_)
  have e0 : xsF σ 100 1 0 = jaS σ (0, σ.2.1 101) := by unfold jaS; rw [xsA_self]; rfl
  rw [e0]
  refine xe_aload_n dX8_act_7 rfl ?_
  refine xe_getr dX8_act_8 flX8_12 (by decide) rfl rfl ?_
  refine xe_iload_n dX8_act_11 rfl ?_
  refine xe_callv (k2 := kX5_potAt) (vs := [_]) dX8_act_12 okX5_potAt mlX8_90 imX5_potAt slX5_potAt (Or.inl ⟨5, _, _, by decide, rfl, rfl, rfl⟩) rfl rfl (Nat.le_of_ble_eq_true rfl) (Nat.le_of_ble_eq_true rfl) (sX5_potAt (by omega) n pp isS1 (show (jaS σ (0, σ.2.1 101)).1 1 4 = nI n from (jaS_f (by omega)).trans hJ.P.1) hc.2.1 ⟨fun i hi ei => ?_, fun hx => ?_⟩)
  · skip
    subst ei
    have hn6 : n ≤ 6 := hc.2.1
    have hp := isS1.p (i := i) (by omega)
    have hr := hJ.P.2 i hi
    have cp : pOk (G 54) (nI i) := by rw [hc.1]; exact ⟨nI_pos' (by omega), nI_lt hi (by omega)⟩
    have ei : cN (nI i) = i := cN_nI (by omega)
    refine xe_astore (lv2 := [_, _, _, _, _]) dX8_act_15 (by decide) rfl ?_
    refine xe_aload dX8_act_17 rfl ?_
    refine xe_ifnull dX8_act_19 ?_
    refine xe_iload_n dX8_act_22 rfl ?_
    refine xe_if_lt (tgt := 31) dX8_act_23 (by decide) (fun h23 => ?_) (fun h23 => ?_)
    · refine xe_iconst (v := 0) dX8_act_31 rfl ?_
      refine xe_iret dX8_act_32 rfl rfl ?_
      have ca : ¬ (pOk (G 54) (nI i) ∧ rng a 0 2) := by first | exact fun z => absurd z.2.1 (Int32.not_le.mpr h23) | exact fun z => h28 z.2.2
      rw [actV, if_neg ca] at h; exact h
    · refine xe_iload_n dX8_act_26 rfl ?_
      refine xe_iconst (v := 2) dX8_act_27 rfl ?_
      refine xe_icmp_le (tgt := 33) dX8_act_28 (by decide) (fun h28 => ?_) (fun h28 => ?_)
      · have ca : rng a 0 2 := ⟨Int32.not_lt.mp h23, h28⟩
        obtain ⟨u, hu, rfl⟩ := rng_nat (m := 2) (by omega) ca
        obtain ⟨κ, hκ, eκ⟩ := hk i hi
        rw [actV, if_pos ⟨cp, ca⟩, ei, cN_nI (n := u) (by omega), eκ, cN_nI (n := κ) (by omega)] at h
        refine xe_aload_n dX8_act_33 rfl ?_
        refine xe_getr dX8_act_34 flX8_71 (by decide) rfl rfl ?_
        refine xe_aload dX8_act_37 rfl ?_
        refine xe_aload dX8_act_39 rfl ?_
        refine xe_getf dX8_act_41 flX8_123 hp.1.1 hp.1.2 rfl ?_
        refine xe_top (x2 := nI κ) ((jaS_f (by omega)).trans ((hr.2.1 0 (by omega)).trans eκ)) ?_
        refine xe_iload_n dX8_act_44 rfl ?_
        refine xe_iload_n dX8_act_45 rfl ?_
        refine xe_iconst (v := 0) dX8_act_46 rfl ?_
        refine xe_callPerform (k2 := kX0_perform) (vs := [_, _, _, _, _]) rfl dX8_act_47 okX0_perform rfl imX0_perform slX0_perform (Or.inl ⟨0, _, _, by decide, rfl, rfl, rfl⟩) rfl rfl (Nat.le_of_ble_eq_true rfl) (Nat.le_of_ble_eq_true rfl) (sX0_perform (v := G (9 * i + 1)) hp (by omega) hκ hr.1 ((hr.2.1 0 (by omega)).trans eκ) (hr.2.1 1 (by omega)) 7 κ u hκ (by omega) (okA_7 κ hκ u (by omega)) d (by omega) x (0, σ.2.1 101) 0 (by omega) (show 0 + 3 ^ 7 ≤ 1000000 by decide) _ ?_)
        refine xe_iret dX8_act_50 rfl rfl ?_
        exact h
      · refine xe_iconst (v := 0) dX8_act_31 rfl ?_
        refine xe_iret dX8_act_32 rfl rfl ?_
        have ca : ¬ (pOk (G 54) (nI i) ∧ rng a 0 2) := by first | exact fun z => absurd z.2.1 (Int32.not_le.mpr h23) | exact fun z => h28 z.2.2
        rw [actV, if_neg ca] at h; exact h
  · skip
    rw [← hc.1] at hx
    refine xe_astoreN (lv2 := [_, _, _, _, _]) dX8_act_15 (by decide) rfl ?_
    refine xe_aloadN dX8_act_17 rfl ?_
    refine xe_ifnullN (tgt := 31) dX8_act_19 (by decide) ?_
    refine xe_iconst (v := 0) dX8_act_31 rfl ?_
    refine xe_iret dX8_act_32 rfl rfl ?_
    rw [actV, if_neg (fun z => hx z.1)] at h; exact h

theorem sX8_trace {d : Nat} (hd : 2 ≤ d) {σ : xSt} {Post : Option Value → xSt → Prop} (t : Nat) (i : Int32) (ht : σ.1 100 1 = nI t) (ht1 : t < 2 ^ 30) (h : Post (some (.int (traceV (nI t) (σ.2.1 101) i))) σ) : xM kX8_trace d [.ref 0, .int i] σ Post := by
  obtain ⟨d, rfl⟩ : ∃ e, d = e + 1 := ⟨d - 1, by omega⟩
  refine xM_start (lv := [some (.ref 0), some (.int i)]) rfl ?_
  refine xe_iload_n dX8_trace_0 rfl ?_
  refine xe_if_lt (tgt := 27) dX8_trace_1 (by decide) (fun h1 => ?_) (fun h1 => ?_)
  · refine xe_iconst (v := -1) dX8_trace_27 rfl ?_
    refine xe_iret dX8_trace_28 rfl rfl ?_
    rw [traceV, mn20' t ht1] at h
    first
    | (rw [if_pos ((le_pred (by omega)).mpr ci), cN_nI (by omega)] at h; exact h)
    | (rw [if_neg (fun z => absurd z.1 (Int32.not_le.mpr h1))] at h; exact h)
    | (rw [if_neg (fun z => absurd ((le_pred (by omega)).mp z).2 (Int32.not_lt.mpr h12))] at h; exact h)
  · refine xe_iload_n dX8_trace_4 rfl ?_
    refine xe_aload_n dX8_trace_5 rfl ?_
    refine xe_getr dX8_trace_6 flX8_71 (by decide) rfl rfl ?_
    refine xe_callv (k2 := kX0_keptCount) (vs := []) dX8_trace_9 okX0_keptCount mlX8_345 imX0_keptCount slX0_keptCount (Or.inl ⟨0, _, _, by decide, rfl, rfl, rfl⟩) rfl rfl (Nat.le_of_ble_eq_true rfl) (Nat.le_of_ble_eq_true rfl) (sX0_keptCount (by omega) t ht ht1 ?_)
    refine xe_icmp_ge (tgt := 27) dX8_trace_12 (by decide) (fun h12 => ?_) (fun h12 => ?_)
    · refine xe_iconst (v := -1) dX8_trace_27 rfl ?_
      refine xe_iret dX8_trace_28 rfl rfl ?_
      rw [traceV, mn20' t ht1] at h
      first
      | (rw [if_pos ((le_pred (by omega)).mpr ci), cN_nI (by omega)] at h; exact h)
      | (rw [if_neg (fun z => absurd z.1 (Int32.not_le.mpr h1))] at h; exact h)
      | (rw [if_neg (fun z => absurd ((le_pred (by omega)).mp z).2 (Int32.not_lt.mpr h12))] at h; exact h)
    · have ci : pOk (nI (min t 20)) i := ⟨Int32.not_lt.mp h1, Int32.not_le.mp h12⟩
      obtain ⟨j, hj, rfl⟩ := pOk_nat (by omega) ci
      refine xe_aload_n dX8_trace_15 rfl ?_
      refine xe_getr dX8_trace_16 flX8_71 (by decide) rfl rfl ?_
      refine xe_getr dX8_trace_19 flX8_348 (by decide) rfl rfl ?_
      refine xe_iload_n dX8_trace_22 rfl ?_
      refine xn_iaload (j := j) dX8_trace_23 (by decide) rfl (by first | with_reducible rfl | (simp only [xl, pk_mul, nI_add, nI_1]; done) | (simp only [xl, pk_mul, nI_add, nI_1]; rfl)) (by omega) (by first | decide | omega) ?_
      refine xe_goto (tgt := 28) dX8_trace_24 (by decide) ?_
      refine xe_iret dX8_trace_28 rfl rfl ?_
      rw [traceV, mn20' t ht1] at h
      first
      | (rw [if_pos ((le_pred (by omega)).mpr ci), cN_nI (by omega)] at h; exact h)
      | (rw [if_neg (fun z => absurd z.1 (Int32.not_le.mpr h1))] at h; exact h)
      | (rw [if_neg (fun z => absurd ((le_pred (by omega)).mp z).2 (Int32.not_lt.mpr h12))] at h; exact h)
