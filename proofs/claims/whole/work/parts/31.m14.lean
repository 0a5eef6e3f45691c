theorem lN_lt' {a b : Nat} (ha : a < 2 ^ 63) (hb : b < 2 ^ 63) (h : lN a < lN b) : a < b := by
  rw [Int64.lt_iff_toInt_lt] at h
  have e : ∀ n : Nat, n < 2 ^ 63 → (lN n).toInt = (n : Int) := fun n hn => by
    unfold lN
    rw [Int64.toInt_ofNat_of_lt (by omega)]
  rw [e a ha, e b hb] at h
  omega
theorem xsJ_self {σ : xSt} {c : Nat} : xsJ σ c (σ.2.2 c) = σ := by
  unfold xsJ
  have : va_up σ.2.2 c (σ.2.2 c) = σ.2.2 := by funext j; unfold va_up; split <;> simp_all
  rw [this]

theorem sX9_trace {d : Nat} (hd : 1 ≤ d) {σ : xSt} {Post : Option Value → xSt → Prop} (a : Nat) (i : Int32) (ha : σ.1 115 27 = nI a) (hb : a < 2 ^ 30) (h : Post (some (.int (traceV (σ.1 115 27) (σ.2.1 133) i))) σ) : xM kX9_trace d [.ref 115, .int i] σ Post := by
  obtain ⟨d, rfl⟩ : ∃ e, d = e + 1 := ⟨d - 1, by omega⟩
  refine xM_start (lv := [some (.ref 115), some (.int i)]) rfl ?_
  refine xe_iload_n dX9_trace_0 rfl ?_
  refine xe_iconst (v := 0) dX9_trace_1 rfl ?_
  refine xe_bipush (v := 20) dX9_trace_2 rfl ?_
  refine xe_aload_n dX9_trace_4 rfl ?_
  refine xe_getf dX9_trace_5 flX9_252 (by decide) rfl rfl ?_
  refine xe_mmin dX9_trace_8 mlX9_120 (by omega) (Nat.le_of_ble_eq_true rfl) ?_
  refine xe_iconst (v := 1) dX9_trace_11 rfl ?_
  refine xe_isub dX9_trace_12 ?_
  refine xe_calls (k2 := kX9_isIn) (vs := [_, _, _]) dX9_trace_13 okX9_isIn mlX9_89 stX9_isIn rfl rfl (Nat.le_of_ble_eq_true rfl) (Nat.le_of_ble_eq_true rfl) (sX9_isIn (by omega) _ _ _ (fun r13 hr13 => ?_))
  refine xe_if_eq (tgt := 28) dX9_trace_16 (by decide) (fun h16 => ?_) (fun h16 => ?_)
  · refine xe_iconst (v := -1) dX9_trace_28 rfl ?_
    refine xe_iret dX9_trace_29 rfl rfl ?_
    first
    | (rw [traceV, if_pos c, eu] at h; exact h)
    | (rw [traceV, if_neg (show ¬ rng i 0 (mnI 20 (σ.1 115 27) - 1) from (xb_eq0 hr13).mp h16)] at h; exact h)
  · have c : rng i 0 (mnI 20 (σ.1 115 27) - 1) := (xb_ne0 hr13).mp h16
    obtain ⟨m, hm, em⟩ : ∃ m, m ≤ 20 ∧ mnI 20 (σ.1 115 27) = nI m := by
      rw [ha]; unfold mnI; split
      · rename_i q; exact ⟨a, Nat.le_of_lt (nLt (b := 20) (by omega) (by omega) q), rfl⟩
      · exact ⟨20, Nat.le_refl _, rfl⟩
    obtain ⟨u, hu, rfl⟩ := pOk_nat (by omega) ((le_pred (n := m) (by omega)).mp (em ▸ c))
    have eu : cN (nI u) = u := cN_nI (by omega)
    refine xe_aload_n dX9_trace_19 rfl ?_
    refine xe_getr dX9_trace_20 flX9_65 (by decide) rfl rfl ?_
    refine xe_iload_n dX9_trace_23 rfl ?_
    refine xn_iaload dX9_trace_24 (by decide) rfl (by first | with_reducible rfl | (simp only [xl, pk_mul, nI_add, nI_1]; done) | (simp only [xl, pk_mul, nI_add, nI_1]; rfl)) (by omega) (by decide) ?_
    refine xe_goto (tgt := 29) dX9_trace_25 (by decide) ?_
    refine xe_iret dX9_trace_29 rfl rfl ?_
    first
    | (rw [traceV, if_pos c, eu] at h; exact h)
    | (rw [traceV, if_neg (show ¬ rng i 0 (mnI 20 (σ.1 115 27) - 1) from (xb_eq0 hr13).mp h16)] at h; exact h)

theorem sX9_count {d : Nat} (hd : 0 ≤ d) {σ : xSt} {Post : Option Value → xSt → Prop} (w : Int32) (h : Post (some (.int (countV (σ.2.1 116) (σ.1 115 8) (σ.1 115 5) (σ.1 115 27) w))) σ) : xM kX9_count d [.ref 115, .int w] σ Post := by
  refine xM_start (lv := [some (.ref 115), some (.int w)]) rfl ?_
  refine xe_iload_n dX9_count_0 rfl ?_
  refine xn_tsw (tgs := [44, 52, 57, 65, 73, 81, 86]) (td := 91) dX9_count_1 rfl rfl rfl (fun i1 t1 hg1 hx1 => ?_) (fun hx1 => ?_)
  · match i1, hg1, hx1 with
    | 0, hg1, hx1 =>
      cases hg1
      have c : w = 0 := Int32.toInt_inj.mp (by rw [hx1]; rfl)
      subst c
      refine xe_aload_n dX9_count_44 rfl ?_
      refine xe_getr dX9_count_45 flX9_9 (by decide) rfl rfl ?_
      refine xe_bipush (v := 54) dX9_count_48 rfl ?_
      refine xn_iaload dX9_count_50 (by decide) rfl (by first | with_reducible rfl | (simp only [xl, pk_mul, nI_add, nI_1]; done) | (simp only [xl, pk_mul, nI_add, nI_1]; rfl)) (by omega) (by decide) ?_
      refine xe_iret dX9_count_51 rfl rfl ?_
      exact h
    | 1, hg1, hx1 =>
      cases hg1
      have c : w = 1 := Int32.toInt_inj.mp (by rw [hx1]; rfl)
      subst c
      refine xe_aload_n dX9_count_52 rfl ?_
      refine xe_getf dX9_count_53 flX9_186 (by decide) rfl rfl ?_
      refine xe_iret dX9_count_56 rfl rfl ?_
      exact h
    | 2, hg1, hx1 =>
      cases hg1
      have c : w = 2 := Int32.toInt_inj.mp (by rw [hx1]; rfl)
      subst c
      refine xe_aload_n dX9_count_57 rfl ?_
      refine xe_getr dX9_count_58 flX9_9 (by decide) rfl rfl ?_
      refine xe_bipush (v := 58) dX9_count_61 rfl ?_
      refine xn_iaload dX9_count_63 (by decide) rfl (by first | with_reducible rfl | (simp only [xl, pk_mul, nI_add, nI_1]; done) | (simp only [xl, pk_mul, nI_add, nI_1]; rfl)) (by omega) (by decide) ?_
      refine xe_iret dX9_count_64 rfl rfl ?_
      exact h
    | 3, hg1, hx1 =>
      cases hg1
      have c : w = 3 := Int32.toInt_inj.mp (by rw [hx1]; rfl)
      subst c
      refine xe_aload_n dX9_count_65 rfl ?_
      refine xe_getr dX9_count_66 flX9_9 (by decide) rfl rfl ?_
      refine xe_bipush (v := 77) dX9_count_69 rfl ?_
      refine xn_iaload dX9_count_71 (by decide) rfl (by first | with_reducible rfl | (simp only [xl, pk_mul, nI_add, nI_1]; done) | (simp only [xl, pk_mul, nI_add, nI_1]; rfl)) (by omega) (by decide) ?_
      refine xe_iret dX9_count_72 rfl rfl ?_
      exact h
    | 4, hg1, hx1 =>
      cases hg1
      have c : w = 4 := Int32.toInt_inj.mp (by rw [hx1]; rfl)
      subst c
      refine xe_aload_n dX9_count_73 rfl ?_
      refine xe_getr dX9_count_74 flX9_9 (by decide) rfl rfl ?_
      refine xe_bipush (v := 98) dX9_count_77 rfl ?_
      refine xn_iaload dX9_count_79 (by decide) rfl (by first | with_reducible rfl | (simp only [xl, pk_mul, nI_add, nI_1]; done) | (simp only [xl, pk_mul, nI_add, nI_1]; rfl)) (by omega) (by decide) ?_
      refine xe_iret dX9_count_80 rfl rfl ?_
      exact h
    | 5, hg1, hx1 =>
      cases hg1
      have c : w = 5 := Int32.toInt_inj.mp (by rw [hx1]; rfl)
      subst c
      refine xe_aload_n dX9_count_81 rfl ?_
      refine xe_getf dX9_count_82 flX9_132 (by decide) rfl rfl ?_
      refine xe_iret dX9_count_85 rfl rfl ?_
      exact h
    | 6, hg1, hx1 =>
      cases hg1
      have c : w = 6 := Int32.toInt_inj.mp (by rw [hx1]; rfl)
      subst c
      refine xe_aload_n dX9_count_86 rfl ?_
      refine xe_getf dX9_count_87 flX9_252 (by decide) rfl rfl ?_
      refine xe_iret dX9_count_90 rfl rfl ?_
      exact h
    | i1 + 7, hg1, hx1 => simp at hg1
  · skip
    have c : ∀ n : Int32, 0 ≤ n.toInt → n.toInt ≤ 6 → ¬ w = n := fun n q1 q2 z => by rw [z] at hx1; omega
    refine xe_bipush (v := -2) dX9_count_91 rfl ?_
    refine xe_iret dX9_count_93 rfl rfl ?_
    rw [countV, if_neg (c 0 (by decide) (by decide)), if_neg (c 1 (by decide) (by decide)), if_neg (c 2 (by decide) (by decide)), if_neg (c 3 (by decide) (by decide)), if_neg (c 4 (by decide) (by decide)), if_neg (c 5 (by decide) (by decide)), if_neg (c 6 (by decide) (by decide))] at h
    exact h

theorem lX9_taken {d : Nat} {σ : xSt} {Post : Option Value → xSt → Prop} (hM : MCo σ) (v1 k : Int32) : ∀ (c : Nat) (x : Int32), (x = -1 ∨ ∃ j, j ≤ 6 ∧ x = nI j ∧ (c = 3 ∨ (c = 2 ∧ j ≤ 3) ∨ (c = 1 ∧ j = 0))) → xEv kX9_taken (d + 1) 51 [some (.ref 115), some (.int v1), some (.int k), some (.int (unL (c + 1) x k))] [] σ Post → xEv kX9_taken (d + 1) 31 [some (.ref 115), some (.int v1), some (.int k), some (.int x)] [] σ Post := by
  intro c
  induction c with
  | zero =>
    intro x hx h
    have hx1 : x = -1 := by
      rcases hx with q | ⟨j, -, -, q | q | q⟩
      · exact q
      · omega
      · omega
      · omega
    rw [unL, if_pos (Or.inl hx1)] at h
    refine xe_iload_n dX9_taken_31 rfl ?_
    refine xe_iconst (v := -1) dX9_taken_32 rfl ?_
    refine xe_icmp_eq (tgt := 51) dX9_taken_33 (by decide) (fun h33 => ?_) (fun h33 => absurd hx1 h33)
    exact h
  | succ c ih =>
    intro x hx h
    rw [unL] at h
    refine xe_iload_n dX9_taken_31 rfl ?_
    refine xe_iconst (v := -1) dX9_taken_32 rfl ?_
    refine xe_icmp_eq (tgt := 51) dX9_taken_33 (by decide) (fun h33 => ?_) (fun h33 => ?_)
    · first
      | (rw [if_pos (Or.inl h33)] at h; exact h)
      | (rw [if_pos (Or.inr h38)] at h; exact h)
    · refine xe_iload_n dX9_taken_36 rfl ?_
      refine xe_iload_n dX9_taken_37 rfl ?_
      refine xe_icmp_eq (tgt := 51) dX9_taken_38 (by decide) (fun h38 => ?_) (fun h38 => ?_)
      · first
        | (rw [if_pos (Or.inl h33)] at h; exact h)
        | (rw [if_pos (Or.inr h38)] at h; exact h)
      · rw [if_neg (fun z => z.elim h33 h38)] at h
        obtain ⟨j, hj, rfl, hc⟩ := hx.resolve_left h33
        refine xe_aload_n dX9_taken_41 rfl ?_
        refine xe_getr dX9_taken_42 flX9_59 (by decide) rfl rfl ?_
        refine xe_iload_n dX9_taken_45 rfl ?_
        refine xn_iaload (j := j) dX9_taken_46 (by decide) rfl rfl (by omega) (by decide) ?_
        rw [hM.2.2.2.1 j (by omega)]
        refine xe_istore_n (lv2 := [_, _, _, _]) dX9_taken_47 (by decide) rfl ?_
        refine xe_goto (tgt := 31) dX9_taken_48 (by decide) ?_
        rw [cN_nI (by omega)] at h
        refine ih _ ?_ h
        rcases (show j = 0 ∨ j = 1 ∨ j = 2 ∨ j = 3 ∨ j = 4 ∨ j = 5 ∨ j = 6 by omega) with rfl | rfl | rfl | rfl | rfl | rfl | rfl
        · exact Or.inl rfl
        · exact Or.inr ⟨0, by omega, rfl, by omega⟩
        · exact Or.inr ⟨0, by omega, rfl, by omega⟩
        · exact Or.inr ⟨0, by omega, rfl, by omega⟩
        · exact Or.inr ⟨1, by omega, rfl, by omega⟩
        · exact Or.inr ⟨2, by omega, rfl, by omega⟩
        · exact Or.inr ⟨3, by omega, rfl, by omega⟩

theorem sX9_taken {d : Nat} (hd : 2 ≤ d) {σ : xSt} {Post : Option Value → xSt → Prop} (n : Nat) (hn : σ.2.1 116 54 = nI n) (h6 : n ≤ 6) (p k : Int32) (hM : MCo σ) (hk : ∀ i, i < n → ∃ j, j ≤ 6 ∧ σ.2.1 116 (9 * i) = nI j) (h : Post (some (.int (takenV (σ.2.1 116) p k))) σ) : xM kX9_taken d [.ref 115, .int p, .int k] σ Post := by
  obtain ⟨d, rfl⟩ : ∃ e, d = e + 1 := ⟨d - 1, by omega⟩
  refine xM_start (lv := [some (.ref 115), some (.int p), some (.int k), none]) rfl ?_
  refine xe_iload_n dX9_taken_0 rfl ?_
  refine xe_iconst (v := 0) dX9_taken_1 rfl ?_
  refine xe_bipush (v := 6) dX9_taken_2 rfl ?_
  refine xe_calls (k2 := kX9_isIn) (vs := [_, _, _]) dX9_taken_4 okX9_isIn mlX9_89 stX9_isIn rfl rfl (Nat.le_of_ble_eq_true rfl) (Nat.le_of_ble_eq_true rfl) (sX9_isIn (by omega) _ _ _ (fun r4 hr4 => ?_))
  refine xe_if_ne (tgt := 13) dX9_taken_7 (by decide) (fun h7 => ?_) (fun h7 => ?_)
  · refine xe_aload_n dX9_taken_13 rfl ?_
    refine xe_iload_n dX9_taken_14 rfl ?_
    refine xe_callv (k2 := kX9_isPot) (vs := [_]) dX9_taken_15 okX9_isPot mlX9_101 imX9_isPot slX9_isPot (Or.inl ⟨9, _, _, by decide, rfl, rfl, rfl⟩) rfl rfl (Nat.le_of_ble_eq_true rfl) (Nat.le_of_ble_eq_true rfl) (tX9_isPot (by omega) _ n hn h6 (fun r15 hr15 => ?_))
    refine xe_if_ne (tgt := 24) dX9_taken_18 (by decide) (fun h18 => ?_) (fun h18 => ?_)
    · have cp := (xb_ne0 hr15).mp h18
      obtain ⟨i, hi, rfl⟩ := pOk_nat (by omega) cp
      have ei : cN (nI i) = i := cN_nI (by omega)
      have c0 := (xb_ne0 hr4).mp h7
      obtain ⟨j, hj, ej⟩ := hk i hi
      rw [takenV, if_pos c0, if_pos (hn ▸ cp), ei] at h
      refine xe_aload_n dX9_taken_24 rfl ?_
      refine xe_iload_n dX9_taken_25 rfl ?_
      refine xe_iconst (v := 0) dX9_taken_26 rfl ?_
      refine xe_callv (k2 := kX9_one) (vs := [_, _]) dX9_taken_27 okX9_one mlX9_93 imX9_one slX9_one (Or.inl ⟨9, _, _, by decide, rfl, rfl, rfl⟩) rfl rfl (Nat.le_of_ble_eq_true rfl) (Nat.le_of_ble_eq_true rfl) (sX9_one (by omega) i 0 (by omega) ?_)
      refine xe_istore_n (lv2 := [_, _, _, _]) dX9_taken_30 (by decide) rfl ?_
      rw [Nat.add_zero]
      refine lX9_taken hM _ k 3 _ (Or.inr ⟨j, hj, ej, Or.inl rfl⟩) ?_
      refine xe_iload_n dX9_taken_51 rfl ?_
      refine xe_iload_n dX9_taken_52 rfl ?_
      refine xe_icmp_ne (tgt := 65) dX9_taken_53 (by decide) (fun h53 => ?_) (fun h53 => ?_)
      · refine xe_bipush (v := -12) dX9_taken_65 rfl ?_
        refine xe_iret dX9_taken_67 rfl rfl ?_
        first
        | (rw [if_neg (show ¬ unL 4 (σ.2.1 116 (9 * i)) k = k from h53)] at h; exact h)
        | (rw [if_pos (show unL 4 (σ.2.1 116 (9 * i)) k = k from h53)] at h; exact h)
      · refine xe_aload_n dX9_taken_56 rfl ?_
        refine xe_iload_n dX9_taken_57 rfl ?_
        refine xe_iconst (v := 0) dX9_taken_58 rfl ?_
        refine xe_callv (k2 := kX9_one) (vs := [_, _]) dX9_taken_59 okX9_one mlX9_93 imX9_one slX9_one (Or.inl ⟨9, _, _, by decide, rfl, rfl, rfl⟩) rfl rfl (Nat.le_of_ble_eq_true rfl) (Nat.le_of_ble_eq_true rfl) (sX9_one (by omega) i 0 (by omega) ?_)
        refine xe_goto (tgt := 67) dX9_taken_62 (by decide) ?_
        refine xe_iret dX9_taken_67 rfl rfl ?_
        first
        | (rw [if_neg (show ¬ unL 4 (σ.2.1 116 (9 * i)) k = k from h53)] at h; exact h)
        | (rw [if_pos (show unL 4 (σ.2.1 116 (9 * i)) k = k from h53)] at h; exact h)
    · refine xe_bipush (v := -11) dX9_taken_21 rfl ?_
      refine xe_iret dX9_taken_23 rfl rfl ?_
      rw [takenV, if_pos ((xb_ne0 hr4).mp h7), if_neg (fun z => (xb_eq0 hr15).mp h18 (hn ▸ z))] at h; exact h
  · refine xe_bipush (v := -2) dX9_taken_10 rfl ?_
    refine xe_iret dX9_taken_12 rfl rfl ?_
    rw [takenV, if_neg ((xb_eq0 hr4).mp h7)] at h; exact h

theorem lX9_tape {d : Nat} {σ : xSt} {Post : Option Value → xSt → Prop} (u : Nat) (hu : u ≤ 5) (s m : Int32) (h : Post (some (.int 1)) (xsJ σ 136 (zeroJ (σ.2.2 136) (60 * u) 60))) : ∀ (n j : Nat), 61 ≤ j + n → j ≤ 60 → xEv kX9_tape (d + 1) 67 [some (.ref 115), some (.int (nI u)), some (.int s), some (.int m), some (.int (nI j))] [] (xsJ σ 136 (zeroJ (σ.2.2 136) (60 * u) j)) Post := by
  intro n
  induction n with
  | zero => intro j hn hj; omega
  | succ n ih =>
    intro j hn hj
    refine xe_iload dX9_tape_67 rfl ?_
    refine xe_bipush (v := 60) dX9_tape_69 rfl ?_
    refine xe_icmp_ge (tgt := 93) dX9_tape_71 (by decide) (fun h71 => ?_) (fun h71 => ?_)
    · refine xe_iconst (v := 1) dX9_tape_93 rfl ?_
      refine xe_iret dX9_tape_94 rfl rfl ?_
      have e := nLe (a := 60) (by omega) (by omega) h71
      rw [show j = 60 by omega]
      exact h
    · have e := nNle (a := 60) (by omega) (by omega) h71
      refine xe_aload_n dX9_tape_74 rfl ?_
      refine xe_getr dX9_tape_75 flX9_74 (by decide) rfl rfl ?_
      refine xe_bipush (v := 60) dX9_tape_78 rfl ?_
      refine xe_iload_n dX9_tape_80 rfl ?_
      refine xe_imul dX9_tape_81 ?_
      refine xe_iload dX9_tape_82 rfl ?_
      refine xe_iadd dX9_tape_84 ?_
      refine xe_lconst (v := 0) dX9_tape_85 rfl ?_
      refine xn_lastore (j := 60 * u + j) dX9_tape_86 (by decide) rfl (by simp only [xl, pk_mul, nI_add]) (by omega) (by decide) ?_
      refine xn_inc (j := j) (lv2 := [_, _, _, _, _]) dX9_tape_87 (by decide) rfl rfl ?_
      refine xe_goto (tgt := 67) dX9_tape_90 (by decide) ?_
      refine xe_st ?_ (ih (j + 1) (by omega) (by omega))
      rw [xsJ_J, xsJ_get, zeroJ_succ]

theorem sX9_tape {d : Nat} (hd : 2 ≤ d) {σ : xSt} {Post : Option Value → xSt → Prop} (t s m : Int32) (h : Post (some (.int (tapeV t s m))) (if tapeOk t s m then xsJ (xsA (xsA σ 134 (upd (σ.2.1 134) (cN t) s)) 135 (upd (σ.2.1 135) (cN t) (if s < 0 then 0 else m))) 136 (zeroJ (σ.2.2 136) (60 * cN t) 60) else σ)) : xM kX9_tape d [.ref 115, .int t, .int s, .int m] σ Post := by
  obtain ⟨d, rfl⟩ : ∃ e, d = e + 1 := ⟨d - 1, by omega⟩
  refine xM_start (lv := [some (.ref 115), some (.int t), some (.int s), some (.int m), none]) rfl ?_
  refine xe_iload_n dX9_tape_0 rfl ?_
  refine xe_calls (k2 := kX9_isTape) (vs := [_]) dX9_tape_1 okX9_isTape mlX9_265 stX9_isTape rfl rfl (Nat.le_of_ble_eq_true rfl) (Nat.le_of_ble_eq_true rfl) (sX9_isTape (by omega) _ (fun r1 hr1 => ?_))
  refine xe_if_ne (tgt := 9) dX9_tape_4 (by decide) (fun h4 => ?_) (fun h4 => ?_)
  · refine xe_iload_n dX9_tape_9 rfl ?_
    refine xe_iconst (v := -1) dX9_tape_10 rfl ?_
    refine xe_iconst (v := 4) dX9_tape_11 rfl ?_
    refine xe_calls (k2 := kX9_isIn) (vs := [_, _, _]) dX9_tape_12 okX9_isIn mlX9_89 stX9_isIn rfl rfl (Nat.le_of_ble_eq_true rfl) (Nat.le_of_ble_eq_true rfl) (sX9_isIn (by omega) _ _ _ (fun r12 hr12 => ?_))
    refine xe_if_eq (tgt := 28) dX9_tape_15 (by decide) (fun h15 => ?_) (fun h15 => ?_)
    · refine xe_bipush (v := -2) dX9_tape_28 rfl ?_
      refine xe_iret dX9_tape_30 rfl rfl ?_
      have c0 := (xb_ne0 hr1).mp h4
      have c1 : tapeBad s m := by
        intro z
        first
        | exact (xb_eq0 hr12).mp h15 z.1
        | exact z.2.elim h19 h25
      rw [tapeV, if_pos c0, if_pos c1, if_neg (fun z => z.2.1 c1)] at h; exact h
    · refine xe_iload_n dX9_tape_18 rfl ?_
      refine xe_if_lt (tgt := 31) dX9_tape_19 (by decide) (fun h19 => ?_) (fun h19 => ?_)
      · have c0 := (xb_ne0 hr1).mp h4
        have c1 : ¬ tapeBad s m := by
          intro z
          first
          | exact z ⟨(xb_ne0 hr12).mp h15, Or.inl h19⟩
          | exact z ⟨(xb_ne0 hr12).mp h15, Or.inr h25⟩
        refine xe_iload_n dX9_tape_31 rfl ?_
        refine xe_if_lt (tgt := 42) dX9_tape_32 (by decide) (fun h32 => ?_) (fun h32 => ?_)
        · have ct := c0
          have c2 : ¬ (0 ≤ s ∧ m < 0) := by
            intro z
            first
            | exact Int32.not_le.mpr h32 z.1
            | exact Int32.not_lt.mpr h36 z.2
          rw [tapeV, if_pos c0, if_neg c1, if_neg c2, if_pos ⟨c0, c1, c2⟩] at h
          obtain ⟨u, hu, rfl⟩ := rng_nat (m := 5) (by omega) ct
          have eu : cN (nI u) = u := cN_nI (by omega)
          rw [eu] at h
          refine xe_aload_n dX9_tape_42 rfl ?_
          refine xe_getr dX9_tape_43 flX9_68 (by decide) rfl rfl ?_
          refine xe_iload_n dX9_tape_46 rfl ?_
          refine xe_iload_n dX9_tape_47 rfl ?_
          refine xn_iastore (j := u) dX9_tape_48 (by decide) rfl rfl (by omega) (by decide) ?_
          refine xe_aload_n dX9_tape_49 rfl ?_
          refine xe_getr dX9_tape_50 flX9_71 (by decide) rfl rfl ?_
          refine xe_iload_n dX9_tape_53 rfl ?_
          refine xe_iload_n dX9_tape_54 rfl ?_
          refine xe_if_ge (tgt := 62) dX9_tape_55 (by decide) (fun h55 => ?_) (fun h55 => ?_)
          · refine xe_iload_n dX9_tape_62 rfl ?_
            refine xn_iastore (j := u) dX9_tape_63 (by decide) rfl rfl (by omega) (by decide) ?_
            rw [xsA_ne (by decide)]
            refine xe_iconst (v := 0) dX9_tape_64 rfl ?_
            refine xe_istore (lv2 := [_, _, _, _, _]) dX9_tape_65 (by decide) rfl ?_
            first
            | rw [if_neg (Int32.not_lt.mpr h55)] at h
            | rw [if_pos (Int32.not_le.mp h55)] at h
            refine xe_st (σ2 := xsJ _ 136 (zeroJ (σ.2.2 136) (60 * u) 0)) ?_ (lX9_tape u hu _ _ h 61 0 (by omega) (by omega))
            rw [zeroJ_0]
            exact xsJ_self.symm
          · refine xe_iconst (v := 0) dX9_tape_58 rfl ?_
            refine xe_goto (tgt := 63) dX9_tape_59 (by decide) ?_
            refine xn_iastore (j := u) dX9_tape_63 (by decide) rfl rfl (by omega) (by decide) ?_
            rw [xsA_ne (by decide)]
            refine xe_iconst (v := 0) dX9_tape_64 rfl ?_
            refine xe_istore (lv2 := [_, _, _, _, _]) dX9_tape_65 (by decide) rfl ?_
            first
            | rw [if_neg (Int32.not_lt.mpr h55)] at h
            | rw [if_pos (Int32.not_le.mp h55)] at h
            refine xe_st (σ2 := xsJ _ 136 (zeroJ (σ.2.2 136) (60 * u) 0)) ?_ (lX9_tape u hu _ _ h 61 0 (by omega) (by omega))
            rw [zeroJ_0]
            exact xsJ_self.symm
        · refine xe_iload_n dX9_tape_35 rfl ?_
          refine xe_if_ge (tgt := 42) dX9_tape_36 (by decide) (fun h36 => ?_) (fun h36 => ?_)
          · have ct := c0
            have c2 : ¬ (0 ≤ s ∧ m < 0) := by
              intro z
              first
              | exact Int32.not_le.mpr h32 z.1
              | exact Int32.not_lt.mpr h36 z.2
            rw [tapeV, if_pos c0, if_neg c1, if_neg c2, if_pos ⟨c0, c1, c2⟩] at h
            obtain ⟨u, hu, rfl⟩ := rng_nat (m := 5) (by omega) ct
            have eu : cN (nI u) = u := cN_nI (by omega)
            rw [eu] at h
            refine xe_aload_n dX9_tape_42 rfl ?_
            refine xe_getr dX9_tape_43 flX9_68 (by decide) rfl rfl ?_
            refine xe_iload_n dX9_tape_46 rfl ?_
            refine xe_iload_n dX9_tape_47 rfl ?_
            refine xn_iastore (j := u) dX9_tape_48 (by decide) rfl rfl (by omega) (by decide) ?_
            refine xe_aload_n dX9_tape_49 rfl ?_
            refine xe_getr dX9_tape_50 flX9_71 (by decide) rfl rfl ?_
            refine xe_iload_n dX9_tape_53 rfl ?_
            refine xe_iload_n dX9_tape_54 rfl ?_
            refine xe_if_ge (tgt := 62) dX9_tape_55 (by decide) (fun h55 => ?_) (fun h55 => ?_)
            · refine xe_iload_n dX9_tape_62 rfl ?_
              refine xn_iastore (j := u) dX9_tape_63 (by decide) rfl rfl (by omega) (by decide) ?_
              rw [xsA_ne (by decide)]
              refine xe_iconst (v := 0) dX9_tape_64 rfl ?_
              refine xe_istore (lv2 := [_, _, _, _, _]) dX9_tape_65 (by decide) rfl ?_
              first
              | rw [if_neg (Int32.not_lt.mpr h55)] at h
              | rw [if_pos (Int32.not_le.mp h55)] at h
              refine xe_st (σ2 := xsJ _ 136 (zeroJ (σ.2.2 136) (60 * u) 0)) ?_ (lX9_tape u hu _ _ h 61 0 (by omega) (by omega))
              rw [zeroJ_0]
              exact xsJ_self.symm
            · refine xe_iconst (v := 0) dX9_tape_58 rfl ?_
              refine xe_goto (tgt := 63) dX9_tape_59 (by decide) ?_
              refine xn_iastore (j := u) dX9_tape_63 (by decide) rfl rfl (by omega) (by decide) ?_
              rw [xsA_ne (by decide)]
              refine xe_iconst (v := 0) dX9_tape_64 rfl ?_
              refine xe_istore (lv2 := [_, _, _, _, _]) dX9_tape_65 (by decide) rfl ?_
              first
              | rw [if_neg (Int32.not_lt.mpr h55)] at h
              | rw [if_pos (Int32.not_le.mp h55)] at h
              refine xe_st (σ2 := xsJ _ 136 (zeroJ (σ.2.2 136) (60 * u) 0)) ?_ (lX9_tape u hu _ _ h 61 0 (by omega) (by omega))
              rw [zeroJ_0]
              exact xsJ_self.symm
          · refine xe_bipush (v := -14) dX9_tape_39 rfl ?_
            refine xe_iret dX9_tape_41 rfl rfl ?_
            have c2 : 0 ≤ s ∧ m < 0 := ⟨Int32.not_lt.mp h32, Int32.not_le.mp h36⟩
            rw [tapeV, if_pos c0, if_neg c1, if_pos c2, if_neg (fun z => z.2.2 c2)] at h; exact h
      · refine xe_iload_n dX9_tape_22 rfl ?_
        refine xe_bipush (v := 60) dX9_tape_23 rfl ?_
        refine xe_icmp_le (tgt := 31) dX9_tape_25 (by decide) (fun h25 => ?_) (fun h25 => ?_)
        · have c0 := (xb_ne0 hr1).mp h4
          have c1 : ¬ tapeBad s m := by
            intro z
            first
            | exact z ⟨(xb_ne0 hr12).mp h15, Or.inl h19⟩
            | exact z ⟨(xb_ne0 hr12).mp h15, Or.inr h25⟩
          refine xe_iload_n dX9_tape_31 rfl ?_
          refine xe_if_lt (tgt := 42) dX9_tape_32 (by decide) (fun h32 => ?_) (fun h32 => ?_)
          · have ct := c0
            have c2 : ¬ (0 ≤ s ∧ m < 0) := by
              intro z
              first
              | exact Int32.not_le.mpr h32 z.1
              | exact Int32.not_lt.mpr h36 z.2
            rw [tapeV, if_pos c0, if_neg c1, if_neg c2, if_pos ⟨c0, c1, c2⟩] at h
            obtain ⟨u, hu, rfl⟩ := rng_nat (m := 5) (by omega) ct
            have eu : cN (nI u) = u := cN_nI (by omega)
            rw [eu] at h
            refine xe_aload_n dX9_tape_42 rfl ?_
            refine xe_getr dX9_tape_43 flX9_68 (by decide) rfl rfl ?_
            refine xe_iload_n dX9_tape_46 rfl ?_
            refine xe_iload_n dX9_tape_47 rfl ?_
            refine xn_iastore (j := u) dX9_tape_48 (by decide) rfl rfl (by omega) (by decide) ?_
            refine xe_aload_n dX9_tape_49 rfl ?_
            refine xe_getr dX9_tape_50 flX9_71 (by decide) rfl rfl ?_
            refine xe_iload_n dX9_tape_53 rfl ?_
            refine xe_iload_n dX9_tape_54 rfl ?_
            refine xe_if_ge (tgt := 62) dX9_tape_55 (by decide) (fun h55 => ?_) (fun h55 => ?_)
            · refine xe_iload_n dX9_tape_62 rfl ?_
              refine xn_iastore (j := u) dX9_tape_63 (by decide) rfl rfl (by omega) (by decide) ?_
              rw [xsA_ne (by decide)]
              refine xe_iconst (v := 0) dX9_tape_64 rfl ?_
              refine xe_istore (lv2 := [_, _, _, _, _]) dX9_tape_65 (by decide) rfl ?_
              first
              | rw [if_neg (Int32.not_lt.mpr h55)] at h
              | rw [if_pos (Int32.not_le.mp h55)] at h
              refine xe_st (σ2 := xsJ _ 136 (zeroJ (σ.2.2 136) (60 * u) 0)) ?_ (lX9_tape u hu _ _ h 61 0 (by omega) (by omega))
              rw [zeroJ_0]
              exact xsJ_self.symm
            · refine xe_iconst (v := 0) dX9_tape_58 rfl ?_
              refine xe_goto (tgt := 63) dX9_tape_59 (by decide) ?_
              refine xn_iastore (j := u) dX9_tape_63 (by decide) rfl rfl (by omega) (by decide) ?_
              rw [xsA_ne (by decide)]
              refine xe_iconst (v := 0) dX9_tape_64 rfl ?_
              refine xe_istore (lv2 := [_, _, _, _, _]) dX9_tape_65 (by decide) rfl ?_
              first
              | rw [if_neg (Int32.not_lt.mpr h55)] at h
              | rw [if_pos (Int32.not_le.mp h55)] at h
              refine xe_st (σ2 := xsJ _ 136 (zeroJ (σ.2.2 136) (60 * u) 0)) ?_ (lX9_tape u hu _ _ h 61 0 (by omega) (by omega))
              rw [zeroJ_0]
              exact xsJ_self.symm
          · refine xe_iload_n dX9_tape_35 rfl ?_
            refine xe_if_ge (tgt := 42) dX9_tape_36 (by decide) (fun h36 => ?_) (fun h36 => ?_)
            · have ct := c0
              have c2 : ¬ (0 ≤ s ∧ m < 0) := by
                intro z
                first
                | exact Int32.not_le.mpr h32 z.1
                | exact Int32.not_lt.mpr h36 z.2
              rw [tapeV, if_pos c0, if_neg c1, if_neg c2, if_pos ⟨c0, c1, c2⟩] at h
              obtain ⟨u, hu, rfl⟩ := rng_nat (m := 5) (by omega) ct
              have eu : cN (nI u) = u := cN_nI (by omega)
              rw [eu] at h
              refine xe_aload_n dX9_tape_42 rfl ?_
              refine xe_getr dX9_tape_43 flX9_68 (by decide) rfl rfl ?_
              refine xe_iload_n dX9_tape_46 rfl ?_
              refine xe_iload_n dX9_tape_47 rfl ?_
              refine xn_iastore (j := u) dX9_tape_48 (by decide) rfl rfl (by omega) (by decide) ?_
              refine xe_aload_n dX9_tape_49 rfl ?_
              refine xe_getr dX9_tape_50 flX9_71 (by decide) rfl rfl ?_
              refine xe_iload_n dX9_tape_53 rfl ?_
              refine xe_iload_n dX9_tape_54 rfl ?_
              refine xe_if_ge (tgt := 62) dX9_tape_55 (by decide) (fun h55 => ?_) (fun h55 => ?_)
              · refine xe_iload_n dX9_tape_62 rfl ?_
                refine xn_iastore (j := u) dX9_tape_63 (by decide) rfl rfl (by omega) (by decide) ?_
                rw [xsA_ne (by decide)]
                refine xe_iconst (v := 0) dX9_tape_64 rfl ?_
                refine xe_istore (lv2 := [_, _, _, _, _]) dX9_tape_65 (by decide) rfl ?_
                first
                | rw [if_neg (Int32.not_lt.mpr h55)] at h
                | rw [if_pos (Int32.not_le.mp h55)] at h
                refine xe_st (σ2 := xsJ _ 136 (zeroJ (σ.2.2 136) (60 * u) 0)) ?_ (lX9_tape u hu _ _ h 61 0 (by omega) (by omega))
                rw [zeroJ_0]
                exact xsJ_self.symm
              · refine xe_iconst (v := 0) dX9_tape_58 rfl ?_
                refine xe_goto (tgt := 63) dX9_tape_59 (by decide) ?_
                refine xn_iastore (j := u) dX9_tape_63 (by decide) rfl rfl (by omega) (by decide) ?_
                rw [xsA_ne (by decide)]
                refine xe_iconst (v := 0) dX9_tape_64 rfl ?_
                refine xe_istore (lv2 := [_, _, _, _, _]) dX9_tape_65 (by decide) rfl ?_
                first
                | rw [if_neg (Int32.not_lt.mpr h55)] at h
                | rw [if_pos (Int32.not_le.mp h55)] at h
                refine xe_st (σ2 := xsJ _ 136 (zeroJ (σ.2.2 136) (60 * u) 0)) ?_ (lX9_tape u hu _ _ h 61 0 (by omega) (by omega))
                rw [zeroJ_0]
                exact xsJ_self.symm
            · refine xe_bipush (v := -14) dX9_tape_39 rfl ?_
              refine xe_iret dX9_tape_41 rfl rfl ?_
              have c2 : 0 ≤ s ∧ m < 0 := ⟨Int32.not_lt.mp h32, Int32.not_le.mp h36⟩
              rw [tapeV, if_pos c0, if_neg c1, if_pos c2, if_neg (fun z => z.2.2 c2)] at h; exact h
        · refine xe_bipush (v := -2) dX9_tape_28 rfl ?_
          refine xe_iret dX9_tape_30 rfl rfl ?_
          have c0 := (xb_ne0 hr1).mp h4
          have c1 : tapeBad s m := by
            intro z
            first
            | exact (xb_eq0 hr12).mp h15 z.1
            | exact z.2.elim h19 h25
          rw [tapeV, if_pos c0, if_pos c1, if_neg (fun z => z.2.1 c1)] at h; exact h
  · refine xe_iconst (v := -1) dX9_tape_7 rfl ?_
    refine xe_iret dX9_tape_8 rfl rfl ?_
    have c := (xb_eq0 hr1).mp h4
    rw [tapeV, if_neg c, if_neg (fun z => c z.1)] at h; exact h

theorem sX9_item {d : Nat} (hd : 2 ≤ d) {σ : xSt} {Post : Option Value → xSt → Prop} (t i : Int32) (v : Int64) (hl : ∀ t, t < 6 → ∃ m, m ≤ 60 ∧ σ.2.1 135 t = nI m) (h : Post (some (.int (itemV (σ.2.1 134) (σ.2.1 135) t i))) (if itemV (σ.2.1 134) (σ.2.1 135) t i = 1 then xsJ σ 136 (vp_updL (σ.2.2 136) (60 * cN t + cN i) (loB (σ.2.1 134 (cN t)) v)) else σ)) : xM kX9_item d [.ref 115, .int t, .int i, .long v] σ Post := by
  obtain ⟨d, rfl⟩ : ∃ e, d = e + 1 := ⟨d - 1, by omega⟩
  refine xM_start (lv := [some (.ref 115), some (.int t), some (.int i), some (.long v), none, none]) rfl ?_
  refine xe_iload_n dX9_item_0 rfl ?_
  refine xe_calls (k2 := kX9_isTape) (vs := [_]) dX9_item_1 okX9_isTape mlX9_265 stX9_isTape rfl rfl (Nat.le_of_ble_eq_true rfl) (Nat.le_of_ble_eq_true rfl) (sX9_isTape (by omega) _ (fun r1 hr1 => ?_))
  refine xe_if_ne (tgt := 9) dX9_item_4 (by decide) (fun h4 => ?_) (fun h4 => ?_)
  · have ct := (xb_ne0 hr1).mp h4
    obtain ⟨u, hu, rfl⟩ := rng_nat (m := 5) (by omega) ct
    have eu : cN (nI u) = u := cN_nI (by omega)
    obtain ⟨m, hm, em⟩ := hl u (by omega)
    refine xe_aload_n dX9_item_9 rfl ?_
    refine xe_getr dX9_item_10 flX9_68 (by decide) rfl rfl ?_
    refine xe_iload_n dX9_item_13 rfl ?_
    refine xn_iaload (j := u) dX9_item_14 (by decide) rfl rfl (by omega) (by decide) ?_
    refine xe_if_ge (tgt := 21) dX9_item_15 (by decide) (fun h15 => ?_) (fun h15 => ?_)
    · refine xe_iload_n dX9_item_21 rfl ?_
      refine xe_iconst (v := 0) dX9_item_22 rfl ?_
      refine xe_aload_n dX9_item_23 rfl ?_
      refine xe_getr dX9_item_24 flX9_71 (by decide) rfl rfl ?_
      refine xe_iload_n dX9_item_27 rfl ?_
      refine xn_iaload (j := u) dX9_item_28 (by decide) rfl rfl (by omega) (by decide) ?_
      refine xe_iconst (v := 1) dX9_item_29 rfl ?_
      refine xe_isub dX9_item_30 ?_
      refine xe_calls (k2 := kX9_isIn) (vs := [_, _, _]) dX9_item_31 okX9_isIn mlX9_89 stX9_isIn rfl rfl (Nat.le_of_ble_eq_true rfl) (Nat.le_of_ble_eq_true rfl) (sX9_isIn (by omega) _ _ _ (fun r31 hr31 => ?_))
      refine xe_if_ne (tgt := 40) dX9_item_34 (by decide) (fun h34 => ?_) (fun h34 => ?_)
      · have ci := (xb_ne0 hr31).mp h34
        rw [em] at ci
        obtain ⟨q, hq, rfl⟩ := pOk_nat (by omega) ((le_pred (n := m) (by omega)).mp ci)
        have eq : cN (nI q) = q := cN_nI (by omega)
        rw [itemV, if_pos ct, eu, if_neg (Int32.not_lt.mpr h15), if_pos (em ▸ ci), if_pos rfl, eq] at h
        refine xe_aload_n dX9_item_40 rfl ?_
        refine xe_getr dX9_item_41 flX9_68 (by decide) rfl rfl ?_
        refine xe_iload_n dX9_item_44 rfl ?_
        refine xn_iaload (j := u) dX9_item_45 (by decide) rfl rfl (by omega) (by decide) ?_
        refine xe_istore (lv2 := [_, _, _, _, _, _]) dX9_item_46 (by decide) rfl ?_
        refine xe_aload_n dX9_item_48 rfl ?_
        refine xe_getr dX9_item_49 flX9_74 (by decide) rfl rfl ?_
        refine xe_bipush (v := 60) dX9_item_52 rfl ?_
        refine xe_iload_n dX9_item_54 rfl ?_
        refine xe_imul dX9_item_55 ?_
        refine xe_iload_n dX9_item_56 rfl ?_
        refine xe_iadd dX9_item_57 ?_
        refine xe_iload dX9_item_58 rfl ?_
        refine xe_if_ne (tgt := 70) dX9_item_60 (by decide) (fun h60 => ?_) (fun h60 => ?_)
        · refine xe_iload dX9_item_70 rfl ?_
          refine xe_iconst (v := 1) dX9_item_72 rfl ?_
          refine xe_icmp_ne (tgt := 83) dX9_item_73 (by decide) (fun h73 => ?_) (fun h73 => ?_)
          · refine xe_iload dX9_item_83 rfl ?_
            refine xe_iconst (v := 2) dX9_item_85 rfl ?_
            refine xe_icmp_ne (tgt := 95) dX9_item_86 (by decide) (fun h86 => ?_) (fun h86 => ?_)
            · refine xe_iload dX9_item_95 rfl ?_
              refine xe_iconst (v := 3) dX9_item_97 rfl ?_
              refine xe_icmp_ne (tgt := 105) dX9_item_98 (by decide) (fun h98 => ?_) (fun h98 => ?_)
              · refine xe_lload_n dX9_item_105 rfl ?_
                refine xe_lconst (v := 0) dX9_item_106 rfl ?_
                refine xe_lcmp dX9_item_107 ?_
                refine xe_if_eq (tgt := 115) dX9_item_108 (by decide) (fun h108 => ?_) (fun h108 => ?_)
                · refine xe_lconst (v := 0) dX9_item_115 rfl ?_
                  refine xn_lastore (j := 60 * u + q) dX9_item_116 (by decide) rfl (by simp only [xl, pk_mul, nI_add]) (by omega) (by decide) ?_
                  refine xe_iconst (v := 1) dX9_item_117 rfl ?_
                  refine xe_iret dX9_item_118 rfl rfl ?_
                  unfold loB at h
                  first
                  | (rw [if_pos h60] at h; exact h)
                  | (rw [if_neg h60, if_pos h73] at h; exact h)
                  | (rw [if_neg h60, if_neg h73, if_pos h86] at h; exact h)
                  | (rw [if_neg h60, if_neg h73, if_neg h86, if_pos h98] at h; exact h)
                  | (rw [if_neg h60, if_neg h73, if_neg h86, if_neg h98, if_pos (lg_eq0.mp h108)] at h; exact h)
                  | (rw [if_neg h60, if_neg h73, if_neg h86, if_neg h98, if_neg (fun z => h108 (lg_eq0.mpr z))] at h; exact h)
                · refine xe_lconst (v := 1) dX9_item_111 rfl ?_
                  refine xe_goto (tgt := 116) dX9_item_112 (by decide) ?_
                  refine xn_lastore (j := 60 * u + q) dX9_item_116 (by decide) rfl (by simp only [xl, pk_mul, nI_add]) (by omega) (by decide) ?_
                  refine xe_iconst (v := 1) dX9_item_117 rfl ?_
                  refine xe_iret dX9_item_118 rfl rfl ?_
                  unfold loB at h
                  first
                  | (rw [if_pos h60] at h; exact h)
                  | (rw [if_neg h60, if_pos h73] at h; exact h)
                  | (rw [if_neg h60, if_neg h73, if_pos h86] at h; exact h)
                  | (rw [if_neg h60, if_neg h73, if_neg h86, if_pos h98] at h; exact h)
                  | (rw [if_neg h60, if_neg h73, if_neg h86, if_neg h98, if_pos (lg_eq0.mp h108)] at h; exact h)
                  | (rw [if_neg h60, if_neg h73, if_neg h86, if_neg h98, if_neg (fun z => h108 (lg_eq0.mpr z))] at h; exact h)
              · refine xe_lload_n dX9_item_101 rfl ?_
                refine xe_goto (tgt := 116) dX9_item_102 (by decide) ?_
                refine xn_lastore (j := 60 * u + q) dX9_item_116 (by decide) rfl (by simp only [xl, pk_mul, nI_add]) (by omega) (by decide) ?_
                refine xe_iconst (v := 1) dX9_item_117 rfl ?_
                refine xe_iret dX9_item_118 rfl rfl ?_
                unfold loB at h
                first
                | (rw [if_pos h60] at h; exact h)
                | (rw [if_neg h60, if_pos h73] at h; exact h)
                | (rw [if_neg h60, if_neg h73, if_pos h86] at h; exact h)
                | (rw [if_neg h60, if_neg h73, if_neg h86, if_pos h98] at h; exact h)
                | (rw [if_neg h60, if_neg h73, if_neg h86, if_neg h98, if_pos (lg_eq0.mp h108)] at h; exact h)
                | (rw [if_neg h60, if_neg h73, if_neg h86, if_neg h98, if_neg (fun z => h108 (lg_eq0.mpr z))] at h; exact h)
            · refine xe_lload_n dX9_item_89 rfl ?_
              refine xe_l2i dX9_item_90 ?_
              refine xe_i2l dX9_item_91 ?_
              refine xe_goto (tgt := 116) dX9_item_92 (by decide) ?_
              refine xn_lastore (j := 60 * u + q) dX9_item_116 (by decide) rfl (by simp only [xl, pk_mul, nI_add]) (by omega) (by decide) ?_
              refine xe_iconst (v := 1) dX9_item_117 rfl ?_
              refine xe_iret dX9_item_118 rfl rfl ?_
              unfold loB at h
              first
              | (rw [if_pos h60] at h; exact h)
              | (rw [if_neg h60, if_pos h73] at h; exact h)
              | (rw [if_neg h60, if_neg h73, if_pos h86] at h; exact h)
              | (rw [if_neg h60, if_neg h73, if_neg h86, if_pos h98] at h; exact h)
              | (rw [if_neg h60, if_neg h73, if_neg h86, if_neg h98, if_pos (lg_eq0.mp h108)] at h; exact h)
              | (rw [if_neg h60, if_neg h73, if_neg h86, if_neg h98, if_neg (fun z => h108 (lg_eq0.mpr z))] at h; exact h)
          · refine xe_lload_n dX9_item_76 rfl ?_
            refine xe_l2i dX9_item_77 ?_
            refine xe_i2s dX9_item_78 ?_
            refine xe_i2l dX9_item_79 ?_
            refine xe_goto (tgt := 116) dX9_item_80 (by decide) ?_
            refine xn_lastore (j := 60 * u + q) dX9_item_116 (by decide) rfl (by simp only [xl, pk_mul, nI_add]) (by omega) (by decide) ?_
            refine xe_iconst (v := 1) dX9_item_117 rfl ?_
            refine xe_iret dX9_item_118 rfl rfl ?_
            unfold loB at h
            first
            | (rw [if_pos h60] at h; exact h)
            | (rw [if_neg h60, if_pos h73] at h; exact h)
            | (rw [if_neg h60, if_neg h73, if_pos h86] at h; exact h)
            | (rw [if_neg h60, if_neg h73, if_neg h86, if_pos h98] at h; exact h)
            | (rw [if_neg h60, if_neg h73, if_neg h86, if_neg h98, if_pos (lg_eq0.mp h108)] at h; exact h)
            | (rw [if_neg h60, if_neg h73, if_neg h86, if_neg h98, if_neg (fun z => h108 (lg_eq0.mpr z))] at h; exact h)
        · refine xe_lload_n dX9_item_63 rfl ?_
          refine xe_l2i dX9_item_64 ?_
          refine xe_i2b dX9_item_65 ?_
          refine xe_i2l dX9_item_66 ?_
          refine xe_goto (tgt := 116) dX9_item_67 (by decide) ?_
          refine xn_lastore (j := 60 * u + q) dX9_item_116 (by decide) rfl (by simp only [xl, pk_mul, nI_add]) (by omega) (by decide) ?_
          refine xe_iconst (v := 1) dX9_item_117 rfl ?_
          refine xe_iret dX9_item_118 rfl rfl ?_
          unfold loB at h
          first
          | (rw [if_pos h60] at h; exact h)
          | (rw [if_neg h60, if_pos h73] at h; exact h)
          | (rw [if_neg h60, if_neg h73, if_pos h86] at h; exact h)
          | (rw [if_neg h60, if_neg h73, if_neg h86, if_pos h98] at h; exact h)
          | (rw [if_neg h60, if_neg h73, if_neg h86, if_neg h98, if_pos (lg_eq0.mp h108)] at h; exact h)
          | (rw [if_neg h60, if_neg h73, if_neg h86, if_neg h98, if_neg (fun z => h108 (lg_eq0.mpr z))] at h; exact h)
      · refine xe_bipush (v := -13) dX9_item_37 rfl ?_
        refine xe_iret dX9_item_39 rfl rfl ?_
        rw [itemV, if_pos ct, eu, if_neg (Int32.not_lt.mpr h15), if_neg ((xb_eq0 hr31).mp h34), if_neg (by decide)] at h; exact h
    · refine xe_bipush (v := -11) dX9_item_18 rfl ?_
      refine xe_iret dX9_item_20 rfl rfl ?_
      rw [itemV, if_pos ct, eu, if_pos (Int32.not_le.mp h15), if_neg (by decide)] at h; exact h
  · refine xe_iconst (v := -1) dX9_item_7 rfl ?_
    refine xe_iret dX9_item_8 rfl rfl ?_
    rw [itemV, if_neg ((xb_eq0 hr1).mp h4), if_neg (by decide)] at h; exact h

theorem sX9_read {d : Nat} (hd : 2 ≤ d) {σ : xSt} {Post : Option Value → xSt → Prop} (t i : Int32) (hl : ∀ t, t < 6 → ∃ m, m ≤ 60 ∧ σ.2.1 135 t = nI m) (h : Post (some (.long (readV (σ.2.1 135) (σ.2.2 136) t i))) σ) : xM kX9_read d [.ref 115, .int t, .int i] σ Post := by
  obtain ⟨d, rfl⟩ : ∃ e, d = e + 1 := ⟨d - 1, by omega⟩
  refine xM_start (lv := [some (.ref 115), some (.int t), some (.int i)]) rfl ?_
  refine xe_iload_n dX9_read_0 rfl ?_
  refine xe_calls (k2 := kX9_isTape) (vs := [_]) dX9_read_1 okX9_isTape mlX9_265 stX9_isTape rfl rfl (Nat.le_of_ble_eq_true rfl) (Nat.le_of_ble_eq_true rfl) (sX9_isTape (by omega) _ (fun r1 hr1 => ?_))
  refine xe_if_eq (tgt := 37) dX9_read_4 (by decide) (fun h4 => ?_) (fun h4 => ?_)
  · refine xe_ldc2 dX9_read_37 cnX9_243 ?_
    refine xe_lret dX9_read_40 rfl ?_
    first
    | (rw [readV, if_pos ⟨ct, eu.symm ▸ em.symm ▸ ci⟩, eu, eq] at h; exact h)
    | (rw [readV, if_neg (fun z => (xb_eq0 hr17).mp h20 (eu ▸ z.2))] at h; exact h)
    | (rw [readV, if_neg (fun z => (xb_eq0 hr1).mp h4 z.1)] at h; exact h)
  · have ct := (xb_ne0 hr1).mp h4
    obtain ⟨u, hu, rfl⟩ := rng_nat (m := 5) (by omega) ct
    have eu : cN (nI u) = u := cN_nI (by omega)
    obtain ⟨m, hm, em⟩ := hl u (by omega)
    refine xe_iload_n dX9_read_7 rfl ?_
    refine xe_iconst (v := 0) dX9_read_8 rfl ?_
    refine xe_aload_n dX9_read_9 rfl ?_
    refine xe_getr dX9_read_10 flX9_71 (by decide) rfl rfl ?_
    refine xe_iload_n dX9_read_13 rfl ?_
    refine xn_iaload (j := u) dX9_read_14 (by decide) rfl rfl (by omega) (by decide) ?_
    refine xe_iconst (v := 1) dX9_read_15 rfl ?_
    refine xe_isub dX9_read_16 ?_
    refine xe_calls (k2 := kX9_isIn) (vs := [_, _, _]) dX9_read_17 okX9_isIn mlX9_89 stX9_isIn rfl rfl (Nat.le_of_ble_eq_true rfl) (Nat.le_of_ble_eq_true rfl) (sX9_isIn (by omega) _ _ _ (fun r17 hr17 => ?_))
    refine xe_if_eq (tgt := 37) dX9_read_20 (by decide) (fun h20 => ?_) (fun h20 => ?_)
    · refine xe_ldc2 dX9_read_37 cnX9_243 ?_
      refine xe_lret dX9_read_40 rfl ?_
      first
      | (rw [readV, if_pos ⟨ct, eu.symm ▸ em.symm ▸ ci⟩, eu, eq] at h; exact h)
      | (rw [readV, if_neg (fun z => (xb_eq0 hr17).mp h20 (eu ▸ z.2))] at h; exact h)
      | (rw [readV, if_neg (fun z => (xb_eq0 hr1).mp h4 z.1)] at h; exact h)
    · have ci := (xb_ne0 hr17).mp h20
      rw [em] at ci
      obtain ⟨q, hq, rfl⟩ := pOk_nat (by omega) ((le_pred (n := m) (by omega)).mp ci)
      have eq : cN (nI q) = q := cN_nI (by omega)
      refine xe_aload_n dX9_read_23 rfl ?_
      refine xe_getr dX9_read_24 flX9_74 (by decide) rfl rfl ?_
      refine xe_bipush (v := 60) dX9_read_27 rfl ?_
      refine xe_iload_n dX9_read_29 rfl ?_
      refine xe_imul dX9_read_30 ?_
      refine xe_iload_n dX9_read_31 rfl ?_
      refine xe_iadd dX9_read_32 ?_
      refine xn_laload (j := 60 * u + q) dX9_read_33 (by decide) rfl (by simp only [xl, pk_mul, nI_add]) (by omega) (by decide) ?_
      refine xe_goto (tgt := 40) dX9_read_34 (by decide) ?_
      refine xe_lret dX9_read_40 rfl ?_
      first
      | (rw [readV, if_pos ⟨ct, eu.symm ▸ em.symm ▸ ci⟩, eu, eq] at h; exact h)
      | (rw [readV, if_neg (fun z => (xb_eq0 hr17).mp h20 (eu ▸ z.2))] at h; exact h)
      | (rw [readV, if_neg (fun z => (xb_eq0 hr1).mp h4 z.1)] at h; exact h)

/-- two loops over the items: out into the row beside, and in again -/
theorem lX9_shift1 {d : Nat} {σ : xSt} {Post : Option Value → xSt → Prop} (u q m : Nat) (v : Int32) (w : Int32) (hu : u ≤ 5) (hq : q + m ≤ 60) (h : xEv kX9_shift (d + 1) 136 [some (.ref 115), some (.int (nI u)), some (.int (nI q)), some (.int v), some (.int w), some (.int (nI m)), some (.int (nI m))] [] (xsJ σ 137 (va_cpy (σ.2.2 136) (σ.2.2 137) (60 * u + q) 0 m)) Post) : ∀ (c k : Nat), m + 1 ≤ k + c → k ≤ m → xEv kX9_shift (d + 1) 102 [some (.ref 115), some (.int (nI u)), some (.int (nI q)), some (.int v), some (.int w), some (.int (nI m)), some (.int (nI k))] [] (xsJ σ 137 (va_cpy (σ.2.2 136) (σ.2.2 137) (60 * u + q) 0 k)) Post := by
  intro c
  induction c with
  | zero => intro k hc hk; omega
  | succ c ih =>
    intro k hc hk
    refine xe_iload dX9_shift_102 rfl ?_
    refine xe_iload dX9_shift_104 rfl ?_
    refine xe_icmp_ge (tgt := 136) dX9_shift_106 (by decide) (fun h106 => ?_) (fun h106 => ?_)
    · have e := nLe (a := m) (by omega) (by omega) h106
      obtain rfl : k = m := by omega
      exact h
    · have e := nNle (a := m) (by omega) (by omega) h106
      refine xe_aload_n dX9_shift_109 rfl ?_
      refine xe_getr dX9_shift_110 flX9_78 (by decide) rfl rfl ?_
      refine xe_iload dX9_shift_113 rfl ?_
      refine xe_aload_n dX9_shift_115 rfl ?_
      refine xe_getr dX9_shift_116 flX9_74 (by decide) rfl rfl ?_
      refine xe_bipush (v := 60) dX9_shift_119 rfl ?_
      refine xe_iload_n dX9_shift_121 rfl ?_
      refine xe_imul dX9_shift_122 ?_
      refine xe_iload_n dX9_shift_123 rfl ?_
      refine xe_iadd dX9_shift_124 ?_
      refine xe_iload dX9_shift_125 rfl ?_
      refine xe_iadd dX9_shift_127 ?_
      refine xn_laload (j := 60 * u + q + k) dX9_shift_128 (by decide) rfl (by simp only [xl, pk_mul, nI_add]) (by omega) (by decide) ?_
      rw [xsJ_ne (by decide)]
      refine xn_lastore (j := k) dX9_shift_129 (by decide) rfl rfl (by omega) (by decide) ?_
      refine xn_inc (j := k) (lv2 := [_, _, _, _, _, _, _]) dX9_shift_130 (by decide) rfl rfl ?_
      refine xe_goto (tgt := 102) dX9_shift_133 (by decide) ?_
      refine xe_st ?_ (ih (k + 1) (by omega) (by omega))
      rw [xsJ_J, xsJ_get]
      have q2 := cpyJ_succ (f := σ.2.2 136) (g := σ.2.2 137) (s := 60 * u + q) (a := 0) (j := k)
      rw [Nat.zero_add] at q2
      rw [q2]

theorem lX9_shift2 {d : Nat} {σ : xSt} {Post : Option Value → xSt → Prop} (u q m : Nat) (v w : Int32) (hu : u ≤ 5) (hq : q + m ≤ 60) (h : Post (some (.int (nI m))) (xsJ σ 136 (va_cpy (σ.2.2 137) (σ.2.2 136) 0 (60 * u + q) m))) : ∀ (c k : Nat), m + 1 ≤ k + c → k ≤ m → xEv kX9_shift (d + 1) 139 [some (.ref 115), some (.int v), some (.int w), some (.int (nI u)), some (.int (nI q)), some (.int (nI m)), some (.int (nI k))] [] (xsJ σ 136 (va_cpy (σ.2.2 137) (σ.2.2 136) 0 (60 * u + q) k)) Post := by
  intro c
  induction c with
  | zero => intro k hc hk; omega
  | succ c ih =>
    intro k hc hk
    refine xe_iload dX9_shift_139 rfl ?_
    refine xe_iload dX9_shift_141 rfl ?_
    refine xe_icmp_ge (tgt := 174) dX9_shift_143 (by decide) (fun h143 => ?_) (fun h143 => ?_)
    · refine xe_iload dX9_shift_174 rfl ?_
      refine xe_iret dX9_shift_176 rfl rfl ?_
      have e := nLe (a := m) (by omega) (by omega) h143
      obtain rfl : k = m := by omega
      exact h
    · have e := nNle (a := m) (by omega) (by omega) h143
      refine xe_aload_n dX9_shift_146 rfl ?_
      refine xe_getr dX9_shift_147 flX9_74 (by decide) rfl rfl ?_
      refine xe_bipush (v := 60) dX9_shift_150 rfl ?_
      refine xe_iload_n dX9_shift_152 rfl ?_
      refine xe_imul dX9_shift_153 ?_
      refine xe_iload dX9_shift_154 rfl ?_
      refine xe_iadd dX9_shift_156 ?_
      refine xe_iload dX9_shift_157 rfl ?_
      refine xe_iadd dX9_shift_159 ?_
      refine xe_aload_n dX9_shift_160 rfl ?_
      refine xe_getr dX9_shift_161 flX9_78 (by decide) rfl rfl ?_
      refine xe_iload dX9_shift_164 rfl ?_
      refine xn_laload (j := k) dX9_shift_166 (by decide) rfl rfl (by omega) (by decide) ?_
      rw [xsJ_ne (by decide)]
      refine xn_lastore (j := 60 * u + q + k) dX9_shift_167 (by decide) rfl (by simp only [xl, pk_mul, nI_add]) (by omega) (by decide) ?_
      refine xn_inc (j := k) (lv2 := [_, _, _, _, _, _, _]) dX9_shift_168 (by decide) rfl rfl ?_
      refine xe_goto (tgt := 139) dX9_shift_171 (by decide) ?_
      refine xe_st ?_ (ih (k + 1) (by omega) (by omega))
      rw [xsJ_J, xsJ_get]
      have q2 := cpyJ_succ (f := σ.2.2 137) (g := σ.2.2 136) (s := 0) (a := 60 * u + q) (j := k)
      rw [Nat.zero_add] at q2
      rw [q2]

theorem sh_nat {ln : Nat} {x n : Int32} (hx : ¬ x < 0) (hn : ¬ n < 0) (hm : ln ≤ 60) (h : ¬ nI ln - x < n) : ∃ a b, x = nI a ∧ n = nI b ∧ a + b ≤ ln := by
  obtain ⟨a, ha, rfl⟩ := nI_of hx
  obtain ⟨b, hb, rfl⟩ := nI_of hn
  refine ⟨a, b, rfl, rfl, ?_⟩
  rw [Int32.lt_iff_toInt_lt, nI_toInt hb] at h
  have e : (nI ln - nI a).toInt = (ln : Int) - a := by
    rw [Int32.toInt_sub, nI_toInt (by omega), nI_toInt ha]
    have h3 : -(2 ^ 31 : Int) ≤ (ln : Int) - a := by omega
    have h4 : (ln : Int) - a < 2 ^ 31 := by omega
    rw [Int.bmod_eq_of_le] <;> omega
  rw [e] at h
  omega

set_option maxHeartbeats 4000000 in
theorem sX9_shift {d : Nat} (hd : 2 ≤ d) {σ : xSt} {Post : Option Value → xSt → Prop} (t i o j m : Int32) (hl : ∀ t, t < 6 → ∃ m, m ≤ 60 ∧ σ.2.1 135 t = nI m) (h : ∀ g, Post (some (.int (shiftV (σ.2.1 134) (σ.2.1 135) t i o j m))) (if shiftOk (σ.2.1 134) (σ.2.1 135) t i o j m then xsJ (xsJ σ 137 g) 136 (va_cpy (σ.2.2 136) (σ.2.2 136) (60 * cN t + cN i) (60 * cN o + cN j) (cN m)) else σ)) : xM kX9_shift d [.ref 115, .int t, .int i, .int o, .int j, .int m] σ Post := by
  obtain ⟨d, rfl⟩ : ∃ e, d = e + 1 := ⟨d - 1, by omega⟩
  refine xM_start (lv := [some (.ref 115), some (.int t), some (.int i), some (.int o), some (.int j), some (.int m), none]) rfl ?_
  refine xe_iload_n dX9_shift_0 rfl ?_
  refine xe_calls (k2 := kX9_isTape) (vs := [_]) dX9_shift_1 okX9_isTape mlX9_265 stX9_isTape rfl rfl (Nat.le_of_ble_eq_true rfl) (Nat.le_of_ble_eq_true rfl) (sX9_isTape (by omega) _ (fun r1 hr1 => ?_))
  refine xe_if_eq (tgt := 14) dX9_shift_4 (by decide) (fun h4 => ?_) (fun h4 => ?_)
  · refine xe_iconst (v := -1) dX9_shift_14 rfl ?_
    refine xe_iret dX9_shift_15 rfl rfl ?_
    have c : ¬ (rng t 0 5 ∧ rng o 0 5) := by first | exact fun z => (xb_eq0 hr1).mp h4 z.1 | exact fun z => (xb_eq0 hr8).mp h11 z.2
    have h := h (σ.2.2 137)
    rw [shiftV, if_neg c, if_neg (fun z => c z.1)] at h; exact h
  · refine xe_iload_n dX9_shift_7 rfl ?_
    refine xe_calls (k2 := kX9_isTape) (vs := [_]) dX9_shift_8 okX9_isTape mlX9_265 stX9_isTape rfl rfl (Nat.le_of_ble_eq_true rfl) (Nat.le_of_ble_eq_true rfl) (sX9_isTape (by omega) _ (fun r8 hr8 => ?_))
    refine xe_if_ne (tgt := 16) dX9_shift_11 (by decide) (fun h11 => ?_) (fun h11 => ?_)
    · have ct := (xb_ne0 hr1).mp h4
      have co := (xb_ne0 hr8).mp h11
      obtain ⟨u, hu, rfl⟩ := rng_nat (m := 5) (by omega) ct
      have eu : cN (nI u) = u := cN_nI (by omega)
      obtain ⟨u2, hu2, rfl⟩ := rng_nat (m := 5) (by omega) co
      have eu2 : cN (nI u2) = u2 := cN_nI (by omega)
      obtain ⟨m1, hm1, em1⟩ := hl u (by omega)
      obtain ⟨m2, hm2, em2⟩ := hl u2 (by omega)
      refine xe_aload_n dX9_shift_16 rfl ?_
      refine xe_getr dX9_shift_17 flX9_68 (by decide) rfl rfl ?_
      refine xe_iload_n dX9_shift_20 rfl ?_
      refine xn_iaload (j := u) dX9_shift_21 (by decide) rfl rfl (by omega) (by decide) ?_
      refine xe_if_lt (tgt := 34) dX9_shift_22 (by decide) (fun h22 => ?_) (fun h22 => ?_)
      · refine xe_bipush (v := -11) dX9_shift_34 rfl ?_
        refine xe_iret dX9_shift_36 rfl rfl ?_
        have c : σ.2.1 134 (cN (nI u)) < 0 ∨ σ.2.1 134 (cN (nI u2)) < 0 := by rw [eu, eu2]; first | exact Or.inl h22 | exact Or.inr (Int32.not_le.mp h31)
        have h := h (σ.2.2 137)
        rw [shiftV, if_pos ⟨ct, co⟩, if_pos c, if_neg (fun z => z.2.1 c)] at h; exact h
      · refine xe_aload_n dX9_shift_25 rfl ?_
        refine xe_getr dX9_shift_26 flX9_68 (by decide) rfl rfl ?_
        refine xe_iload_n dX9_shift_29 rfl ?_
        refine xn_iaload (j := u2) dX9_shift_30 (by decide) rfl rfl (by omega) (by decide) ?_
        refine xe_if_ge (tgt := 37) dX9_shift_31 (by decide) (fun h31 => ?_) (fun h31 => ?_)
        · refine xe_aload_n dX9_shift_37 rfl ?_
          refine xe_getr dX9_shift_38 flX9_68 (by decide) rfl rfl ?_
          refine xe_iload_n dX9_shift_41 rfl ?_
          refine xn_iaload (j := u) dX9_shift_42 (by decide) rfl rfl (by omega) (by decide) ?_
          refine xe_aload_n dX9_shift_43 rfl ?_
          refine xe_getr dX9_shift_44 flX9_68 (by decide) rfl rfl ?_
          refine xe_iload_n dX9_shift_47 rfl ?_
          refine xn_iaload (j := u2) dX9_shift_48 (by decide) rfl rfl (by omega) (by decide) ?_
          refine xe_icmp_eq (tgt := 55) dX9_shift_49 (by decide) (fun h49 => ?_) (fun h49 => ?_)
          · refine xe_iload dX9_shift_55 rfl ?_
            refine xe_if_lt (tgt := 96) dX9_shift_57 (by decide) (fun h57 => ?_) (fun h57 => ?_)
            · refine xe_bipush (v := -13) dX9_shift_96 rfl ?_
              refine xe_iret dX9_shift_98 rfl rfl ?_
              have cs : ¬ (σ.2.1 134 (cN (nI u)) < 0 ∨ σ.2.1 134 (cN (nI u2)) < 0) := by rw [eu, eu2]; exact fun z => z.elim h22 (fun q => Int32.not_lt.mpr h31 q)
              have ce : σ.2.1 134 (cN (nI u)) = σ.2.1 134 (cN (nI u2)) := by rw [eu, eu2]; exact h49
              have cp : shiftPl (σ.2.1 135) (nI u) i (nI u2) j m := by unfold shiftPl; rw [eu, eu2]; first | exact Or.inl h57 | exact Or.inr (Or.inl h61) | exact Or.inr (Or.inr (Or.inl h66)) | exact Or.inr (Or.inr (Or.inr (Or.inl h79))) | exact Or.inr (Or.inr (Or.inr (Or.inr (Int32.not_le.mp h93))))
              have h := h (σ.2.2 137)
              rw [shiftV, if_pos ⟨ct, co⟩, if_neg cs, if_pos ce, if_pos cp, if_neg (fun z => z.2.2.2 cp)] at h; exact h
            · refine xe_iload_n dX9_shift_60 rfl ?_
              refine xe_if_lt (tgt := 96) dX9_shift_61 (by decide) (fun h61 => ?_) (fun h61 => ?_)
              · refine xe_bipush (v := -13) dX9_shift_96 rfl ?_
                refine xe_iret dX9_shift_98 rfl rfl ?_
                have cs : ¬ (σ.2.1 134 (cN (nI u)) < 0 ∨ σ.2.1 134 (cN (nI u2)) < 0) := by rw [eu, eu2]; exact fun z => z.elim h22 (fun q => Int32.not_lt.mpr h31 q)
                have ce : σ.2.1 134 (cN (nI u)) = σ.2.1 134 (cN (nI u2)) := by rw [eu, eu2]; exact h49
                have cp : shiftPl (σ.2.1 135) (nI u) i (nI u2) j m := by unfold shiftPl; rw [eu, eu2]; first | exact Or.inl h57 | exact Or.inr (Or.inl h61) | exact Or.inr (Or.inr (Or.inl h66)) | exact Or.inr (Or.inr (Or.inr (Or.inl h79))) | exact Or.inr (Or.inr (Or.inr (Or.inr (Int32.not_le.mp h93))))
                have h := h (σ.2.2 137)
                rw [shiftV, if_pos ⟨ct, co⟩, if_neg cs, if_pos ce, if_pos cp, if_neg (fun z => z.2.2.2 cp)] at h; exact h
              · refine xe_iload dX9_shift_64 rfl ?_
                refine xe_if_lt (tgt := 96) dX9_shift_66 (by decide) (fun h66 => ?_) (fun h66 => ?_)
                · refine xe_bipush (v := -13) dX9_shift_96 rfl ?_
                  refine xe_iret dX9_shift_98 rfl rfl ?_
                  have cs : ¬ (σ.2.1 134 (cN (nI u)) < 0 ∨ σ.2.1 134 (cN (nI u2)) < 0) := by rw [eu, eu2]; exact fun z => z.elim h22 (fun q => Int32.not_lt.mpr h31 q)
                  have ce : σ.2.1 134 (cN (nI u)) = σ.2.1 134 (cN (nI u2)) := by rw [eu, eu2]; exact h49
                  have cp : shiftPl (σ.2.1 135) (nI u) i (nI u2) j m := by unfold shiftPl; rw [eu, eu2]; first | exact Or.inl h57 | exact Or.inr (Or.inl h61) | exact Or.inr (Or.inr (Or.inl h66)) | exact Or.inr (Or.inr (Or.inr (Or.inl h79))) | exact Or.inr (Or.inr (Or.inr (Or.inr (Int32.not_le.mp h93))))
                  have h := h (σ.2.2 137)
                  rw [shiftV, if_pos ⟨ct, co⟩, if_neg cs, if_pos ce, if_pos cp, if_neg (fun z => z.2.2.2 cp)] at h; exact h
                · refine xe_iload dX9_shift_69 rfl ?_
                  refine xe_aload_n dX9_shift_71 rfl ?_
                  refine xe_getr dX9_shift_72 flX9_71 (by decide) rfl rfl ?_
                  refine xe_iload_n dX9_shift_75 rfl ?_
                  refine xn_iaload (j := u) dX9_shift_76 (by decide) rfl rfl (by omega) (by decide) ?_
                  refine xe_iload_n dX9_shift_77 rfl ?_
                  refine xe_isub dX9_shift_78 ?_
                  refine xe_icmp_gt (tgt := 96) dX9_shift_79 (by decide) (fun h79 => ?_) (fun h79 => ?_)
                  · refine xe_bipush (v := -13) dX9_shift_96 rfl ?_
                    refine xe_iret dX9_shift_98 rfl rfl ?_
                    have cs : ¬ (σ.2.1 134 (cN (nI u)) < 0 ∨ σ.2.1 134 (cN (nI u2)) < 0) := by rw [eu, eu2]; exact fun z => z.elim h22 (fun q => Int32.not_lt.mpr h31 q)
                    have ce : σ.2.1 134 (cN (nI u)) = σ.2.1 134 (cN (nI u2)) := by rw [eu, eu2]; exact h49
                    have cp : shiftPl (σ.2.1 135) (nI u) i (nI u2) j m := by unfold shiftPl; rw [eu, eu2]; first | exact Or.inl h57 | exact Or.inr (Or.inl h61) | exact Or.inr (Or.inr (Or.inl h66)) | exact Or.inr (Or.inr (Or.inr (Or.inl h79))) | exact Or.inr (Or.inr (Or.inr (Or.inr (Int32.not_le.mp h93))))
                    have h := h (σ.2.2 137)
                    rw [shiftV, if_pos ⟨ct, co⟩, if_neg cs, if_pos ce, if_pos cp, if_neg (fun z => z.2.2.2 cp)] at h; exact h
                  · refine xe_iload dX9_shift_82 rfl ?_
                    refine xe_aload_n dX9_shift_84 rfl ?_
                    refine xe_getr dX9_shift_85 flX9_71 (by decide) rfl rfl ?_
                    refine xe_iload_n dX9_shift_88 rfl ?_
                    refine xn_iaload (j := u2) dX9_shift_89 (by decide) rfl rfl (by omega) (by decide) ?_
                    refine xe_iload dX9_shift_90 rfl ?_
                    refine xe_isub dX9_shift_92 ?_
                    refine xe_icmp_le (tgt := 99) dX9_shift_93 (by decide) (fun h93 => ?_) (fun h93 => ?_)
                    · refine xe_iconst (v := 0) dX9_shift_99 rfl ?_
                      refine xe_istore (lv2 := [_, _, _, _, _, _, _]) dX9_shift_100 (by decide) rfl ?_
                      have cs : ¬ (σ.2.1 134 (cN (nI u)) < 0 ∨ σ.2.1 134 (cN (nI u2)) < 0) := by rw [eu, eu2]; exact fun z => z.elim h22 (fun q => Int32.not_lt.mpr h31 q)
                      have ce : σ.2.1 134 (cN (nI u)) = σ.2.1 134 (cN (nI u2)) := by rw [eu, eu2]; exact h49
                      have cp : ¬ shiftPl (σ.2.1 135) (nI u) i (nI u2) j m := by
                        rintro (z | z | z | z | z)
                        · exact h57 z
                        · exact h61 z
                        · exact h66 z
                        · rw [eu] at z; exact h79 z
                        · rw [eu2] at z; exact Int32.not_lt.mpr h93 z
                      obtain ⟨a, b, rfl, rfl, hab⟩ := sh_nat h61 h57 hm1 (em1 ▸ h79)
                      obtain ⟨a2, b2, rfl, eb, hab2⟩ := sh_nat h66 h57 hm2 (em2 ▸ Int32.not_lt.mpr h93)
                      have hbb : b = b2 := nEq (by omega) (by omega) eb
                      subst hbb
                      have h := h (va_cpy (σ.2.2 136) (σ.2.2 137) (60 * u + a) 0 b)
                      rw [shiftV, if_pos ⟨ct, co⟩, if_neg cs, if_pos ce, if_neg cp, if_pos ⟨⟨ct, co⟩, cs, ce, cp⟩, eu, eu2, cN_nI (n := a) (by omega), cN_nI (n := a2) (by omega), cN_nI (n := b) (by omega)] at h
                      refine xe_st (σ2 := xsJ σ 137 (va_cpy (σ.2.2 136) (σ.2.2 137) (60 * u + a) 0 0)) (by rw [cpyJ_0, xsJ_self]) ?_
                      refine lX9_shift1 u a b _ _ hu (by omega) ?_ (b + 1) 0 (by omega) (by omega)
                      refine xe_iconst (v := 0) dX9_shift_136 rfl ?_
                      refine xe_istore (lv2 := [_, _, _, _, _, _, _]) dX9_shift_137 (by decide) rfl ?_
                      refine xe_st (σ2 := xsJ (xsJ σ 137 (va_cpy (σ.2.2 136) (σ.2.2 137) (60 * u + a) 0 b)) 136 (va_cpy ((xsJ σ 137 (va_cpy (σ.2.2 136) (σ.2.2 137) (60 * u + a) 0 b)).2.2 137) ((xsJ σ 137 (va_cpy (σ.2.2 136) (σ.2.2 137) (60 * u + a) 0 b)).2.2 136) 0 (60 * u2 + a2) 0)) (by rw [cpyJ_0]; exact xsJ_self.symm) ?_
                      refine lX9_shift2 u2 a2 b _ _ hu2 (by omega) ?_ (b + 1) 0 (by omega) (by omega)
                      have e9 : va_cpy ((xsJ σ 137 (va_cpy (σ.2.2 136) (σ.2.2 137) (60 * u + a) 0 b)).2.2 137) ((xsJ σ 137 (va_cpy (σ.2.2 136) (σ.2.2 137) (60 * u + a) 0 b)).2.2 136) 0 (60 * u2 + a2) b = va_cpy (σ.2.2 136) (σ.2.2 136) (60 * u + a) (60 * u2 + a2) b := by
                        rw [xsJ_get, xsJ_ne (by decide)]
                        funext k
                        unfold va_cpy
                        by_cases hk : 60 * u2 + a2 ≤ k ∧ k < 60 * u2 + a2 + b
                        · rw [if_pos hk, if_pos hk, if_pos (by omega)]; exact congrArg (σ.2.2 136) (by omega)
                        · rw [if_neg hk, if_neg hk]
                      rw [e9]
                      exact h
                    · refine xe_bipush (v := -13) dX9_shift_96 rfl ?_
                      refine xe_iret dX9_shift_98 rfl rfl ?_
                      have cs : ¬ (σ.2.1 134 (cN (nI u)) < 0 ∨ σ.2.1 134 (cN (nI u2)) < 0) := by rw [eu, eu2]; exact fun z => z.elim h22 (fun q => Int32.not_lt.mpr h31 q)
                      have ce : σ.2.1 134 (cN (nI u)) = σ.2.1 134 (cN (nI u2)) := by rw [eu, eu2]; exact h49
                      have cp : shiftPl (σ.2.1 135) (nI u) i (nI u2) j m := by unfold shiftPl; rw [eu, eu2]; first | exact Or.inl h57 | exact Or.inr (Or.inl h61) | exact Or.inr (Or.inr (Or.inl h66)) | exact Or.inr (Or.inr (Or.inr (Or.inl h79))) | exact Or.inr (Or.inr (Or.inr (Or.inr (Int32.not_le.mp h93))))
                      have h := h (σ.2.2 137)
                      rw [shiftV, if_pos ⟨ct, co⟩, if_neg cs, if_pos ce, if_pos cp, if_neg (fun z => z.2.2.2 cp)] at h; exact h
          · refine xe_bipush (v := -12) dX9_shift_52 rfl ?_
            refine xe_iret dX9_shift_54 rfl rfl ?_
            have cs : ¬ (σ.2.1 134 (cN (nI u)) < 0 ∨ σ.2.1 134 (cN (nI u2)) < 0) := by rw [eu, eu2]; exact fun z => z.elim h22 (fun q => Int32.not_lt.mpr h31 q)
            have ce : ¬ σ.2.1 134 (cN (nI u)) = σ.2.1 134 (cN (nI u2)) := by rw [eu, eu2]; exact h49
            have h := h (σ.2.2 137)
            rw [shiftV, if_pos ⟨ct, co⟩, if_neg cs, if_neg ce, if_neg (fun z => ce z.2.2.1)] at h; exact h
        · refine xe_bipush (v := -11) dX9_shift_34 rfl ?_
          refine xe_iret dX9_shift_36 rfl rfl ?_
          have c : σ.2.1 134 (cN (nI u)) < 0 ∨ σ.2.1 134 (cN (nI u2)) < 0 := by rw [eu, eu2]; first | exact Or.inl h22 | exact Or.inr (Int32.not_le.mp h31)
          have h := h (σ.2.2 137)
          rw [shiftV, if_pos ⟨ct, co⟩, if_pos c, if_neg (fun z => z.2.1 c)] at h; exact h
    · refine xe_iconst (v := -1) dX9_shift_14 rfl ?_
      refine xe_iret dX9_shift_15 rfl rfl ?_
      have c : ¬ (rng t 0 5 ∧ rng o 0 5) := by first | exact fun z => (xb_eq0 hr1).mp h4 z.1 | exact fun z => (xb_eq0 hr8).mp h11 z.2
      have h := h (σ.2.2 137)
      rw [shiftV, if_neg c, if_neg (fun z => c z.1)] at h; exact h

theorem lX9_judge {d : Nat} {σ : xSt} {Post : Option Value → xSt → Prop} (u m : Nat) (i : Int32) (hu : u ≤ 5) (hm : m ≤ 60) (em : σ.2.1 135 u = nI m) : ∀ (c f : Nat) (v4 v5 : Option Value), f + c = 8 → Post (some (.int (jgF (σ.2.1 116 55) (nI m) (σ.2.2 136) (nI u) i c f))) σ → xEv kX9_judge (d + 1) 34 [some (.ref 115), some (.int (nI u)), some (.int i), some (.int (nI f)), v4, v5] [] σ Post := by
  have eu : cN (nI u) = u := cN_nI (by omega)
  intro c
  induction c with
  | zero =>
    intro f v4 v5 hf h
    refine xe_iload_n dX9_judge_34 rfl ?_
    refine xe_bipush (v := 8) dX9_judge_35 rfl ?_
    refine xe_icmp_ge (tgt := 106) dX9_judge_37 (by decide) (fun h37 => ?_) (fun h37 => absurd (show (8 : Int32) ≤ nI f from nI_le (a := 8) (by omega) (by omega)) h37)
    refine xe_bipush (v := -5) dX9_judge_106 rfl ?_
    refine xe_iret dX9_judge_108 rfl rfl ?_
    exact h
  | succ c ih =>
    intro f v4 v5 hf h
    refine xe_iload_n dX9_judge_34 rfl ?_
    refine xe_bipush (v := 8) dX9_judge_35 rfl ?_
    refine xe_icmp_ge (tgt := 106) dX9_judge_37 (by decide) (fun h37 => absurd h37 (show ¬ (8 : Int32) ≤ nI f from nI_ge (a := f) (b := 8) (by omega) (by omega))) (fun h37 => ?_)
    refine xe_iload_n dX9_judge_40 rfl ?_
    refine xe_i2l dX9_judge_41 ?_
    refine xe_iload_n dX9_judge_42 rfl ?_
    refine xe_i2l dX9_judge_43 ?_
    refine xe_ladd dX9_judge_44 ?_
    refine xe_lstore (lv2 := [_, _, _, _, _, _]) dX9_judge_45 (by decide) rfl ?_
    refine xe_iload_n dX9_judge_47 rfl ?_
    refine xe_if_lt (tgt := 64) dX9_judge_48 (by decide) (fun h48 => ?_) (fun h48 => ?_)
    · refine xe_bipush (v := 100) dX9_judge_64 rfl ?_
      refine xe_iload_n dX9_judge_66 rfl ?_
      refine xe_iadd dX9_judge_67 ?_
      refine xe_iret dX9_judge_68 rfl rfl ?_
      first
      | (rw [jgF, if_pos (Or.inl h48)] at h; exact h)
      | (rw [jgF, if_pos (Or.inr (Int64.not_lt.mp (fun q => h61 (lg_lt0.mpr q))))] at h; exact h)
    · refine xe_lload dX9_judge_51 rfl ?_
      refine xe_aload_n dX9_judge_53 rfl ?_
      refine xe_getr dX9_judge_54 flX9_71 (by decide) rfl rfl ?_
      refine xe_iload_n dX9_judge_57 rfl ?_
      refine xn_iaload (j := u) dX9_judge_58 (by decide) rfl rfl (by omega) (by decide) ?_
      rw [em]
      refine xe_i2l dX9_judge_59 ?_
      refine xe_lcmp dX9_judge_60 ?_
      refine xe_if_lt (tgt := 69) dX9_judge_61 (by decide) (fun h61 => ?_) (fun h61 => ?_)
      · obtain ⟨a, ha, rfl⟩ := nI_of h48
        have hlt : (nI a).toInt64 + (nI f).toInt64 < (nI m).toInt64 := lg_lt0.mp h61
        have e1 : (nI a).toInt64 + (nI f).toInt64 = lN (a + f) := by rw [nI_l ha, nI_l (by omega), lN_add]
        have haf : a + f < m := by rw [e1, nI_l (by omega)] at hlt; exact lN_lt' (by omega) (by omega) hlt
        have e2 : ((nI a).toInt64 + (nI f).toInt64).toInt32 = nI (a + f) := by rw [e1, lN_i]
        rw [jgF, if_neg (fun z => z.elim h48 (fun q => Int64.not_le.mpr hlt q)), eu, e2, cN_nI (by omega)] at h
        refine xe_aload_n dX9_judge_69 rfl ?_
        refine xe_getr dX9_judge_70 flX9_74 (by decide) rfl rfl ?_
        refine xe_bipush (v := 60) dX9_judge_73 rfl ?_
        refine xe_iload_n dX9_judge_75 rfl ?_
        refine xe_imul dX9_judge_76 ?_
        refine xe_lload dX9_judge_77 rfl ?_
        refine xe_l2i dX9_judge_79 ?_
        refine xe_iadd dX9_judge_80 ?_
        refine xn_laload (j := 60 * u + (a + f)) dX9_judge_81 (by decide) rfl (by rw [e2]; simp only [xl, pk_mul, nI_add]) (by omega) (by decide) ?_
        refine xe_aload_n dX9_judge_82 rfl ?_
        refine xe_getr dX9_judge_83 flX9_9 (by decide) rfl rfl ?_
        refine xe_bipush (v := 55) dX9_judge_86 rfl ?_
        refine xn_iaload dX9_judge_88 (by decide) rfl (by first | with_reducible rfl | (simp only [xl, pk_mul, nI_add, nI_1]; done) | (simp only [xl, pk_mul, nI_add, nI_1]; rfl)) (by omega) (by decide) ?_
        refine xe_iload_n dX9_judge_89 rfl ?_
        refine xe_ishr dX9_judge_90 ?_
        refine xe_iconst (v := 1) dX9_judge_91 rfl ?_
        refine xe_iand dX9_judge_92 ?_
        refine xe_i2l dX9_judge_93 ?_
        refine xe_lcmp dX9_judge_94 ?_
        refine xe_if_eq (tgt := 100) dX9_judge_95 (by decide) (fun h95 => ?_) (fun h95 => ?_)
        · refine xn_inc (j := f) (lv2 := [_, _, _, _, _, _]) dX9_judge_100 (by decide) rfl rfl ?_
          refine xe_goto (tgt := 34) dX9_judge_103 (by decide) ?_
          rw [if_pos (show _ = (bit (σ.2.1 116 55) f).toInt64 from lg_eq0.mp h95)] at h
          exact ih (f + 1) _ _ (by omega) h
        · refine xe_iload_n dX9_judge_98 rfl ?_
          refine xe_iret dX9_judge_99 rfl rfl ?_
          rw [if_neg (show ¬ _ = (bit (σ.2.1 116 55) f).toInt64 from fun z => h95 (lg_eq0.mpr z))] at h; exact h
      · refine xe_bipush (v := 100) dX9_judge_64 rfl ?_
        refine xe_iload_n dX9_judge_66 rfl ?_
        refine xe_iadd dX9_judge_67 ?_
        refine xe_iret dX9_judge_68 rfl rfl ?_
        first
        | (rw [jgF, if_pos (Or.inl h48)] at h; exact h)
        | (rw [jgF, if_pos (Or.inr (Int64.not_lt.mp (fun q => h61 (lg_lt0.mpr q))))] at h; exact h)

theorem sX9_judge {d : Nat} (hd : 2 ≤ d) {σ : xSt} {Post : Option Value → xSt → Prop} (t i : Int32) (hl : ∀ t, t < 6 → ∃ m, m ≤ 60 ∧ σ.2.1 135 t = nI m) (h : Post (some (.int (judgeV (σ.2.1 116 55) (σ.2.1 134) (σ.2.1 135) (σ.2.2 136) t i))) σ) : xM kX9_judge d [.ref 115, .int t, .int i] σ Post := by
  obtain ⟨d, rfl⟩ : ∃ e, d = e + 1 := ⟨d - 1, by omega⟩
  refine xM_start (lv := [some (.ref 115), some (.int t), some (.int i), none, none, none]) rfl ?_
  refine xe_iload_n dX9_judge_0 rfl ?_
  refine xe_calls (k2 := kX9_isTape) (vs := [_]) dX9_judge_1 okX9_isTape mlX9_265 stX9_isTape rfl rfl (Nat.le_of_ble_eq_true rfl) (Nat.le_of_ble_eq_true rfl) (sX9_isTape (by omega) _ (fun r1 hr1 => ?_))
  refine xe_if_ne (tgt := 9) dX9_judge_4 (by decide) (fun h4 => ?_) (fun h4 => ?_)
  · have ct := (xb_ne0 hr1).mp h4
    obtain ⟨u, hu, rfl⟩ := rng_nat (m := 5) (by omega) ct
    have eu : cN (nI u) = u := cN_nI (by omega)
    obtain ⟨m, hm, em⟩ := hl u (by omega)
    refine xe_aload_n dX9_judge_9 rfl ?_
    refine xe_getr dX9_judge_10 flX9_68 (by decide) rfl rfl ?_
    refine xe_iload_n dX9_judge_13 rfl ?_
    refine xn_iaload (j := u) dX9_judge_14 (by decide) rfl rfl (by omega) (by decide) ?_
    refine xe_iconst (v := -1) dX9_judge_15 rfl ?_
    refine xe_icmp_eq (tgt := 32) dX9_judge_16 (by decide) (fun h16 => ?_) (fun h16 => ?_)
    · refine xe_iconst (v := 0) dX9_judge_32 rfl ?_
      refine xe_istore_n (lv2 := [_, _, _, _, _, _]) dX9_judge_33 (by decide) rfl ?_
      have c : σ.2.1 134 (cN (nI u)) = -1 ∨ σ.2.1 134 (cN (nI u)) = 4 := by rw [eu]; first | exact Or.inl h16 | exact Or.inr h26
      rw [judgeV, if_pos ct, if_pos c, eu, em] at h
      exact lX9_judge u m i hu hm em 8 0 _ _ (by omega) h
    · refine xe_aload_n dX9_judge_19 rfl ?_
      refine xe_getr dX9_judge_20 flX9_68 (by decide) rfl rfl ?_
      refine xe_iload_n dX9_judge_23 rfl ?_
      refine xn_iaload (j := u) dX9_judge_24 (by decide) rfl rfl (by omega) (by decide) ?_
      refine xe_iconst (v := 4) dX9_judge_25 rfl ?_
      refine xe_icmp_eq (tgt := 32) dX9_judge_26 (by decide) (fun h26 => ?_) (fun h26 => ?_)
      · refine xe_iconst (v := 0) dX9_judge_32 rfl ?_
        refine xe_istore_n (lv2 := [_, _, _, _, _, _]) dX9_judge_33 (by decide) rfl ?_
        have c : σ.2.1 134 (cN (nI u)) = -1 ∨ σ.2.1 134 (cN (nI u)) = 4 := by rw [eu]; first | exact Or.inl h16 | exact Or.inr h26
        rw [judgeV, if_pos ct, if_pos c, eu, em] at h
        exact lX9_judge u m i hu hm em 8 0 _ _ (by omega) h
      · refine xe_bipush (v := -12) dX9_judge_29 rfl ?_
        refine xe_iret dX9_judge_31 rfl rfl ?_
        rw [judgeV, if_pos ct, eu, if_neg (fun z => z.elim h16 h26)] at h; exact h
  · refine xe_iconst (v := -1) dX9_judge_7 rfl ?_
    refine xe_iret dX9_judge_8 rfl rfl ?_
    rw [judgeV, if_neg ((xb_eq0 hr1).mp h4)] at h; exact h
