theorem fil_zero {v : Int32} {f : Nat → Int32} : (fun k => if k < 0 then v else f k) = f := by funext k; rw [if_neg (by omega)]
theorem fil_succ {v : Int32} {f : Nat → Int32} {j : Nat} : upd (fun k => if k < j then v else f k) j v = fun k => if k < j + 1 then v else f k := by
  funext k; show (if k = j then v else if k < j then v else f k) = _
  by_cases h : k = j
  · rw [if_pos h, if_pos (by omega)]
  · by_cases h2 : k < j
    · rw [if_neg h, if_pos h2, if_pos (by omega)]
    · rw [if_neg h, if_neg h2, if_neg (by omega)]
theorem filJ_zero {v : Int64} {f : Nat → Int64} : (fun k => if k < 0 then v else f k) = f := by funext k; rw [if_neg (by omega)]
theorem filJ_succ {v : Int64} {f : Nat → Int64} {j : Nat} : vp_updL (fun k => if k < j then v else f k) j v = fun k => if k < j + 1 then v else f k := by
  funext k; show (if k = j then v else if k < j then v else f k) = _
  by_cases h : k = j
  · rw [if_pos h, if_pos (by omega)]
  · by_cases h2 : k < j
    · rw [if_neg h, if_pos h2, if_pos (by omega)]
    · rw [if_neg h, if_neg h2, if_neg (by omega)]

theorem lJ7_fill_53178 {d : Nat} {σ : xSt} {Post : Option Value → xSt → Prop} {c n : Nat} (hc : xI c n) (hn : n < 10000) (v : Int32) (h : Post none (xsA σ c (fun k => if k < n then v else σ.2.1 c k))) : ∀ (q j : Nat), n + 1 ≤ j + q → j ≤ n → xEv kJ7_fill_53178 d 5 [some (.ref c), some (.int v), some (.int (nI j)), some (.int (nI n))] [] (xsA σ c (fun k => if k < j then v else σ.2.1 c k)) Post := by
  intro q
  induction q with
  | zero => intro j hq hj; omega
  | succ q ih =>
    intro j hq hj
    refine xe_iload_n dJ7_fill_53178_5 rfl ?_
    refine xe_iload_n dJ7_fill_53178_6 rfl ?_
    refine xe_icmp_ge (tgt := 20) dJ7_fill_53178_7 (by decide) (fun h7 => ?_) (fun h7 => ?_)
    · obtain rfl : j = n := by have := nLe (by omega) (by omega) h7; omega
      refine xe_vret dJ7_fill_53178_20 rfl ?_
      exact h
    · refine xe_aload_n dJ7_fill_53178_10 rfl ?_
      refine xe_iload_n dJ7_fill_53178_11 rfl ?_
      refine xe_iload_n dJ7_fill_53178_12 rfl ?_
      refine xn_iastore (j := j) dJ7_fill_53178_13 hc.1 hc.2 (by first | with_reducible rfl | (simp only [xl, pk_mul, nI_add, nI_1]; done) | (simp only [xl, pk_mul, nI_add, nI_1]; rfl)) (nNle (by omega) (by omega) h7) (by first | decide | omega) ?_
      rw [xsA_A, xsA_get, fil_succ]
      refine xn_inc (j := j) (lv2 := [_, _, _, _]) dJ7_fill_53178_14 (by decide) rfl rfl ?_
      refine xe_goto (tgt := 5) dJ7_fill_53178_17 (by decide) ?_
      exact ih (j + 1) (by omega) (by have := nNle (by omega) (by omega) h7; omega)

theorem sJ7_fill_53178 {d : Nat} (hd : 0 ≤ d) {σ : xSt} {Post : Option Value → xSt → Prop} {c n : Nat} (v : Int32) (hc : xI c n) (hn : n < 10000) (h : Post none (xsA σ c (fun k => if k < n then v else σ.2.1 c k))) : xM kJ7_fill_53178 d [.ref c, .int v] σ Post := by
  refine xM_start (lv := [some (.ref c), some (.int v), none, none]) rfl ?_
  refine xe_iconst (v := 0) dJ7_fill_53178_0 rfl ?_
  refine xe_istore_n (lv2 := [_, _, _, _]) dJ7_fill_53178_1 (by decide) rfl ?_
  refine xe_aload_n dJ7_fill_53178_2 rfl ?_
  refine xe_alen dJ7_fill_53178_3 hc.1 hc.2 (by decide) ?_
  refine xe_istore_n (lv2 := [_, _, _, _]) dJ7_fill_53178_4 (by decide) rfl ?_
  have l := lJ7_fill_53178 (d := d) hc hn v h (n + 1) 0 (by omega) (by omega)
  rw [fil_zero, xsA_self] at l
  exact l

theorem lJ7_fill_d0a16 {d : Nat} {σ : xSt} {Post : Option Value → xSt → Prop} {c n : Nat} (hc : c < 138 ∧ xsh c = .inl (3, n, [])) (hn : n < 10000) (v : Int64) (h : Post none (xsJ σ c (fun k => if k < n then v else σ.2.2 c k))) : ∀ (q j : Nat), n + 1 ≤ j + q → j ≤ n → xEv kJ7_fill_d0a16 d 6 [some (.ref c), some (.long v), none, some (.int (nI j)), some (.int (nI n))] [] (xsJ σ c (fun k => if k < j then v else σ.2.2 c k)) Post := by
  intro q
  induction q with
  | zero => intro j hq hj; omega
  | succ q ih =>
    intro j hq hj
    refine xe_iload_n dJ7_fill_d0a16_6 rfl ?_
    refine xe_iload dJ7_fill_d0a16_7 rfl ?_
    refine xe_icmp_ge (tgt := 22) dJ7_fill_d0a16_9 (by decide) (fun h9 => ?_) (fun h9 => ?_)
    · obtain rfl : j = n := by have := nLe (by omega) (by omega) h9; omega
      refine xe_vret dJ7_fill_d0a16_22 rfl ?_
      exact h
    · refine xe_aload_n dJ7_fill_d0a16_12 rfl ?_
      refine xe_iload_n dJ7_fill_d0a16_13 rfl ?_
      refine xe_lload_n dJ7_fill_d0a16_14 rfl ?_
      refine xn_lastore (j := j) dJ7_fill_d0a16_15 hc.1 hc.2 (by first | with_reducible rfl | (simp only [xl, pk_mul, nI_add, nI_1]; done) | (simp only [xl, pk_mul, nI_add, nI_1]; rfl)) (nNle (by omega) (by omega) h9) (by first | decide | omega) ?_
      rw [xsJ_J, xsJ_get, filJ_succ]
      refine xn_inc (j := j) (lv2 := [_, _, _, _, _]) dJ7_fill_d0a16_16 (by decide) rfl rfl ?_
      refine xe_goto (tgt := 6) dJ7_fill_d0a16_19 (by decide) ?_
      exact ih (j + 1) (by omega) (by have := nNle (by omega) (by omega) h9; omega)

theorem sJ7_fill_d0a16 {d : Nat} (hd : 0 ≤ d) {σ : xSt} {Post : Option Value → xSt → Prop} {c n : Nat} (v : Int64) (hc : c < 138 ∧ xsh c = .inl (3, n, [])) (hn : n < 10000) (h : Post none (xsJ σ c (fun k => if k < n then v else σ.2.2 c k))) : xM kJ7_fill_d0a16 d [.ref c, .long v] σ Post := by
  refine xM_start (lv := [some (.ref c), some (.long v), none, none, none]) rfl ?_
  refine xe_iconst (v := 0) dJ7_fill_d0a16_0 rfl ?_
  refine xe_istore_n (lv2 := [_, _, _, _, _]) dJ7_fill_d0a16_1 (by decide) rfl ?_
  refine xe_aload_n dJ7_fill_d0a16_2 rfl ?_
  refine xe_alen dJ7_fill_d0a16_3 hc.1 hc.2 (by decide) ?_
  refine xe_istore (lv2 := [_, _, _, _, _]) dJ7_fill_d0a16_4 (by decide) rfl ?_
  have l := lJ7_fill_d0a16 (d := d) hc hn v h (n + 1) 0 (by omega) (by omega)
  rw [filJ_zero, xsJ_self] at l
  exact l

theorem mn9s {s : Nat} (h : s ≤ 9) : mnI 9 (nI s + 0) = nI s := by
  rw [Int32.add_zero]; unfold mnI
  by_cases h2 : nI s < 9
  · rw [if_pos h2]
  · rw [if_neg h2]; have : 9 ≤ s := nNlt (a := s) (b := 9) (by omega) (by omega) h2
    obtain rfl : s = 9 := by omega
    rfl

theorem sX3_begin {d : Nat} (hd : 1 ≤ d) {σ : xSt} {Post : Option Value → xSt → Prop} {c : Nat} (i : Nat) (kd v sg : Int32) (hp : isP c) (h : ∀ τ, Un (pC c) σ τ → RepP τ c i (nwP kd v sg) → Post none τ) : xM kX3_begin d [.ref c, .int (nI i), .int kd, .int v, .int sg] σ Post := by
  obtain ⟨d, rfl⟩ : ∃ e, d = e + 1 := ⟨d - 1, by omega⟩
  refine xM_start (lv := [some (.ref c), some (.int (nI i)), some (.int kd), some (.int v), some (.int sg)]) rfl ?_
  refine xe_aload_n dX3_begin_0 rfl ?_
  refine xe_iload_n dX3_begin_1 rfl ?_
  refine xe_putf dX3_begin_2 flX3_15 hp.1.1 hp.1.2 rfl rfl rfl ?_
  refine xe_aload_n dX3_begin_5 rfl ?_
  refine xe_iload_n dX3_begin_6 rfl ?_
  refine xe_putf dX3_begin_7 flX3_19 hp.1.1 hp.1.2 rfl rfl rfl ?_
  refine xe_aload_n dX3_begin_10 rfl ?_
  refine xe_iload_n dX3_begin_11 rfl ?_
  refine xe_putf dX3_begin_12 flX3_22 hp.1.1 hp.1.2 rfl rfl rfl ?_
  refine xe_aload_n dX3_begin_15 rfl ?_
  refine xe_iload dX3_begin_16 rfl ?_
  refine xe_putf dX3_begin_18 flX3_25 hp.1.1 hp.1.2 rfl rfl rfl ?_
  refine xe_aload_n dX3_begin_21 rfl ?_
  refine xe_iconst (v := 0) dX3_begin_22 rfl ?_
  refine xe_putf dX3_begin_23 flX3_28 hp.1.1 hp.1.2 rfl rfl rfl ?_
  refine xe_aload_n dX3_begin_26 rfl ?_
  refine xe_iconst (v := 0) dX3_begin_27 rfl ?_
  refine xe_putf dX3_begin_28 flX3_31 hp.1.1 hp.1.2 rfl rfl rfl ?_
  refine xe_aload_n dX3_begin_31 rfl ?_
  refine xe_getr dX3_begin_32 flX3_9 hp.1.1 hp.1.2 rfl ?_
  refine xe_iconst (v := 0) dX3_begin_35 rfl ?_
  refine xe_calls (k2 := kJ7_fill_53178) (vs := [_, _]) dX3_begin_36 okJ7_fill_53178 mlX3_34 stJ7_fill_53178 rfl rfl (Nat.le_of_ble_eq_true rfl) (Nat.le_of_ble_eq_true rfl) (sJ7_fill_53178 (Nat.zero_le _) 0 hp.2 (by omega) ?_)
  refine xe_vret dX3_begin_39 rfl ?_
  refine h _ (by repeat (first | exact Un.rf | refine Un.tr ?_ (Un.F (P := pC c) (Or.inl rfl)) | refine Un.tr ?_ (Un.A (P := pC c) (Or.inr rfl)))) ⟨?_, ?_, ?_⟩
  · simp [xsF1, xsA_1]
  · refine five ?_ ?_ ?_ ?_ ?_ <;> simp [xsF1, xsA_1, nwP]
  · intro k hk; rw [xsA_get, if_pos hk]; show (0 : Int32) = nwP kd v sg (5 + k); unfold nwP; rw [if_neg (by omega), if_neg (by omega), if_neg (by omega)]

theorem sX3_copyFrom {d : Nat} (hd : 1 ≤ d) {σ : xSt} {Post : Option Value → xSt → Prop} {c e : Nat} (hp : isP c) (he : isP e) (hne : e ≠ c) (hne2 : e ≠ c + 1) (hne3 : e + 1 ≠ c) (h : ∀ τ, Un (pC c) σ τ → (∀ i a, RepP σ e i a → RepP τ c i a) → Post none τ) : xM kX3_copyFrom d [.ref c, .ref e] σ Post := by
  obtain ⟨d, rfl⟩ : ∃ e, d = e + 1 := ⟨d - 1, by omega⟩
  refine xM_start (lv := [some (.ref c), some (.ref e)]) rfl ?_
  refine xe_aload_n dX3_copyFrom_0 rfl ?_
  refine xe_aload_n dX3_copyFrom_1 rfl ?_
  refine xe_getf dX3_copyFrom_2 flX3_15 he.1.1 he.1.2 rfl ?_
  refine xe_putf dX3_copyFrom_5 flX3_15 hp.1.1 hp.1.2 rfl rfl rfl ?_
  refine xe_aload_n dX3_copyFrom_8 rfl ?_
  refine xe_aload_n dX3_copyFrom_9 rfl ?_
  refine xe_getf dX3_copyFrom_10 flX3_19 he.1.1 he.1.2 rfl ?_
  refine xe_putf dX3_copyFrom_13 flX3_19 hp.1.1 hp.1.2 rfl rfl rfl ?_
  refine xe_aload_n dX3_copyFrom_16 rfl ?_
  refine xe_aload_n dX3_copyFrom_17 rfl ?_
  refine xe_getf dX3_copyFrom_18 flX3_22 he.1.1 he.1.2 rfl ?_
  refine xe_putf dX3_copyFrom_21 flX3_22 hp.1.1 hp.1.2 rfl rfl rfl ?_
  refine xe_aload_n dX3_copyFrom_24 rfl ?_
  refine xe_aload_n dX3_copyFrom_25 rfl ?_
  refine xe_getf dX3_copyFrom_26 flX3_25 he.1.1 he.1.2 rfl ?_
  refine xe_putf dX3_copyFrom_29 flX3_25 hp.1.1 hp.1.2 rfl rfl rfl ?_
  refine xe_aload_n dX3_copyFrom_32 rfl ?_
  refine xe_aload_n dX3_copyFrom_33 rfl ?_
  refine xe_getf dX3_copyFrom_34 flX3_28 he.1.1 he.1.2 rfl ?_
  refine xe_putf dX3_copyFrom_37 flX3_28 hp.1.1 hp.1.2 rfl rfl rfl ?_
  refine xe_aload_n dX3_copyFrom_40 rfl ?_
  refine xe_aload_n dX3_copyFrom_41 rfl ?_
  refine xe_getf dX3_copyFrom_42 flX3_31 he.1.1 he.1.2 rfl ?_
  refine xe_putf dX3_copyFrom_45 flX3_31 hp.1.1 hp.1.2 rfl rfl rfl ?_
  refine xe_aload_n dX3_copyFrom_48 rfl ?_
  refine xe_getr dX3_copyFrom_49 flX3_9 he.1.1 he.1.2 rfl ?_
  refine xe_iconst (v := 0) dX3_copyFrom_52 rfl ?_
  refine xe_aload_n dX3_copyFrom_53 rfl ?_
  refine xe_getr dX3_copyFrom_54 flX3_9 hp.1.1 hp.1.2 rfl ?_
  refine xe_iconst (v := 0) dX3_copyFrom_57 rfl ?_
  refine xe_iconst (v := 4) dX3_copyFrom_58 rfl ?_
  refine xe_copyi dX3_copyFrom_59 mlX3_40 (by omega) he.2.1 he.2.2 hp.2.1 hp.2.2 (by decide) (by decide) (by decide) (by decide) (by decide) rfl ?_
  refine xe_vret dX3_copyFrom_62 rfl ?_
  refine h _ (by repeat (first | exact Un.rf | refine Un.tr ?_ (Un.F (P := pC c) (Or.inl rfl)) | refine Un.tr ?_ (Un.A (P := pC c) (Or.inr rfl)))) (fun i a hr => ⟨?_, ?_, ?_⟩)
  · simp [xsF1, xsA_1]; exact hr.1
  · have h0 := hr.2.1 0 (by omega); have h1 := hr.2.1 1 (by omega); have h2 := hr.2.1 2 (by omega); have h3 := hr.2.1 3 (by omega); have h4 := hr.2.1 4 (by omega)
    refine five ?_ ?_ ?_ ?_ ?_ <;> simp [xsF1, xsA_1, hne] <;> assumption
  · intro k hk; rw [xsA_get]; simp only [xsF_A, va_cpy]; rw [if_pos (c := (0 : Int32).toNatClampNeg ≤ k ∧ k < (0 : Int32).toNatClampNeg + (4 : Int32).toNatClampNeg) ⟨Nat.zero_le _, by show k < 0 + 4; omega⟩]; show σ.2.1 (e + 1) (0 + (k - 0)) = _; rw [Nat.zero_add, Nat.sub_zero]; exact hr.2.2 k hk

theorem sX3_open {d : Nat} (hd : 1 ≤ d) {σ : xSt} {Post : Option Value → xSt → Prop} {c : Nat} (i : Nat) (a : Nat → Int32) (hp : isP c) (hr : RepP σ c i a) (h : ∀ τ, Un (pC c) σ τ → RepP τ c i (opP a) → Post none τ) : xM kX3_open d [.ref c] σ Post := by
  obtain ⟨d, rfl⟩ : ∃ e, d = e + 1 := ⟨d - 1, by omega⟩
  refine xM_start (lv := [some (.ref c)]) rfl ?_
  refine xe_aload_n dX3_open_0 rfl ?_
  refine xe_aload_n dX3_open_1 rfl ?_
  refine xe_getf dX3_open_2 flX3_31 hp.1.1 hp.1.2 rfl ?_
  refine xe_iconst (v := 1) dX3_open_5 rfl ?_
  refine xe_iadd dX3_open_6 ?_
  refine xe_bipush (v := 9) dX3_open_7 rfl ?_
  refine xe_mmin dX3_open_9 mlX3_46 (by omega) (Nat.le_of_ble_eq_true rfl) ?_
  refine xe_putf dX3_open_12 flX3_31 hp.1.1 hp.1.2 rfl rfl rfl ?_
  refine xe_aload_n dX3_open_15 rfl ?_
  refine xe_aload_n dX3_open_16 rfl ?_
  refine xe_getf dX3_open_17 flX3_25 hp.1.1 hp.1.2 rfl ?_
  refine xe_iconst (v := 1) dX3_open_20 rfl ?_
  refine xe_isub dX3_open_21 ?_
  refine xe_iconst (v := 0) dX3_open_22 rfl ?_
  refine xe_mmax dX3_open_23 mlX3_52 (by omega) (Nat.le_of_ble_eq_true rfl) ?_
  refine xe_putf dX3_open_26 flX3_25 hp.1.1 hp.1.2 rfl rfl rfl ?_
  refine xe_vret dX3_open_29 rfl ?_
  have h0 := hr.2.1 0 (by omega); have h1 := hr.2.1 1 (by omega); have h2 := hr.2.1 2 (by omega); have h3 := hr.2.1 3 (by omega); have h4 := hr.2.1 4 (by omega)
  refine h _ (by repeat (first | exact Un.rf | refine Un.tr ?_ (Un.F (P := pC c) (Or.inl rfl)) | refine Un.tr ?_ (Un.A (P := pC c) (Or.inr rfl)))) ⟨?_, ?_, ?_⟩
  · simp [xsF1]; exact hr.1
  · refine five ?_ ?_ ?_ ?_ ?_ <;> simp [xsF1, opP, upd] <;> first | assumption | (rw [h2, mx0]) | (rw [h4, mn9])
  · intro k hk; simp [opP, upd, xsF_A]; rw [if_neg (by omega), if_neg (by omega)]; exact hr.2.2 k hk

theorem sX3_ripen {d : Nat} (hd : 1 ≤ d) {σ : xSt} {Post : Option Value → xSt → Prop} {c : Nat} (i : Nat) (a : Nat → Int32) (kp : Int32) (s : Nat) (hp : isP c) (hr : RepP σ c i a) (hs : a 2 = nI s) (hs9 : s ≤ 9) (h : ∀ τ, Un (pC c) σ τ → RepP τ c i (tkP kp a) → Post none τ) : xM kX3_ripen d [.ref c, .int kp] σ Post := by
  obtain ⟨d, rfl⟩ : ∃ e, d = e + 1 := ⟨d - 1, by omega⟩
  refine xM_start (lv := [some (.ref c), some (.int kp)]) rfl ?_
  refine xe_aload_n dX3_ripen_0 rfl ?_
  refine xe_dup dX3_ripen_1 rfl ?_
  refine xe_getf dX3_ripen_2 flX3_28 hp.1.1 hp.1.2 rfl ?_
  refine xe_iconst (v := 1) dX3_ripen_5 rfl ?_
  refine xe_iadd dX3_ripen_6 ?_
  refine xe_putf dX3_ripen_7 flX3_28 hp.1.1 hp.1.2 rfl rfl rfl ?_
  refine xe_iload_n dX3_ripen_10 rfl ?_
  refine xe_if_le (tgt := 38) dX3_ripen_11 (by decide) (fun h11 => ?_) (fun h11 => ?_)
  · refine xe_vret dX3_ripen_38 rfl ?_
    have h0 := hr.2.1 0 (by omega); have h1 := hr.2.1 1 (by omega); have h2 := hr.2.1 2 (by omega); have h3 := hr.2.1 3 (by omega); have h4 := hr.2.1 4 (by omega)
    refine h _ (by repeat (first | exact Un.rf | refine Un.tr ?_ (Un.F (P := pC c) (Or.inl rfl)) | refine Un.tr ?_ (Un.A (P := pC c) (Or.inr rfl)))) ⟨?_, ?_, ?_⟩
    · simp [xsF1]; exact hr.1
    · skip
      simp only [xsF_get, h3] at *
      refine five ?_ ?_ ?_ ?_ ?_ <;> simp [xsF1, tkP, upd] <;> first | assumption | (rw [h3]) | skip
      all_goals first | (rw [if_neg (c := 0 < kp ∧ a 3 + 1 - (a 3 + 1) / kp * kp = 0) (fun z => Int32.lt_irrefl (Int32.lt_of_lt_of_le z.1 h11)), hs, mn9s hs9, ← hs]; assumption) | (rw [if_neg (c := 0 < kp ∧ a 3 + 1 - (a 3 + 1) / kp * kp = 0) (fun z => h20 z.2), hs, mn9s hs9, ← hs]; assumption) | (rw [if_pos (c := 0 < kp ∧ a 3 + 1 - (a 3 + 1) / kp * kp = 0) ⟨Int32.not_le.mp h11, h20⟩, h2, mn9])
    · intro k hk; simp [tkP, upd, xsF_A]; rw [if_neg (by omega), if_neg (by omega)]; exact hr.2.2 k hk
  · refine xe_aload_n dX3_ripen_14 rfl ?_
    refine xe_getf dX3_ripen_15 flX3_28 hp.1.1 hp.1.2 rfl ?_
    refine xe_iload_n dX3_ripen_18 rfl ?_
    refine xe_irem dX3_ripen_19 (by intro z; rw [z] at h11; exact h11 (by decide)) ?_
    refine xe_if_ne (tgt := 38) dX3_ripen_20 (by decide) (fun h20 => ?_) (fun h20 => ?_)
    · refine xe_vret dX3_ripen_38 rfl ?_
      have h0 := hr.2.1 0 (by omega); have h1 := hr.2.1 1 (by omega); have h2 := hr.2.1 2 (by omega); have h3 := hr.2.1 3 (by omega); have h4 := hr.2.1 4 (by omega)
      refine h _ (by repeat (first | exact Un.rf | refine Un.tr ?_ (Un.F (P := pC c) (Or.inl rfl)) | refine Un.tr ?_ (Un.A (P := pC c) (Or.inr rfl)))) ⟨?_, ?_, ?_⟩
      · simp [xsF1]; exact hr.1
      · skip
        simp only [xsF_get, h3] at *
        refine five ?_ ?_ ?_ ?_ ?_ <;> simp [xsF1, tkP, upd] <;> first | assumption | (rw [h3]) | skip
        all_goals first | (rw [if_neg (c := 0 < kp ∧ a 3 + 1 - (a 3 + 1) / kp * kp = 0) (fun z => Int32.lt_irrefl (Int32.lt_of_lt_of_le z.1 h11)), hs, mn9s hs9, ← hs]; assumption) | (rw [if_neg (c := 0 < kp ∧ a 3 + 1 - (a 3 + 1) / kp * kp = 0) (fun z => h20 z.2), hs, mn9s hs9, ← hs]; assumption) | (rw [if_pos (c := 0 < kp ∧ a 3 + 1 - (a 3 + 1) / kp * kp = 0) ⟨Int32.not_le.mp h11, h20⟩, h2, mn9])
      · intro k hk; simp [tkP, upd, xsF_A]; rw [if_neg (by omega), if_neg (by omega)]; exact hr.2.2 k hk
    · refine xe_aload_n dX3_ripen_23 rfl ?_
      refine xe_aload_n dX3_ripen_24 rfl ?_
      refine xe_getf dX3_ripen_25 flX3_25 hp.1.1 hp.1.2 rfl ?_
      refine xe_iconst (v := 1) dX3_ripen_28 rfl ?_
      refine xe_iadd dX3_ripen_29 ?_
      refine xe_bipush (v := 9) dX3_ripen_30 rfl ?_
      refine xe_mmin dX3_ripen_32 mlX3_46 (by omega) (Nat.le_of_ble_eq_true rfl) ?_
      refine xe_putf dX3_ripen_35 flX3_25 hp.1.1 hp.1.2 rfl rfl rfl ?_
      refine xe_vret dX3_ripen_38 rfl ?_
      have h0 := hr.2.1 0 (by omega); have h1 := hr.2.1 1 (by omega); have h2 := hr.2.1 2 (by omega); have h3 := hr.2.1 3 (by omega); have h4 := hr.2.1 4 (by omega)
      refine h _ (by repeat (first | exact Un.rf | refine Un.tr ?_ (Un.F (P := pC c) (Or.inl rfl)) | refine Un.tr ?_ (Un.A (P := pC c) (Or.inr rfl)))) ⟨?_, ?_, ?_⟩
      · simp [xsF1]; exact hr.1
      · skip
        simp only [xsF_get, h3] at *
        refine five ?_ ?_ ?_ ?_ ?_ <;> simp [xsF1, tkP, upd] <;> first | assumption | (rw [h3]) | skip
        all_goals first | (rw [if_neg (c := 0 < kp ∧ a 3 + 1 - (a 3 + 1) / kp * kp = 0) (fun z => Int32.lt_irrefl (Int32.lt_of_lt_of_le z.1 h11)), hs, mn9s hs9, ← hs]; assumption) | (rw [if_neg (c := 0 < kp ∧ a 3 + 1 - (a 3 + 1) / kp * kp = 0) (fun z => h20 z.2), hs, mn9s hs9, ← hs]; assumption) | (rw [if_pos (c := 0 < kp ∧ a 3 + 1 - (a 3 + 1) / kp * kp = 0) ⟨Int32.not_le.mp h11, h20⟩, h2, mn9])
      · intro k hk; simp [tkP, upd, xsF_A]; rw [if_neg (by omega), if_neg (by omega)]; exact hr.2.2 k hk

theorem updr {f g : Nat → Int32} {m r : Nat} {x : Int32} (hr : r < m + 1) (h : r < m → f r = g r) : upd f m x r = upd g m x r := by
  unfold upd
  by_cases z : r = m
  · rw [if_pos z, if_pos z]
  · rw [if_neg z, if_neg z]; exact h (by omega)

theorem sX4_append {d : Nat} (hd : 0 ≤ d) {σ : xSt} {Post : Option Value → xSt → Prop} {c N m : Nat} (x y z : Int32) (f g e : Nat → Int32) (hp : isR c N) (hN : N ≤ 10) (hr : RepR σ c m f g e) (hm : m ≤ N) (h : (m = N → Post (some (.int (-4))) σ) ∧ (m < N → ∀ τ, Un (rC c) σ τ → RepR τ c (m + 1) (upd f m x) (upd g m y) (upd e m z) → Post (some (.int (nI (m + 1)))) τ)) : xM kX4_append d [.ref c, .int x, .int y, .int z] σ Post := by
  refine xM_start (lv := [some (.ref c), some (.int x), some (.int y), some (.int z)]) rfl ?_
  refine xe_aload_n dX4_append_0 rfl ?_
  refine xe_getf dX4_append_1 flX4_9 hp.1.1 hp.1.2 rfl ?_
  refine xe_aload_n dX4_append_4 rfl ?_
  refine xe_getr dX4_append_5 flX4_15 hp.1.1 hp.1.2 rfl ?_
  refine xe_alen dX4_append_8 hp.2.1.1 hp.2.1.2 (by decide) ?_
  refine xe_icmp_lt (tgt := 15) dX4_append_9 (by decide) (fun h9 => ?_) (fun h9 => ?_)
  · rw [hr.1] at h9
    have hlt := nLt (by omega) (by omega) h9
    refine xe_aload_n dX4_append_15 rfl ?_
    refine xe_getr dX4_append_16 flX4_15 hp.1.1 hp.1.2 rfl ?_
    refine xe_aload_n dX4_append_19 rfl ?_
    refine xe_getf dX4_append_20 flX4_9 hp.1.1 hp.1.2 rfl ?_
    refine xe_iload_n dX4_append_23 rfl ?_
    refine xn_iastore (j := m) dX4_append_24 hp.2.1.1 hp.2.1.2 hr.1 hlt (by omega) ?_
    refine xe_aload_n dX4_append_25 rfl ?_
    refine xe_getr dX4_append_26 flX4_19 hp.1.1 hp.1.2 rfl ?_
    refine xe_aload_n dX4_append_29 rfl ?_
    refine xe_getf dX4_append_30 flX4_9 hp.1.1 hp.1.2 rfl ?_
    refine xe_iload_n dX4_append_33 rfl ?_
    refine xn_iastore (j := m) dX4_append_34 hp.2.2.1.1 hp.2.2.1.2 hr.1 hlt (by omega) ?_
    refine xe_aload_n dX4_append_35 rfl ?_
    refine xe_getr dX4_append_36 flX4_22 hp.1.1 hp.1.2 rfl ?_
    refine xe_aload_n dX4_append_39 rfl ?_
    refine xe_getf dX4_append_40 flX4_9 hp.1.1 hp.1.2 rfl ?_
    refine xe_iload_n dX4_append_43 rfl ?_
    refine xn_iastore (j := m) dX4_append_44 hp.2.2.2.1 hp.2.2.2.2 hr.1 hlt (by omega) ?_
    refine xe_aload_n dX4_append_45 rfl ?_
    refine xe_dup dX4_append_46 rfl ?_
    refine xe_getf dX4_append_47 flX4_9 hp.1.1 hp.1.2 rfl ?_
    refine xe_iconst (v := 1) dX4_append_50 rfl ?_
    refine xe_iadd dX4_append_51 ?_
    refine xe_putf dX4_append_52 flX4_9 hp.1.1 hp.1.2 rfl rfl rfl ?_
    refine xe_aload_n dX4_append_55 rfl ?_
    refine xe_getf dX4_append_56 flX4_9 hp.1.1 hp.1.2 rfl ?_
    refine xe_iret dX4_append_59 rfl rfl ?_
    rw [xsF_get]
    simp only [xsA_1, hr.1, nI_1]
    refine h.2 hlt _ (by repeat (first | exact Un.rf | refine Un.tr ?_ (Un.F (P := rC c) ⟨by omega, by omega⟩) | refine Un.tr ?_ (Un.A (P := rC c) ⟨by omega, by omega⟩))) ⟨xsF_get, fun r hrr => ?_⟩
    refine ⟨?_, ?_, ?_⟩
    · rw [xsF_A, xsA_ne (by omega), xsA_ne (by omega), xsA_get]; exact updr hrr (fun z => (hr.2 r z).1)
    · rw [xsF_A, xsA_ne (by omega), xsA_get, xsA_ne (by omega)]; exact updr hrr (fun z => (hr.2 r z).2.1)
    · rw [xsF_A, xsA_get, xsA_ne (by omega), xsA_ne (by omega)]; exact updr hrr (fun z => (hr.2 r z).2.2)
  · refine xe_bipush (v := -4) dX4_append_12 rfl ?_
    refine xe_iret dX4_append_14 rfl rfl ?_
    refine h.1 ?_
    rw [hr.1] at h9; have := nNlt (by omega) (by omega) h9; omega

theorem sX4_empty {d : Nat} (hd : 0 ≤ d) {σ : xSt} {Post : Option Value → xSt → Prop} {c N : Nat} (hp : isR c N) (h : ∀ τ, Un (rC c) σ τ → (∀ f g e, RepR τ c 0 f g e) → Post (some (.int 0)) τ) : xM kX4_empty d [.ref c] σ Post := by
  refine xM_start (lv := [some (.ref c)]) rfl ?_
  refine xe_aload_n dX4_empty_0 rfl ?_
  refine xe_iconst (v := 0) dX4_empty_1 rfl ?_
  refine xe_putf dX4_empty_2 flX4_9 hp.1.1 hp.1.2 rfl rfl rfl ?_
  refine xe_iconst (v := 0) dX4_empty_5 rfl ?_
  refine xe_iret dX4_empty_6 rfl rfl ?_
  exact h _ (Un.F ⟨by omega, by omega⟩) (fun f g e => ⟨xsF_get, fun r hr => by omega⟩)

theorem sX4_copyFrom {d : Nat} (hd : 1 ≤ d) {σ : xSt} {Post : Option Value → xSt → Prop} {c e N m : Nat} (hp : isR c N) (hN : N ≤ 10) (he : isR e N) (hne : e + 4 ≤ c ∨ c + 4 ≤ e) (hm : σ.1 e 3 = nI m) (hmN : m ≤ N) (h : ∀ τ, Un (rC c) σ τ → (∀ f1 f2 f3, RepR σ e m f1 f2 f3 → RepR τ c m f1 f2 f3) → Post none τ) : xM kX4_copyFrom d [.ref c, .ref e] σ Post := by
  obtain ⟨d, rfl⟩ : ∃ e, d = e + 1 := ⟨d - 1, by omega⟩
  refine xM_start (lv := [some (.ref c), some (.ref e)]) rfl ?_
  refine xe_aload_n dX4_copyFrom_0 rfl ?_
  refine xe_aload_n dX4_copyFrom_1 rfl ?_
  refine xe_getf dX4_copyFrom_2 flX4_9 he.1.1 he.1.2 rfl ?_
  refine xe_aload_n dX4_copyFrom_5 rfl ?_
  refine xe_getr dX4_copyFrom_6 flX4_15 hp.1.1 hp.1.2 rfl ?_
  refine xe_alen dX4_copyFrom_9 hp.2.1.1 hp.2.1.2 (by decide) ?_
  refine xe_mmin dX4_copyFrom_10 mlX4_25 (by omega) (Nat.le_of_ble_eq_true rfl) ?_
  refine xe_top (x2 := nI m) (by rw [hm, if_neg (nI_nlt hmN (by omega))]) ?_
  refine xe_putf dX4_copyFrom_13 flX4_9 hp.1.1 hp.1.2 rfl rfl rfl ?_
  refine xe_aload_n dX4_copyFrom_16 rfl ?_
  refine xe_getr dX4_copyFrom_17 flX4_15 he.1.1 he.1.2 rfl ?_
  refine xe_iconst (v := 0) dX4_copyFrom_20 rfl ?_
  refine xe_aload_n dX4_copyFrom_21 rfl ?_
  refine xe_getr dX4_copyFrom_22 flX4_15 hp.1.1 hp.1.2 rfl ?_
  refine xe_iconst (v := 0) dX4_copyFrom_25 rfl ?_
  refine xe_aload_n dX4_copyFrom_26 rfl ?_
  refine xe_getf dX4_copyFrom_27 flX4_9 hp.1.1 hp.1.2 rfl ?_
  rw [xsF_get]
  refine xe_copyi dX4_copyFrom_30 mlX4_31 (by omega) he.2.1.1 he.2.1.2 hp.2.1.1 hp.2.1.2 (by decide) (by decide) (nI_pos (by omega)) (by rw [nI_clamp (by omega)]; show 0 + m ≤ N; omega) (by rw [nI_clamp (by omega)]; show 0 + m ≤ N; omega) rfl ?_
  rw [nI_clamp (by omega)]
  refine xe_aload_n dX4_copyFrom_33 rfl ?_
  refine xe_getr dX4_copyFrom_34 flX4_19 he.1.1 he.1.2 rfl ?_
  refine xe_iconst (v := 0) dX4_copyFrom_37 rfl ?_
  refine xe_aload_n dX4_copyFrom_38 rfl ?_
  refine xe_getr dX4_copyFrom_39 flX4_19 hp.1.1 hp.1.2 rfl ?_
  refine xe_iconst (v := 0) dX4_copyFrom_42 rfl ?_
  refine xe_aload_n dX4_copyFrom_43 rfl ?_
  refine xe_getf dX4_copyFrom_44 flX4_9 hp.1.1 hp.1.2 rfl ?_
  rw [xsA_1, xsF_get]
  refine xe_copyi dX4_copyFrom_47 mlX4_31 (by omega) he.2.2.1.1 he.2.2.1.2 hp.2.2.1.1 hp.2.2.1.2 (by decide) (by decide) (nI_pos (by omega)) (by rw [nI_clamp (by omega)]; show 0 + m ≤ N; omega) (by rw [nI_clamp (by omega)]; show 0 + m ≤ N; omega) rfl ?_
  rw [nI_clamp (n := m) (by omega)]
  refine xe_aload_n dX4_copyFrom_50 rfl ?_
  refine xe_getr dX4_copyFrom_51 flX4_22 he.1.1 he.1.2 rfl ?_
  refine xe_iconst (v := 0) dX4_copyFrom_54 rfl ?_
  refine xe_aload_n dX4_copyFrom_55 rfl ?_
  refine xe_getr dX4_copyFrom_56 flX4_22 hp.1.1 hp.1.2 rfl ?_
  refine xe_iconst (v := 0) dX4_copyFrom_59 rfl ?_
  refine xe_aload_n dX4_copyFrom_60 rfl ?_
  refine xe_getf dX4_copyFrom_61 flX4_9 hp.1.1 hp.1.2 rfl ?_
  rw [xsA_1, xsA_1, xsF_get]
  refine xe_copyi dX4_copyFrom_64 mlX4_31 (by omega) he.2.2.2.1 he.2.2.2.2 hp.2.2.2.1 hp.2.2.2.2 (by decide) (by decide) (nI_pos (by omega)) (by rw [nI_clamp (by omega)]; show 0 + m ≤ N; omega) (by rw [nI_clamp (by omega)]; show 0 + m ≤ N; omega) rfl ?_
  rw [nI_clamp (n := m) (by omega)]
  refine xe_vret dX4_copyFrom_67 rfl ?_
  refine h _ (by repeat (first | exact Un.rf | refine Un.tr ?_ (Un.F (P := rC c) ⟨by omega, by omega⟩) | refine Un.tr ?_ (Un.A (P := rC c) ⟨by omega, by omega⟩))) (fun f1 f2 f3 hr => ⟨?_, fun r hrr => ?_⟩)
  · rw [xsA_1, xsA_1, xsA_1, xsF_get]
  have e1 : ∀ (f g : Nat → Int32), va_cpy f g (0 : Int32).toNatClampNeg (0 : Int32).toNatClampNeg m r = f r := fun f g => by show (if 0 ≤ r ∧ r < 0 + m then f (0 + (r - 0)) else g r) = f r; rw [if_pos ⟨by omega, by omega⟩]; congr 1; omega
  refine ⟨?_, ?_, ?_⟩
  · rw [xsA_ne (by omega), xsA_ne (by omega), xsA_get, e1, xsF_A]; exact (hr.2 r hrr).1
  · rw [xsA_ne (by omega), xsA_get, e1, xsA_ne (by omega), xsF_A]; exact (hr.2 r hrr).2.1
  · rw [xsA_get, e1, xsA_ne (by omega), xsA_ne (by omega), xsF_A]; exact (hr.2 r hrr).2.2
