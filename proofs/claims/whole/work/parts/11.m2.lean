theorem lX9_move {d : Nat} {σ : xSt} {Post : Option Value → xSt → Prop} (cf ct : Nat) (hf : xI cf 115) (ht : xI ct 115) (hne : cf ≠ ct) (h : Post none (xsA σ ct (va_cpy (σ.2.1 cf) (σ.2.1 ct) 0 0 115))) : ∀ (n j : Nat), 116 ≤ j + n → j ≤ 115 → xEv kX9_move d 2 [some (.ref cf), some (.ref ct), some (.int (nI j))] [] (xsA σ ct (va_cpy (σ.2.1 cf) (σ.2.1 ct) 0 0 j)) Post := by
  intro n
  induction n with
  | zero => intro j hn hj; omega
  | succ n ih =>
    intro j hn hj
    refine xe_iload_n dX9_move_2 rfl ?_
    refine xe_bipush (v := 115) dX9_move_3 rfl ?_
    refine xe_icmp_ge (tgt := 20) dX9_move_5 (by decide) (fun h5 => ?_) (fun h5 => ?_)
    · refine xe_vret dX9_move_20 rfl ?_
      have e := nLe (a := 115) (by omega) (by omega) h5
      rw [show j = 115 by omega]
      exact h
    · refine xe_aload_n dX9_move_8 rfl ?_
      refine xe_iload_n dX9_move_9 rfl ?_
      refine xe_aload_n dX9_move_10 rfl ?_
      refine xe_iload_n dX9_move_11 rfl ?_
      refine xn_iaload dX9_move_12 hf.1 hf.2 (by first | with_reducible rfl | (simp only [xl, pk_mul, nI_add, nI_1]; done) | (simp only [xl, pk_mul, nI_add, nI_1]; rfl)) (nNle (a := 115) (by omega) (by omega) h5) (by decide) ?_
      refine xn_iastore dX9_move_13 ht.1 ht.2 (by first | with_reducible rfl | (simp only [xl, pk_mul, nI_add, nI_1]; done) | (simp only [xl, pk_mul, nI_add, nI_1]; rfl)) (nNle (a := 115) (by omega) (by omega) h5) (by decide) ?_
      refine xn_inc (j := j) (lv2 := [_, _, _]) dX9_move_14 (by decide) rfl rfl ?_
      refine xe_goto (tgt := 2) dX9_move_17 (by decide) ?_
      have e := nNle (a := 115) (by omega) (by omega) h5
      refine xe_st ?_ (ih (j + 1) (by omega) (by omega))
      rw [xsA_A, xsA_get, xsA_ne hne, cpy_succ]

theorem sX9_move {d : Nat} (hd : 0 ≤ d) {σ : xSt} {Post : Option Value → xSt → Prop} (cf ct : Nat) (hf : xI cf 115) (ht : xI ct 115) (hne : cf ≠ ct) (h : Post none (xsA σ ct (va_cpy (σ.2.1 cf) (σ.2.1 ct) 0 0 115))) : xM kX9_move d [.ref cf, .ref ct] σ Post := by
  refine xM_start (lv := [some (.ref cf), some (.ref ct), none]) rfl ?_
  refine xe_iconst (v := 0) dX9_move_0 rfl ?_
  refine xe_istore_n (lv2 := [_, _, _]) dX9_move_1 (by decide) rfl ?_
  have l := lX9_move (d := d) (σ := σ) cf ct hf ht hne h 116 0 (by omega) (by omega)
  rw [cpy_zero, xsA_self] at l
  exact l

/-- how many of the lowest eight bits are set -/
def mMany (b : Int32) : Int32 := iS (fun j => b >>> (nI j &&& 31) &&& 1) 8

theorem lX9_many {d : Nat} {σ : xSt} {Post : Option Value → xSt → Prop} (b : Int32) (h : Post (some (.int (mMany b))) σ) : ∀ (n j : Nat), 9 ≤ j + n → j ≤ 8 → xEv kX9_many d 4 [some (.int b), some (.int (iS (fun j => b >>> (nI j &&& 31) &&& 1) j)), some (.int (nI j))] [] σ Post := by
  intro n
  induction n with
  | zero => intro j hn hj; omega
  | succ n ih =>
    intro j hn hj
    refine xe_iload_n dX9_many_4 rfl ?_
    refine xe_bipush (v := 8) dX9_many_5 rfl ?_
    refine xe_icmp_ge (tgt := 24) dX9_many_7 (by decide) (fun h7 => ?_) (fun h7 => ?_)
    · refine xe_iload_n dX9_many_24 rfl ?_
      refine xe_iret dX9_many_25 rfl rfl ?_
      have e := nLe (a := 8) (by omega) (by omega) h7
      rw [show j = 8 by omega]
      exact h
    · refine xe_iload_n dX9_many_10 rfl ?_
      refine xe_iload_n dX9_many_11 rfl ?_
      refine xe_iload_n dX9_many_12 rfl ?_
      refine xe_ishr dX9_many_13 ?_
      refine xe_iconst (v := 1) dX9_many_14 rfl ?_
      refine xe_iand dX9_many_15 ?_
      refine xe_iadd dX9_many_16 ?_
      refine xe_istore_n (lv2 := [_, _, _]) dX9_many_17 (by decide) rfl ?_
      refine xn_inc (j := j) (lv2 := [_, _, _]) dX9_many_18 (by decide) rfl rfl ?_
      refine xe_goto (tgt := 4) dX9_many_21 (by decide) ?_
      have e := nNle (a := 8) (by omega) (by omega) h7
      exact ih (j + 1) (by omega) (by omega)

theorem sX9_many {d : Nat} (hd : 0 ≤ d) {σ : xSt} {Post : Option Value → xSt → Prop} (b : Int32) (h : Post (some (.int (mMany b))) σ) : xM kX9_many d [.int b] σ Post := by
  refine xM_start (lv := [some (.int b), none, none]) rfl ?_
  refine xe_iconst (v := 0) dX9_many_0 rfl ?_
  refine xe_istore_n (lv2 := [_, _, _]) dX9_many_1 (by decide) rfl ?_
  refine xe_iconst (v := 0) dX9_many_2 rfl ?_
  refine xe_istore_n (lv2 := [_, _, _]) dX9_many_3 (by decide) rfl ?_
  exact lX9_many (d := d) (σ := σ) b h 9 0 (by omega) (by omega)

theorem sX9_image {d : Nat} (hd : 1 ≤ d) {σ : xSt} {Post : Option Value → xSt → Prop}  (h : Post (some (.int (σ.2.1 116 54))) (xsA (xsF σ 115 3 1) 118 (va_cpy (σ.2.1 116) (σ.2.1 118) 0 0 115))) : xM kX9_image d [.ref 115] σ Post := by
  obtain ⟨d, rfl⟩ : ∃ e, d = e + 1 := ⟨d - 1, by omega⟩
  refine xM_start (lv := [some (.ref 115)]) rfl ?_
  refine xe_aload_n dX9_image_0 rfl ?_
  refine xe_iconst (v := 1) dX9_image_1 rfl ?_
  refine xe_putf dX9_image_2 flX9_81 (by decide) rfl rfl (by first | rfl | decide | assumption | exact xb_narrow (by assumption)) rfl ?_
  refine xe_aload_n dX9_image_5 rfl ?_
  refine xe_getr dX9_image_6 flX9_9 (by decide) rfl rfl ?_
  refine xe_aload_n dX9_image_9 rfl ?_
  refine xe_getr dX9_image_10 flX9_18 (by decide) rfl rfl ?_
  refine xe_calls (k2 := kX9_move) (vs := [_, _]) dX9_image_13 okX9_move mlX9_85 stX9_move rfl rfl (Nat.le_of_ble_eq_true rfl) (Nat.le_of_ble_eq_true rfl) (sX9_move (by omega) 116 118 ⟨by decide, rfl⟩ ⟨by decide, rfl⟩ (by decide) ?_)
  refine xe_aload_n dX9_image_16 rfl ?_
  refine xe_getr dX9_image_17 flX9_9 (by decide) rfl rfl ?_
  refine xe_bipush (v := 54) dX9_image_20 rfl ?_
  refine xn_iaload dX9_image_22 (by decide) rfl (by first | with_reducible rfl | (simp only [xl, pk_mul, nI_add, nI_1]; done) | (simp only [xl, pk_mul, nI_add, nI_1]; rfl)) (by omega) (by decide) ?_
  refine xe_iret dX9_image_23 rfl rfl ?_
  exact h

theorem sX9_undo {d : Nat} (hd : 1 ≤ d) {σ : xSt} {Post : Option Value → xSt → Prop}  (h : (σ.1 115 3 = 0 → Post (some (.int (-3))) σ) ∧ (¬ σ.1 115 3 = 0 → Post (some (.int (σ.2.1 118 54))) (xsA σ 116 (va_cpy (σ.2.1 118) (σ.2.1 116) 0 0 115)))) : xM kX9_undo d [.ref 115] σ Post := by
  obtain ⟨d, rfl⟩ : ∃ e, d = e + 1 := ⟨d - 1, by omega⟩
  refine xM_start (lv := [some (.ref 115)]) rfl ?_
  refine xe_aload_n dX9_undo_0 rfl ?_
  refine xe_getf dX9_undo_1 flX9_81 (by decide) rfl rfl ?_
  refine xe_if_ne (tgt := 10) dX9_undo_4 (by decide) (fun h4 => ?_) (fun h4 => ?_)
  · refine xe_aload_n dX9_undo_10 rfl ?_
    refine xe_getr dX9_undo_11 flX9_18 (by decide) rfl rfl ?_
    refine xe_aload_n dX9_undo_14 rfl ?_
    refine xe_getr dX9_undo_15 flX9_9 (by decide) rfl rfl ?_
    refine xe_calls (k2 := kX9_move) (vs := [_, _]) dX9_undo_18 okX9_move mlX9_85 stX9_move rfl rfl (Nat.le_of_ble_eq_true rfl) (Nat.le_of_ble_eq_true rfl) (sX9_move (by omega) 118 116 ⟨by decide, rfl⟩ ⟨by decide, rfl⟩ (by decide) ?_)
    refine xe_aload_n dX9_undo_21 rfl ?_
    refine xe_getr dX9_undo_22 flX9_9 (by decide) rfl rfl ?_
    refine xe_bipush (v := 54) dX9_undo_25 rfl ?_
    refine xn_iaload dX9_undo_27 (by decide) rfl (by first | with_reducible rfl | (simp only [xl, pk_mul, nI_add, nI_1]; done) | (simp only [xl, pk_mul, nI_add, nI_1]; rfl)) (by omega) (by decide) ?_
    refine xe_iret dX9_undo_28 rfl rfl ?_
    first | exact h.1 (by assumption) | (have h2 := h.2 (by assumption); exact h2)
  · refine xe_bipush (v := -3) dX9_undo_7 rfl ?_
    refine xe_iret dX9_undo_9 rfl rfl ?_
    first | exact h.1 (by assumption) | (have h2 := h.2 (by assumption); exact h2)
