theorem isXc : ∀ ru, ru < 6 → isX (84 + 2 * ru) := by
  intro ru h
  match ru, h with
  | 0, _ => exact ⟨⟨⟨by decide, rfl⟩, by decide, rfl⟩, by decide⟩
  | 1, _ => exact ⟨⟨⟨by decide, rfl⟩, by decide, rfl⟩, by decide⟩
  | 2, _ => exact ⟨⟨⟨by decide, rfl⟩, by decide, rfl⟩, by decide⟩
  | 3, _ => exact ⟨⟨⟨by decide, rfl⟩, by decide, rfl⟩, by decide⟩
  | 4, _ => exact ⟨⟨⟨by decide, rfl⟩, by decide, rfl⟩, by decide⟩
  | 5, _ => exact ⟨⟨⟨by decide, rfl⟩, by decide, rfl⟩, by decide⟩

theorem lX8_cellarF {d : Nat} (hd : 22 ≤ d) {σ : xSt} {Post : Option Value → xSt → Prop} (ru t : Nat) (hru : σ.1 0 8 = nI ru) (ht : σ.1 81 1 = nI t) (hT : ToK (σ.2.1 82) t) (hr : ru < 6) (hjb : (jRd (σ.2.1 82) t).2.1 < 2 ^ 31) (hk : pOk2 t (jRd (σ.2.1 82) t).2 = false) (h : ∀ τ, Un (xC (84 + 2 * ru)) σ τ → τ.1 81 1 = 0 → Post (some (.int (-10 - nI (jRd (σ.2.1 82) t).2.1))) τ) : xM kX8_cellar d [.ref 0] σ Post := by
  obtain ⟨d, rfl⟩ : ∃ e, d = e + 1 := ⟨d - 1, by omega⟩
  refine xM_start (lv := [some (.ref 0), none]) rfl ?_
  have hj : (jRd (σ.2.1 82) t).2.1 < 2 ^ 31 := hjb
  refine xe_aload_n dX8_cellar_0 rfl ?_
  refine xe_getf dX8_cellar_1 flX8_53 (by decide) rfl rfl ?_
  rw [hru]
  refine xe_bipush (v := 6) dX8_cellar_4 rfl ?_
  refine xe_icmp_lt (tgt := 12) dX8_cellar_6 (by decide) (fun h6 => ?_) (fun h6 => absurd (nI_lt (b := 6) hr (by omega)) h6)
  refine xe_aload_n dX8_cellar_12 rfl ?_
  refine xe_getr dX8_cellar_13 flX8_38 (by decide) rfl rfl ?_
  refine xe_aload_n dX8_cellar_16 rfl ?_
  refine xe_getr dX8_cellar_17 flX8_44 (by decide) rfl rfl ?_
  refine xe_aload_n dX8_cellar_20 rfl ?_
  refine xe_getf dX8_cellar_21 flX8_53 (by decide) rfl rfl ?_
  rw [hru]
  refine xn_aaload dX8_cellar_24 (by decide) rfl (by decide) (by first | with_reducible rfl | (simp only [xl, pk_mul, nI_add, nI_1]; done) | (simp only [xl, pk_mul, nI_add, nI_1]; rfl)) (by omega) (by decide) (x83 hr) ?_
  refine xe_callv (k2 := kX7_readInto) (vs := [_]) dX8_cellar_25 okX7_readInto mlX8_133 imX7_readInto slX7_readInto (Or.inl ⟨7, _, _, by decide, rfl, rfl, rfl⟩) rfl rfl (Nat.le_of_ble_eq_true rfl) (Nat.le_of_ble_eq_true rfl) (sX7_readInto (T := σ.2.1 82) (sz := t) (by omega) hT (isXc ru hr) ht (fun _ _ => rfl) (fun τ hu z1 z2 => ?_))
  rw [rdV, hk]
  refine xe_istore_n (lv2 := [_, _]) dX8_cellar_28 (by decide) rfl ?_
  refine xe_iload_n dX8_cellar_29 rfl ?_
  refine xe_if_lt (tgt := 38) dX8_cellar_30 (by decide) (fun h30 => absurd h30 (nI_pos hj)) (fun h30 => ?_)
  refine xe_bipush (v := -10) dX8_cellar_33 rfl ?_
  refine xe_iload_n dX8_cellar_35 rfl ?_
  refine xe_isub dX8_cellar_36 ?_
  refine xe_iret dX8_cellar_37 rfl rfl ?_
  exact h τ hu z1

theorem lX8_cellarT {d : Nat} (hd : 22 ≤ d) {σ : xSt} {Post : Option Value → xSt → Prop} (ru t : Nat) (hru : σ.1 0 8 = nI ru) (ht : σ.1 81 1 = nI t) (hT : ToK (σ.2.1 82) t) (hr : ru < 6) (hk : pOk2 t (jRd (σ.2.1 82) t).2 = true) (h : ∀ τ, Un (xC (84 + 2 * ru)) σ τ → τ.1 81 1 = 0 → RepC τ (84 + 2 * ru) (jRd (σ.2.1 82) t).1.1 → τ.1 (84 + 2 * ru) 2 = (jRd (σ.2.1 82) t).1.2 → Post (some (.int (nI ru))) (xsF (xsF τ 1 2 (nI ru)) 0 8 (nI (ru + 1)))) : xM kX8_cellar d [.ref 0] σ Post := by
  obtain ⟨d, rfl⟩ : ∃ e, d = e + 1 := ⟨d - 1, by omega⟩
  refine xM_start (lv := [some (.ref 0), none]) rfl ?_
  refine xe_aload_n dX8_cellar_0 rfl ?_
  refine xe_getf dX8_cellar_1 flX8_53 (by decide) rfl rfl ?_
  rw [hru]
  refine xe_bipush (v := 6) dX8_cellar_4 rfl ?_
  refine xe_icmp_lt (tgt := 12) dX8_cellar_6 (by decide) (fun h6 => ?_) (fun h6 => absurd (nI_lt (b := 6) hr (by omega)) h6)
  refine xe_aload_n dX8_cellar_12 rfl ?_
  refine xe_getr dX8_cellar_13 flX8_38 (by decide) rfl rfl ?_
  refine xe_aload_n dX8_cellar_16 rfl ?_
  refine xe_getr dX8_cellar_17 flX8_44 (by decide) rfl rfl ?_
  refine xe_aload_n dX8_cellar_20 rfl ?_
  refine xe_getf dX8_cellar_21 flX8_53 (by decide) rfl rfl ?_
  rw [hru]
  refine xn_aaload dX8_cellar_24 (by decide) rfl (by decide) (by first | with_reducible rfl | (simp only [xl, pk_mul, nI_add, nI_1]; done) | (simp only [xl, pk_mul, nI_add, nI_1]; rfl)) (by omega) (by decide) (x83 hr) ?_
  refine xe_callv (k2 := kX7_readInto) (vs := [_]) dX8_cellar_25 okX7_readInto mlX8_133 imX7_readInto slX7_readInto (Or.inl ⟨7, _, _, by decide, rfl, rfl, rfl⟩) rfl rfl (Nat.le_of_ble_eq_true rfl) (Nat.le_of_ble_eq_true rfl) (sX7_readInto (T := σ.2.1 82) (sz := t) (by omega) hT (isXc ru hr) ht (fun _ _ => rfl) (fun τ hu z1 z2 => ?_))
  rw [rdV, hk]
  refine xe_istore_n (lv2 := [_, _]) dX8_cellar_28 (by decide) rfl ?_
  refine xe_iload_n dX8_cellar_29 rfl ?_
  refine xe_if_lt (tgt := 38) dX8_cellar_30 (by decide) (fun h30 => ?_) (fun h30 => absurd (show (-1 : Int32) < 0 by decide) h30)
  have c8 : τ.1 0 8 = nI ru := (hu.f (by unfold xC; omega) 8).trans hru
  refine xe_aload_n dX8_cellar_38 rfl ?_
  refine xe_getr dX8_cellar_39 flX8_12 (by decide) rfl rfl ?_
  refine xe_aload_n dX8_cellar_42 rfl ?_
  refine xe_getf dX8_cellar_43 flX8_53 (by decide) rfl rfl ?_
  rw [c8]
  refine xe_putf dX8_cellar_46 flX8_137 (by decide) rfl rfl rfl rfl ?_
  refine xe_aload_n dX8_cellar_49 rfl ?_
  refine xe_dup dX8_cellar_50 rfl ?_
  refine xe_getf dX8_cellar_51 flX8_53 (by decide) rfl rfl ?_
  rw [xsF_ne (Or.inl (by decide)), c8]
  refine xe_iconst (v := 1) dX8_cellar_54 rfl ?_
  refine xe_iadd dX8_cellar_55 ?_
  refine xe_putf dX8_cellar_56 flX8_53 (by decide) rfl rfl rfl rfl ?_
  rw [nI_1]
  refine xe_aload_n dX8_cellar_59 rfl ?_
  refine xe_getr dX8_cellar_60 flX8_12 (by decide) rfl rfl ?_
  refine xe_getf dX8_cellar_63 flX8_137 (by decide) rfl rfl ?_
  rw [xsF_ne (Or.inl (by decide)), xsF_get]
  refine xe_iret dX8_cellar_66 rfl rfl ?_
  exact h τ hu z1 (z2 hk).1 (z2 hk).2

theorem lX8_cellar6 {d : Nat} (hd : 0 ≤ d) {σ : xSt} {Post : Option Value → xSt → Prop} (hru : σ.1 0 8 = nI 6) (h : Post (some (.int (-4))) σ) : xM kX8_cellar d [.ref 0] σ Post := by
  refine xM_start (lv := [some (.ref 0), none]) rfl ?_
  refine xe_aload_n dX8_cellar_0 rfl ?_
  refine xe_getf dX8_cellar_1 flX8_53 (by decide) rfl rfl ?_
  refine xe_bipush (v := 6) dX8_cellar_4 rfl ?_
  refine xe_icmp_lt (tgt := 12) dX8_cellar_6 (by decide) (fun h6 => absurd h6 (by rw [hru]; decide)) (fun h6 => ?_)
  refine xe_bipush (v := -4) dX8_cellar_9 rfl ?_
  refine xe_iret dX8_cellar_11 rfl rfl ?_
  exact h

theorem mRd_sz (T nm : Nat → Int32) (sz : Nat) : (mRd T nm sz).2.1 ≤ sz := by
  have hts : ∀ s : pS, s.1 ≤ sz → (pTs (mTst nm) false T sz s).2.1 ≤ sz := by
    intro s hs
    unfold pTs
    cases h : pLt T sz s with
    | none => exact hs
    | some L => exact pNm_sz (pTk_sz (pLt_lt h).1)
  have hlp : ∀ (c : Int32) (op : Bool → Bool → Bool) (f : pS → Bool × pS), (∀ s, s.1 ≤ sz → (f s).2.1 ≤ sz) → ∀ (n : Nat) (r : Bool × pS), r.2.1 ≤ sz → (pLp T sz c op f n r).2.1 ≤ sz := by
    intro c op f hf n
    induction n with
    | zero => intro r h; exact h
    | succ n ih =>
      intro r h
      unfold pLp
      cases q : pAt T sz r.2 c with
      | false => exact h
      | true => exact ih _ (hf _ (pAt_lt q))
  have hbt : ∀ (f : pS → Bool × pS), (∀ s, s.1 ≤ sz → (f s).2.1 ≤ sz) → ∀ s, s.1 ≤ sz → (pBt T sz and f s).2.1 ≤ sz := fun f hf s hs => hlp 38 and f hf 100 _ (hf s hs)
  have hay : ∀ (f : pS → Bool × pS), (∀ s, s.1 ≤ sz → (f s).2.1 ≤ sz) → ∀ s, s.1 ≤ sz → (pAy T sz and or f s).2.1 ≤ sz := fun f hf s hs => hlp 124 or _ (hbt f hf) 100 _ (hbt f hf s hs)
  have hfa : ∀ (r : Nat) (s : pS), s.1 ≤ sz → (mFa T nm sz r s).2.1 ≤ sz := by
    intro r
    induction r with
    | zero => intro s hs; exact hts s hs
    | succ r ih =>
      intro s hs
      show (pFa T sz (mTst nm) false not and or (r + 1) s).2.1 ≤ sz
      unfold pFa
      cases h1 : pAt T sz s 33 with
      | true => exact ih _ (pAt_lt h1)
      | false =>
        cases h2 : pAt T sz s 40 with
        | false => exact hts s hs
        | true => exact pTk_sz (hay _ ih _ (pAt_lt h2))
  have hcl : ∀ a s, s.1 ≤ sz → (mCl T nm sz a s).2.1 ≤ sz := fun a s hs => pCl_sz (fun s hs => hay _ (hfa 4) s hs) hs
  have hcs : ∀ (n : Nat) (r : (Int32 × Int32) × pS), r.2.1 ≤ sz → (pCs T sz (mCl T nm sz) n r).2.1 ≤ sz := by
    intro n
    induction n with
    | zero => intro r h; exact h
    | succ n ih =>
      intro r h
      unfold pCs
      cases q : pAt T sz r.2 59 with
      | false => exact h
      | true => exact ih _ (hcl _ _ (pAt_lt q))
  exact hcs 9 _ (hcl _ _ (Nat.zero_le _))

theorem sX8_cellar {d : Nat} (hd : 22 ≤ d) {σ : xSt} {Post : Option Value → xSt → Prop} (ru t : Nat) (hru : σ.1 0 8 = nI ru) (hr6 : ru ≤ 6) (ht : σ.1 81 1 = nI t) (hT : ToK (σ.2.1 82) t) (h : (ru = 6 → Post (some (.int (-4))) σ) ∧ (ru < 6 → pOk2 t (mRd (σ.2.1 82) (fun _ => 0) t).2 = false → ∀ τ, Un (xC (84 + 2 * ru)) σ τ → τ.1 81 1 = 0 → Post (some (.int (-10 - nI (mRd (σ.2.1 82) (fun _ => 0) t).2.1))) τ) ∧ (ru < 6 → pOk2 t (mRd (σ.2.1 82) (fun _ => 0) t).2 = true → ∀ τ l, Un (xC (84 + 2 * ru)) σ τ → τ.1 81 1 = 0 → RepC τ (84 + 2 * ru) l → (∀ nm, jRun nm l (nm 4, 0) = ((mRd (σ.2.1 82) nm t).1.1, 0) ∧ τ.1 (84 + 2 * ru) 2 = (mRd (σ.2.1 82) nm t).1.2) → Post (some (.int (nI ru))) (xsF (xsF τ 1 2 (nI ru)) 0 8 (nI (ru + 1))))) : xM kX8_cellar d [.ref 0] σ Post := by
  have S := sem_Rd hT (fun _ => 0)
  by_cases h6 : ru = 6
  · exact lX8_cellar6 (by omega) (by rw [hru, h6]) (h.1 h6)
  · have hr : ru < 6 := by omega
    cases hk : pOk2 t (mRd (σ.2.1 82) (fun _ => 0) t).2 with
    | false =>
      have hk2 : pOk2 t (jRd (σ.2.1 82) t).2 = false := by rw [S.1]; exact hk
      refine lX8_cellarF hd ru t hru ht hT hr ?_ hk2 (fun τ hu z1 => ?_)
      · rw [S.1]; have := mRd_sz (σ.2.1 82) (fun _ => 0) t; have := hT.1; omega
      · rw [S.1]; exact h.2.1 hr hk τ hu z1
    | true =>
      have hk2 : pOk2 t (jRd (σ.2.1 82) t).2 = true := by rw [S.1]; exact hk
      have hok : (jRd (σ.2.1 82) t).2.2 = true := by unfold pOk2 at hk2; simp at hk2; exact hk2.1
      refine lX8_cellarT hd ru t hru ht hT hr hk2 (fun τ hu z1 z2 z3 => h.2.2 hr hk τ _ hu z1 z2 (fun nm => ?_))
      obtain ⟨k1, k2⟩ := (sem_Rd hT nm).2 hok
      exact ⟨k1, by rw [z3, k2]⟩
