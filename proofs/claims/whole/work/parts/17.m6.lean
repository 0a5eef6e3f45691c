theorem pAt_ge {T : Nat → Int32} {sz : Nat} {s : pS} {c : Int32} (h : sz ≤ s.1) : pAt T sz s c = false := by
  unfold pAt; rw [decide_eq_false (by omega : ¬ s.1 < sz)]; simp
/-- what a called method of the reading says, of some plain function f -/
def mCal (k : xMD) (H : Nat) (f : pS → Bool × pS) (σ : xSt) (w sz : Nat) (sm kp : Int32) : Prop := ∀ (d : Nat), H ≤ d → ∀ (s : pS), s.1 ≤ sz → ∀ (Post : Option Value → xSt → Prop), Post (some (.int (bI (f s).1))) (mS σ (f s).2 w sm kp) → xM k d [.ref 115] (mS σ s w sm kp) Post
abbrev mFa (T nm : Nat → Int32) (sz : Nat) : Nat → pS → Bool × pS := pFa T sz (mTst nm) false not and or
theorem mFa_succ (T nm : Nat → Int32) (sz r : Nat) (s : pS) : mFa T nm sz (r + 1) s = bif pAt T sz s 33 then (not (mFa T nm sz r (s.1 + 1, s.2)).1, (mFa T nm sz r (s.1 + 1, s.2)).2)
    else bif pAt T sz s 40 then ((pAy T sz and or (mFa T nm sz r) (s.1 + 1, s.2)).1, pTk T sz (pAy T sz and or (mFa T nm sz r) (s.1 + 1, s.2)).2 41)
    else pTs (mTst nm) false T sz s := rfl

theorem lX9_both {d : Nat} {σ : xSt} {w sz : Nat} {sm kp : Int32} (f : pS → Bool × pS) (H : Nat) (hHd : H ≤ d) (hz : σ.1 115 10 = nI sz) (h1 : sz ≤ 100) (hfl : ∀ s, s.1 ≤ (f s).2.1) (hfz : ∀ s, s.1 ≤ sz → (f s).2.1 ≤ sz) (hF : mCal kX9_factor H f σ w sz sm kp) {Post : Option Value → xSt → Prop} : ∀ (n : Nat) (b : Bool) (s : pS) (v2 : Option Value), s.1 ≤ sz → sz ≤ s.1 + n → Post (some (.int (bI (pLp (σ.2.1 122) sz 38 and f n (b, s)).1))) (mS σ (pLp (σ.2.1 122) sz 38 and f n (b, s)).2 w sm kp) → xEv kX9_both (d + 1) 5 [some (.ref 115), some (.int (bI b)), v2] [] (mS σ s w sm kp) Post := by
  intro n
  induction n with
  | zero =>
    intro b s v2 hs hn h
    refine xe_aload_n dX9_both_5 rfl ?_
    refine xe_bipush (v := 38) dX9_both_6 rfl ?_
    refine xe_callv (k2 := kX9_isAt) (vs := [_]) dX9_both_8 okX9_isAt mlX9_145 imX9_isAt slX9_isAt (Or.inl ⟨9, _, _, by decide, rfl, rfl, rfl⟩) rfl rfl (Nat.le_of_ble_eq_true rfl) (Nat.le_of_ble_eq_true rfl) (sX9_isAt (by omega) 38 s w sm kp sz hz h1 hs ?_)
    refine xe_if_eq (tgt := 46) dX9_both_11 (by decide) (fun h11 => ?_) (fun h11 => absurd (bI_eq0.mpr (pAt_ge (by omega))) h11)
    refine xe_iload_n dX9_both_46 rfl ?_
    refine xe_iret dX9_both_47 rfl (by first | rfl | decide | assumption | exact bI_nar _ | exact xb_narrow (by assumption)) ?_
    exact h
  | succ n ih =>
    intro b s v2 hs hn h
    refine xe_aload_n dX9_both_5 rfl ?_
    refine xe_bipush (v := 38) dX9_both_6 rfl ?_
    refine xe_callv (k2 := kX9_isAt) (vs := [_]) dX9_both_8 okX9_isAt mlX9_145 imX9_isAt slX9_isAt (Or.inl ⟨9, _, _, by decide, rfl, rfl, rfl⟩) rfl rfl (Nat.le_of_ble_eq_true rfl) (Nat.le_of_ble_eq_true rfl) (sX9_isAt (by omega) 38 s w sm kp sz hz h1 hs ?_)
    refine xe_if_eq (tgt := 46) dX9_both_11 (by decide) (fun h11 => ?_) (fun h11 => ?_)
    · refine xe_iload_n dX9_both_46 rfl ?_
      refine xe_iret dX9_both_47 rfl (by first | rfl | decide | assumption | exact bI_nar _ | exact xb_narrow (by assumption)) ?_
      rw [pLp, bI_eq0.mp h11, cond_false] at h; exact h
    · refine xe_aload_n dX9_both_14 rfl ?_
      refine xe_dup dX9_both_15 rfl ?_
      refine xe_getf dX9_both_16 flX9_139 (by decide) rfl rfl ?_
      refine xe_iconst (v := 1) dX9_both_19 rfl ?_
      refine xe_iadd dX9_both_20 ?_
      refine xe_putf dX9_both_21 flX9_139 (by decide) rfl rfl rfl rfl ?_
      rw [mS_at, mS_putAt1]
      refine xe_aload_n dX9_both_24 rfl ?_
      refine xe_callv (k2 := kX9_factor) (vs := []) dX9_both_25 okX9_factor mlX9_162 imX9_factor slX9_factor (Or.inl ⟨9, _, _, by decide, rfl, rfl, rfl⟩) rfl rfl (Nat.le_of_ble_eq_true rfl) (Nat.le_of_ble_eq_true rfl) (hF d (by omega) (s.1 + 1, s.2) (pAt_lt (bI_ne0.mp h11)) _ ?_)
      refine xe_istore_n (lv2 := [_, _, _]) dX9_both_28 (by decide) rfl ?_
      refine xe_iload_n dX9_both_29 rfl ?_
      refine xe_if_eq (tgt := 41) dX9_both_30 (by decide) (fun h30 => ?_) (fun h30 => ?_)
      · refine xe_iconst (v := 0) dX9_both_41 rfl ?_
        refine xe_istore_n (lv2 := [_, _, _]) dX9_both_42 (by decide) rfl ?_
        refine xe_goto (tgt := 5) dX9_both_43 (by decide) ?_
        rw [pLp, bI_ne0.mp h11, cond_true] at h
        have l := ih (and b (f (s.1 + 1, s.2)).1) (f (s.1 + 1, s.2)).2 (some (.int (bI (f (s.1 + 1, s.2)).1))) (hfz _ (pAt_lt (bI_ne0.mp h11))) (by have := hfl (s.1 + 1, s.2); simp at this; omega) h
        show xEv _ _ 5 _ _ _ _
        first
        | (rw [show and b (f (s.1 + 1, s.2)).1 = true from by rw [bI_ne0.mp h30, bI_ne0.mp h34]; try rfl] at l; exact l)
        | (rw [show and b (f (s.1 + 1, s.2)).1 = false from by rw [bI_eq0.mp h34, Bool.and_false]; try rfl] at l; exact l)
        | (rw [show and b (f (s.1 + 1, s.2)).1 = false from by rw [bI_eq0.mp h30, Bool.false_and]; try rfl] at l; exact l)
      · refine xe_iload_n dX9_both_33 rfl ?_
        refine xe_if_eq (tgt := 41) dX9_both_34 (by decide) (fun h34 => ?_) (fun h34 => ?_)
        · refine xe_iconst (v := 0) dX9_both_41 rfl ?_
          refine xe_istore_n (lv2 := [_, _, _]) dX9_both_42 (by decide) rfl ?_
          refine xe_goto (tgt := 5) dX9_both_43 (by decide) ?_
          rw [pLp, bI_ne0.mp h11, cond_true] at h
          have l := ih (and b (f (s.1 + 1, s.2)).1) (f (s.1 + 1, s.2)).2 (some (.int (bI (f (s.1 + 1, s.2)).1))) (hfz _ (pAt_lt (bI_ne0.mp h11))) (by have := hfl (s.1 + 1, s.2); simp at this; omega) h
          show xEv _ _ 5 _ _ _ _
          first
          | (rw [show and b (f (s.1 + 1, s.2)).1 = true from by rw [bI_ne0.mp h30, bI_ne0.mp h34]; try rfl] at l; exact l)
          | (rw [show and b (f (s.1 + 1, s.2)).1 = false from by rw [bI_eq0.mp h34, Bool.and_false]; try rfl] at l; exact l)
          | (rw [show and b (f (s.1 + 1, s.2)).1 = false from by rw [bI_eq0.mp h30, Bool.false_and]; try rfl] at l; exact l)
        · refine xe_iconst (v := 1) dX9_both_37 rfl ?_
          refine xe_goto (tgt := 42) dX9_both_38 (by decide) ?_
          refine xe_istore_n (lv2 := [_, _, _]) dX9_both_42 (by decide) rfl ?_
          refine xe_goto (tgt := 5) dX9_both_43 (by decide) ?_
          rw [pLp, bI_ne0.mp h11, cond_true] at h
          have l := ih (and b (f (s.1 + 1, s.2)).1) (f (s.1 + 1, s.2)).2 (some (.int (bI (f (s.1 + 1, s.2)).1))) (hfz _ (pAt_lt (bI_ne0.mp h11))) (by have := hfl (s.1 + 1, s.2); simp at this; omega) h
          show xEv _ _ 5 _ _ _ _
          first
          | (rw [show and b (f (s.1 + 1, s.2)).1 = true from by rw [bI_ne0.mp h30, bI_ne0.mp h34]; try rfl] at l; exact l)
          | (rw [show and b (f (s.1 + 1, s.2)).1 = false from by rw [bI_eq0.mp h34, Bool.and_false]; try rfl] at l; exact l)
          | (rw [show and b (f (s.1 + 1, s.2)).1 = false from by rw [bI_eq0.mp h30, Bool.false_and]; try rfl] at l; exact l)

theorem lX9_any {d : Nat} {σ : xSt} {w sz : Nat} {sm kp : Int32} (f : pS → Bool × pS) (H : Nat) (hHd : H ≤ d) (hz : σ.1 115 10 = nI sz) (h1 : sz ≤ 100) (hfl : ∀ s, s.1 ≤ (f s).2.1) (hfz : ∀ s, s.1 ≤ sz → (f s).2.1 ≤ sz) (hF : mCal kX9_both H f σ w sz sm kp) {Post : Option Value → xSt → Prop} : ∀ (n : Nat) (b : Bool) (s : pS) (v2 : Option Value), s.1 ≤ sz → sz ≤ s.1 + n → Post (some (.int (bI (pLp (σ.2.1 122) sz 124 or f n (b, s)).1))) (mS σ (pLp (σ.2.1 122) sz 124 or f n (b, s)).2 w sm kp) → xEv kX9_any (d + 1) 5 [some (.ref 115), some (.int (bI b)), v2] [] (mS σ s w sm kp) Post := by
  intro n
  induction n with
  | zero =>
    intro b s v2 hs hn h
    refine xe_aload_n dX9_any_5 rfl ?_
    refine xe_bipush (v := 124) dX9_any_6 rfl ?_
    refine xe_callv (k2 := kX9_isAt) (vs := [_]) dX9_any_8 okX9_isAt mlX9_145 imX9_isAt slX9_isAt (Or.inl ⟨9, _, _, by decide, rfl, rfl, rfl⟩) rfl rfl (Nat.le_of_ble_eq_true rfl) (Nat.le_of_ble_eq_true rfl) (sX9_isAt (by omega) 124 s w sm kp sz hz h1 hs ?_)
    refine xe_if_eq (tgt := 46) dX9_any_11 (by decide) (fun h11 => ?_) (fun h11 => absurd (bI_eq0.mpr (pAt_ge (by omega))) h11)
    refine xe_iload_n dX9_any_46 rfl ?_
    refine xe_iret dX9_any_47 rfl (by first | rfl | decide | assumption | exact bI_nar _ | exact xb_narrow (by assumption)) ?_
    exact h
  | succ n ih =>
    intro b s v2 hs hn h
    refine xe_aload_n dX9_any_5 rfl ?_
    refine xe_bipush (v := 124) dX9_any_6 rfl ?_
    refine xe_callv (k2 := kX9_isAt) (vs := [_]) dX9_any_8 okX9_isAt mlX9_145 imX9_isAt slX9_isAt (Or.inl ⟨9, _, _, by decide, rfl, rfl, rfl⟩) rfl rfl (Nat.le_of_ble_eq_true rfl) (Nat.le_of_ble_eq_true rfl) (sX9_isAt (by omega) 124 s w sm kp sz hz h1 hs ?_)
    refine xe_if_eq (tgt := 46) dX9_any_11 (by decide) (fun h11 => ?_) (fun h11 => ?_)
    · refine xe_iload_n dX9_any_46 rfl ?_
      refine xe_iret dX9_any_47 rfl (by first | rfl | decide | assumption | exact bI_nar _ | exact xb_narrow (by assumption)) ?_
      rw [pLp, bI_eq0.mp h11, cond_false] at h; exact h
    · refine xe_aload_n dX9_any_14 rfl ?_
      refine xe_dup dX9_any_15 rfl ?_
      refine xe_getf dX9_any_16 flX9_139 (by decide) rfl rfl ?_
      refine xe_iconst (v := 1) dX9_any_19 rfl ?_
      refine xe_iadd dX9_any_20 ?_
      refine xe_putf dX9_any_21 flX9_139 (by decide) rfl rfl rfl rfl ?_
      rw [mS_at, mS_putAt1]
      refine xe_aload_n dX9_any_24 rfl ?_
      refine xe_callv (k2 := kX9_both) (vs := []) dX9_any_25 okX9_both mlX9_171 imX9_both slX9_both (Or.inl ⟨9, _, _, by decide, rfl, rfl, rfl⟩) rfl rfl (Nat.le_of_ble_eq_true rfl) (Nat.le_of_ble_eq_true rfl) (hF d (by omega) (s.1 + 1, s.2) (pAt_lt (bI_ne0.mp h11)) _ ?_)
      refine xe_istore_n (lv2 := [_, _, _]) dX9_any_28 (by decide) rfl ?_
      refine xe_iload_n dX9_any_29 rfl ?_
      refine xe_if_ne (tgt := 37) dX9_any_30 (by decide) (fun h30 => ?_) (fun h30 => ?_)
      · refine xe_iconst (v := 1) dX9_any_37 rfl ?_
        refine xe_goto (tgt := 42) dX9_any_38 (by decide) ?_
        refine xe_istore_n (lv2 := [_, _, _]) dX9_any_42 (by decide) rfl ?_
        refine xe_goto (tgt := 5) dX9_any_43 (by decide) ?_
        rw [pLp, bI_ne0.mp h11, cond_true] at h
        have l := ih (or b (f (s.1 + 1, s.2)).1) (f (s.1 + 1, s.2)).2 (some (.int (bI (f (s.1 + 1, s.2)).1))) (hfz _ (pAt_lt (bI_ne0.mp h11))) (by have := hfl (s.1 + 1, s.2); simp at this; omega) h
        show xEv _ _ 5 _ _ _ _
        first
        | (rw [show or b (f (s.1 + 1, s.2)).1 = true from by rw [bI_ne0.mp h30, Bool.true_or]; try rfl] at l; exact l)
        | (rw [show or b (f (s.1 + 1, s.2)).1 = true from by rw [bI_eq0.mp h30, bI_ne0.mp h34]; try rfl] at l; exact l)
        | (rw [show or b (f (s.1 + 1, s.2)).1 = false from by rw [bI_eq0.mp h30, bI_eq0.mp h34]; try rfl] at l; exact l)
      · refine xe_iload_n dX9_any_33 rfl ?_
        refine xe_if_eq (tgt := 41) dX9_any_34 (by decide) (fun h34 => ?_) (fun h34 => ?_)
        · refine xe_iconst (v := 0) dX9_any_41 rfl ?_
          refine xe_istore_n (lv2 := [_, _, _]) dX9_any_42 (by decide) rfl ?_
          refine xe_goto (tgt := 5) dX9_any_43 (by decide) ?_
          rw [pLp, bI_ne0.mp h11, cond_true] at h
          have l := ih (or b (f (s.1 + 1, s.2)).1) (f (s.1 + 1, s.2)).2 (some (.int (bI (f (s.1 + 1, s.2)).1))) (hfz _ (pAt_lt (bI_ne0.mp h11))) (by have := hfl (s.1 + 1, s.2); simp at this; omega) h
          show xEv _ _ 5 _ _ _ _
          first
          | (rw [show or b (f (s.1 + 1, s.2)).1 = true from by rw [bI_ne0.mp h30, Bool.true_or]; try rfl] at l; exact l)
          | (rw [show or b (f (s.1 + 1, s.2)).1 = true from by rw [bI_eq0.mp h30, bI_ne0.mp h34]; try rfl] at l; exact l)
          | (rw [show or b (f (s.1 + 1, s.2)).1 = false from by rw [bI_eq0.mp h30, bI_eq0.mp h34]; try rfl] at l; exact l)
        · refine xe_iconst (v := 1) dX9_any_37 rfl ?_
          refine xe_goto (tgt := 42) dX9_any_38 (by decide) ?_
          refine xe_istore_n (lv2 := [_, _, _]) dX9_any_42 (by decide) rfl ?_
          refine xe_goto (tgt := 5) dX9_any_43 (by decide) ?_
          rw [pLp, bI_ne0.mp h11, cond_true] at h
          have l := ih (or b (f (s.1 + 1, s.2)).1) (f (s.1 + 1, s.2)).2 (some (.int (bI (f (s.1 + 1, s.2)).1))) (hfz _ (pAt_lt (bI_ne0.mp h11))) (by have := hfl (s.1 + 1, s.2); simp at this; omega) h
          show xEv _ _ 5 _ _ _ _
          first
          | (rw [show or b (f (s.1 + 1, s.2)).1 = true from by rw [bI_ne0.mp h30, Bool.true_or]; try rfl] at l; exact l)
          | (rw [show or b (f (s.1 + 1, s.2)).1 = true from by rw [bI_eq0.mp h30, bI_ne0.mp h34]; try rfl] at l; exact l)
          | (rw [show or b (f (s.1 + 1, s.2)).1 = false from by rw [bI_eq0.mp h30, bI_eq0.mp h34]; try rfl] at l; exact l)

theorem sX9_both {σ : xSt} {w sz : Nat} {sm kp : Int32} (f : pS → Bool × pS) (H : Nat) (hH : 1 ≤ H) (hz : σ.1 115 10 = nI sz) (h1 : sz ≤ 100) (hfl : ∀ s, s.1 ≤ (f s).2.1) (hfz : ∀ s, s.1 ≤ sz → (f s).2.1 ≤ sz) (hF : mCal kX9_factor H f σ w sz sm kp) : mCal kX9_both (H + 1) (pBt (σ.2.1 122) sz and f) σ w sz sm kp := by
  intro d hd s hs Post h
  obtain ⟨d, rfl⟩ : ∃ e, d = e + 1 := ⟨d - 1, by omega⟩
  refine xM_start (lv := [some (.ref 115), none, none]) rfl ?_
  refine xe_aload_n dX9_both_0 rfl ?_
  refine xe_callv (k2 := kX9_factor) (vs := []) dX9_both_1 okX9_factor mlX9_162 imX9_factor slX9_factor (Or.inl ⟨9, _, _, by decide, rfl, rfl, rfl⟩) rfl rfl (Nat.le_of_ble_eq_true rfl) (Nat.le_of_ble_eq_true rfl) (hF d (by omega) s hs _ ?_)
  refine xe_istore_n (lv2 := [_, _, _]) dX9_both_4 (by decide) rfl ?_
  exact lX9_both f H (by omega) hz h1 hfl hfz hF 100 (f s).1 (f s).2 none (hfz s hs) (by omega) h

theorem sX9_any {σ : xSt} {w sz : Nat} {sm kp : Int32} (f : pS → Bool × pS) (H : Nat) (hH : 1 ≤ H) (hz : σ.1 115 10 = nI sz) (h1 : sz ≤ 100) (hfl : ∀ s, s.1 ≤ (f s).2.1) (hfz : ∀ s, s.1 ≤ sz → (f s).2.1 ≤ sz) (hF : mCal kX9_factor H f σ w sz sm kp) : mCal kX9_any (H + 2) (pAy (σ.2.1 122) sz and or f) σ w sz sm kp := by
  intro d hd s hs Post h
  obtain ⟨d, rfl⟩ : ∃ e, d = e + 1 := ⟨d - 1, by omega⟩
  have hB := sX9_both f H hH hz h1 hfl hfz hF
  refine xM_start (lv := [some (.ref 115), none, none]) rfl ?_
  refine xe_aload_n dX9_any_0 rfl ?_
  refine xe_callv (k2 := kX9_both) (vs := []) dX9_any_1 okX9_both mlX9_171 imX9_both slX9_both (Or.inl ⟨9, _, _, by decide, rfl, rfl, rfl⟩) rfl rfl (Nat.le_of_ble_eq_true rfl) (Nat.le_of_ble_eq_true rfl) (hB d (by omega) s hs _ ?_)
  refine xe_istore_n (lv2 := [_, _, _]) dX9_any_4 (by decide) rfl ?_
  exact lX9_any (pBt (σ.2.1 122) sz and f) (H + 1) (by omega) hz h1 (pBt_le hfl) (pBt_sz hfz) hB 100 (pBt (σ.2.1 122) sz and f s).1 (pBt (σ.2.1 122) sz and f s).2 none (pBt_sz hfz s hs) (by omega) h

theorem sX9_factor {σ : xSt} {sz : Nat} {sm kp : Int32} (hz : σ.1 115 10 = nI sz) (h1 : sz ≤ 100) (hlt : ∀ k, k < 6 → σ.2.1 124 k = xlet k) : ∀ r, r ≤ 4 → mCal kX9_factor (3 + 3 * r) (mFa (σ.2.1 122) (σ.2.1 123) sz r) σ (4 - r) sz sm kp := by
  intro r
  induction r with
  | zero =>
    intro _ d hd s hs Post h
    obtain ⟨d, rfl⟩ : ∃ e, d = e + 1 := ⟨d - 1, by omega⟩
    refine xM_start (lv := [some (.ref 115), none]) rfl ?_
    refine xe_aload_n dX9_factor_0 rfl ?_
    refine xe_getf dX9_factor_1 flX9_159 (by decide) rfl rfl ?_
    rw [mS_in]
    refine xe_iconst (v := 4) dX9_factor_4 rfl ?_
    refine xe_icmp_ge (tgt := 63) dX9_factor_5 (by decide) (fun h5 => ?_) (fun h5 => absurd (by decide) h5)
    refine xe_aload_n dX9_factor_63 rfl ?_
    refine xe_getf dX9_factor_64 flX9_159 (by decide) rfl rfl ?_
    rw [mS_in]
    refine xe_iconst (v := 4) dX9_factor_67 rfl ?_
    refine xe_icmp_ge (tgt := 124) dX9_factor_68 (by decide) (fun h68 => ?_) (fun h68 => absurd (by decide) h68)
    refine xe_aload_n dX9_factor_124 rfl ?_
    refine xe_callv (k2 := kX9_test) (vs := []) dX9_factor_125 okX9_test mlX9_168 imX9_test slX9_test (Or.inl ⟨9, _, _, by decide, rfl, rfl, rfl⟩) rfl rfl (Nat.le_of_ble_eq_true rfl) (Nat.le_of_ble_eq_true rfl) (sX9_test (by omega) s 4 sm kp sz hz h1 hs hlt ?_)
    refine xe_istore_n (lv2 := [_, _]) dX9_factor_128 (by decide) rfl ?_
    refine xe_iload_n dX9_factor_129 rfl ?_
    refine xe_iret dX9_factor_130 rfl (by first | rfl | decide | assumption | exact bI_nar _ | exact xb_narrow (by assumption)) ?_
    exact h
  | succ r ih =>
    intro hr d hd s hs Post h
    obtain ⟨d, rfl⟩ : ∃ e, d = e + 1 := ⟨d - 1, by omega⟩
    refine xM_start (lv := [some (.ref 115), none]) rfl ?_
    refine xe_aload_n dX9_factor_0 rfl ?_
    refine xe_getf dX9_factor_1 flX9_159 (by decide) rfl rfl ?_
    rw [mS_in]
    refine xe_iconst (v := 4) dX9_factor_4 rfl ?_
    refine xe_icmp_ge (tgt := 63) dX9_factor_5 (by decide) (fun h5 => absurd h5 (show ¬ (4 : Int32) ≤ nI (4 - (r + 1)) from fun z => absurd (nLe (a := 4) (b := 4 - (r + 1)) (by omega) (by omega) z) (by omega))) (fun h5 => ?_)
    refine xe_aload_n dX9_factor_8 rfl ?_
    refine xe_bipush (v := 33) dX9_factor_9 rfl ?_
    refine xe_callv (k2 := kX9_isAt) (vs := [_]) dX9_factor_11 okX9_isAt mlX9_145 imX9_isAt slX9_isAt (Or.inl ⟨9, _, _, by decide, rfl, rfl, rfl⟩) rfl rfl (Nat.le_of_ble_eq_true rfl) (Nat.le_of_ble_eq_true rfl) (sX9_isAt (by omega) 33 s (4 - (r + 1)) sm kp sz hz h1 hs ?_)
    refine xe_if_eq (tgt := 63) dX9_factor_14 (by decide) (fun h14 => ?_) (fun h14 => ?_)
    · refine xe_aload_n dX9_factor_63 rfl ?_
      refine xe_getf dX9_factor_64 flX9_159 (by decide) rfl rfl ?_
      rw [mS_in]
      refine xe_iconst (v := 4) dX9_factor_67 rfl ?_
      refine xe_icmp_ge (tgt := 124) dX9_factor_68 (by decide) (fun h68 => absurd h68 (show ¬ (4 : Int32) ≤ nI (4 - (r + 1)) from fun z => absurd (nLe (a := 4) (b := 4 - (r + 1)) (by omega) (by omega) z) (by omega))) (fun h68 => ?_)
      refine xe_aload_n dX9_factor_71 rfl ?_
      refine xe_bipush (v := 40) dX9_factor_72 rfl ?_
      refine xe_callv (k2 := kX9_isAt) (vs := [_]) dX9_factor_74 okX9_isAt mlX9_145 imX9_isAt slX9_isAt (Or.inl ⟨9, _, _, by decide, rfl, rfl, rfl⟩) rfl rfl (Nat.le_of_ble_eq_true rfl) (Nat.le_of_ble_eq_true rfl) (sX9_isAt (by omega) 40 s (4 - (r + 1)) sm kp sz hz h1 hs ?_)
      refine xe_if_eq (tgt := 124) dX9_factor_77 (by decide) (fun h77 => ?_) (fun h77 => ?_)
      · refine xe_aload_n dX9_factor_124 rfl ?_
        refine xe_callv (k2 := kX9_test) (vs := []) dX9_factor_125 okX9_test mlX9_168 imX9_test slX9_test (Or.inl ⟨9, _, _, by decide, rfl, rfl, rfl⟩) rfl rfl (Nat.le_of_ble_eq_true rfl) (Nat.le_of_ble_eq_true rfl) (sX9_test (by omega) s (4 - (r + 1)) sm kp sz hz h1 hs hlt ?_)
        refine xe_istore_n (lv2 := [_, _]) dX9_factor_128 (by decide) rfl ?_
        refine xe_iload_n dX9_factor_129 rfl ?_
        refine xe_iret dX9_factor_130 rfl (by first | rfl | decide | assumption | exact bI_nar _ | exact xb_narrow (by assumption)) ?_
        rw [mFa_succ] at h
        first
        | (rw [bI_ne0.mp h14, cond_true] at h; rw [show (not (mFa (σ.2.1 122) (σ.2.1 123) sz r (s.1 + 1, s.2)).1) = false from by rw [bI_ne0.mp h41]; rfl] at h; exact h)
        | (rw [bI_ne0.mp h14, cond_true] at h; rw [show (not (mFa (σ.2.1 122) (σ.2.1 123) sz r (s.1 + 1, s.2)).1) = true from by rw [bI_eq0.mp h41]; rfl] at h; exact h)
        | (rw [bI_eq0.mp h14, cond_false, bI_ne0.mp h77, cond_true] at h; exact h)
        | (rw [bI_eq0.mp h14, cond_false, bI_eq0.mp h77, cond_false] at h; exact h)
      · refine xe_aload_n dX9_factor_80 rfl ?_
        refine xe_dup dX9_factor_81 rfl ?_
        refine xe_getf dX9_factor_82 flX9_139 (by decide) rfl rfl ?_
        refine xe_iconst (v := 1) dX9_factor_85 rfl ?_
        refine xe_iadd dX9_factor_86 ?_
        refine xe_putf dX9_factor_87 flX9_139 (by decide) rfl rfl rfl rfl ?_
        rw [mS_at, mS_putAt1]
        refine xe_aload_n dX9_factor_90 rfl ?_
        refine xe_dup dX9_factor_91 rfl ?_
        refine xe_getf dX9_factor_92 flX9_159 (by decide) rfl rfl ?_
        refine xe_iconst (v := 1) dX9_factor_95 rfl ?_
        refine xe_iadd dX9_factor_96 ?_
        refine xe_putf dX9_factor_97 flX9_159 (by decide) rfl rfl rfl rfl ?_
        rw [mS_in, nI_1, mS_putIn, show 4 - (r + 1) + 1 = 4 - r by omega]
        refine xe_aload_n dX9_factor_100 rfl ?_
        refine xe_callv (k2 := kX9_any) (vs := []) dX9_factor_101 okX9_any mlX9_165 imX9_any slX9_any (Or.inl ⟨9, _, _, by decide, rfl, rfl, rfl⟩) rfl rfl (Nat.le_of_ble_eq_true rfl) (Nat.le_of_ble_eq_true rfl) (sX9_any (mFa (σ.2.1 122) (σ.2.1 123) sz r) (3 + 3 * r) (by omega) hz h1 (pFa_le r) (pFa_sz r) (ih (by omega)) d (by omega) (s.1 + 1, s.2) (pAt_lt (bI_ne0.mp h77)) _ ?_)
        refine xe_istore_n (lv2 := [_, _]) dX9_factor_104 (by decide) rfl ?_
        refine xe_aload_n dX9_factor_105 rfl ?_
        refine xe_dup dX9_factor_106 rfl ?_
        refine xe_getf dX9_factor_107 flX9_159 (by decide) rfl rfl ?_
        refine xe_iconst (v := 1) dX9_factor_110 rfl ?_
        refine xe_isub dX9_factor_111 ?_
        refine xe_putf dX9_factor_112 flX9_159 (by decide) rfl rfl rfl rfl ?_
        rw [mS_in, show nI (4 - r) - 1 = nI (4 - (r + 1)) by rw [show 4 - r = (4 - (r + 1)) + 1 by omega]; exact nI_pred _, mS_putIn]
        refine xe_aload_n dX9_factor_115 rfl ?_
        refine xe_bipush (v := 41) dX9_factor_116 rfl ?_
        refine xe_callv (k2 := kX9_takes) (vs := [_]) dX9_factor_118 okX9_takes mlX9_152 imX9_takes slX9_takes (Or.inl ⟨9, _, _, by decide, rfl, rfl, rfl⟩) rfl rfl (Nat.le_of_ble_eq_true rfl) (Nat.le_of_ble_eq_true rfl) (sX9_takes (by omega) 41 (pAy (σ.2.1 122) sz and or (mFa (σ.2.1 122) (σ.2.1 123) sz r) (s.1 + 1, s.2)).2 (4 - (r + 1)) sm kp sz hz h1 (pAy_sz (pFa_sz r) _ (pAt_lt (bI_ne0.mp h77))) ?_)
        refine xe_goto (tgt := 129) dX9_factor_121 (by decide) ?_
        refine xe_iload_n dX9_factor_129 rfl ?_
        refine xe_iret dX9_factor_130 rfl (by first | rfl | decide | assumption | exact bI_nar _ | exact xb_narrow (by assumption)) ?_
        rw [mFa_succ] at h
        first
        | (rw [bI_ne0.mp h14, cond_true] at h; rw [show (not (mFa (σ.2.1 122) (σ.2.1 123) sz r (s.1 + 1, s.2)).1) = false from by rw [bI_ne0.mp h41]; rfl] at h; exact h)
        | (rw [bI_ne0.mp h14, cond_true] at h; rw [show (not (mFa (σ.2.1 122) (σ.2.1 123) sz r (s.1 + 1, s.2)).1) = true from by rw [bI_eq0.mp h41]; rfl] at h; exact h)
        | (rw [bI_eq0.mp h14, cond_false, bI_ne0.mp h77, cond_true] at h; exact h)
        | (rw [bI_eq0.mp h14, cond_false, bI_eq0.mp h77, cond_false] at h; exact h)
    · refine xe_aload_n dX9_factor_17 rfl ?_
      refine xe_dup dX9_factor_18 rfl ?_
      refine xe_getf dX9_factor_19 flX9_139 (by decide) rfl rfl ?_
      refine xe_iconst (v := 1) dX9_factor_22 rfl ?_
      refine xe_iadd dX9_factor_23 ?_
      refine xe_putf dX9_factor_24 flX9_139 (by decide) rfl rfl rfl rfl ?_
      rw [mS_at, mS_putAt1]
      refine xe_aload_n dX9_factor_27 rfl ?_
      refine xe_dup dX9_factor_28 rfl ?_
      refine xe_getf dX9_factor_29 flX9_159 (by decide) rfl rfl ?_
      refine xe_iconst (v := 1) dX9_factor_32 rfl ?_
      refine xe_iadd dX9_factor_33 ?_
      refine xe_putf dX9_factor_34 flX9_159 (by decide) rfl rfl rfl rfl ?_
      rw [mS_in, nI_1, mS_putIn, show 4 - (r + 1) + 1 = 4 - r by omega]
      refine xe_aload_n dX9_factor_37 rfl ?_
      refine xe_callv (k2 := kX9_factor) (vs := []) dX9_factor_38 okX9_factor mlX9_162 imX9_factor slX9_factor (Or.inl ⟨9, _, _, by decide, rfl, rfl, rfl⟩) rfl rfl (Nat.le_of_ble_eq_true rfl) (Nat.le_of_ble_eq_true rfl) (ih (by omega) d (by omega) (s.1 + 1, s.2) (pAt_lt (bI_ne0.mp h14)) _ ?_)
      refine xe_if_ne (tgt := 48) dX9_factor_41 (by decide) (fun h41 => ?_) (fun h41 => ?_)
      · refine xe_iconst (v := 0) dX9_factor_48 rfl ?_
        refine xe_istore_n (lv2 := [_, _]) dX9_factor_49 (by decide) rfl ?_
        refine xe_aload_n dX9_factor_50 rfl ?_
        refine xe_dup dX9_factor_51 rfl ?_
        refine xe_getf dX9_factor_52 flX9_159 (by decide) rfl rfl ?_
        refine xe_iconst (v := 1) dX9_factor_55 rfl ?_
        refine xe_isub dX9_factor_56 ?_
        refine xe_putf dX9_factor_57 flX9_159 (by decide) rfl rfl rfl rfl ?_
        rw [mS_in, show nI (4 - r) - 1 = nI (4 - (r + 1)) by rw [show 4 - r = (4 - (r + 1)) + 1 by omega]; exact nI_pred _, mS_putIn]
        refine xe_goto (tgt := 129) dX9_factor_60 (by decide) ?_
        refine xe_iload_n dX9_factor_129 rfl ?_
        refine xe_iret dX9_factor_130 rfl (by first | rfl | decide | assumption | exact bI_nar _ | exact xb_narrow (by assumption)) ?_
        rw [mFa_succ] at h
        first
        | (rw [bI_ne0.mp h14, cond_true] at h; rw [show (not (mFa (σ.2.1 122) (σ.2.1 123) sz r (s.1 + 1, s.2)).1) = false from by rw [bI_ne0.mp h41]; rfl] at h; exact h)
        | (rw [bI_ne0.mp h14, cond_true] at h; rw [show (not (mFa (σ.2.1 122) (σ.2.1 123) sz r (s.1 + 1, s.2)).1) = true from by rw [bI_eq0.mp h41]; rfl] at h; exact h)
        | (rw [bI_eq0.mp h14, cond_false, bI_ne0.mp h77, cond_true] at h; exact h)
        | (rw [bI_eq0.mp h14, cond_false, bI_eq0.mp h77, cond_false] at h; exact h)
      · refine xe_iconst (v := 1) dX9_factor_44 rfl ?_
        refine xe_goto (tgt := 49) dX9_factor_45 (by decide) ?_
        refine xe_istore_n (lv2 := [_, _]) dX9_factor_49 (by decide) rfl ?_
        refine xe_aload_n dX9_factor_50 rfl ?_
        refine xe_dup dX9_factor_51 rfl ?_
        refine xe_getf dX9_factor_52 flX9_159 (by decide) rfl rfl ?_
        refine xe_iconst (v := 1) dX9_factor_55 rfl ?_
        refine xe_isub dX9_factor_56 ?_
        refine xe_putf dX9_factor_57 flX9_159 (by decide) rfl rfl rfl rfl ?_
        rw [mS_in, show nI (4 - r) - 1 = nI (4 - (r + 1)) by rw [show 4 - r = (4 - (r + 1)) + 1 by omega]; exact nI_pred _, mS_putIn]
        refine xe_goto (tgt := 129) dX9_factor_60 (by decide) ?_
        refine xe_iload_n dX9_factor_129 rfl ?_
        refine xe_iret dX9_factor_130 rfl (by first | rfl | decide | assumption | exact bI_nar _ | exact xb_narrow (by assumption)) ?_
        rw [mFa_succ] at h
        first
        | (rw [bI_ne0.mp h14, cond_true] at h; rw [show (not (mFa (σ.2.1 122) (σ.2.1 123) sz r (s.1 + 1, s.2)).1) = false from by rw [bI_ne0.mp h41]; rfl] at h; exact h)
        | (rw [bI_ne0.mp h14, cond_true] at h; rw [show (not (mFa (σ.2.1 122) (σ.2.1 123) sz r (s.1 + 1, s.2)).1) = true from by rw [bI_eq0.mp h41]; rfl] at h; exact h)
        | (rw [bI_eq0.mp h14, cond_false, bI_ne0.mp h77, cond_true] at h; exact h)
        | (rw [bI_eq0.mp h14, cond_false, bI_eq0.mp h77, cond_false] at h; exact h)

theorem tX9_any {σ : xSt} {sz : Nat} {sm kp : Int32} (hz : σ.1 115 10 = nI sz) (h1 : sz ≤ 100) (hlt : ∀ k, k < 6 → σ.2.1 124 k = xlet k) : mCal kX9_any 17 (pAy (σ.2.1 122) sz and or (mFa (σ.2.1 122) (σ.2.1 123) sz 4)) σ 0 sz sm kp := sX9_any (mFa (σ.2.1 122) (σ.2.1 123) sz 4) 15 (by omega) hz h1 (pFa_le 4) (pFa_sz 4) (sX9_factor hz h1 hlt 4 (by omega))
