/-- a method from its entry -/
abbrev xM (k : xMD) (d : Nat) (vs : List Value) (σ : xSt) (Post : Option Value → xSt → Prop) : Prop := xEv k d 0 (xen vs k.2.2.1) [] σ Post
theorem xM_start {k : xMD} {d : Nat} {vs : List Value} {σ : xSt} {Post : Option Value → xSt → Prop} {lv : List (Option Value)} (hl : xen vs k.2.2.1 = lv) (h : xEv k d 0 lv [] σ Post) : xM k d vs σ Post := by
  show xEv k d 0 (xen vs k.2.2.1) [] σ Post
  rw [hl]; exact h
/-- a truth as the machine has it -/
abbrev xb (p : Prop) [Decidable p] : Int32 := if p then 1 else 0

theorem xb_eq0 {p : Prop} [Decidable p] {r : Int32} (hr : r = xb p) : r = 0 ↔ ¬ p := by
  subst hr; unfold xb; by_cases h : p <;> simp [h]
theorem xb_ne0 {p : Prop} [Decidable p] {r : Int32} (hr : r = xb p) : ¬ r = 0 ↔ p := by
  subst hr; unfold xb; by_cases h : p <;> simp [h]
theorem xb_narrow {p : Prop} [Decidable p] {r : Int32} (hr : r = xb p) : narrow .boolean (.int r) = .int r := by
  subst hr; unfold xb; by_cases h : p <;> simp [h] <;> rfl

theorem xb1 {p : Prop} [Decidable p] (h : p) : (1 : Int32) = xb p := (if_pos h).symm
theorem xb0 {p : Prop} [Decidable p] (h : ¬ p) : (0 : Int32) = xb p := (if_neg h).symm

theorem sX9_isIn {d : Nat} (hd : 0 ≤ d) {σ : xSt} {Post : Option Value → xSt → Prop} (v lo hi : Int32) (h : ∀ r, r = xb (lo ≤ v ∧ v ≤ hi) → Post (some (.int r)) σ) : xM kX9_isIn d [.int v, .int lo, .int hi] σ Post := by
  refine xM_start (lv := [some (.int v), some (.int lo), some (.int hi)]) rfl ?_
  refine xe_iload_n dX9_isIn_0 rfl ?_
  refine xe_iload_n dX9_isIn_1 rfl ?_
  refine xe_icmp_lt (tgt := 14) dX9_isIn_2 (by decide) (fun h2 => ?_) (fun h2 => ?_)
  · refine xe_iconst (v := 0) dX9_isIn_14 rfl ?_
    refine xe_iret dX9_isIn_15 rfl (by first | rfl | decide | assumption | exact xb_narrow (by assumption)) ?_
    first | exact h _ (xb1 ⟨Int32.not_lt.mp h2, Int32.not_lt.mp h7⟩) | exact h _ (xb0 (fun z => Int32.not_le.mpr h2 z.1)) | exact h _ (xb0 (fun z => Int32.not_le.mpr h7 z.2))
  · refine xe_iload_n dX9_isIn_5 rfl ?_
    refine xe_iload_n dX9_isIn_6 rfl ?_
    refine xe_icmp_gt (tgt := 14) dX9_isIn_7 (by decide) (fun h7 => ?_) (fun h7 => ?_)
    · refine xe_iconst (v := 0) dX9_isIn_14 rfl ?_
      refine xe_iret dX9_isIn_15 rfl (by first | rfl | decide | assumption | exact xb_narrow (by assumption)) ?_
      first | exact h _ (xb1 ⟨Int32.not_lt.mp h2, Int32.not_lt.mp h7⟩) | exact h _ (xb0 (fun z => Int32.not_le.mpr h2 z.1)) | exact h _ (xb0 (fun z => Int32.not_le.mpr h7 z.2))
    · refine xe_iconst (v := 1) dX9_isIn_10 rfl ?_
      refine xe_goto (tgt := 15) dX9_isIn_11 (by decide) ?_
      refine xe_iret dX9_isIn_15 rfl (by first | rfl | decide | assumption | exact xb_narrow (by assumption)) ?_
      first | exact h _ (xb1 ⟨Int32.not_lt.mp h2, Int32.not_lt.mp h7⟩) | exact h _ (xb0 (fun z => Int32.not_le.mpr h2 z.1)) | exact h _ (xb0 (fun z => Int32.not_le.mpr h7 z.2))

theorem sX9_one {d : Nat} (hd : 0 ≤ d) {σ : xSt} {Post : Option Value → xSt → Prop} (i w : Nat) (hi : 9 * i + w < 115) (h : Post (some (.int (σ.2.1 116 (9 * i + w)))) σ) : xM kX9_one d [.ref 115, .int (nI i), .int (nI w)] σ Post := by
  refine xM_start (lv := [some (.ref 115), some (.int (nI i)), some (.int (nI w))]) rfl ?_
  refine xe_aload_n dX9_one_0 rfl ?_
  refine xe_getr dX9_one_1 flX9_9 (by decide) rfl rfl ?_
  refine xe_bipush (v := 9) dX9_one_4 rfl ?_
  refine xe_iload_n dX9_one_6 rfl ?_
  refine xe_imul dX9_one_7 ?_
  refine xe_iload_n dX9_one_8 rfl ?_
  refine xe_iadd dX9_one_9 ?_
  refine xn_iaload dX9_one_10 (by decide) rfl (by first | with_reducible rfl | (simp only [xl, pk_mul, nI_add, nI_1]; done) | (simp only [xl, pk_mul, nI_add, nI_1]; rfl)) (by omega) (by decide) ?_
  refine xe_iret dX9_one_11 rfl rfl ?_
  exact h

theorem sX9_change {d : Nat} (hd : 1 ≤ d) {σ : xSt} {Post : Option Value → xSt → Prop} (i w : Nat) (v : Int32) (hi : 9 * i + w < 115) (h : Post (some (.int (σ.2.1 116 (9 * i + w)))) (xsA σ 116 (upd (σ.2.1 116) (9 * i + w) v))) : xM kX9_change d [.ref 115, .int (nI i), .int (nI w), .int v] σ Post := by
  obtain ⟨d, rfl⟩ : ∃ e, d = e + 1 := ⟨d - 1, by omega⟩
  refine xM_start (lv := [some (.ref 115), some (.int (nI i)), some (.int (nI w)), some (.int v), none]) rfl ?_
  refine xe_aload_n dX9_change_0 rfl ?_
  refine xe_iload_n dX9_change_1 rfl ?_
  refine xe_iload_n dX9_change_2 rfl ?_
  refine xe_callv (k2 := kX9_one) (vs := [_, _]) dX9_change_3 okX9_one mlX9_93 imX9_one slX9_one (Or.inl ⟨9, _, _, by decide, rfl, rfl, rfl⟩) rfl rfl (Nat.le_of_ble_eq_true rfl) (Nat.le_of_ble_eq_true rfl) (sX9_one (by omega) i w hi ?_)
  refine xe_istore (lv2 := [_, _, _, _, _]) dX9_change_6 (by decide) rfl ?_
  refine xe_aload_n dX9_change_8 rfl ?_
  refine xe_getr dX9_change_9 flX9_9 (by decide) rfl rfl ?_
  refine xe_bipush (v := 9) dX9_change_12 rfl ?_
  refine xe_iload_n dX9_change_14 rfl ?_
  refine xe_imul dX9_change_15 ?_
  refine xe_iload_n dX9_change_16 rfl ?_
  refine xe_iadd dX9_change_17 ?_
  refine xe_iload_n dX9_change_18 rfl ?_
  refine xn_iastore dX9_change_19 (by decide) rfl (by first | with_reducible rfl | (simp only [xl, pk_mul, nI_add, nI_1]; done) | (simp only [xl, pk_mul, nI_add, nI_1]; rfl)) (by omega) (by decide) ?_
  refine xe_iload dX9_change_20 rfl ?_
  refine xe_iret dX9_change_22 rfl rfl ?_
  exact h

theorem sX9_isFact {d : Nat} (hd : 1 ≤ d) {σ : xSt} {Post : Option Value → xSt → Prop} (f : Int32) (h : ∀ r, r = xb (0 ≤ f ∧ f ≤ 7) → Post (some (.int r)) σ) : xM kX9_isFact d [.int f] σ Post := by
  obtain ⟨d, rfl⟩ : ∃ e, d = e + 1 := ⟨d - 1, by omega⟩
  refine xM_start (lv := [some (.int f)]) rfl ?_
  refine xe_iload_n dX9_isFact_0 rfl ?_
  refine xe_iconst (v := 0) dX9_isFact_1 rfl ?_
  refine xe_bipush (v := 7) dX9_isFact_2 rfl ?_
  refine xe_calls (k2 := kX9_isIn) (vs := [_, _, _]) dX9_isFact_4 okX9_isIn mlX9_89 stX9_isIn rfl rfl (Nat.le_of_ble_eq_true rfl) (Nat.le_of_ble_eq_true rfl) (sX9_isIn (by omega) _ _ _ (fun r hr => ?_))
  refine xe_iret dX9_isFact_7 rfl (by first | rfl | decide | assumption | exact xb_narrow (by assumption)) ?_
  exact h r hr

theorem sX9_isTape {d : Nat} (hd : 1 ≤ d) {σ : xSt} {Post : Option Value → xSt → Prop} (f : Int32) (h : ∀ r, r = xb (0 ≤ f ∧ f ≤ 5) → Post (some (.int r)) σ) : xM kX9_isTape d [.int f] σ Post := by
  obtain ⟨d, rfl⟩ : ∃ e, d = e + 1 := ⟨d - 1, by omega⟩
  refine xM_start (lv := [some (.int f)]) rfl ?_
  refine xe_iload_n dX9_isTape_0 rfl ?_
  refine xe_iconst (v := 0) dX9_isTape_1 rfl ?_
  refine xe_iconst (v := 5) dX9_isTape_2 rfl ?_
  refine xe_calls (k2 := kX9_isIn) (vs := [_, _, _]) dX9_isTape_3 okX9_isIn mlX9_89 stX9_isIn rfl rfl (Nat.le_of_ble_eq_true rfl) (Nat.le_of_ble_eq_true rfl) (sX9_isIn (by omega) _ _ _ (fun r hr => ?_))
  refine xe_iret dX9_isTape_6 rfl (by first | rfl | decide | assumption | exact xb_narrow (by assumption)) ?_
  exact h r hr

theorem sX9_isPot {d : Nat} (hd : 1 ≤ d) {σ : xSt} {Post : Option Value → xSt → Prop} (f : Int32) (n : Nat) (hn : σ.2.1 116 54 = nI n) (hn6 : n ≤ 6) (h : ∀ r, r = xb (0 ≤ f ∧ f ≤ nI n - 1) → Post (some (.int r)) σ) : xM kX9_isPot d [.ref 115, .int f] σ Post := by
  obtain ⟨d, rfl⟩ : ∃ e, d = e + 1 := ⟨d - 1, by omega⟩
  refine xM_start (lv := [some (.ref 115), some (.int f)]) rfl ?_
  refine xe_iload_n dX9_isPot_0 rfl ?_
  refine xe_iconst (v := 0) dX9_isPot_1 rfl ?_
  refine xe_aload_n dX9_isPot_2 rfl ?_
  refine xe_getr dX9_isPot_3 flX9_9 (by decide) rfl rfl ?_
  refine xe_bipush (v := 54) dX9_isPot_6 rfl ?_
  refine xn_iaload dX9_isPot_8 (by decide) rfl (by first | with_reducible rfl | (simp only [xl, pk_mul, nI_add, nI_1]; done) | (simp only [xl, pk_mul, nI_add, nI_1]; rfl)) (by omega) (by decide) ?_
  refine xe_iconst (v := 1) dX9_isPot_9 rfl ?_
  refine xe_isub dX9_isPot_10 ?_
  refine xe_calls (k2 := kX9_isIn) (vs := [_, _, _]) dX9_isPot_11 okX9_isIn mlX9_89 stX9_isIn rfl rfl (Nat.le_of_ble_eq_true rfl) (Nat.le_of_ble_eq_true rfl) (sX9_isIn (by omega) _ _ _ (fun r hr => ?_))
  refine xe_iret dX9_isPot_14 rfl (by first | rfl | decide | assumption | exact xb_narrow (by assumption)) ?_
  exact h r (by rw [hr, hn])
