theorem sX9_clear {d : Nat} (hd : 21 ≤ d) {σ : xSt} {Post : Option Value → xSt → Prop} (i f : Nat) (hi : i < 6) (hf : f < 8) (hM : MCo σ) (hR : RUo σ) (h : ∀ σ2, KM σ σ2 → Post (some (.int (Clr (mSem σ) i (pV (σ.2.1 116) i) f))) σ2) : xM kX9_clear d [.ref 115, .int (nI i), .int (nI f)] σ Post := by
  obtain ⟨d, rfl⟩ : ∃ e, d = e + 1 := ⟨d - 1, by omega⟩
  refine xM_start (lv := [some (.ref 115), some (.int (nI i)), some (.int (nI f)), none]) rfl ?_
  refine xe_aload_n dX9_clear_0 rfl ?_
  refine xe_iload_n dX9_clear_1 rfl ?_
  refine xe_iload_n dX9_clear_2 rfl ?_
  refine xe_callv (k2 := kX9_readFor) (vs := [_, _]) dX9_clear_3 okX9_readFor mlX9_189 imX9_readFor slX9_readFor (Or.inl ⟨9, _, _, by decide, rfl, rfl, rfl⟩) rfl rfl (Nat.le_of_ble_eq_true rfl) (Nat.le_of_ble_eq_true rfl) (sX9_readFor (by omega) i (nI f) hi hM hR (fun σ2 k2 hsum hkp => ?_))
  have hG : σ2.2.1 116 = σ.2.1 116 := k2.1 116 (by omega)
  refine xe_aload_n dX9_clear_6 rfl ?_
  refine xe_getf dX9_clear_7 flX9_177 (by decide) rfl rfl ?_
  rw [hsum]
  refine xe_iconst (v := 2) dX9_clear_10 rfl ?_
  refine xe_aload_n dX9_clear_11 rfl ?_
  refine xe_iload_n dX9_clear_12 rfl ?_
  refine xe_iconst (v := 4) dX9_clear_13 rfl ?_
  refine xe_callv (k2 := kX9_one) (vs := [_, _]) dX9_clear_14 okX9_one mlX9_93 imX9_one slX9_one (Or.inl ⟨9, _, _, by decide, rfl, rfl, rfl⟩) rfl rfl (Nat.le_of_ble_eq_true rfl) (Nat.le_of_ble_eq_true rfl) (sX9_one (by omega) i 4 (by omega) ?_)
  rw [hG]
  refine xe_imul dX9_clear_17 ?_
  refine xe_isub dX9_clear_18 ?_
  refine xe_istore_n (lv2 := [_, _, _, _]) dX9_clear_19 (by decide) rfl ?_
  refine xe_aload_n dX9_clear_20 rfl ?_
  refine xe_iload_n dX9_clear_21 rfl ?_
  refine xe_iconst (v := 0) dX9_clear_22 rfl ?_
  refine xe_callv (k2 := kX9_one) (vs := [_, _]) dX9_clear_23 okX9_one mlX9_93 imX9_one slX9_one (Or.inl ⟨9, _, _, by decide, rfl, rfl, rfl⟩) rfl rfl (Nat.le_of_ble_eq_true rfl) (Nat.le_of_ble_eq_true rfl) (sX9_one (by omega) i 0 (by omega) ?_)
  rw [hG]
  refine xn_tsw (tgs := [64, 76, 83, 85, 116, 137]) (td := 152) dX9_clear_26 rfl rfl rfl (fun i26 t26 hg26 hx26 => ?_) (fun hx26 => ?_)
  · match i26, hg26, hx26 with
    | 0, hg26, hx26 =>
      cases hg26
      have c : σ.2.1 116 (9 * i + 0) = 1 := Int32.toInt_inj.mp (by rw [hx26]; rfl)
      refine xe_aload_n dX9_clear_64 rfl ?_
      refine xe_getf dX9_clear_65 flX9_177 (by decide) rfl rfl ?_
      rw [hsum]
      refine xe_aload_n dX9_clear_68 rfl ?_
      refine xe_iload_n dX9_clear_69 rfl ?_
      refine xe_iconst (v := 1) dX9_clear_70 rfl ?_
      refine xe_callv (k2 := kX9_one) (vs := [_, _]) dX9_clear_71 okX9_one mlX9_93 imX9_one slX9_one (Or.inl ⟨9, _, _, by decide, rfl, rfl, rfl⟩) rfl rfl (Nat.le_of_ble_eq_true rfl) (Nat.le_of_ble_eq_true rfl) (sX9_one (by omega) i 1 (by omega) ?_)
      rw [hG]
      refine xe_iadd dX9_clear_74 ?_
      refine xe_iret dX9_clear_75 rfl rfl ?_
      have e := h σ2 k2
      rw [Clr, clrF] at e
      simp only [pV, c] at e
      exact e
    | 1, hg26, hx26 =>
      cases hg26
      have c : σ.2.1 116 (9 * i + 0) = 2 := Int32.toInt_inj.mp (by rw [hx26]; rfl)
      refine xe_aload_n dX9_clear_76 rfl ?_
      refine xe_getf dX9_clear_77 flX9_177 (by decide) rfl rfl ?_
      rw [hsum]
      refine xe_iconst (v := 2) dX9_clear_80 rfl ?_
      refine xe_idiv dX9_clear_81 (by decide) ?_
      refine xe_iret dX9_clear_82 rfl rfl ?_
      have e := h σ2 k2
      rw [Clr, clrF] at e
      simp only [pV, c] at e
      exact e
    | 2, hg26, hx26 =>
      cases hg26
      have c : σ.2.1 116 (9 * i + 0) = 3 := Int32.toInt_inj.mp (by rw [hx26]; rfl)
      refine xe_iload_n dX9_clear_83 rfl ?_
      refine xe_iret dX9_clear_84 rfl rfl ?_
      have e := h σ2 k2
      rw [Clr, clrF] at e
      simp only [pV, c] at e
      exact e
    | 3, hg26, hx26 =>
      cases hg26
      have c : σ.2.1 116 (9 * i + 0) = 4 := Int32.toInt_inj.mp (by rw [hx26]; rfl)
      refine xe_aload_n dX9_clear_85 rfl ?_
      refine xe_iload_n dX9_clear_86 rfl ?_
      refine xe_iconst (v := 3) dX9_clear_87 rfl ?_
      refine xe_callv (k2 := kX9_one) (vs := [_, _]) dX9_clear_88 okX9_one mlX9_93 imX9_one slX9_one (Or.inl ⟨9, _, _, by decide, rfl, rfl, rfl⟩) rfl rfl (Nat.le_of_ble_eq_true rfl) (Nat.le_of_ble_eq_true rfl) (sX9_one (by omega) i 3 (by omega) ?_)
      rw [hG]
      refine xe_aload_n dX9_clear_91 rfl ?_
      refine xe_iload_n dX9_clear_92 rfl ?_
      refine xe_iconst (v := 1) dX9_clear_93 rfl ?_
      refine xe_callv (k2 := kX9_one) (vs := [_, _]) dX9_clear_94 okX9_one mlX9_93 imX9_one slX9_one (Or.inl ⟨9, _, _, by decide, rfl, rfl, rfl⟩) rfl rfl (Nat.le_of_ble_eq_true rfl) (Nat.le_of_ble_eq_true rfl) (sX9_one (by omega) i 1 (by omega) ?_)
      rw [hG]
      refine xe_icmp_ge (tgt := 104) dX9_clear_97 (by decide) (fun h97 => ?_) (fun h97 => ?_)
      · refine xe_aload_n dX9_clear_104 rfl ?_
        refine xe_getf dX9_clear_105 flX9_177 (by decide) rfl rfl ?_
        rw [hsum]
        refine xe_aload_n dX9_clear_108 rfl ?_
        refine xe_iload_n dX9_clear_109 rfl ?_
        refine xe_iconst (v := 1) dX9_clear_110 rfl ?_
        refine xe_callv (k2 := kX9_one) (vs := [_, _]) dX9_clear_111 okX9_one mlX9_93 imX9_one slX9_one (Or.inl ⟨9, _, _, by decide, rfl, rfl, rfl⟩) rfl rfl (Nat.le_of_ble_eq_true rfl) (Nat.le_of_ble_eq_true rfl) (sX9_one (by omega) i 1 (by omega) ?_)
        rw [hG]
        refine xe_iadd dX9_clear_114 ?_
        refine xe_iret dX9_clear_115 rfl rfl ?_
        have e := h σ2 k2
        rw [Clr, clrF] at e
        simp only [pV, c] at e
        first
        | (have q : ¬ σ.2.1 116 (9 * i + 3) < σ.2.1 116 (9 * i + 1) := Int32.not_lt.mpr h97; simp only [q] at e; exact e)
        | (have q : σ.2.1 116 (9 * i + 3) < σ.2.1 116 (9 * i + 1) := Int32.not_le.mp h97; simp only [q] at e; exact e)
      · refine xe_iconst (v := 0) dX9_clear_100 rfl ?_
        refine xe_goto (tgt := 115) dX9_clear_101 (by decide) ?_
        refine xe_iret dX9_clear_115 rfl rfl ?_
        have e := h σ2 k2
        rw [Clr, clrF] at e
        simp only [pV, c] at e
        first
        | (have q : ¬ σ.2.1 116 (9 * i + 3) < σ.2.1 116 (9 * i + 1) := Int32.not_lt.mpr h97; simp only [q] at e; exact e)
        | (have q : σ.2.1 116 (9 * i + 3) < σ.2.1 116 (9 * i + 1) := Int32.not_le.mp h97; simp only [q] at e; exact e)
    | 4, hg26, hx26 =>
      cases hg26
      have c : σ.2.1 116 (9 * i + 0) = 5 := Int32.toInt_inj.mp (by rw [hx26]; rfl)
      refine xe_aload_n dX9_clear_116 rfl ?_
      refine xe_getf dX9_clear_117 flX9_177 (by decide) rfl rfl ?_
      rw [hsum]
      refine xe_iconst (v := 2) dX9_clear_120 rfl ?_
      refine xe_idiv dX9_clear_121 (by decide) ?_
      refine xe_iload_n dX9_clear_122 rfl ?_
      refine xe_iconst (v := 2) dX9_clear_123 rfl ?_
      refine xe_irem dX9_clear_124 (by decide) ?_
      refine xe_top (x2 := nI (f % 2)) (by rw [show (2 : Int32) = nI 2 from rfl]; exact pk_rem (by omega) (by omega) (by omega)) ?_
      refine xe_iconst (v := 1) dX9_clear_125 rfl ?_
      refine xe_icmp_ne (tgt := 134) dX9_clear_126 (by decide) (fun h126 => ?_) (fun h126 => ?_)
      · refine xe_iconst (v := 0) dX9_clear_134 rfl ?_
        refine xe_isub dX9_clear_135 ?_
        refine xe_iret dX9_clear_136 rfl rfl ?_
        have e := h σ2 k2
        rw [Clr, clrF] at e
        simp only [pV, c] at e
        first
        | (have q : f % 2 = 1 := nEq (b := 1) (by omega) (by omega) h126; simp only [q] at e; exact e)
        | (have q : ¬ f % 2 = 1 := fun z => h126 (by rw [z]; rfl); simp only [q] at e; exact e)
      · refine xe_bipush (v := 6) dX9_clear_129 rfl ?_
        refine xe_goto (tgt := 135) dX9_clear_131 (by decide) ?_
        refine xe_isub dX9_clear_135 ?_
        refine xe_iret dX9_clear_136 rfl rfl ?_
        have e := h σ2 k2
        rw [Clr, clrF] at e
        simp only [pV, c] at e
        first
        | (have q : f % 2 = 1 := nEq (b := 1) (by omega) (by omega) h126; simp only [q] at e; exact e)
        | (have q : ¬ f % 2 = 1 := fun z => h126 (by rw [z]; rfl); simp only [q] at e; exact e)
    | 5, hg26, hx26 =>
      cases hg26
      have c : σ.2.1 116 (9 * i + 0) = 6 := Int32.toInt_inj.mp (by rw [hx26]; rfl)
      refine xe_iload_n dX9_clear_137 rfl ?_
      refine xe_aload_n dX9_clear_138 rfl ?_
      refine xe_iload_n dX9_clear_139 rfl ?_
      refine xe_iconst (v := 5) dX9_clear_140 rfl ?_
      refine xe_iload_n dX9_clear_141 rfl ?_
      refine xe_iconst (v := 4) dX9_clear_142 rfl ?_
      refine xe_irem dX9_clear_143 (by decide) ?_
      refine xe_top (x2 := nI (f % 4)) (by rw [show (4 : Int32) = nI 4 from rfl]; exact pk_rem (by omega) (by omega) (by omega)) ?_
      refine xe_iadd dX9_clear_144 ?_
      refine xe_top (x2 := nI (5 + f % 4)) (by rw [show (5 : Int32) = nI 5 from rfl, nI_add]) ?_
      refine xe_callv (k2 := kX9_one) (vs := [_, _]) dX9_clear_145 okX9_one mlX9_93 imX9_one slX9_one (Or.inl ⟨9, _, _, by decide, rfl, rfl, rfl⟩) rfl rfl (Nat.le_of_ble_eq_true rfl) (Nat.le_of_ble_eq_true rfl) (sX9_one (by omega) i (5 + f % 4) (by omega) ?_)
      rw [hG]
      refine xe_iadd dX9_clear_148 ?_
      refine xe_iconst (v := 4) dX9_clear_149 rfl ?_
      refine xe_isub dX9_clear_150 ?_
      refine xe_iret dX9_clear_151 rfl rfl ?_
      have e := h σ2 k2
      rw [Clr, clrF] at e
      simp only [pV, c] at e
      exact e
    | i26 + 6, hg26, hx26 => simp at hg26
  · skip
    have c : ∀ n : Int32, 1 ≤ n.toInt → n.toInt ≤ 6 → ¬ σ.2.1 116 (9 * i + 0) = n := fun n q1 q2 z => by rw [z] at hx26; omega
    refine xe_aload_n dX9_clear_152 rfl ?_
    refine xe_getf dX9_clear_153 flX9_177 (by decide) rfl rfl ?_
    rw [hsum]
    refine xe_iret dX9_clear_156 rfl rfl ?_
    have e := h σ2 k2
    rw [Clr, clrF, if_neg (c 1 (by decide) (by decide)), if_neg (c 2 (by decide) (by decide)), if_neg (c 3 (by decide) (by decide)), if_neg (c 4 (by decide) (by decide)), if_neg (c 5 (by decide) (by decide)), if_neg (c 6 (by decide) (by decide))] at e
    exact e

theorem sX9_saysBy {d : Nat} (hd : 0 ≤ d) {σ : xSt} {Post : Option Value → xSt → Prop} (c : Int32) (f : Nat) (w : Int32) (h : Post (some (.int (syB c f w))) σ) : xM kX9_saysBy d [.int c, .int (nI f), .int w] σ Post := by
  refine xM_start (lv := [some (.int c), some (.int (nI f)), some (.int w), none]) rfl ?_
  refine xe_iload_n dX9_saysBy_0 rfl ?_
  refine xe_iload_n dX9_saysBy_1 rfl ?_
  refine xe_ishr dX9_saysBy_2 ?_
  refine xe_iconst (v := 1) dX9_saysBy_3 rfl ?_
  refine xe_iand dX9_saysBy_4 ?_
  refine xe_istore_n (lv2 := [_, _, _, _]) dX9_saysBy_5 (by decide) rfl ?_
  refine xe_iload_n dX9_saysBy_6 rfl ?_
  refine xe_iconst (v := 4) dX9_saysBy_7 rfl ?_
  refine xe_icmp_lt (tgt := 15) dX9_saysBy_8 (by decide) (fun h8 => ?_) (fun h8 => ?_)
  · refine xe_iload_n dX9_saysBy_15 rfl ?_
    refine xe_if_ge (tgt := 25) dX9_saysBy_16 (by decide) (fun h16 => ?_) (fun h16 => ?_)
    · refine xe_bipush (v := -5) dX9_saysBy_25 rfl ?_
      refine xe_iret dX9_saysBy_27 rfl rfl ?_
      first
      | (rw [syB, if_pos (Int32.not_lt.mp h8)] at h; exact h)
      | (rw [syB, if_neg (Int32.not_le.mpr h8), if_neg (Int32.not_lt.mpr h16)] at h; exact h)
      | (rw [syB, if_neg (Int32.not_le.mpr h8), if_pos (Int32.not_le.mp h16)] at h; exact h)
    · refine xe_iconst (v := 1) dX9_saysBy_19 rfl ?_
      refine xe_iload_n dX9_saysBy_20 rfl ?_
      refine xe_isub dX9_saysBy_21 ?_
      refine xe_goto (tgt := 27) dX9_saysBy_22 (by decide) ?_
      refine xe_iret dX9_saysBy_27 rfl rfl ?_
      first
      | (rw [syB, if_pos (Int32.not_lt.mp h8)] at h; exact h)
      | (rw [syB, if_neg (Int32.not_le.mpr h8), if_neg (Int32.not_lt.mpr h16)] at h; exact h)
      | (rw [syB, if_neg (Int32.not_le.mpr h8), if_pos (Int32.not_le.mp h16)] at h; exact h)
  · refine xe_iload_n dX9_saysBy_11 rfl ?_
    refine xe_goto (tgt := 27) dX9_saysBy_12 (by decide) ?_
    refine xe_iret dX9_saysBy_27 rfl rfl ?_
    first
    | (rw [syB, if_pos (Int32.not_lt.mp h8)] at h; exact h)
    | (rw [syB, if_neg (Int32.not_le.mpr h8), if_neg (Int32.not_lt.mpr h16)] at h; exact h)
    | (rw [syB, if_neg (Int32.not_le.mpr h8), if_pos (Int32.not_le.mp h16)] at h; exact h)

theorem sX9_says {d : Nat} (hd : 22 ≤ d) {σ : xSt} {Post : Option Value → xSt → Prop} (i f : Nat) (w : Int32) (hi : i < 6) (hf : f < 8) (hM : MCo σ) (hR : RUo σ) (h : ∀ σ2, KM σ σ2 → Post (some (.int (syB (Clr (mSem σ) i (pV (σ.2.1 116) i) f) f w))) σ2) : xM kX9_says d [.ref 115, .int (nI i), .int (nI f), .int w] σ Post := by
  obtain ⟨d, rfl⟩ : ∃ e, d = e + 1 := ⟨d - 1, by omega⟩
  refine xM_start (lv := [some (.ref 115), some (.int (nI i)), some (.int (nI f)), some (.int w)]) rfl ?_
  refine xe_aload_n dX9_says_0 rfl ?_
  refine xe_iload_n dX9_says_1 rfl ?_
  refine xe_iload_n dX9_says_2 rfl ?_
  refine xe_callv (k2 := kX9_clear) (vs := [_, _]) dX9_says_3 okX9_clear mlX9_111 imX9_clear slX9_clear (Or.inl ⟨9, _, _, by decide, rfl, rfl, rfl⟩) rfl rfl (Nat.le_of_ble_eq_true rfl) (Nat.le_of_ble_eq_true rfl) (sX9_clear (by omega) i f hi hf hM hR (fun σ2 k2 => ?_))
  refine xe_iload_n dX9_says_6 rfl ?_
  refine xe_iload_n dX9_says_7 rfl ?_
  refine xe_calls (k2 := kX9_saysBy) (vs := [_, _, _]) dX9_says_8 okX9_saysBy mlX9_193 stX9_saysBy rfl rfl (Nat.le_of_ble_eq_true rfl) (Nat.le_of_ble_eq_true rfl) (sX9_saysBy (by omega) _ f w ?_)
  refine xe_iret dX9_says_11 rfl rfl ?_
  exact h σ2 k2

/-- keep doesn't hang on the names -/
def Kpn (S : xSem) : Int32 := (S (fun _ => 0)).2

theorem sX9_keepNow {d : Nat} (hd : 21 ≤ d) {σ : xSt} {Post : Option Value → xSt → Prop} (hM : MCo σ) (hR : RUo σ) (h : ∀ σ2, KM σ σ2 → Post (some (.int (mSem σ (nmO 0 (pV (σ.2.1 116) 0) 0)).2)) σ2) : xM kX9_keepNow d [.ref 115] σ Post := by
  obtain ⟨d, rfl⟩ : ∃ e, d = e + 1 := ⟨d - 1, by omega⟩
  refine xM_start (lv := [some (.ref 115)]) rfl ?_
  refine xe_aload_n dX9_keepNow_0 rfl ?_
  refine xe_iconst (v := 0) dX9_keepNow_1 rfl ?_
  refine xe_iconst (v := 0) dX9_keepNow_2 rfl ?_
  refine xe_callv (k2 := kX9_readFor) (vs := [_, _]) dX9_keepNow_3 okX9_readFor mlX9_189 imX9_readFor slX9_readFor (Or.inl ⟨9, _, _, by decide, rfl, rfl, rfl⟩) rfl rfl (Nat.le_of_ble_eq_true rfl) (Nat.le_of_ble_eq_true rfl) (sX9_readFor (by omega) 0 0 (by omega) hM hR (fun σ2 k2 hsum hkp => ?_))
  refine xe_aload_n dX9_keepNow_6 rfl ?_
  refine xe_getf dX9_keepNow_7 flX9_174 (by decide) rfl rfl ?_
  rw [hkp]
  refine xe_iret dX9_keepNow_10 rfl rfl ?_
  exact h σ2 k2
