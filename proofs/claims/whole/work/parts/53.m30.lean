/-- a tape's cells -/
def isTp (c : Nat) : Prop := (c < 138 ∧ xsh c = .inr (6, [some (c + 1), none, none])) ∧ (c + 1 < 138 ∧ xsh (c + 1) = .inl (3, 60, []))
theorem isTp_t {t : Nat} (h : t < 6) : isTp (103 + 2 * t) := by
  match t, h with
  | 0, _ => exact ⟨⟨by decide, rfl⟩, by decide, rfl⟩
  | 1, _ => exact ⟨⟨by decide, rfl⟩, by decide, rfl⟩
  | 2, _ => exact ⟨⟨by decide, rfl⟩, by decide, rfl⟩
  | 3, _ => exact ⟨⟨by decide, rfl⟩, by decide, rfl⟩
  | 4, _ => exact ⟨⟨by decide, rfl⟩, by decide, rfl⟩
  | 5, _ => exact ⟨⟨by decide, rfl⟩, by decide, rfl⟩
theorem x102 {h : Nat} (hh : h < 6) : [103, 105, 107, 109, 111, 113][h]? = some (103 + 2 * h) := by
  match h, hh with
  | 0, _ => rfl
  | 1, _ => rfl
  | 2, _ => rfl
  | 3, _ => rfl
  | 4, _ => rfl
  | 5, _ => rfl
abbrev tpC (c : Nat) : Prop := 103 ≤ c ∧ c ≤ 114
def RepTp (σ : xSt) (so ln : Nat → Int32) (it : Nat → Int64) : Prop := ∀ t, t < 6 → σ.1 (103 + 2 * t) 1 = so t ∧ σ.1 (103 + 2 * t) 2 = ln t ∧ ∀ j, j < 60 → σ.2.2 (103 + 2 * t + 1) j = it (60 * t + j)
theorem RepTp.un {P : Nat → Prop} {σ τ : xSt} {so ln : Nat → Int32} {it : Nat → Int64} (h : RepTp σ so ln it) (hu : Un P σ τ) (hP : ∀ c, tpC c → ¬ P c) : RepTp τ so ln it := fun t ht =>
  ⟨(hu.f (hP _ (by omega)) 1).trans (h t ht).1, (hu.f (hP _ (by omega)) 2).trans (h t ht).2.1, fun j hj => (congrFun (hu.l (hP _ (by omega))) j).trans ((h t ht).2.2 j hj)⟩
theorem RepTp.one {σ τ : xSt} {so ln so2 ln2 : Nat → Int32} {it it2 : Nat → Int64} {t : Nat} (h : RepTp σ so ln it) (hu : Un (fun c => c = 103 + 2 * t ∨ c = 103 + 2 * t + 1) σ τ) (h1 : τ.1 (103 + 2 * t) 1 = so2 t) (h2 : τ.1 (103 + 2 * t) 2 = ln2 t) (h3 : ∀ j, j < 60 → τ.2.2 (103 + 2 * t + 1) j = it2 (60 * t + j)) (ho : ∀ u, u ≠ t → so2 u = so u ∧ ln2 u = ln u ∧ ∀ j, j < 60 → it2 (60 * u + j) = it (60 * u + j)) : RepTp τ so2 ln2 it2 := by
  intro u hu6
  by_cases z : u = t
  · subst z; exact ⟨h1, h2, h3⟩
  · obtain ⟨a, b, c⟩ := h u hu6
    obtain ⟨a2, b2, c2⟩ := ho u z
    exact ⟨(hu.f (by omega) 1).trans (a.trans a2.symm), (hu.f (by omega) 2).trans (b.trans b2.symm), fun j hj => (congrFun (hu.l (by omega)) j).trans ((c j hj).trans (c2 j hj).symm)⟩
theorem tp_in {t c : Nat} (ht : t < 6) (h : c = 103 + 2 * t ∨ c = 103 + 2 * t + 1) : tpC c := by unfold tpC; omega
/-- lengths and sorts -/
def TpOk (so ln : Nat → Int32) : Prop := ∀ t, t < 6 → (∃ m, m ≤ 60 ∧ ln t = nI m) ∧ (so t = -1 ∨ ∃ s, s ≤ 4 ∧ so t = nI s)
theorem spn {m : Nat} {i n : Int32} (hm : m ≤ 60) (hi : 0 ≤ i) (hn : 0 ≤ n) : (n ≤ nI m ∧ i ≤ nI m - n) ↔ ¬ (nI m - i < n) := by
  have e1 := nI_toInt (n := m) (by omega)
  rw [Int32.le_iff_toInt_le, show (0 : Int32).toInt = 0 from rfl] at hi hn
  have b1 := Int32.toInt_lt i
  have b2 := Int32.toInt_lt n
  rw [Int32.le_iff_toInt_le, Int32.le_iff_toInt_le, Int32.lt_iff_toInt_lt, Int32.toInt_sub, Int32.toInt_sub, e1]
  rw [Int.bmod_eq_of_le (n := (m : Int) - n.toInt) (by omega) (by omega), Int.bmod_eq_of_le (n := (m : Int) - i.toInt) (by omega) (by omega)]
  omega

theorem neg1 {s : Int32} (h : -1 ≤ s) : s = -1 ∨ 0 ≤ s := by
  by_cases z : 0 ≤ s
  · exact Or.inr z
  · left
    have z := Int32.not_le.mp z
    rw [Int32.le_iff_toInt_le, show (-1 : Int32).toInt = -1 from rfl] at h
    rw [Int32.lt_iff_toInt_lt, show (0 : Int32).toInt = 0 from rfl] at z
    exact Int32.toInt_inj.mp (by rw [show (-1 : Int32).toInt = -1 from rfl]; omega)
theorem lt_pred {m : Nat} {i : Int32} (hm : m ≤ 60) : (0 ≤ i ∧ i < nI m) ↔ rng i 0 (nI m - 1) := (le_pred (by omega)).symm

theorem mx0n (m : Nat) (h : m < 2 ^ 31) : (if (0 : Int32) < nI m then nI m else 0) = nI m := by
  by_cases z : m = 0
  · subst z; rfl
  · rw [if_pos (c := (0 : Int32) < nI m) (show nI 0 < nI m from nI_lt (by omega) h)]

theorem sX8_tapeAt {d : Nat} (hd : 0 ≤ d) {σ : xSt} {Post : Option Value → xSt → Prop} (x : Int32) (h : (∀ t, t < 6 → x = nI t → Post (some (.ref (103 + 2 * t))) σ) ∧ (¬ rng x 0 5 → Post (some .null) σ)) : xM kX8_tapeAt d [.ref 0, .int x] σ Post := by
  refine xM_start (lv := [some (.ref 0), some (.int x)]) rfl ?_
  refine xe_iload_n dX8_tapeAt_0 rfl ?_
  refine xe_if_lt (tgt := 19) dX8_tapeAt_1 (by decide) (fun h1 => ?_) (fun h1 => ?_)
  · first
    | (have hx : ¬ rng x 0 5 := fun z => absurd z.1 (Int32.not_le.mpr h1)
       refine xe_null dX8_tapeAt_19 ?_
       refine xe_aretN dX8_tapeAt_20 rfl ?_
       exact h.2 hx)
    | (have hx : ¬ rng x 0 5 := fun z => absurd ((lt_succ (n := 5) (by omega)).mpr z.2) (Int32.not_lt.mpr h7)
       refine xe_null dX8_tapeAt_19 ?_
       refine xe_aretN dX8_tapeAt_20 rfl ?_
       exact h.2 hx)
  · refine xe_iload_n dX8_tapeAt_4 rfl ?_
    refine xe_bipush (v := 6) dX8_tapeAt_5 rfl ?_
    refine xe_icmp_ge (tgt := 19) dX8_tapeAt_7 (by decide) (fun h7 => ?_) (fun h7 => ?_)
    · first
      | (have hx : ¬ rng x 0 5 := fun z => absurd z.1 (Int32.not_le.mpr h1)
         refine xe_null dX8_tapeAt_19 ?_
         refine xe_aretN dX8_tapeAt_20 rfl ?_
         exact h.2 hx)
      | (have hx : ¬ rng x 0 5 := fun z => absurd ((lt_succ (n := 5) (by omega)).mpr z.2) (Int32.not_lt.mpr h7)
         refine xe_null dX8_tapeAt_19 ?_
         refine xe_aretN dX8_tapeAt_20 rfl ?_
         exact h.2 hx)
    · refine xe_aload_n dX8_tapeAt_10 rfl ?_
      refine xe_getr dX8_tapeAt_11 flX8_77 (by decide) rfl rfl ?_
      refine xe_iload_n dX8_tapeAt_14 rfl ?_
      obtain ⟨i, hi, rfl⟩ := rng_nat (m := 5) (by omega) ⟨Int32.not_lt.mp h1, (lt_succ (n := 5) (by omega)).mp (Int32.not_le.mp h7)⟩
      refine xn_aaload dX8_tapeAt_15 (by decide) rfl (by decide) rfl (by omega) (by decide) (x102 (by omega)) ?_
      refine xe_goto (tgt := 20) dX8_tapeAt_16 (by decide) ?_
      refine xe_aret dX8_tapeAt_20 rfl ?_
      exact h.1 i (by omega) rfl

theorem sX6_has {d : Nat} (hd : 0 ≤ d) {σ : xSt} {Post : Option Value → xSt → Prop} {c : Nat} (i : Int32) (hp : isTp c) (h : Post (some (.int (xb (0 ≤ i ∧ i < σ.1 c 2)))) σ) : xM kX6_has d [.ref c, .int i] σ Post := by
  refine xM_start (lv := [some (.ref c), some (.int i)]) rfl ?_
  refine xe_iload_n dX6_has_0 rfl ?_
  refine xe_if_lt (tgt := 16) dX6_has_1 (by decide) (fun h1 => ?_) (fun h1 => ?_)
  · refine xe_iconst (v := 0) dX6_has_16 rfl ?_
    refine xe_iret dX6_has_17 rfl (by first | rfl | decide | assumption | exact bI_nar _ | exact xb_narrow rfl | exact xb_narrow (by assumption)) ?_
    first
    | (rw [xb, if_pos (c := 0 ≤ i ∧ i < σ.1 c 2) ⟨Int32.not_lt.mp h1, Int32.not_le.mp h9⟩] at h; exact h)
    | (rw [xb, if_neg (c := 0 ≤ i ∧ i < σ.1 c 2) (fun z => absurd z.1 (Int32.not_le.mpr h1))] at h; exact h)
    | (rw [xb, if_neg (c := 0 ≤ i ∧ i < σ.1 c 2) (fun z => absurd z.2 (Int32.not_lt.mpr h9))] at h; exact h)
  · refine xe_iload_n dX6_has_4 rfl ?_
    refine xe_aload_n dX6_has_5 rfl ?_
    refine xe_getf dX6_has_6 flX6_17 hp.1.1 hp.1.2 rfl ?_
    refine xe_icmp_ge (tgt := 16) dX6_has_9 (by decide) (fun h9 => ?_) (fun h9 => ?_)
    · refine xe_iconst (v := 0) dX6_has_16 rfl ?_
      refine xe_iret dX6_has_17 rfl (by first | rfl | decide | assumption | exact bI_nar _ | exact xb_narrow rfl | exact xb_narrow (by assumption)) ?_
      first
      | (rw [xb, if_pos (c := 0 ≤ i ∧ i < σ.1 c 2) ⟨Int32.not_lt.mp h1, Int32.not_le.mp h9⟩] at h; exact h)
      | (rw [xb, if_neg (c := 0 ≤ i ∧ i < σ.1 c 2) (fun z => absurd z.1 (Int32.not_le.mpr h1))] at h; exact h)
      | (rw [xb, if_neg (c := 0 ≤ i ∧ i < σ.1 c 2) (fun z => absurd z.2 (Int32.not_lt.mpr h9))] at h; exact h)
    · refine xe_iconst (v := 1) dX6_has_12 rfl ?_
      refine xe_goto (tgt := 17) dX6_has_13 (by decide) ?_
      refine xe_iret dX6_has_17 rfl (by first | rfl | decide | assumption | exact bI_nar _ | exact xb_narrow rfl | exact xb_narrow (by assumption)) ?_
      first
      | (rw [xb, if_pos (c := 0 ≤ i ∧ i < σ.1 c 2) ⟨Int32.not_lt.mp h1, Int32.not_le.mp h9⟩] at h; exact h)
      | (rw [xb, if_neg (c := 0 ≤ i ∧ i < σ.1 c 2) (fun z => absurd z.1 (Int32.not_le.mpr h1))] at h; exact h)
      | (rw [xb, if_neg (c := 0 ≤ i ∧ i < σ.1 c 2) (fun z => absurd z.2 (Int32.not_lt.mpr h9))] at h; exact h)

theorem sX6_spans {d : Nat} (hd : 0 ≤ d) {σ : xSt} {Post : Option Value → xSt → Prop} {c : Nat} (i n : Int32) (hp : isTp c) (h : Post (some (.int (xb (0 ≤ n ∧ 0 ≤ i ∧ n ≤ σ.1 c 2 ∧ i ≤ σ.1 c 2 - n)))) σ) : xM kX6_spans d [.ref c, .int i, .int n] σ Post := by
  refine xM_start (lv := [some (.ref c), some (.int i), some (.int n)]) rfl ?_
  refine xe_iload_n dX6_spans_0 rfl ?_
  refine xe_if_lt (tgt := 30) dX6_spans_1 (by decide) (fun h1 => ?_) (fun h1 => ?_)
  · refine xe_iconst (v := 0) dX6_spans_30 rfl ?_
    refine xe_iret dX6_spans_31 rfl (by first | rfl | decide | assumption | exact bI_nar _ | exact xb_narrow rfl | exact xb_narrow (by assumption)) ?_
    first
    | (rw [xb, if_pos (c := 0 ≤ n ∧ 0 ≤ i ∧ n ≤ σ.1 c 2 ∧ i ≤ σ.1 c 2 - n) ⟨Int32.not_lt.mp h1, Int32.not_lt.mp h5, Int32.not_lt.mp h13, Int32.not_lt.mp h23⟩] at h; exact h)
    | (rw [xb, if_neg (c := 0 ≤ n ∧ 0 ≤ i ∧ n ≤ σ.1 c 2 ∧ i ≤ σ.1 c 2 - n) (fun z => absurd z.1 (Int32.not_le.mpr h1))] at h; exact h)
    | (rw [xb, if_neg (c := 0 ≤ n ∧ 0 ≤ i ∧ n ≤ σ.1 c 2 ∧ i ≤ σ.1 c 2 - n) (fun z => absurd z.2.1 (Int32.not_le.mpr h5))] at h; exact h)
    | (rw [xb, if_neg (c := 0 ≤ n ∧ 0 ≤ i ∧ n ≤ σ.1 c 2 ∧ i ≤ σ.1 c 2 - n) (fun z => absurd z.2.2.1 (Int32.not_le.mpr h13))] at h; exact h)
    | (rw [xb, if_neg (c := 0 ≤ n ∧ 0 ≤ i ∧ n ≤ σ.1 c 2 ∧ i ≤ σ.1 c 2 - n) (fun z => absurd z.2.2.2 (Int32.not_le.mpr h23))] at h; exact h)
  · refine xe_iload_n dX6_spans_4 rfl ?_
    refine xe_if_lt (tgt := 30) dX6_spans_5 (by decide) (fun h5 => ?_) (fun h5 => ?_)
    · refine xe_iconst (v := 0) dX6_spans_30 rfl ?_
      refine xe_iret dX6_spans_31 rfl (by first | rfl | decide | assumption | exact bI_nar _ | exact xb_narrow rfl | exact xb_narrow (by assumption)) ?_
      first
      | (rw [xb, if_pos (c := 0 ≤ n ∧ 0 ≤ i ∧ n ≤ σ.1 c 2 ∧ i ≤ σ.1 c 2 - n) ⟨Int32.not_lt.mp h1, Int32.not_lt.mp h5, Int32.not_lt.mp h13, Int32.not_lt.mp h23⟩] at h; exact h)
      | (rw [xb, if_neg (c := 0 ≤ n ∧ 0 ≤ i ∧ n ≤ σ.1 c 2 ∧ i ≤ σ.1 c 2 - n) (fun z => absurd z.1 (Int32.not_le.mpr h1))] at h; exact h)
      | (rw [xb, if_neg (c := 0 ≤ n ∧ 0 ≤ i ∧ n ≤ σ.1 c 2 ∧ i ≤ σ.1 c 2 - n) (fun z => absurd z.2.1 (Int32.not_le.mpr h5))] at h; exact h)
      | (rw [xb, if_neg (c := 0 ≤ n ∧ 0 ≤ i ∧ n ≤ σ.1 c 2 ∧ i ≤ σ.1 c 2 - n) (fun z => absurd z.2.2.1 (Int32.not_le.mpr h13))] at h; exact h)
      | (rw [xb, if_neg (c := 0 ≤ n ∧ 0 ≤ i ∧ n ≤ σ.1 c 2 ∧ i ≤ σ.1 c 2 - n) (fun z => absurd z.2.2.2 (Int32.not_le.mpr h23))] at h; exact h)
    · refine xe_iload_n dX6_spans_8 rfl ?_
      refine xe_aload_n dX6_spans_9 rfl ?_
      refine xe_getf dX6_spans_10 flX6_17 hp.1.1 hp.1.2 rfl ?_
      refine xe_icmp_gt (tgt := 30) dX6_spans_13 (by decide) (fun h13 => ?_) (fun h13 => ?_)
      · refine xe_iconst (v := 0) dX6_spans_30 rfl ?_
        refine xe_iret dX6_spans_31 rfl (by first | rfl | decide | assumption | exact bI_nar _ | exact xb_narrow rfl | exact xb_narrow (by assumption)) ?_
        first
        | (rw [xb, if_pos (c := 0 ≤ n ∧ 0 ≤ i ∧ n ≤ σ.1 c 2 ∧ i ≤ σ.1 c 2 - n) ⟨Int32.not_lt.mp h1, Int32.not_lt.mp h5, Int32.not_lt.mp h13, Int32.not_lt.mp h23⟩] at h; exact h)
        | (rw [xb, if_neg (c := 0 ≤ n ∧ 0 ≤ i ∧ n ≤ σ.1 c 2 ∧ i ≤ σ.1 c 2 - n) (fun z => absurd z.1 (Int32.not_le.mpr h1))] at h; exact h)
        | (rw [xb, if_neg (c := 0 ≤ n ∧ 0 ≤ i ∧ n ≤ σ.1 c 2 ∧ i ≤ σ.1 c 2 - n) (fun z => absurd z.2.1 (Int32.not_le.mpr h5))] at h; exact h)
        | (rw [xb, if_neg (c := 0 ≤ n ∧ 0 ≤ i ∧ n ≤ σ.1 c 2 ∧ i ≤ σ.1 c 2 - n) (fun z => absurd z.2.2.1 (Int32.not_le.mpr h13))] at h; exact h)
        | (rw [xb, if_neg (c := 0 ≤ n ∧ 0 ≤ i ∧ n ≤ σ.1 c 2 ∧ i ≤ σ.1 c 2 - n) (fun z => absurd z.2.2.2 (Int32.not_le.mpr h23))] at h; exact h)
      · refine xe_iload_n dX6_spans_16 rfl ?_
        refine xe_aload_n dX6_spans_17 rfl ?_
        refine xe_getf dX6_spans_18 flX6_17 hp.1.1 hp.1.2 rfl ?_
        refine xe_iload_n dX6_spans_21 rfl ?_
        refine xe_isub dX6_spans_22 ?_
        refine xe_icmp_gt (tgt := 30) dX6_spans_23 (by decide) (fun h23 => ?_) (fun h23 => ?_)
        · refine xe_iconst (v := 0) dX6_spans_30 rfl ?_
          refine xe_iret dX6_spans_31 rfl (by first | rfl | decide | assumption | exact bI_nar _ | exact xb_narrow rfl | exact xb_narrow (by assumption)) ?_
          first
          | (rw [xb, if_pos (c := 0 ≤ n ∧ 0 ≤ i ∧ n ≤ σ.1 c 2 ∧ i ≤ σ.1 c 2 - n) ⟨Int32.not_lt.mp h1, Int32.not_lt.mp h5, Int32.not_lt.mp h13, Int32.not_lt.mp h23⟩] at h; exact h)
          | (rw [xb, if_neg (c := 0 ≤ n ∧ 0 ≤ i ∧ n ≤ σ.1 c 2 ∧ i ≤ σ.1 c 2 - n) (fun z => absurd z.1 (Int32.not_le.mpr h1))] at h; exact h)
          | (rw [xb, if_neg (c := 0 ≤ n ∧ 0 ≤ i ∧ n ≤ σ.1 c 2 ∧ i ≤ σ.1 c 2 - n) (fun z => absurd z.2.1 (Int32.not_le.mpr h5))] at h; exact h)
          | (rw [xb, if_neg (c := 0 ≤ n ∧ 0 ≤ i ∧ n ≤ σ.1 c 2 ∧ i ≤ σ.1 c 2 - n) (fun z => absurd z.2.2.1 (Int32.not_le.mpr h13))] at h; exact h)
          | (rw [xb, if_neg (c := 0 ≤ n ∧ 0 ≤ i ∧ n ≤ σ.1 c 2 ∧ i ≤ σ.1 c 2 - n) (fun z => absurd z.2.2.2 (Int32.not_le.mpr h23))] at h; exact h)
        · refine xe_iconst (v := 1) dX6_spans_26 rfl ?_
          refine xe_goto (tgt := 31) dX6_spans_27 (by decide) ?_
          refine xe_iret dX6_spans_31 rfl (by first | rfl | decide | assumption | exact bI_nar _ | exact xb_narrow rfl | exact xb_narrow (by assumption)) ?_
          first
          | (rw [xb, if_pos (c := 0 ≤ n ∧ 0 ≤ i ∧ n ≤ σ.1 c 2 ∧ i ≤ σ.1 c 2 - n) ⟨Int32.not_lt.mp h1, Int32.not_lt.mp h5, Int32.not_lt.mp h13, Int32.not_lt.mp h23⟩] at h; exact h)
          | (rw [xb, if_neg (c := 0 ≤ n ∧ 0 ≤ i ∧ n ≤ σ.1 c 2 ∧ i ≤ σ.1 c 2 - n) (fun z => absurd z.1 (Int32.not_le.mpr h1))] at h; exact h)
          | (rw [xb, if_neg (c := 0 ≤ n ∧ 0 ≤ i ∧ n ≤ σ.1 c 2 ∧ i ≤ σ.1 c 2 - n) (fun z => absurd z.2.1 (Int32.not_le.mpr h5))] at h; exact h)
          | (rw [xb, if_neg (c := 0 ≤ n ∧ 0 ≤ i ∧ n ≤ σ.1 c 2 ∧ i ≤ σ.1 c 2 - n) (fun z => absurd z.2.2.1 (Int32.not_le.mpr h13))] at h; exact h)
          | (rw [xb, if_neg (c := 0 ≤ n ∧ 0 ≤ i ∧ n ≤ σ.1 c 2 ∧ i ≤ σ.1 c 2 - n) (fun z => absurd z.2.2.2 (Int32.not_le.mpr h23))] at h; exact h)

theorem sX6_lowest {d : Nat} (hd : 0 ≤ d) {σ : xSt} {Post : Option Value → xSt → Prop} {c : Nat} (s : Nat) (v : Int64) (hp : isTp c) (hs : σ.1 c 1 = nI s) (hs4 : s ≤ 4) (h : Post (some (.long (loB (nI s) v))) σ) : xM kX6_lowest d [.ref c, .long v] σ Post := by
  refine xM_start (lv := [some (.ref c), some (.long v), none]) rfl ?_
  refine xe_aload_n dX6_lowest_0 rfl ?_
  refine xe_getf dX6_lowest_1 flX6_13 hp.1.1 hp.1.2 rfl ?_
  refine xn_tsw (tgs := [40, 45, 50, 66, 54]) (td := 66) dX6_lowest_4 rfl rfl rfl (fun i4 t4 hg4 hx4 => ?_) (fun hx4 => ?_)
  · match i4, hg4, hx4 with
    | 0, hg4, hx4 =>
      cases hg4
      obtain rfl : s = 0 := by rw [hs, nI_toInt (by omega)] at hx4; omega
      refine xe_lload_n dX6_lowest_40 rfl ?_
      refine xe_l2i dX6_lowest_41 ?_
      refine xe_i2b dX6_lowest_42 ?_
      refine xe_i2l dX6_lowest_43 ?_
      refine xe_lret dX6_lowest_44 rfl ?_
      exact h
    | 1, hg4, hx4 =>
      cases hg4
      obtain rfl : s = 1 := by rw [hs, nI_toInt (by omega)] at hx4; omega
      refine xe_lload_n dX6_lowest_45 rfl ?_
      refine xe_l2i dX6_lowest_46 ?_
      refine xe_i2s dX6_lowest_47 ?_
      refine xe_i2l dX6_lowest_48 ?_
      refine xe_lret dX6_lowest_49 rfl ?_
      exact h
    | 2, hg4, hx4 =>
      cases hg4
      obtain rfl : s = 2 := by rw [hs, nI_toInt (by omega)] at hx4; omega
      refine xe_lload_n dX6_lowest_50 rfl ?_
      refine xe_l2i dX6_lowest_51 ?_
      refine xe_i2l dX6_lowest_52 ?_
      refine xe_lret dX6_lowest_53 rfl ?_
      exact h
    | 3, hg4, hx4 =>
      cases hg4
      obtain rfl : s = 3 := by rw [hs, nI_toInt (by omega)] at hx4; omega
      refine xe_lload_n dX6_lowest_66 rfl ?_
      refine xe_lret dX6_lowest_67 rfl ?_
      first | exact h | exact absurd hx4 (by rw [hs, nI_toInt (by omega)]; omega)
    | 4, hg4, hx4 =>
      cases hg4
      obtain rfl : s = 4 := by rw [hs, nI_toInt (by omega)] at hx4; omega
      refine xe_lload_n dX6_lowest_54 rfl ?_
      refine xe_lconst (v := 0) dX6_lowest_55 rfl ?_
      refine xe_lcmp dX6_lowest_56 ?_
      refine xe_if_eq (tgt := 64) dX6_lowest_57 (by decide) (fun h57 => ?_) (fun h57 => ?_)
      · refine xe_lconst (v := 0) dX6_lowest_64 rfl ?_
        refine xe_lret dX6_lowest_65 rfl ?_
        rw [show loB (nI 4) v = if v = 0 then 0 else 1 from rfl] at h
        first | (rw [if_pos (lg_eq0.mp h57)] at h; exact h) | (rw [if_neg (fun z => h57 (lg_eq0.mpr z))] at h; exact h)
      · refine xe_lconst (v := 1) dX6_lowest_60 rfl ?_
        refine xe_goto (tgt := 65) dX6_lowest_61 (by decide) ?_
        refine xe_lret dX6_lowest_65 rfl ?_
        rw [show loB (nI 4) v = if v = 0 then 0 else 1 from rfl] at h
        first | (rw [if_pos (lg_eq0.mp h57)] at h; exact h) | (rw [if_neg (fun z => h57 (lg_eq0.mpr z))] at h; exact h)
    | i4 + 5, hg4, hx4 => simp at hg4
  · skip
    skip
    refine xe_lload_n dX6_lowest_66 rfl ?_
    refine xe_lret dX6_lowest_67 rfl ?_
    first | exact h | exact absurd hx4 (by rw [hs, nI_toInt (by omega)]; omega)

theorem sX6_become {d : Nat} (hd : 1 ≤ d) {σ : xSt} {Post : Option Value → xSt → Prop} {c m : Nat} (s : Int32) (hp : isTp c) (hm : m ≤ 60) (h : Post none (xsJ (xsF (xsF σ c 1 s) c 2 (nI m)) (c + 1) (fun k => if k < 60 then 0 else σ.2.2 (c + 1) k))) : xM kX6_become d [.ref c, .int s, .int (nI m)] σ Post := by
  obtain ⟨d, rfl⟩ : ∃ e, d = e + 1 := ⟨d - 1, by omega⟩
  refine xM_start (lv := [some (.ref c), some (.int s), some (.int (nI m))]) rfl ?_
  refine xe_aload_n dX6_become_0 rfl ?_
  refine xe_iload_n dX6_become_1 rfl ?_
  refine xe_putf dX6_become_2 flX6_13 hp.1.1 hp.1.2 rfl rfl rfl ?_
  refine xe_aload_n dX6_become_5 rfl ?_
  refine xe_iconst (v := 0) dX6_become_6 rfl ?_
  refine xe_iload_n dX6_become_7 rfl ?_
  refine xe_bipush (v := 60) dX6_become_8 rfl ?_
  refine xe_mmin dX6_become_10 mlX6_20 (by omega) (Nat.le_of_ble_eq_true rfl) ?_
  refine xe_mmax dX6_become_13 mlX6_26 (by omega) (Nat.le_of_ble_eq_true rfl) ?_
  refine xe_top (x2 := nI m) (by rw [if_neg (c := (60 : Int32) < nI m) (show ¬ nI 60 < nI m from nI_nlt hm (by omega))]; exact mx0n m (by omega)) ?_
  refine xe_putf dX6_become_16 flX6_17 hp.1.1 hp.1.2 rfl rfl rfl ?_
  refine xe_aload_n dX6_become_19 rfl ?_
  refine xe_getr dX6_become_20 flX6_9 hp.1.1 hp.1.2 rfl ?_
  refine xe_lconst (v := 0) dX6_become_23 rfl ?_
  refine xe_calls (k2 := kJ7_fill_d0a16) (vs := [_, _]) dX6_become_24 okJ7_fill_d0a16 mlX6_29 stJ7_fill_d0a16 rfl rfl (Nat.le_of_ble_eq_true rfl) (Nat.le_of_ble_eq_true rfl) (sJ7_fill_d0a16 (Nat.zero_le _) 0 hp.2 (by omega) ?_)
  refine xe_vret dX6_become_27 rfl ?_
  exact h

theorem sX8_tape {d : Nat} (hd : 2 ≤ d) {σ : xSt} {Post : Option Value → xSt → Prop} (so ln : Nat → Int32) (it : Nat → Int64) (x s m : Int32) (hT : RepTp σ so ln it) (h : ∀ τ, Un tpC σ τ → (if tapeOk x s m then RepTp τ (upd so (cN x) s) (upd ln (cN x) (if s < 0 then 0 else m)) (zeroJ it (60 * cN x) 60) else RepTp τ so ln it) → Post (some (.int (tapeV x s m))) τ) : xM kX8_tape d [.ref 0, .int x, .int s, .int m] σ Post := by
  obtain ⟨d, rfl⟩ : ∃ e, d = e + 1 := ⟨d - 1, by omega⟩
  refine xM_start (lv := [some (.ref 0), some (.int x), some (.int s), some (.int m), none]) rfl ?_
  refine xe_aload_n dX8_tape_0 rfl ?_
  refine xe_iload_n dX8_tape_1 rfl ?_
  refine xe_callv (k2 := kX8_tapeAt) (vs := [_]) dX8_tape_2 okX8_tapeAt mlX8_322 imX8_tapeAt slX8_tapeAt (Or.inl ⟨8, _, _, by decide, rfl, rfl, rfl⟩) rfl rfl (Nat.le_of_ble_eq_true rfl) (Nat.le_of_ble_eq_true rfl) (sX8_tapeAt (by omega) x ⟨fun t ht et => ?_, fun hx => ?_⟩)
  · skip
    subst et
    have hp := isTp_t ht
    have ct : rng (nI t) 0 5 := ⟨nI_pos' (by omega), nI_le (b := 5) (by omega) (by omega)⟩
    have et : cN (nI t) = t := cN_nI (by omega)
    obtain ⟨s1, s2, s3⟩ := hT t ht
    refine xe_astore (lv2 := [_, _, _, _, _]) dX8_tape_5 (by decide) rfl ?_
    refine xe_aload dX8_tape_7 rfl ?_
    refine xe_ifnonnull (tgt := 14) dX8_tape_9 (by decide) ?_
    refine xe_iload_n dX8_tape_14 rfl ?_
    refine xe_iconst (v := -1) dX8_tape_15 rfl ?_
    refine xe_icmp_ne (tgt := 28) dX8_tape_16 (by decide) (fun h16 => ?_) (fun h16 => ?_)
    · refine xe_iload_n dX8_tape_28 rfl ?_
      refine xe_if_lt (tgt := 43) dX8_tape_29 (by decide) (fun h29 => ?_) (fun h29 => ?_)
      · refine xe_bipush (v := -2) dX8_tape_43 rfl ?_
        refine xe_iret dX8_tape_45 rfl rfl ?_
        have hk : tapeBad s m := by first | exact fun z => (neg1 z.1.1).elim h16 (fun q => absurd q (Int32.not_le.mpr h29)) | exact fun z => absurd z.1.2 (Int32.not_le.mpr h34) | exact fun z => z.2.elim (fun q => h29 q) (fun q => h40 q)
        have e := h σ Un.rf
        rw [if_neg (fun z => z.2.1 hk), tapeV, if_pos ct, if_pos hk] at e
        exact e hT
      · refine xe_iload_n dX8_tape_32 rfl ?_
        refine xe_iconst (v := 4) dX8_tape_33 rfl ?_
        refine xe_icmp_gt (tgt := 43) dX8_tape_34 (by decide) (fun h34 => ?_) (fun h34 => ?_)
        · refine xe_bipush (v := -2) dX8_tape_43 rfl ?_
          refine xe_iret dX8_tape_45 rfl rfl ?_
          have hk : tapeBad s m := by first | exact fun z => (neg1 z.1.1).elim h16 (fun q => absurd q (Int32.not_le.mpr h29)) | exact fun z => absurd z.1.2 (Int32.not_le.mpr h34) | exact fun z => z.2.elim (fun q => h29 q) (fun q => h40 q)
          have e := h σ Un.rf
          rw [if_neg (fun z => z.2.1 hk), tapeV, if_pos ct, if_pos hk] at e
          exact e hT
        · refine xe_iload_n dX8_tape_37 rfl ?_
          refine xe_bipush (v := 60) dX8_tape_38 rfl ?_
          refine xe_icmp_le (tgt := 46) dX8_tape_40 (by decide) (fun h40 => ?_) (fun h40 => ?_)
          · refine xe_iload_n dX8_tape_46 rfl ?_
            refine xe_if_ge (tgt := 53) dX8_tape_47 (by decide) (fun h47 => ?_) (fun h47 => ?_)
            · obtain ⟨u, hu60, rfl⟩ := rng_nat (m := 60) (by omega) (show rng m 0 (nI 60) from ⟨h47, h40⟩)
              refine xe_aload dX8_tape_53 rfl ?_
              refine xe_iload_n dX8_tape_55 rfl ?_
              refine xe_iload_n dX8_tape_56 rfl ?_
              refine xe_callv (k2 := kX6_become) (vs := [_, _]) dX8_tape_57 okX6_become mlX8_363 imX6_become slX6_become (Or.inl ⟨6, _, _, hp.1.1, hp.1.2, rfl, rfl⟩) rfl rfl (Nat.le_of_ble_eq_true rfl) (Nat.le_of_ble_eq_true rfl) (sX6_become (by omega) (m := u) s hp (by omega) ?_)
              refine xe_iconst (v := 1) dX8_tape_60 rfl ?_
              refine xe_iret dX8_tape_61 rfl rfl ?_
              have hk : tapeOk (nI t) s (nI u) := ⟨ct, fun z => z ⟨⟨Int32.le_trans (by decide) (Int32.not_lt.mp h29), Int32.not_lt.mp h34⟩, Or.inr h40⟩, fun z => absurd h47 (Int32.not_le.mpr z.2)⟩
              generalize eτ : xsJ _ _ _ = τ
              have hu : Un (fun c => c = 103 + 2 * t ∨ c = 103 + 2 * t + 1) σ τ := by rw [← eτ]; exact ((Un.F (P := fun c => c = 103 + 2 * t ∨ c = 103 + 2 * t + 1) (Or.inl rfl)).tr (Un.F (Or.inl rfl))).tr (Un.J (Or.inr rfl))
              have e := h τ (hu.mono (fun c => tp_in ht))
              rw [if_pos hk, tapeV, if_pos ct, if_neg hk.2.1, if_neg hk.2.2, et] at e
              refine e (hT.one hu ?_ ?_ ?_ (fun u z => ⟨pk_un z, pk_un z, fun j hj => ?_⟩))
              · rw [← eτ, pk_us]; simp [xsJ_1, xsF1]
              · rw [← eτ, pk_us]; simp [xsJ_1, xsF1]; exact fun z => absurd z h29
              · intro j hj; rw [← eτ, xsJ_get, if_pos hj]; unfold zeroJ; rw [if_pos ⟨by omega, by omega⟩]
              · unfold zeroJ; rw [if_neg (by omega)]
            · refine xe_bipush (v := -14) dX8_tape_50 rfl ?_
              refine xe_iret dX8_tape_52 rfl rfl ?_
              have hb : ¬ tapeBad s m := fun z => z ⟨⟨Int32.le_trans (by decide) (Int32.not_lt.mp h29), Int32.not_lt.mp h34⟩, Or.inr h40⟩
              have hn : 0 ≤ s ∧ m < 0 := ⟨Int32.not_lt.mp h29, Int32.not_le.mp h47⟩
              have e := h σ Un.rf
              rw [if_neg (fun z => z.2.2 hn), tapeV, if_pos ct, if_neg hb, if_pos hn] at e
              exact e hT
          · refine xe_bipush (v := -2) dX8_tape_43 rfl ?_
            refine xe_iret dX8_tape_45 rfl rfl ?_
            have hk : tapeBad s m := by first | exact fun z => (neg1 z.1.1).elim h16 (fun q => absurd q (Int32.not_le.mpr h29)) | exact fun z => absurd z.1.2 (Int32.not_le.mpr h34) | exact fun z => z.2.elim (fun q => h29 q) (fun q => h40 q)
            have e := h σ Un.rf
            rw [if_neg (fun z => z.2.1 hk), tapeV, if_pos ct, if_pos hk] at e
            exact e hT
    · refine xe_aload dX8_tape_19 rfl ?_
      refine xe_iconst (v := -1) dX8_tape_21 rfl ?_
      refine xe_iconst (v := 0) dX8_tape_22 rfl ?_
      refine xe_callv (k2 := kX6_become) (vs := [_, _]) dX8_tape_23 okX6_become mlX8_363 imX6_become slX6_become (Or.inl ⟨6, _, _, hp.1.1, hp.1.2, rfl, rfl⟩) rfl rfl (Nat.le_of_ble_eq_true rfl) (Nat.le_of_ble_eq_true rfl) (sX6_become (by omega) (m := 0) (-1) hp (by omega) ?_)
      refine xe_iconst (v := 1) dX8_tape_26 rfl ?_
      refine xe_iret dX8_tape_27 rfl rfl ?_
      subst h16
      have hk : tapeOk (nI t) (-1) m := ⟨ct, fun z => z ⟨by decide, Or.inl (by decide)⟩, fun z => absurd z.1 (by decide)⟩
      generalize eτ : xsJ _ _ _ = τ
      have hu : Un (fun c => c = 103 + 2 * t ∨ c = 103 + 2 * t + 1) σ τ := by rw [← eτ]; exact ((Un.F (P := fun c => c = 103 + 2 * t ∨ c = 103 + 2 * t + 1) (Or.inl rfl)).tr (Un.F (Or.inl rfl))).tr (Un.J (Or.inr rfl))
      have e := h τ (hu.mono (fun c => tp_in ht))
      rw [if_pos hk, tapeV, if_pos ct, if_neg hk.2.1, if_neg hk.2.2, et] at e
      refine e (hT.one hu ?_ ?_ ?_ (fun u z => ⟨pk_un z, pk_un z, fun j hj => ?_⟩))
      · rw [← eτ, pk_us]; simp [xsJ_1, xsF1]
      · rw [← eτ, pk_us]; simp [xsJ_1, xsF1]; rfl
      · intro j hj; rw [← eτ, xsJ_get, if_pos hj]; unfold zeroJ; rw [if_pos ⟨by omega, by omega⟩]
      · unfold zeroJ; rw [if_neg (by omega)]
  · skip
    refine xe_astoreN (lv2 := [_, _, _, _, _]) dX8_tape_5 (by decide) rfl ?_
    refine xe_aloadN dX8_tape_7 rfl ?_
    refine xe_ifnonnullN dX8_tape_9 ?_
    refine xe_iconst (v := -1) dX8_tape_12 rfl ?_
    refine xe_iret dX8_tape_13 rfl rfl ?_
    have e := h σ Un.rf
    rw [if_neg (fun z => hx z.1), tapeV, if_neg hx] at e
    exact e hT

theorem sX8_item {d : Nat} (hd : 1 ≤ d) {σ : xSt} {Post : Option Value → xSt → Prop} (so ln : Nat → Int32) (it : Nat → Int64) (x i : Int32) (v : Int64) (hT : RepTp σ so ln it) (hO : TpOk so ln) (h : ∀ τ, Un tpC σ τ → RepTp τ so ln (if itemV so ln x i = 1 then vp_updL it (60 * cN x + cN i) (loB (so (cN x)) v) else it) → Post (some (.int (itemV so ln x i))) τ) : xM kX8_item d [.ref 0, .int x, .int i, .long v] σ Post := by
  obtain ⟨d, rfl⟩ : ∃ e, d = e + 1 := ⟨d - 1, by omega⟩
  refine xM_start (lv := [some (.ref 0), some (.int x), some (.int i), some (.long v), none, none]) rfl ?_
  refine xe_aload_n dX8_item_0 rfl ?_
  refine xe_iload_n dX8_item_1 rfl ?_
  refine xe_callv (k2 := kX8_tapeAt) (vs := [_]) dX8_item_2 okX8_tapeAt mlX8_322 imX8_tapeAt slX8_tapeAt (Or.inl ⟨8, _, _, by decide, rfl, rfl, rfl⟩) rfl rfl (Nat.le_of_ble_eq_true rfl) (Nat.le_of_ble_eq_true rfl) (sX8_tapeAt (by omega) x ⟨fun t ht et => ?_, fun hx => ?_⟩)
  · skip
    subst et
    have hp := isTp_t ht
    have ct : rng (nI t) 0 5 := ⟨nI_pos' (by omega), nI_le (b := 5) (by omega) (by omega)⟩
    have et : cN (nI t) = t := cN_nI (by omega)
    obtain ⟨s1, s2, s3⟩ := hT t ht
    obtain ⟨⟨m, hm, em⟩, hso⟩ := hO t ht
    refine xe_astore (lv2 := [_, _, _, _, _, _]) dX8_item_5 (by decide) rfl ?_
    refine xe_aload dX8_item_7 rfl ?_
    refine xe_ifnonnull (tgt := 14) dX8_item_9 (by decide) ?_
    refine xe_aload dX8_item_14 rfl ?_
    refine xe_getf dX8_item_16 flX8_326 hp.1.1 hp.1.2 rfl ?_
    rw [s1]
    refine xe_iconst (v := -1) dX8_item_19 rfl ?_
    refine xe_icmp_ne (tgt := 26) dX8_item_20 (by decide) (fun h20 => ?_) (fun h20 => ?_)
    · obtain ⟨w, hw, ew⟩ := hso.resolve_left h20
      have hng : ¬ so t < 0 := by rw [ew]; exact nI_pos (by omega)
      refine xe_aload dX8_item_26 rfl ?_
      refine xe_iload_n dX8_item_28 rfl ?_
      refine xe_callv (k2 := kX6_has) (vs := [_]) dX8_item_29 okX6_has mlX8_329 imX6_has slX6_has (Or.inl ⟨6, _, _, hp.1.1, hp.1.2, rfl, rfl⟩) rfl rfl (Nat.le_of_ble_eq_true rfl) (Nat.le_of_ble_eq_true rfl) (sX6_has (by omega) i hp ?_)
      rw [s2, em]
      refine xe_if_ne (tgt := 38) dX8_item_32 (by decide) (fun h32 => ?_) (fun h32 => ?_)
      · have hi := (xb_ne0 rfl).mp h32
        obtain ⟨j, hj, rfl⟩ := pOk_nat (by omega) hi
        refine xe_aload dX8_item_38 rfl ?_
        refine xe_getr dX8_item_40 flX8_332 hp.1.1 hp.1.2 rfl ?_
        refine xe_iload_n dX8_item_43 rfl ?_
        refine xe_aload dX8_item_44 rfl ?_
        refine xe_lload_n dX8_item_46 rfl ?_
        refine xe_callv (k2 := kX6_lowest) (vs := [_]) dX8_item_47 okX6_lowest mlX8_366 imX6_lowest slX6_lowest (Or.inl ⟨6, _, _, hp.1.1, hp.1.2, rfl, rfl⟩) rfl rfl (Nat.le_of_ble_eq_true rfl) (Nat.le_of_ble_eq_true rfl) (sX6_lowest (by omega) w v hp (s1.trans ew) hw ?_)
        refine xn_lastore (j := j) dX8_item_50 hp.2.1 hp.2.2 (by first | with_reducible rfl | (simp only [xl, pk_mul, nI_add, nI_1]; done) | (simp only [xl, pk_mul, nI_add, nI_1]; rfl)) (by omega) (by first | decide | omega) ?_
        refine xe_iconst (v := 1) dX8_item_51 rfl ?_
        refine xe_iret dX8_item_52 rfl rfl ?_
        have ev : itemV so ln (nI t) (nI j) = 1 := by rw [itemV, if_pos ct, et, if_neg hng, em, if_pos ((lt_pred hm).mp hi)]
        generalize eτ : xsJ _ _ _ = τ
        have hu : Un (fun c => c = 103 + 2 * t ∨ c = 103 + 2 * t + 1) σ τ := by rw [← eτ]; exact Un.J (Or.inr rfl)
        have e := h τ (hu.mono (fun c => tp_in ht))
        rw [ev, if_pos rfl, et, cN_nI (by omega), ew] at e
        refine e (hT.one hu ?_ ?_ ?_ (fun u z => ⟨rfl, rfl, fun k hk => pk_uLn (by omega)⟩))
        · rw [← eτ]; exact s1
        · rw [← eτ]; exact s2
        · intro k hk; rw [← eτ, xsJ_get]
          by_cases z : k = j
          · subst z; rw [pk_uLs, pk_uLs]
          · rw [pk_uLn z, pk_uLn (by omega)]; exact s3 k hk
      · refine xe_bipush (v := -13) dX8_item_35 rfl ?_
        refine xe_iret dX8_item_37 rfl rfl ?_
        have e := h σ Un.rf
        have ev : itemV so ln (nI t) i = -13 := by rw [itemV, if_pos ct, et, if_neg hng, em, if_neg (fun z => (xb_eq0 rfl).mp h32 ((lt_pred hm).mpr z))]
        rw [ev, if_neg (by decide)] at e
        exact e hT
    · refine xe_bipush (v := -11) dX8_item_23 rfl ?_
      refine xe_iret dX8_item_25 rfl rfl ?_
      have e := h σ Un.rf
      have ev : itemV so ln (nI t) i = -11 := by rw [itemV, if_pos ct, et, if_pos (show so t < 0 by rw [h20]; decide)]
      rw [ev, if_neg (by decide)] at e
      exact e hT
  · skip
    refine xe_astoreN (lv2 := [_, _, _, _, _, _]) dX8_item_5 (by decide) rfl ?_
    refine xe_aloadN dX8_item_7 rfl ?_
    refine xe_ifnonnullN dX8_item_9 ?_
    refine xe_iconst (v := -1) dX8_item_12 rfl ?_
    refine xe_iret dX8_item_13 rfl rfl ?_
    have e := h σ Un.rf
    have ev : itemV so ln x i = -1 := by rw [itemV, if_neg hx]
    rw [ev, if_neg (by decide)] at e
    exact e hT

theorem sX8_read {d : Nat} (hd : 1 ≤ d) {σ : xSt} {Post : Option Value → xSt → Prop} (so ln : Nat → Int32) (it : Nat → Int64) (x i : Int32) (hT : RepTp σ so ln it) (hO : TpOk so ln) (h : Post (some (.long (readV ln it x i))) σ) : xM kX8_read d [.ref 0, .int x, .int i] σ Post := by
  obtain ⟨d, rfl⟩ : ∃ e, d = e + 1 := ⟨d - 1, by omega⟩
  refine xM_start (lv := [some (.ref 0), some (.int x), some (.int i), none]) rfl ?_
  refine xe_aload_n dX8_read_0 rfl ?_
  refine xe_iload_n dX8_read_1 rfl ?_
  refine xe_callv (k2 := kX8_tapeAt) (vs := [_]) dX8_read_2 okX8_tapeAt mlX8_322 imX8_tapeAt slX8_tapeAt (Or.inl ⟨8, _, _, by decide, rfl, rfl, rfl⟩) rfl rfl (Nat.le_of_ble_eq_true rfl) (Nat.le_of_ble_eq_true rfl) (sX8_tapeAt (by omega) x ⟨fun t ht et => ?_, fun hx => ?_⟩)
  · skip
    subst et
    have hp := isTp_t ht
    have ct : rng (nI t) 0 5 := ⟨nI_pos' (by omega), nI_le (b := 5) (by omega) (by omega)⟩
    have et : cN (nI t) = t := cN_nI (by omega)
    obtain ⟨s1, s2, s3⟩ := hT t ht
    obtain ⟨⟨m, hm, em⟩, hso⟩ := hO t ht
    refine xe_astore_n (lv2 := [_, _, _, _]) dX8_read_5 (by decide) rfl ?_
    refine xe_aload_n dX8_read_6 rfl ?_
    refine xe_ifnull dX8_read_7 ?_
    refine xe_aload_n dX8_read_10 rfl ?_
    refine xe_iload_n dX8_read_11 rfl ?_
    refine xe_callv (k2 := kX6_has) (vs := [_]) dX8_read_12 okX6_has mlX8_329 imX6_has slX6_has (Or.inl ⟨6, _, _, hp.1.1, hp.1.2, rfl, rfl⟩) rfl rfl (Nat.le_of_ble_eq_true rfl) (Nat.le_of_ble_eq_true rfl) (sX6_has (by omega) i hp ?_)
    rw [s2, em]
    refine xe_if_eq (tgt := 27) dX8_read_15 (by decide) (fun h15 => ?_) (fun h15 => ?_)
    · refine xe_ldc2 dX8_read_27 cnX8_272 ?_
      refine xe_lret dX8_read_30 rfl ?_
      first | (rw [readV, et, em, if_neg (fun z => (xb_eq0 rfl).mp h15 ((lt_pred hm).mpr z.2))] at h; exact h) | (rw [readV, et, em, if_pos ⟨ct, (lt_pred hm).mp hi⟩, cN_nI (by omega)] at h; rw [s3 j (by omega)]; exact h)
    · have hi := (xb_ne0 rfl).mp h15
      obtain ⟨j, hj, rfl⟩ := pOk_nat (by omega) hi
      refine xe_aload_n dX8_read_18 rfl ?_
      refine xe_getr dX8_read_19 flX8_332 hp.1.1 hp.1.2 rfl ?_
      refine xe_iload_n dX8_read_22 rfl ?_
      refine xn_laload (j := j) dX8_read_23 hp.2.1 hp.2.2 (by first | with_reducible rfl | (simp only [xl, pk_mul, nI_add, nI_1]; done) | (simp only [xl, pk_mul, nI_add, nI_1]; rfl)) (by omega) (by first | decide | omega) ?_
      refine xe_goto (tgt := 30) dX8_read_24 (by decide) ?_
      refine xe_lret dX8_read_30 rfl ?_
      first | (rw [readV, et, em, if_neg (fun z => (xb_eq0 rfl).mp h15 ((lt_pred hm).mpr z.2))] at h; exact h) | (rw [readV, et, em, if_pos ⟨ct, (lt_pred hm).mp hi⟩, cN_nI (by omega)] at h; rw [s3 j (by omega)]; exact h)
  · skip
    refine xe_astore_nN (lv2 := [_, _, _, _]) dX8_read_5 (by decide) rfl ?_
    refine xe_aload_nN dX8_read_6 rfl ?_
    refine xe_ifnullN (tgt := 27) dX8_read_7 (by decide) ?_
    refine xe_ldc2 dX8_read_27 cnX8_272 ?_
    refine xe_lret dX8_read_30 rfl ?_
    rw [readV, if_neg (fun z => hx z.1)] at h; exact h

theorem sX8_shift {d : Nat} (hd : 1 ≤ d) {σ : xSt} {Post : Option Value → xSt → Prop} (so ln : Nat → Int32) (it : Nat → Int64) (x i y j w : Int32) (hT : RepTp σ so ln it) (hO : TpOk so ln) (h : ∀ τ, Un tpC σ τ → RepTp τ so ln (if shiftOk so ln x i y j w then va_cpy it it (60 * cN x + cN i) (60 * cN y + cN j) (cN w) else it) → Post (some (.int (shiftV so ln x i y j w))) τ) : xM kX8_shift d [.ref 0, .int x, .int i, .int y, .int j, .int w] σ Post := by
  obtain ⟨d, rfl⟩ : ∃ e, d = e + 1 := ⟨d - 1, by omega⟩
  refine xM_start (lv := [some (.ref 0), some (.int x), some (.int i), some (.int y), some (.int j), some (.int w), none, none]) rfl ?_
  refine xe_aload_n dX8_shift_0 rfl ?_
  refine xe_iload_n dX8_shift_1 rfl ?_
  refine xe_callv (k2 := kX8_tapeAt) (vs := [_]) dX8_shift_2 okX8_tapeAt mlX8_322 imX8_tapeAt slX8_tapeAt (Or.inl ⟨8, _, _, by decide, rfl, rfl, rfl⟩) rfl rfl (Nat.le_of_ble_eq_true rfl) (Nat.le_of_ble_eq_true rfl) (sX8_tapeAt (by omega) x ⟨fun t ht et => ?_, fun hx => ?_⟩)
  · skip
    subst et
    have hp := isTp_t ht
    have ct : rng (nI t) 0 5 := ⟨nI_pos' (by omega), nI_le (b := 5) (by omega) (by omega)⟩
    have et : cN (nI t) = t := cN_nI (by omega)
    obtain ⟨s1, s2, s3⟩ := hT t ht
    obtain ⟨⟨m, hm, em⟩, hso⟩ := hO t ht
    refine xe_astore (lv2 := [_, _, _, _, _, _, _, _]) dX8_shift_5 (by decide) rfl ?_
    refine xe_aload_n dX8_shift_7 rfl ?_
    refine xe_iload_n dX8_shift_8 rfl ?_
    refine xe_callv (k2 := kX8_tapeAt) (vs := [_]) dX8_shift_9 okX8_tapeAt mlX8_322 imX8_tapeAt slX8_tapeAt (Or.inl ⟨8, _, _, by decide, rfl, rfl, rfl⟩) rfl rfl (Nat.le_of_ble_eq_true rfl) (Nat.le_of_ble_eq_true rfl) (sX8_tapeAt (by omega) y ⟨fun o ho eo => ?_, fun hy => ?_⟩)
    · skip
      subst eo
      have hq := isTp_t ho
      have co : rng (nI o) 0 5 := ⟨nI_pos' (by omega), nI_le (b := 5) (by omega) (by omega)⟩
      have eo : cN (nI o) = o := cN_nI (by omega)
      obtain ⟨q1, q2, q3⟩ := hT o ho
      obtain ⟨⟨m2, hm2, em2⟩, hso2⟩ := hO o ho
      refine xe_astore (lv2 := [_, _, _, _, _, _, _, _]) dX8_shift_12 (by decide) rfl ?_
      refine xe_aload dX8_shift_14 rfl ?_
      refine xe_ifnull dX8_shift_16 ?_
      refine xe_aload dX8_shift_19 rfl ?_
      refine xe_ifnonnull (tgt := 26) dX8_shift_21 (by decide) ?_
      refine xe_aload dX8_shift_26 rfl ?_
      refine xe_getf dX8_shift_28 flX8_326 hp.1.1 hp.1.2 rfl ?_
      rw [s1]
      refine xe_iconst (v := -1) dX8_shift_31 rfl ?_
      refine xe_icmp_eq (tgt := 44) dX8_shift_32 (by decide) (fun h32 => ?_) (fun h32 => ?_)
      · refine xe_bipush (v := -11) dX8_shift_44 rfl ?_
        refine xe_iret dX8_shift_46 rfl rfl ?_
        have hn : so (cN (nI t)) < 0 ∨ so (cN (nI o)) < 0 := by first | exact Or.inl (by rw [et, h32]; decide) | exact Or.inr (by rw [eo, h41]; decide)
        have e := h σ Un.rf
        rw [if_neg (fun z => z.2.1 hn), shiftV, if_pos ⟨ct, co⟩, if_pos hn] at e
        exact e hT
      · refine xe_aload dX8_shift_35 rfl ?_
        refine xe_getf dX8_shift_37 flX8_326 hq.1.1 hq.1.2 rfl ?_
        rw [q1]
        refine xe_iconst (v := -1) dX8_shift_40 rfl ?_
        refine xe_icmp_ne (tgt := 47) dX8_shift_41 (by decide) (fun h41 => ?_) (fun h41 => ?_)
        · obtain ⟨u, hu4, eu⟩ := hso.resolve_left h32
          obtain ⟨u2, hu42, eu2⟩ := hso2.resolve_left h41
          have hng : ¬ (so t < 0 ∨ so o < 0) := fun z => z.elim (by rw [eu]; exact nI_pos (by omega)) (by rw [eu2]; exact nI_pos (by omega))
          have hngC : ¬ (so (cN (nI t)) < 0 ∨ so (cN (nI o)) < 0) := by rw [et, eo]; exact hng
          refine xe_aload dX8_shift_47 rfl ?_
          refine xe_getf dX8_shift_49 flX8_326 hp.1.1 hp.1.2 rfl ?_
          rw [s1]
          refine xe_aload dX8_shift_52 rfl ?_
          refine xe_getf dX8_shift_54 flX8_326 hq.1.1 hq.1.2 rfl ?_
          rw [q1]
          refine xe_icmp_eq (tgt := 63) dX8_shift_57 (by decide) (fun h57 => ?_) (fun h57 => ?_)
          · refine xe_aload dX8_shift_63 rfl ?_
            refine xe_iload_n dX8_shift_65 rfl ?_
            refine xe_iload dX8_shift_66 rfl ?_
            refine xe_callv (k2 := kX6_spans) (vs := [_, _]) dX8_shift_68 okX6_spans mlX8_370 imX6_spans slX6_spans (Or.inl ⟨6, _, _, hp.1.1, hp.1.2, rfl, rfl⟩) rfl rfl (Nat.le_of_ble_eq_true rfl) (Nat.le_of_ble_eq_true rfl) (sX6_spans (by omega) i w hp ?_)
            rw [s2, em]
            refine xe_if_eq (tgt := 86) dX8_shift_71 (by decide) (fun h71 => ?_) (fun h71 => ?_)
            · refine xe_bipush (v := -13) dX8_shift_86 rfl ?_
              refine xe_iret dX8_shift_88 rfl rfl ?_
              have hb : shiftPl ln (nI t) i (nI o) j w := by
                by_cases z1 : w < 0
                · exact Or.inl z1
                · by_cases z2 : i < 0
                  · exact Or.inr (Or.inl z2)
                  · by_cases z3 : j < 0
                    · exact Or.inr (Or.inr (Or.inl z3))
                    · first
                      | exact Or.inr (Or.inr (Or.inr (Or.inl (by rw [et, em]; exact Decidable.byContradiction (fun z => (xb_eq0 rfl).mp h71 ⟨Int32.not_lt.mp z1, Int32.not_lt.mp z2, (spn hm (Int32.not_lt.mp z2) (Int32.not_lt.mp z1)).mpr z⟩)))))
                      | exact Or.inr (Or.inr (Or.inr (Or.inr (by rw [eo, em2]; exact Decidable.byContradiction (fun z => (xb_eq0 rfl).mp h83 ⟨Int32.not_lt.mp z1, Int32.not_lt.mp z3, (spn hm2 (Int32.not_lt.mp z3) (Int32.not_lt.mp z1)).mpr z⟩)))))
              have e := h σ Un.rf
              have h57C : so (cN (nI t)) = so (cN (nI o)) := by rw [et, eo]; exact h57
              rw [if_neg (fun z => z.2.2.2 hb), shiftV, if_pos ⟨ct, co⟩, if_neg hngC, if_pos h57C, if_pos hb] at e
              exact e hT
            · refine xe_aload dX8_shift_74 rfl ?_
              refine xe_iload dX8_shift_76 rfl ?_
              refine xe_iload dX8_shift_78 rfl ?_
              refine xe_callv (k2 := kX6_spans) (vs := [_, _]) dX8_shift_80 okX6_spans mlX8_370 imX6_spans slX6_spans (Or.inl ⟨6, _, _, hq.1.1, hq.1.2, rfl, rfl⟩) rfl rfl (Nat.le_of_ble_eq_true rfl) (Nat.le_of_ble_eq_true rfl) (sX6_spans (by omega) j w hq ?_)
              rw [q2, em2]
              refine xe_if_ne (tgt := 89) dX8_shift_83 (by decide) (fun h83 => ?_) (fun h83 => ?_)
              · have a1 := (xb_ne0 rfl).mp h71
                have a2 := (xb_ne0 rfl).mp h83
                obtain ⟨a, ha, rfl⟩ := nI_of (Int32.not_lt.mpr a1.2.1)
                obtain ⟨b, hb, rfl⟩ := nI_of (Int32.not_lt.mpr a2.2.1)
                obtain ⟨c, hc, rfl⟩ := nI_of (Int32.not_lt.mpr a1.1)
                have n1 : c ≤ m := nLe (by omega) (by omega) a1.2.2.1
                have n2 : c ≤ m2 := nLe (by omega) (by omega) a2.2.2.1
                have n3 : a ≤ m - c := nLe (by omega) (by omega) (by rw [← pk_sub n1]; exact a1.2.2.2)
                have n4 : b ≤ m2 - c := nLe (by omega) (by omega) (by rw [← pk_sub n2]; exact a2.2.2.2)
                refine xe_aload dX8_shift_89 rfl ?_
                refine xe_getr dX8_shift_91 flX8_332 hp.1.1 hp.1.2 rfl ?_
                refine xe_iload_n dX8_shift_94 rfl ?_
                refine xe_aload dX8_shift_95 rfl ?_
                refine xe_getr dX8_shift_97 flX8_332 hq.1.1 hq.1.2 rfl ?_
                refine xe_iload dX8_shift_100 rfl ?_
                refine xe_iload dX8_shift_102 rfl ?_
                refine xe_copyl dX8_shift_104 mlX8_373 (by omega) hp.2.1 hp.2.2 hq.2.1 hq.2.2 (nI_pos (by omega)) (nI_pos (by omega)) (nI_pos (by omega)) (by rw [nI_clamp (by omega), nI_clamp (by omega)]; omega) (by rw [nI_clamp (by omega), nI_clamp (by omega)]; omega) rfl ?_
                rw [nI_clamp (n := a) (by omega), nI_clamp (n := b) (by omega), nI_clamp (n := c) (by omega)]
                refine xe_iload dX8_shift_107 rfl ?_
                refine xe_iret dX8_shift_109 rfl rfl ?_
                have hb2 : ¬ shiftPl ln (nI t) (nI a) (nI o) (nI b) (nI c) := by
                  rw [shiftPl, et, eo, em, em2]
                  rintro (z | z | z | z | z)
                  · exact nI_pos (by omega) z
                  · exact nI_pos (by omega) z
                  · exact nI_pos (by omega) z
                  · exact (spn hm (nI_pos' (by omega)) (nI_pos' (by omega))).mp ⟨a1.2.2.1, a1.2.2.2⟩ z
                  · exact (spn hm2 (nI_pos' (by omega)) (nI_pos' (by omega))).mp ⟨a2.2.2.1, a2.2.2.2⟩ z
                generalize eτ : xsJ _ _ _ = τ
                have hu : Un (fun c => c = 103 + 2 * o ∨ c = 103 + 2 * o + 1) σ τ := by rw [← eτ]; exact Un.J (Or.inr rfl)
                have e := h τ (hu.mono (fun c => tp_in ho))
                have hso3 : shiftOk so ln (nI t) (nI a) (nI o) (nI b) (nI c) := ⟨⟨ct, co⟩, by rw [et, eo]; exact hng, by rw [et, eo]; exact h57, hb2⟩
                rw [if_pos hso3, shiftV, if_pos ⟨ct, co⟩, if_neg hso3.2.1, if_pos hso3.2.2.1, if_neg hb2, et, eo, cN_nI (n := a) (by omega), cN_nI (n := b) (by omega), cN_nI (n := c) (by omega)] at e
                refine e (hT.one hu ?_ ?_ ?_ (fun u z => ⟨rfl, rfl, fun k hk => pk_cpy_out (by omega)⟩))
                · rw [← eτ]; exact q1
                · rw [← eτ]; exact q2
                · intro k hk; rw [← eτ, xsJ_get]
                  by_cases z : b ≤ k ∧ k < b + c
                  · rw [pk_cpy_in z.1 z.2, pk_cpy_in (by omega) (by omega), s3 _ (by omega)]; congr 1; omega
                  · rw [pk_cpy_out (by omega), pk_cpy_out (by omega)]; exact q3 k hk
              · refine xe_bipush (v := -13) dX8_shift_86 rfl ?_
                refine xe_iret dX8_shift_88 rfl rfl ?_
                have hb : shiftPl ln (nI t) i (nI o) j w := by
                  by_cases z1 : w < 0
                  · exact Or.inl z1
                  · by_cases z2 : i < 0
                    · exact Or.inr (Or.inl z2)
                    · by_cases z3 : j < 0
                      · exact Or.inr (Or.inr (Or.inl z3))
                      · first
                        | exact Or.inr (Or.inr (Or.inr (Or.inl (by rw [et, em]; exact Decidable.byContradiction (fun z => (xb_eq0 rfl).mp h71 ⟨Int32.not_lt.mp z1, Int32.not_lt.mp z2, (spn hm (Int32.not_lt.mp z2) (Int32.not_lt.mp z1)).mpr z⟩)))))
                        | exact Or.inr (Or.inr (Or.inr (Or.inr (by rw [eo, em2]; exact Decidable.byContradiction (fun z => (xb_eq0 rfl).mp h83 ⟨Int32.not_lt.mp z1, Int32.not_lt.mp z3, (spn hm2 (Int32.not_lt.mp z3) (Int32.not_lt.mp z1)).mpr z⟩)))))
                have e := h σ Un.rf
                have h57C : so (cN (nI t)) = so (cN (nI o)) := by rw [et, eo]; exact h57
                rw [if_neg (fun z => z.2.2.2 hb), shiftV, if_pos ⟨ct, co⟩, if_neg hngC, if_pos h57C, if_pos hb] at e
                exact e hT
          · refine xe_bipush (v := -12) dX8_shift_60 rfl ?_
            refine xe_iret dX8_shift_62 rfl rfl ?_
            have e := h σ Un.rf
            have h57C : ¬ so (cN (nI t)) = so (cN (nI o)) := by rw [et, eo]; exact h57
            rw [if_neg (fun z => h57C z.2.2.1), shiftV, if_pos ⟨ct, co⟩, if_neg hngC, if_neg h57C] at e
            exact e hT
        · refine xe_bipush (v := -11) dX8_shift_44 rfl ?_
          refine xe_iret dX8_shift_46 rfl rfl ?_
          have hn : so (cN (nI t)) < 0 ∨ so (cN (nI o)) < 0 := by first | exact Or.inl (by rw [et, h32]; decide) | exact Or.inr (by rw [eo, h41]; decide)
          have e := h σ Un.rf
          rw [if_neg (fun z => z.2.1 hn), shiftV, if_pos ⟨ct, co⟩, if_pos hn] at e
          exact e hT
    · skip
      refine xe_astoreN (lv2 := [_, _, _, _, _, _, _, _]) dX8_shift_12 (by decide) rfl ?_
      refine xe_aload dX8_shift_14 rfl ?_
      refine xe_ifnull dX8_shift_16 ?_
      refine xe_aloadN dX8_shift_19 rfl ?_
      refine xe_ifnonnullN dX8_shift_21 ?_
      refine xe_iconst (v := -1) dX8_shift_24 rfl ?_
      refine xe_iret dX8_shift_25 rfl rfl ?_
      have e := h σ Un.rf
      rw [if_neg (fun z => hy z.1.2), shiftV, if_neg (fun z => hy z.2)] at e
      exact e hT
  · skip
    refine xe_astoreN (lv2 := [_, _, _, _, _, _, _, _]) dX8_shift_5 (by decide) rfl ?_
    refine xe_aload_n dX8_shift_7 rfl ?_
    refine xe_iload_n dX8_shift_8 rfl ?_
    refine xe_callv (k2 := kX8_tapeAt) (vs := [_]) dX8_shift_9 okX8_tapeAt mlX8_322 imX8_tapeAt slX8_tapeAt (Or.inl ⟨8, _, _, by decide, rfl, rfl, rfl⟩) rfl rfl (Nat.le_of_ble_eq_true rfl) (Nat.le_of_ble_eq_true rfl) (sX8_tapeAt (by omega) y ⟨fun o ho eo => ?_, fun hy => ?_⟩)
    · skip
      subst eo
      have hq := isTp_t ho
      have co : rng (nI o) 0 5 := ⟨nI_pos' (by omega), nI_le (b := 5) (by omega) (by omega)⟩
      have eo : cN (nI o) = o := cN_nI (by omega)
      obtain ⟨q1, q2, q3⟩ := hT o ho
      obtain ⟨⟨m2, hm2, em2⟩, hso2⟩ := hO o ho
      refine xe_astore (lv2 := [_, _, _, _, _, _, _, _]) dX8_shift_12 (by decide) rfl ?_
      refine xe_aloadN dX8_shift_14 rfl ?_
      refine xe_ifnullN (tgt := 24) dX8_shift_16 (by decide) ?_
      refine xe_iconst (v := -1) dX8_shift_24 rfl ?_
      refine xe_iret dX8_shift_25 rfl rfl ?_
      have e := h σ Un.rf
      rw [if_neg (fun z => hx z.1.1), shiftV, if_neg (fun z => hx z.1)] at e
      exact e hT
    · skip
      refine xe_astoreN (lv2 := [_, _, _, _, _, _, _, _]) dX8_shift_12 (by decide) rfl ?_
      refine xe_aloadN dX8_shift_14 rfl ?_
      refine xe_ifnullN (tgt := 24) dX8_shift_16 (by decide) ?_
      refine xe_iconst (v := -1) dX8_shift_24 rfl ?_
      refine xe_iret dX8_shift_25 rfl rfl ?_
      have e := h σ Un.rf
      rw [if_neg (fun z => hx z.1.1), shiftV, if_neg (fun z => hx z.1)] at e
      exact e hT

theorem jgF_succ (w ln : Int32) (it : Nat → Int64) (t i : Int32) (c f : Nat) : jgF w ln it t i (c + 1) f = if i < 0 ∨ ln.toInt64 ≤ i.toInt64 + (nI f).toInt64 then 100 + nI f else if it (60 * cN t + cN (i.toInt64 + (nI f).toInt64).toInt32) = (bit w f).toInt64 then jgF w ln it t i c (f + 1) else nI f := rfl
theorem jg_out {m f : Nat} {i : Int32} (hm : m ≤ 60) (hf : f < 8) (w : ¬ (0 ≤ i ∧ i < nI m)) : i < 0 ∨ (nI m).toInt64 ≤ i.toInt64 + (nI f).toInt64 := by
  by_cases z : i < 0
  · exact Or.inl z
  · right
    obtain ⟨a, ha, rfl⟩ := nI_of z
    have w2 : ¬ nI a < nI m := fun q => w ⟨Int32.not_lt.mp z, q⟩
    have := nNlt (by omega) (by omega) w2
    rw [nI_l (n := m) (by omega), nI_l (n := a) (by omega), nI_l (n := f) (by omega), lN_add, Int64.le_iff_toInt_le, lN_toInt (by omega), show (lN (a + f)).toInt = ((a + f : Nat) : Int) from lg_ofNat_toInt (by omega)]
    omega
theorem l01 {x : Int64} (h : x = 0 ∨ x = 1) (b : Int32) (hb : b = 0 ∨ b = 1) : ((if lg_cmp x 1 = 0 then (1 : Int32) else 0) = b) ↔ x = b.toInt64 := by
  rcases h with rfl | rfl <;> rcases hb with rfl | rfl <;> decide

theorem lX8_judge {d : Nat} {σ : xSt} {Post : Option Value → xSt → Prop} (so ln : Nat → Int32) (it : Nat → Int64) (t m : Nat) (i : Int32) (ht : t < 6) (hm : m ≤ 60) (s2 : σ.1 (103 + 2 * t) 2 = nI m) (s3 : ∀ j, j < 60 → σ.2.2 (103 + 2 * t + 1) j = it (60 * t + j)) (h01 : ∀ j, j < 60 → it (60 * t + j) = 0 ∨ it (60 * t + j) = 1) : ∀ (q f : Nat), f + q = 8 → Post (some (.int (jgF (σ.1 1 0) (nI m) it (nI t) i q f))) σ → xEv kX8_judge (d + 1) 37 [some (.ref 0), some (.int (nI t)), some (.int i), some (.ref (103 + 2 * t)), some (.int (nI f))] [] σ Post := by
  intro q
  induction q with
  | zero =>
    intro f hq h
    refine xe_iload dX8_judge_37 rfl ?_
    refine xe_bipush (v := 8) dX8_judge_39 rfl ?_
    refine xe_icmp_ge (tgt := 112) dX8_judge_41 (by decide) (fun h41 => ?_) (fun h41 => absurd (show nI 8 ≤ nI f from nI_le (by omega) (by omega)) h41)
    refine xe_bipush (v := -5) dX8_judge_112 rfl ?_
    refine xe_iret dX8_judge_114 rfl rfl ?_
    exact h
  | succ q ih =>
    intro f hq h
    have hp := isTp_t ht
    rw [jgF_succ] at h
    refine xe_iload dX8_judge_37 rfl ?_
    refine xe_bipush (v := 8) dX8_judge_39 rfl ?_
    refine xe_icmp_ge (tgt := 112) dX8_judge_41 (by decide) (fun h41 => absurd h41 (show ¬ nI 8 ≤ nI f from nI_ge (by omega) (by omega))) (fun h41 => ?_)
    refine xe_aload_n dX8_judge_44 rfl ?_
    refine xe_iload_n dX8_judge_45 rfl ?_
    refine xe_callv (k2 := kX6_has) (vs := [_]) dX8_judge_46 okX6_has mlX8_329 imX6_has slX6_has (Or.inl ⟨6, _, _, hp.1.1, hp.1.2, rfl, rfl⟩) rfl rfl (Nat.le_of_ble_eq_true rfl) (Nat.le_of_ble_eq_true rfl) (sX6_has (by omega) i hp ?_)
    rw [s2]
    refine xe_if_eq (tgt := 63) dX8_judge_49 (by decide) (fun h49 => ?_) (fun h49 => ?_)
    · refine xe_bipush (v := 100) dX8_judge_63 rfl ?_
      refine xe_iload dX8_judge_65 rfl ?_
      refine xe_iadd dX8_judge_67 ?_
      refine xe_iret dX8_judge_68 rfl rfl ?_
      have cnd : i < 0 ∨ (nI m).toInt64 ≤ i.toInt64 + (nI f).toInt64 := by
        first
        | (right; rw [ea, nI_l (n := m) (by omega), nI_l (n := a) (by omega), nI_l (n := f) (by omega), lN_add, lN_le (by omega) (by omega)]; have w := (xb_eq0 rfl).mp h60; have w2 : ¬ nI (a + f) < nI m := fun q => w ⟨nI_pos' (by omega), q⟩; have := nNlt (by omega) (by omega) w2; omega)
        | exact jg_out hm (by omega) ((xb_eq0 rfl).mp h49)
      rw [if_pos cnd] at h; exact h
    · have hi := (xb_ne0 rfl).mp h49
      obtain ⟨a, ha, ea⟩ := pOk_nat (by omega) hi
      refine xe_aload_n dX8_judge_52 rfl ?_
      refine xe_iload_n dX8_judge_53 rfl ?_
      refine xe_iload dX8_judge_54 rfl ?_
      refine xe_iadd dX8_judge_56 ?_
      refine xe_top (x2 := nI (a + f)) (by rw [ea, nI_add]) ?_
      refine xe_callv (k2 := kX6_has) (vs := [_]) dX8_judge_57 okX6_has mlX8_329 imX6_has slX6_has (Or.inl ⟨6, _, _, hp.1.1, hp.1.2, rfl, rfl⟩) rfl rfl (Nat.le_of_ble_eq_true rfl) (Nat.le_of_ble_eq_true rfl) (sX6_has (by omega) _ hp ?_)
      rw [s2]
      refine xe_if_ne (tgt := 69) dX8_judge_60 (by decide) (fun h60 => ?_) (fun h60 => ?_)
      · have hi2 := (xb_ne0 rfl).mp h60
        have ha2 : a + f < m := nLt (by omega) (by omega) hi2.2
        have cnd : ¬ (i < 0 ∨ (nI m).toInt64 ≤ i.toInt64 + (nI f).toInt64) := by
          rw [ea]; rintro (z | z)
          · exact nI_pos (by omega) z
          · rw [nI_l (by omega), nI_l (by omega), nI_l (by omega), lN_add, lN_le (by omega) (by omega)] at z; omega
        have e64 : cN (i.toInt64 + (nI f).toInt64).toInt32 = a + f := by rw [ea, nI_l (n := a) (by omega), nI_l (n := f) (by omega), lN_add, lN_i, cN_nI (by omega)]
        rw [if_neg cnd, e64, cN_nI (n := t) (by omega)] at h
        have L := l01 (h01 (a + f) (by omega)) (bit (σ.1 1 0) f) (bit01 _ _)
        refine xe_aload_n dX8_judge_69 rfl ?_
        refine xe_getr dX8_judge_70 flX8_332 hp.1.1 hp.1.2 rfl ?_
        refine xe_iload_n dX8_judge_73 rfl ?_
        refine xe_iload dX8_judge_74 rfl ?_
        refine xe_iadd dX8_judge_76 ?_
        refine xe_top (x2 := nI (a + f)) (by rw [ea, nI_add]) ?_
        refine xn_laload (j := a + f) dX8_judge_77 hp.2.1 hp.2.2 (by first | with_reducible rfl | (simp only [xl, pk_mul, nI_add, nI_1]; done) | (simp only [xl, pk_mul, nI_add, nI_1]; rfl)) (by omega) (by first | decide | omega) ?_
        rw [s3 _ (by omega)]
        refine xe_lconst (v := 1) dX8_judge_78 rfl ?_
        refine xe_lcmp dX8_judge_79 ?_
        refine xe_if_ne (tgt := 87) dX8_judge_80 (by decide) (fun h80 => ?_) (fun h80 => ?_)
        · refine xe_iconst (v := 0) dX8_judge_87 rfl ?_
          refine xe_aload_n dX8_judge_88 rfl ?_
          refine xe_getr dX8_judge_89 flX8_12 (by decide) rfl rfl ?_
          refine xe_getf dX8_judge_92 flX8_114 (by decide) rfl rfl ?_
          refine xe_iload dX8_judge_95 rfl ?_
          refine xe_calls (k2 := kX8_isIn) (vs := [_, _]) dX8_judge_97 okX8_isIn mlX8_193 stX8_isIn rfl rfl (Nat.le_of_ble_eq_true rfl) (Nat.le_of_ble_eq_true rfl) (sX8_isIn (by omega) _ f ?_)
          refine xe_icmp_eq (tgt := 106) dX8_judge_100 (by decide) (fun h100 => ?_) (fun h100 => ?_)
          · refine xn_inc (j := f) (lv2 := [_, _, _, _, _]) dX8_judge_106 (by decide) rfl rfl ?_
            refine xe_goto (tgt := 37) dX8_judge_109 (by decide) ?_
            first | (rw [if_pos h80] at L; rw [if_pos (L.mp h100)] at h; exact ih (f + 1) (by omega) h) | (rw [if_neg h80] at L; rw [if_pos (L.mp h100)] at h; exact ih (f + 1) (by omega) h)
          · refine xe_iload dX8_judge_103 rfl ?_
            refine xe_iret dX8_judge_105 rfl rfl ?_
            first | (rw [if_pos h80] at L; rw [if_neg (fun z => h100 (L.mpr z))] at h; exact h) | (rw [if_neg h80] at L; rw [if_neg (fun z => h100 (L.mpr z))] at h; exact h)
        · refine xe_iconst (v := 1) dX8_judge_83 rfl ?_
          refine xe_goto (tgt := 88) dX8_judge_84 (by decide) ?_
          refine xe_aload_n dX8_judge_88 rfl ?_
          refine xe_getr dX8_judge_89 flX8_12 (by decide) rfl rfl ?_
          refine xe_getf dX8_judge_92 flX8_114 (by decide) rfl rfl ?_
          refine xe_iload dX8_judge_95 rfl ?_
          refine xe_calls (k2 := kX8_isIn) (vs := [_, _]) dX8_judge_97 okX8_isIn mlX8_193 stX8_isIn rfl rfl (Nat.le_of_ble_eq_true rfl) (Nat.le_of_ble_eq_true rfl) (sX8_isIn (by omega) _ f ?_)
          refine xe_icmp_eq (tgt := 106) dX8_judge_100 (by decide) (fun h100 => ?_) (fun h100 => ?_)
          · refine xn_inc (j := f) (lv2 := [_, _, _, _, _]) dX8_judge_106 (by decide) rfl rfl ?_
            refine xe_goto (tgt := 37) dX8_judge_109 (by decide) ?_
            first | (rw [if_pos h80] at L; rw [if_pos (L.mp h100)] at h; exact ih (f + 1) (by omega) h) | (rw [if_neg h80] at L; rw [if_pos (L.mp h100)] at h; exact ih (f + 1) (by omega) h)
          · refine xe_iload dX8_judge_103 rfl ?_
            refine xe_iret dX8_judge_105 rfl rfl ?_
            first | (rw [if_pos h80] at L; rw [if_neg (fun z => h100 (L.mpr z))] at h; exact h) | (rw [if_neg h80] at L; rw [if_neg (fun z => h100 (L.mpr z))] at h; exact h)
      · refine xe_bipush (v := 100) dX8_judge_63 rfl ?_
        refine xe_iload dX8_judge_65 rfl ?_
        refine xe_iadd dX8_judge_67 ?_
        refine xe_iret dX8_judge_68 rfl rfl ?_
        have cnd : i < 0 ∨ (nI m).toInt64 ≤ i.toInt64 + (nI f).toInt64 := by
          first
          | (right; rw [ea, nI_l (n := m) (by omega), nI_l (n := a) (by omega), nI_l (n := f) (by omega), lN_add, lN_le (by omega) (by omega)]; have w := (xb_eq0 rfl).mp h60; have w2 : ¬ nI (a + f) < nI m := fun q => w ⟨nI_pos' (by omega), q⟩; have := nNlt (by omega) (by omega) w2; omega)
          | exact jg_out hm (by omega) ((xb_eq0 rfl).mp h49)
        rw [if_pos cnd] at h; exact h

theorem sX8_judge {d : Nat} (hd : 1 ≤ d) {σ : xSt} {Post : Option Value → xSt → Prop} (so ln : Nat → Int32) (it : Nat → Int64) (x i : Int32) (hT : RepTp σ so ln it) (hO : TpOk so ln) (hl0 : ∀ t, t < 6 → so t = -1 → ln t = 0) (h01 : ∀ t, t < 6 → so t = 4 → ∀ j, j < 60 → it (60 * t + j) = 0 ∨ it (60 * t + j) = 1) (h : Post (some (.int (judgeV (σ.1 1 0) so ln it x i))) σ) : xM kX8_judge d [.ref 0, .int x, .int i] σ Post := by
  obtain ⟨d, rfl⟩ : ∃ e, d = e + 1 := ⟨d - 1, by omega⟩
  refine xM_start (lv := [some (.ref 0), some (.int x), some (.int i), none, none]) rfl ?_
  refine xe_aload_n dX8_judge_0 rfl ?_
  refine xe_iload_n dX8_judge_1 rfl ?_
  refine xe_callv (k2 := kX8_tapeAt) (vs := [_]) dX8_judge_2 okX8_tapeAt mlX8_322 imX8_tapeAt slX8_tapeAt (Or.inl ⟨8, _, _, by decide, rfl, rfl, rfl⟩) rfl rfl (Nat.le_of_ble_eq_true rfl) (Nat.le_of_ble_eq_true rfl) (sX8_tapeAt (by omega) x ⟨fun t ht et => ?_, fun hx => ?_⟩)
  · skip
    subst et
    have hp := isTp_t ht
    have ct : rng (nI t) 0 5 := ⟨nI_pos' (by omega), nI_le (b := 5) (by omega) (by omega)⟩
    have et : cN (nI t) = t := cN_nI (by omega)
    obtain ⟨s1, s2, s3⟩ := hT t ht
    obtain ⟨⟨m, hm, em⟩, hso⟩ := hO t ht
    refine xe_astore_n (lv2 := [_, _, _, _, _]) dX8_judge_5 (by decide) rfl ?_
    refine xe_aload_n dX8_judge_6 rfl ?_
    refine xe_ifnonnull (tgt := 12) dX8_judge_7 (by decide) ?_
    refine xe_aload_n dX8_judge_12 rfl ?_
    refine xe_getf dX8_judge_13 flX8_326 hp.1.1 hp.1.2 rfl ?_
    rw [s1]
    refine xe_iconst (v := -1) dX8_judge_16 rfl ?_
    refine xe_icmp_ne (tgt := 23) dX8_judge_17 (by decide) (fun h17 => ?_) (fun h17 => ?_)
    · refine xe_aload_n dX8_judge_23 rfl ?_
      refine xe_getf dX8_judge_24 flX8_326 hp.1.1 hp.1.2 rfl ?_
      rw [s1]
      refine xe_iconst (v := 4) dX8_judge_27 rfl ?_
      refine xe_icmp_eq (tgt := 34) dX8_judge_28 (by decide) (fun h28 => ?_) (fun h28 => ?_)
      · refine xe_iconst (v := 0) dX8_judge_34 rfl ?_
        refine xe_istore (lv2 := [_, _, _, _, _]) dX8_judge_35 (by decide) rfl ?_
        rw [judgeV, if_pos ct, et, if_pos (Or.inr h28), em] at h
        exact lX8_judge (d := d) so ln it t m i ht hm (s2.trans em) s3 (h01 t ht h28) 8 0 (by omega) h
      · refine xe_bipush (v := -12) dX8_judge_31 rfl ?_
        refine xe_iret dX8_judge_33 rfl rfl ?_
        rw [judgeV, if_pos ct, et, if_neg (fun z => z.elim h17 h28)] at h; exact h
    · refine xe_bipush (v := 100) dX8_judge_20 rfl ?_
      refine xe_iret dX8_judge_22 rfl rfl ?_
      have cnd := jg_out (m := 0) (f := 0) (i := i) (by omega) (by omega) (fun z => absurd z.2 (Int32.not_lt.mpr z.1))
      rw [judgeV, if_pos ct, et, if_pos (Or.inl h17), show ln t = nI 0 from hl0 t ht h17, jgF_succ, if_pos cnd] at h; exact h
  · skip
    refine xe_astore_nN (lv2 := [_, _, _, _, _]) dX8_judge_5 (by decide) rfl ?_
    refine xe_aload_nN dX8_judge_6 rfl ?_
    refine xe_ifnonnullN dX8_judge_7 ?_
    refine xe_iconst (v := -1) dX8_judge_10 rfl ?_
    refine xe_iret dX8_judge_11 rfl rfl ?_
    rw [judgeV, if_neg hx] at h; exact h
