/-! what is told of the worlds that fit: both ways alike -/
theorem nat8 (x : Int32) (h : ∀ i, 8 ≤ i → i < 32 → bt x i = false) : ∃ k, k < 256 ∧ x = nI k := by
  refine ⟨x.toBitVec.toNat, ?_, by unfold nI; simp⟩
  refine Nat.lt_pow_two_of_testBit (n := 8) _ (fun i hi => ?_)
  by_cases h2 : i < 32
  · exact h i hi h2
  · exact Nat.testBit_lt_two_pow (Nat.lt_of_lt_of_le x.toBitVec.isLt (Nat.pow_le_pow_right (by omega) (by omega)))
theorem szT : ∀ k, k < 256 → (1 : Int32) <<< ((8 - jBC (nI k)) &&& 31) = nI (pr (fun f => k.testBit f) 8) := by decide +kernel
section FITV
variable {s : fT} {fit : Nat → Bool}
theorem FIv.K (h : FIv s fit) : ∃ k, k < 256 ∧ s.2.1 = nI k := nat8 _ h.1
theorem FIv.Z (h : FIv s fit) : ∃ k, k < 256 ∧ s.2.2 = nI k := nat8 _ (fun i h8 hi => by
  cases q : bt s.2.2 i with
  | false => rfl
  | true => have := h.2.1 i hi q; rw [h.1 i h8 hi] at this; cases this)
theorem FIv.cnt (h : FIv s fit) : cntN fit 256 = if s.1 = true then pr (kn_ s) 8 else 0 := by
  rw [cntN_cg (fun w hw => h.2.2 w hw)]
  cases s.1 with
  | true => simp only [Bool.true_and, if_true]; exact fB_cnt _ _ 8
  | false => simp only [Bool.false_and]; exact cntN_0 256
theorem FIv.sz (h : FIv s fit) : szF s = nI (cntN fit 256) := by
  rw [h.cnt]
  unfold szF
  obtain ⟨k, hk, ek⟩ := h.K
  cases s.1 with
  | true =>
    simp only [if_true]
    rw [ek, szT k hk]
    congr 1
    refine pr_cg 8 (fun f hf => ?_)
    show _ = bt s.2.1 f
    rw [ek, bt_nI _ (by omega)]
  | false => rfl
theorem FIv.lo (h : FIv s fit) {z : Nat} (hz : s.2.2 = nI z) : fB (kn_ s) (so_ s) 8 z = true := by
  rw [fB_iff]
  intro f hf _
  show _ = bt s.2.2 f
  rw [hz, bt_nI _ (by omega)]
theorem FIv.le (h : FIv s fit) {z : Nat} (hz8 : z < 256) (hz : s.2.2 = nI z) {y : Nat} (hy : fB (kn_ s) (so_ s) 8 y = true) : ∀ i, z.testBit i = true → y.testBit i = true := by
  intro i hi
  have h8 : i < 8 := by
    rcases Nat.lt_or_ge i 8 with q | q
    · exact q
    · rw [Nat.testBit_lt_two_pow (Nat.lt_of_lt_of_le hz8 (Nat.pow_le_pow_right (n := 2) (i := 8) (by omega) q))] at hi; cases hi
  have e : so_ s i = true := by show bt s.2.2 i = true; rw [hz, bt_nI _ (by omega)]; exact hi
  rw [(fB_iff 8 y).mp hy i h8 (h.2.1 i (by omega) e)]; exact e
theorem bits_le {z y : Nat} (h : ∀ i, z.testBit i = true → y.testBit i = true) : z ≤ y := by
  have e : z &&& y = z := by
    apply Nat.eq_of_testBit_eq
    intro i
    rw [Nat.testBit_and]
    cases q : z.testBit i with
    | false => rfl
    | true => rw [h i q]; rfl
  rw [← e]; exact Nat.and_le_right
theorem lstF_some {f : Nat → Bool} {z : Nat} (hz : f z = true) : ∀ c w, w ≤ z → z < w + c → (∀ y, w ≤ y → y < z → f y = false) → lstF f c w = nI z := by
  intro c
  induction c with
  | zero => intro w h1 h2; omega
  | succ c ih =>
    intro w h1 h2 h3
    unfold lstF
    by_cases e : w = z
    · subst e; rw [if_pos hz]
    · rw [if_neg (by rw [h3 w (Nat.le_refl _) (by omega)]; decide)]
      exact ih (w + 1) (by omega) (by omega) (fun y q1 q2 => h3 y (by omega) q2)
theorem lstF_none {f : Nat → Bool} : ∀ c w, (∀ y, w ≤ y → y < w + c → f y = false) → lstF f c w = -5 := by
  intro c
  induction c with
  | zero => intro w _; rfl
  | succ c ih =>
    intro w h
    unfold lstF
    rw [if_neg (by rw [h w (Nat.le_refl _) (by omega)]; decide)]
    exact ih (w + 1) (fun y q1 q2 => h y (by omega) (by omega))
theorem FIv.lst (h : FIv s fit) : lstF fit 256 0 = if s.1 = true then s.2.2 else -5 := by
  obtain ⟨z, hz8, hz⟩ := h.Z
  cases hs : s.1 with
  | false => rw [if_neg (by decide)]; exact lstF_none 256 0 (fun y _ hy => by rw [h.2.2 y (by omega), hs]; rfl)
  | true =>
    rw [if_pos rfl, hz]
    refine lstF_some ?_ 256 0 (Nat.zero_le _) (by omega) (fun y _ hy => ?_)
    · rw [h.2.2 z hz8, hs, h.lo hz]; rfl
    · rw [h.2.2 y (by omega), hs, Bool.true_and]
      cases q : fB (kn_ s) (so_ s) 8 y with
      | false => rfl
      | true => have := bits_le (h.le hz8 hz q); omega
theorem andF_bt {f : Nat → Bool} : ∀ n, n ≤ 256 → ∀ i, i < 32 → (bt (andF f n) i = true ↔ i < 8 ∧ ∀ w, w < n → f w = true → w.testBit i = true) := by
  intro n
  induction n with
  | zero =>
    intro _ i hi
    show bt 255 i = true ↔ _
    rw [bt_255 i hi]
    exact ⟨fun z => ⟨by simpa using z, fun w hw => by omega⟩, fun z => decide_eq_true z.1⟩
  | succ n ih =>
    intro hn i hi
    show bt (andF f n &&& _) i = true ↔ _
    rw [b_and, Bool.and_eq_true, ih (by omega) i hi]
    constructor
    · rintro ⟨⟨h1, h2⟩, h3⟩
      refine ⟨h1, fun w hw hf => ?_⟩
      by_cases e : w = n
      · subst e; rw [if_pos hf, bt_nI _ hi] at h3; exact h3
      · exact h2 w (by omega) hf
    · rintro ⟨h1, h2⟩
      refine ⟨⟨h1, fun w hw hf => h2 w (by omega) hf⟩, ?_⟩
      by_cases hf : f n = true
      · rw [if_pos hf, bt_nI _ hi]; exact h2 n (by omega) hf
      · rw [if_neg hf, bt_255 i hi]; exact decide_eq_true h1
theorem orF_bt {f : Nat → Bool} : ∀ n, n ≤ 256 → ∀ i, i < 32 → (bt (orF f n) i = true ↔ ∃ w, w < n ∧ f w = true ∧ w.testBit i = true) := by
  intro n
  induction n with
  | zero =>
    intro _ i hi
    show bt 0 i = true ↔ _
    rw [b_0]
    exact ⟨fun z => (by cases z), fun z => (by obtain ⟨w, hw, _⟩ := z; omega)⟩
  | succ n ih =>
    intro hn i hi
    show bt (orF f n ||| _) i = true ↔ _
    rw [b_or, Bool.or_eq_true, ih (by omega) i hi]
    constructor
    · rintro (⟨w, hw, h1, h2⟩ | h3)
      · exact ⟨w, by omega, h1, h2⟩
      · by_cases hf : f n = true
        · rw [if_pos hf, bt_nI _ hi] at h3; exact ⟨n, by omega, hf, h3⟩
        · rw [if_neg hf, b_0] at h3; cases h3
    · rintro ⟨w, hw, h1, h2⟩
      by_cases e : w = n
      · subst e; right; rw [if_pos h1, bt_nI _ hi]; exact h2
      · exact Or.inl ⟨w, by omega, h1, h2⟩
theorem bool_ext {a b : Bool} (h : a = true ↔ b = true) : a = b := Bool.eq_iff_iff.mpr h
theorem FIv.and (h : FIv s fit) (hs : s.1 = true) : andF fit 256 = s.2.2 := by
  obtain ⟨z, hz8, hz⟩ := h.Z
  apply b_ext
  intro i hi
  apply bool_ext
  rw [andF_bt 256 (Nat.le_refl _) i hi]
  constructor
  · rintro ⟨h1, h2⟩
    have := h2 z hz8 (by rw [h.2.2 z hz8, hs, h.lo hz]; rfl)
    rw [hz, bt_nI _ hi]; exact this
  · intro q
    have k := h.2.1 i hi q
    have h8 : i < 8 := by
      rcases Nat.lt_or_ge i 8 with q2 | q2
      · exact q2
      · rw [h.1 i q2 hi] at k; cases k
    refine ⟨h8, fun w hw hf => ?_⟩
    rw [h.2.2 w hw, hs, Bool.true_and] at hf
    rw [(fB_iff 8 w).mp hf i h8 k]; exact q
theorem FIv.or (h : FIv s fit) : 255 &&& (orF fit 256 ^^^ (-1)) = if s.1 = true then s.2.1 &&& (s.2.2 ^^^ (-1)) else 255 := by
  obtain ⟨z, hz8, hz⟩ := h.Z
  apply b_ext
  intro i hi
  rw [b_and, b_xor, b_m1 i hi, bt_255 i hi, Bool.xor_true]
  cases hs : s.1 with
  | false =>
    rw [if_neg (by decide), bt_255 i hi]
    have : bt (orF fit 256) i = false := by
      cases q : bt (orF fit 256) i with
      | false => rfl
      | true =>
        obtain ⟨w, hw, h1, -⟩ := (orF_bt 256 (Nat.le_refl _) i hi).mp q
        rw [h.2.2 w hw, hs] at h1; cases h1
    rw [this]; simp
  | true =>
    rw [if_pos rfl, b_and, b_xor, b_m1 i hi, Bool.xor_true]
    by_cases h8 : i < 8
    · rw [decide_eq_true h8, Bool.true_and]
      have hlo : fit z = true := by rw [h.2.2 z hz8, hs, h.lo hz]; rfl
      cases hk : bt s.2.1 i with
      | false =>
        have : bt (orF fit 256) i = true := by
          refine (orF_bt 256 (Nat.le_refl _) i hi).mpr ⟨z ||| 2 ^ i, ?_, ?_, ?_⟩
          · exact Nat.or_lt_two_pow (n := 8) hz8 (Nat.pow_lt_pow_right (by omega) h8)
          · rw [h.2.2 _ (Nat.or_lt_two_pow (n := 8) hz8 (Nat.pow_lt_pow_right (by omega) h8)), hs, Bool.true_and, fB_iff]
            intro f hf hkf
            have hne : f ≠ i := fun e => by subst e; rw [show kn_ s f = bt s.2.1 f from rfl, hk] at hkf; cases hkf
            rw [Nat.testBit_or, Nat.testBit_two_pow_of_ne (Ne.symm hne), Bool.or_false]
            exact (fB_iff 8 z).mp (h.lo hz) f hf hkf
          · rw [Nat.testBit_or, Nat.testBit_two_pow_self, Bool.or_true]
        rw [this]; rfl
      | true =>
        rw [Bool.true_and]
        congr 1
        apply bool_ext
        rw [orF_bt 256 (Nat.le_refl _) i hi]
        constructor
        · rintro ⟨w, hw, h1, h2⟩
          rw [h.2.2 w hw, hs, Bool.true_and] at h1
          rw [(fB_iff 8 w).mp h1 i h8 hk] at h2; exact h2
        · intro q
          exact ⟨z, hz8, hlo, by rw [hz, bt_nI _ hi] at q; exact q⟩
    · rw [decide_eq_false h8, Bool.false_and, h.1 i (by omega) hi, Bool.false_and]
theorem mxI_nI {a b : Nat} (ha : a < 2 ^ 31) (hb : b < 2 ^ 31) : mxI (nI a) (nI b) = nI (max a b) := by
  unfold mxI
  by_cases h : a < b
  · rw [if_pos (nI_lt h hb), Nat.max_eq_right (by omega)]
  · rw [if_neg (fun z => h (nLt ha hb z)), Nat.max_eq_left (by omega)]
theorem sIx_v {c : Int32} {f w : Nat} (hf : f < 8) : sIx c f w = if voc c = 0 then 2 else bN (if voc c = 1 then w.testBit f else !w.testBit f) := by
  unfold sIx
  rw [syB_v hf]
  by_cases h : voc c = 0
  · rw [if_pos h, if_pos rfl]; simp [h]
  · simp only [if_neg h]
    generalize (if voc c = 1 then w.testBit f else !w.testBit f) = q
    cases q <;> rfl
theorem lfN_c (fit : Nat → Bool) (c : Int32) (f k n : Nat) : lfN fit c f k n = nI (cntN (fun w => decide (sIx c f w = k) && fit w) n) := by
  unfold lfN cntN
  refine iS_nS n (fun i _ => ?_)
  show (if sIx c f i = k then bI (fit i) else 0) = nI (bN (decide (sIx c f i = k) && fit i))
  by_cases h : sIx c f i = k
  · rw [if_pos h, decide_eq_true h, Bool.true_and]; exact bI_bN _
  · rw [if_neg h, decide_eq_false h, Bool.false_and]; rfl
theorem FIv.most (h : FIv s fit) (hs : s.1 = true) {c : Int32} {f : Nat} (hf : f < 8) : mostN fit c f = lfJ s f (voc c) := by
  have hP : cntN fit 256 = pr (kn_ s) 8 := by rw [h.cnt, if_pos hs]
  have hle : pr (kn_ s) 8 ≤ 256 := pr_le _ 8
  have hpos := pr_pos (kn_ s) 8
  have hfit : ∀ w, w < 256 → fit w = fB (kn_ s) (so_ s) 8 w := fun w hw => by rw [h.2.2 w hw, hs, Bool.true_and]
  unfold mostN lfJ
  rw [lfN_c, lfN_c, lfN_c, h.sz, hP]
  have h01 : bit s.2.1 f = 0 ↔ kn_ s f = false := by
    rw [bt_bit _ (by omega)]; exact bI_eq0
  have A : ∀ b : Bool, cntN (fun w => fB (kn_ s) (so_ s) 8 w && (w.testBit f == b)) 256 = if kn_ s f = false then pr (kn_ s) 8 / 2 else if so_ s f = b then pr (kn_ s) 8 else 0 := by
    intro b
    cases hk : kn_ s f with
    | false => rw [if_pos rfl, ← cnt_more (so := so_ s) b hf hk]; omega
    | true => rw [if_neg (by decide), cnt_kn b hf hk]
  have E : ∀ k b, (∀ w, decide (sIx c f w = k) = (w.testBit f == b)) → cntN (fun w => decide (sIx c f w = k) && fit w) 256 = cntN (fun w => fB (kn_ s) (so_ s) 8 w && (w.testBit f == b)) 256 := by
    intro k b hb
    exact cntN_cg (fun w hw => by rw [hb w, hfit w hw, Bool.and_comm])
  have N : ∀ k, (∀ w, decide (sIx c f w = k) = false) → cntN (fun w => decide (sIx c f w = k) && fit w) 256 = 0 := by
    intro k hb
    rw [← cntN_0 256]
    exact cntN_cg (fun w hw => by rw [hb w, Bool.false_and])
  have fin : ∀ b, mxI (nI (cntN (fun w => fB (kn_ s) (so_ s) 8 w && (w.testBit f == b)) 256)) (mxI (nI (cntN (fun w => fB (kn_ s) (so_ s) 8 w && (w.testBit f == !b)) 256)) (nI 0)) = if kn_ s f = false then nI (pr (kn_ s) 8 / 2) else nI (pr (kn_ s) 8) := by
    intro b
    rw [A, A]
    cases hk : kn_ s f with
    | false =>
      simp only [if_true]
      rw [mxI_nI (by omega) (by omega), mxI_nI (by omega) (by omega), Nat.max_eq_left (Nat.zero_le _), Nat.max_self]
    | true =>
      simp only [Bool.true_eq_false, if_false]
      cases so_ s f <;> cases b <;> simp only [Bool.not_true, Bool.not_false, if_true, if_false, Bool.true_eq_false, Bool.false_eq_true] <;> rw [mxI_nI (by omega) (by omega), mxI_nI (by omega) (by omega)] <;> congr 1 <;> omega
  have last : (if kn_ s f = false then nI (pr (kn_ s) 8 / 2) else nI (pr (kn_ s) 8)) = if (kn_ s f = false) then nI (pr (kn_ s) 8) / 2 else nI (pr (kn_ s) 8) := by
    rw [show (2 : Int32) = nI 2 from rfl, pk_div (by omega) (by omega) (by omega)]
  rcases voc_c c with q | q | q
  · rw [q]
    have hz : ¬ (1 : Int32) = 0 := by decide
    rw [E 0 false (fun w => by rw [sIx_v hf, q, if_neg hz, if_pos rfl]; cases w.testBit f <;> decide), E 1 true (fun w => by rw [sIx_v hf, q, if_neg hz, if_pos rfl]; cases w.testBit f <;> decide), N 2 (fun w => by rw [sIx_v hf, q, if_neg hz, if_pos rfl]; cases w.testBit f <;> decide)]
    have := fin false
    rw [Bool.not_false] at this
    rw [this, last]
    cases hk : kn_ s f with
    | false => rw [if_pos rfl, if_neg (by rw [h01, hk]; simp [hz])]
    | true => rw [if_neg (by decide), if_pos (by rw [h01, hk]; simp)]
  · rw [q]
    have hz : ¬ (-1 : Int32) = 0 := by decide
    have h1 : ¬ (-1 : Int32) = 1 := by decide
    rw [E 0 true (fun w => by rw [sIx_v hf, q, if_neg hz, if_neg h1]; cases w.testBit f <;> decide), E 1 false (fun w => by rw [sIx_v hf, q, if_neg hz, if_neg h1]; cases w.testBit f <;> decide), N 2 (fun w => by rw [sIx_v hf, q, if_neg hz, if_neg h1]; cases w.testBit f <;> decide)]
    have := fin true
    rw [Bool.not_true] at this
    rw [this, last]
    cases hk : kn_ s f with
    | false => rw [if_pos rfl, if_neg (by rw [h01, hk]; simp [hz])]
    | true => rw [if_neg (by decide), if_pos (by rw [h01, hk]; simp)]
  · rw [q, if_pos (Or.inl rfl), N 0 (fun w => by rw [sIx_v hf, q, if_pos rfl]; decide), N 1 (fun w => by rw [sIx_v hf, q, if_pos rfl]; decide)]
    rw [cntN_cg (g := fit) (fun w _ => by rw [sIx_v hf, q, if_pos rfl]; simp), hP, mxI_nI (by omega) (by omega), mxI_nI (by omega) (by omega)]
    congr 1
end FITV
