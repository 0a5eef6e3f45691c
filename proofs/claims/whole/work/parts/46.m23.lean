abbrev tC (b c : Nat) : Prop := c = b ∨ (b + 2 ≤ c ∧ c ≤ b + 13)
/-- only the pots of the state may have changed, and how many they are -/
def UnT (b : Nat) (σ τ : xSt) : Prop := Un (tC b) σ τ ∧ ∀ j, j ≠ 4 → τ.1 b j = σ.1 b j
theorem UnT.rf {b : Nat} {σ : xSt} : UnT b σ σ := ⟨Un.rf, fun _ _ => rfl⟩
theorem UnT.tr {b : Nat} {σ τ υ : xSt} (h : UnT b σ τ) (h2 : UnT b τ υ) : UnT b σ υ := ⟨h.1.tr h2.1, fun j hj => (h2.2 j hj).trans (h.2 j hj)⟩
theorem UnT.p {b i : Nat} {σ τ : xSt} (hi : i < 6) (h : Un (pC (b + 2 + 2 * i)) σ τ) : UnT b σ τ := ⟨h.mono (fun c hc => by unfold tC; unfold pC at hc; omega), fun j _ => h.f (by unfold pC; omega) j⟩
theorem UnT.n {b : Nat} {σ : xSt} {v : Int32} : UnT b σ (xsF σ b 4 v) := ⟨Un.F (Or.inl rfl), fun j hj => xsF_ne (Or.inr hj)⟩
theorem RepJ.ut {σ τ : xSt} {b n n2 m p k : Nat} {G G2 : Nat → Int32} (h : RepJ σ b G n m p k) (hu : UnT b σ τ) (hT : RepT τ b n2 G2) (hG : ∀ c, 55 ≤ c → G2 c = G c) : RepJ τ b G2 n2 m p k :=
  ⟨(hu.2 0 (by omega)).trans (h.w.trans (hG 55 (by omega)).symm), (hu.2 1 (by omega)).trans (h.t.trans (hG 56 (by omega)).symm), (hu.2 2 (by omega)).trans (h.h.trans (by rw [hG 57 (by omega)])), hT,
   (h.H.un hu.1 (fun c hc => by unfold tC; unfold rC at hc; omega)).cg (fun r _ => ⟨(hG _ (by omega)).symm, (hG _ (by omega)).symm, (hG _ (by omega)).symm⟩),
   (h.L.un hu.1 (fun c hc => by unfold tC; unfold rC at hc; omega)).cg (fun r _ => ⟨(hG _ (by omega)).symm, (hG _ (by omega)).symm, rfl⟩),
   (h.B.un hu.1 (fun c hc => by unfold tC; unfold rC at hc; omega)).cg (fun r _ => ⟨(hG _ (by omega)).symm, (hG _ (by omega)).symm, rfl⟩)⟩
theorem potG1_lo {G : Nat → Int32} {n : Nat} {kd v sg : Int32} {c : Nat} (h6 : n < 6) (hc : c < 9 * n) : potG1 G n kd v sg c = G c := by
  unfold potG1
  simp only [upd, iF]
  rw [if_neg (by omega), if_neg (by omega), if_neg (by omega), if_neg (by omega), if_neg (by omega), if_neg (by omega), if_neg (by omega), if_neg (by omega), if_neg (by omega), if_neg (by omega), if_neg (by omega), if_neg (by omega), if_neg (by omega)]
theorem potG1_hi {G : Nat → Int32} {n : Nat} {kd v sg : Int32} {c : Nat} (h6 : n < 6) (hc : 55 ≤ c) : potG1 G n kd v sg c = G c := by
  unfold potG1
  simp only [upd, iF]
  rw [if_neg (by omega), if_neg (by omega), if_neg (by omega), if_neg (by omega), if_neg (by omega), if_neg (by omega), if_neg (by omega), if_neg (by omega), if_neg (by omega), if_neg (by omega), if_neg (by omega), if_neg (by omega), if_neg (by omega)]
theorem potG1_in {G : Nat → Int32} {n : Nat} {kd v sg : Int32} (h6 : n < 6) : ∀ k, k < 9 → nwP kd v sg k = pV (potG1 G n kd v sg) n k := by
  intro k hk
  show _ = potG1 G n kd v sg (9 * n + k)
  unfold potG1 nwP
  simp only [upd, iF]
  rw [if_neg (by omega : ¬ 9 * n + k = 54)]
  by_cases h2 : k = 2
  · subst h2; simp
  · by_cases h1 : k = 1
    · subst h1; simp
    · by_cases h0 : k = 0
      · subst h0; simp
      · rw [if_neg h0, if_neg h1, if_neg h2, if_neg (by omega), if_neg (by omega), if_neg (by omega)]
        have : k = 3 ∨ k = 4 ∨ k = 5 ∨ k = 6 ∨ k = 7 ∨ k = 8 := by omega
        rcases this with rfl | rfl | rfl | rfl | rfl | rfl <;> simp
/-- sugars are digits -/
def SOk (n : Nat) (G : Nat → Int32) : Prop := ∀ i, i < n → ∃ s, s ≤ 9 ∧ G (9 * i + 2) = nI s
theorem tkP_sok {kp : Int32} {a : Nat → Int32} {s : Nat} (h : a 2 = nI s) (hs : s ≤ 9) : ∃ t, t ≤ 9 ∧ tkP kp a 2 = nI t := by
  unfold tkP
  simp only [upd, if_pos]
  rw [h]
  by_cases hc : 0 < kp ∧ a 3 + 1 - (a 3 + 1) / kp * kp = 0
  · rw [if_pos hc, nI_1]
    unfold mnI
    by_cases h9 : nI (s + 1) < 9
    · exact ⟨s + 1, by have := nLt (b := 9) (by omega) (by omega) h9; omega, by rw [if_pos h9]⟩
    · exact ⟨9, by omega, by rw [if_neg h9]; rfl⟩
  · rw [if_neg hc, mn9s hs]; exact ⟨s, hs, rfl⟩
theorem tkPs_sok {kp : Int32} {a : Nat → Int32} {s : Nat} (h : a 2 = nI s) (hs : s ≤ 9) : ∀ m, ∃ t, t ≤ 9 ∧ tkPs kp a m 2 = nI t := by
  intro m
  induction m with
  | zero => exact ⟨s, hs, h⟩
  | succ m ih => obtain ⟨t, ht, e⟩ := ih; exact tkP_sok e ht

theorem sX5_potAt {d : Nat} (hd : 0 ≤ d) {σ : xSt} {Post : Option Value → xSt → Prop} {b : Nat} (n : Nat) (x : Int32) (hb : isS b) (hn : σ.1 b 4 = nI n) (h6 : n ≤ 6) (h : (∀ i, i < n → x = nI i → Post (some (.ref (b + 2 + 2 * i))) σ) ∧ (¬ pOk (nI n) x → Post (some .null) σ)) : xM kX5_potAt d [.ref b, .int x] σ Post := by
  refine xM_start (lv := [some (.ref b), some (.int x)]) rfl ?_
  refine xe_iload_n dX5_potAt_0 rfl ?_
  refine xe_if_lt (tgt := 21) dX5_potAt_1 (by decide) (fun h1 => ?_) (fun h1 => ?_)
  · first
    | (have hx : ¬ pOk (nI n) x := fun z => absurd z.1 (Int32.not_le.mpr h1)
       refine xe_null dX5_potAt_21 ?_
       refine xe_aretN dX5_potAt_22 rfl ?_
       exact h.2 hx)
    | (rw [hn] at h9
       have hx : ¬ pOk (nI n) x := fun z => absurd z.2 (Int32.not_lt.mpr h9)
       refine xe_null dX5_potAt_21 ?_
       refine xe_aretN dX5_potAt_22 rfl ?_
       exact h.2 hx)
  · refine xe_iload_n dX5_potAt_4 rfl ?_
    refine xe_aload_n dX5_potAt_5 rfl ?_
    refine xe_getf dX5_potAt_6 flX5_27 hb.o.1 hb.o.2 rfl ?_
    refine xe_icmp_ge (tgt := 21) dX5_potAt_9 (by decide) (fun h9 => ?_) (fun h9 => ?_)
    · first
      | (have hx : ¬ pOk (nI n) x := fun z => absurd z.1 (Int32.not_le.mpr h1)
         refine xe_null dX5_potAt_21 ?_
         refine xe_aretN dX5_potAt_22 rfl ?_
         exact h.2 hx)
      | (rw [hn] at h9
         have hx : ¬ pOk (nI n) x := fun z => absurd z.2 (Int32.not_lt.mpr h9)
         refine xe_null dX5_potAt_21 ?_
         refine xe_aretN dX5_potAt_22 rfl ?_
         exact h.2 hx)
    · refine xe_aload_n dX5_potAt_12 rfl ?_
      refine xe_getr dX5_potAt_13 flX5_23 hb.o.1 hb.o.2 rfl ?_
      refine xe_iload_n dX5_potAt_16 rfl ?_
      rw [hn] at h9
      obtain ⟨i, hi, rfl⟩ := pOk_nat (n := n) (by omega) ⟨Int32.not_lt.mp h1, Int32.not_le.mp h9⟩
      refine xn_aaload dX5_potAt_17 hb.q.1 hb.q.2 (by decide) rfl (by omega) (by decide) (isS.t (by omega)) ?_
      refine xe_goto (tgt := 22) dX5_potAt_18 (by decide) ?_
      first | refine xe_aret dX5_potAt_22 rfl ?_ | refine xe_aretN dX5_potAt_22 rfl ?_
      exact h.1 i hi rfl

theorem sX5_addPot {d : Nat} (hd : 2 ≤ d) {σ : xSt} {Post : Option Value → xSt → Prop} {b n : Nat} (kd v sg : Int32) (G : Nat → Int32) (hb : isS b) (hT : RepT σ b n G) (hn6 : n ≤ 6) (h : (n = 6 → Post (some (.int (-4))) σ) ∧ (n < 6 → ∀ τ, UnT b σ τ → RepT τ b (n + 1) (potG1 G n kd v sg) → Post (some (.int (nI n))) τ)) : xM kX5_addPot d [.ref b, .int kd, .int v, .int sg] σ Post := by
  obtain ⟨d, rfl⟩ : ∃ e, d = e + 1 := ⟨d - 1, by omega⟩
  refine xM_start (lv := [some (.ref b), some (.int kd), some (.int v), some (.int sg), none]) rfl ?_
  refine xe_aload_n dX5_addPot_0 rfl ?_
  refine xe_getf dX5_addPot_1 flX5_27 hb.o.1 hb.o.2 rfl ?_
  refine xe_bipush (v := 6) dX5_addPot_4 rfl ?_
  refine xe_icmp_lt (tgt := 12) dX5_addPot_6 (by decide) (fun h6 => ?_) (fun h6 => ?_)
  · have hlt : n < 6 := by rw [hT.1] at h6; exact nLt (b := 6) (by omega) (by omega) h6
    refine xe_aload_n dX5_addPot_12 rfl ?_
    refine xe_getf dX5_addPot_13 flX5_27 hb.o.1 hb.o.2 rfl ?_
    refine xe_top hT.1 ?_
    refine xe_istore (lv2 := [_, _, _, _, _]) dX5_addPot_16 (by decide) rfl ?_
    refine xe_aload_n dX5_addPot_18 rfl ?_
    refine xe_getr dX5_addPot_19 flX5_23 hb.o.1 hb.o.2 rfl ?_
    refine xe_iload dX5_addPot_22 rfl ?_
    refine xn_aaload dX5_addPot_24 hb.q.1 hb.q.2 (by decide) (by first | with_reducible rfl | (simp only [xl, pk_mul, nI_add, nI_1]; done) | (simp only [xl, pk_mul, nI_add, nI_1]; rfl)) (by omega) (by decide) (isS.t hlt) ?_
    refine xe_iload dX5_addPot_25 rfl ?_
    refine xe_iload_n dX5_addPot_27 rfl ?_
    refine xe_iload_n dX5_addPot_28 rfl ?_
    refine xe_iload_n dX5_addPot_29 rfl ?_
    refine xe_callv (k2 := kX3_begin) (vs := [_, _, _, _]) dX5_addPot_30 okX3_begin mlX5_46 imX3_begin slX3_begin (Or.inl ⟨3, _, _, (hb.p hlt).1.1, (hb.p hlt).1.2, rfl, rfl⟩) rfl rfl (Nat.le_of_ble_eq_true rfl) (Nat.le_of_ble_eq_true rfl) (sX3_begin (by omega) n kd v sg (hb.p hlt) (fun τ hu hr => ?_))
    refine xe_aload_n dX5_addPot_33 rfl ?_
    refine xe_dup dX5_addPot_34 rfl ?_
    refine xe_getf dX5_addPot_35 flX5_27 hb.o.1 hb.o.2 rfl ?_
    refine xe_iconst (v := 1) dX5_addPot_38 rfl ?_
    refine xe_iadd dX5_addPot_39 ?_
    refine xe_putf dX5_addPot_40 flX5_27 hb.o.1 hb.o.2 rfl rfl rfl ?_
    refine xe_iload dX5_addPot_43 rfl ?_
    refine xe_iret dX5_addPot_45 rfl rfl ?_
    have hc : τ.1 b 4 = nI n := (hu.f (by unfold pC; omega) 4).trans hT.1
    rw [hc, nI_1]
    refine h.2 hlt _ ((UnT.p hlt hu).tr UnT.n) ⟨xsF_get, fun i hi => ?_⟩
    have hF : Un (fun c => c = b) τ (xsF τ b 4 (nI (n + 1))) := Un.F rfl
    by_cases z : i = n
    · subst z; exact (hr.un hF (by omega) (by omega)).cg (potG1_in hlt)
    · exact (((hT.2 i (by omega)).un hu (by unfold pC; omega) (by unfold pC; omega)).un hF (by omega) (by omega)).cg (fun k hk => (potG1_lo (c := 9 * i + k) hlt (by omega)).symm)
  · refine xe_bipush (v := -4) dX5_addPot_9 rfl ?_
    refine xe_iret dX5_addPot_11 rfl rfl ?_
    refine h.1 ?_
    rw [hT.1] at h6; have := nNlt (a := n) (b := 6) (by omega) (by omega) h6; omega

theorem lX5_copyPotsFrom {d : Nat} {σ : xSt} {Post : Option Value → xSt → Prop} (hd : 1 ≤ d) {b e n : Nat} (hb : isS b) (he : isS e) (hne : b ≠ e) (h6 : n ≤ 6) (h : ∀ τ, UnT b σ τ → (∀ G, RepT σ e n G → RepT τ b n G) → Post none τ) : ∀ (q j : Nat) (τ : xSt), n + 1 ≤ j + q → j ≤ n → UnT b σ τ → τ.1 b 4 = nI n → (∀ G, RepT σ e n G → ∀ i, i < j → RepP τ (b + 2 + 2 * i) i (pV G i)) → xEv kX5_copyPotsFrom (d + 1) 10 [some (.ref b), some (.ref e), some (.int (nI j))] [] τ Post := by
  intro q
  induction q with
  | zero => intro j τ hq hj hu hc hP; omega
  | succ q ih =>
    intro j τ hq hj hu hc hP
    refine xe_iload_n dX5_copyPotsFrom_10 rfl ?_
    refine xe_aload_n dX5_copyPotsFrom_11 rfl ?_
    refine xe_getf dX5_copyPotsFrom_12 flX5_27 hb.o.1 hb.o.2 rfl ?_
    refine xe_icmp_ge (tgt := 39) dX5_copyPotsFrom_15 (by decide) (fun h15 => ?_) (fun h15 => ?_)
    · rw [hc] at h15
      obtain rfl : j = n := by have := nLe (by omega) (by omega) h15; omega
      refine xe_vret dX5_copyPotsFrom_39 rfl ?_
      exact h τ hu (fun G hG => ⟨hc, hP G hG⟩)
    · rw [hc] at h15
      have hlt := nNle (by omega) (by omega) h15
      have hj6 : j < 6 := by omega
      refine xe_aload_n dX5_copyPotsFrom_18 rfl ?_
      refine xe_getr dX5_copyPotsFrom_19 flX5_23 hb.o.1 hb.o.2 rfl ?_
      refine xe_iload_n dX5_copyPotsFrom_22 rfl ?_
      refine xn_aaload dX5_copyPotsFrom_23 hb.q.1 hb.q.2 (by decide) (by first | with_reducible rfl | (simp only [xl, pk_mul, nI_add, nI_1]; done) | (simp only [xl, pk_mul, nI_add, nI_1]; rfl)) (by omega) (by decide) (isS.t hj6) ?_
      refine xe_aload_n dX5_copyPotsFrom_24 rfl ?_
      refine xe_getr dX5_copyPotsFrom_25 flX5_23 he.o.1 he.o.2 rfl ?_
      refine xe_iload_n dX5_copyPotsFrom_28 rfl ?_
      refine xn_aaload dX5_copyPotsFrom_29 he.q.1 he.q.2 (by decide) (by first | with_reducible rfl | (simp only [xl, pk_mul, nI_add, nI_1]; done) | (simp only [xl, pk_mul, nI_add, nI_1]; rfl)) (by omega) (by decide) (isS.t hj6) ?_
      refine xe_callv (k2 := kX3_copyFrom) (vs := [_]) dX5_copyPotsFrom_30 okX3_copyFrom mlX5_50 imX3_copyFrom slX3_copyFrom (Or.inl ⟨3, _, _, (hb.p hj6).1.1, (hb.p hj6).1.2, rfl, rfl⟩) rfl rfl (Nat.le_of_ble_eq_true rfl) (Nat.le_of_ble_eq_true rfl) (sX3_copyFrom (by omega) (hb.p hj6) (he.p hj6) (by have hf := hb.far he hne; omega) (by have hf := hb.far he hne; omega) (by have hf := hb.far he hne; omega) (fun υ hu2 hcp => ?_))
      refine xn_inc (j := j) (lv2 := [_, _, _]) dX5_copyPotsFrom_33 (by decide) rfl rfl ?_
      refine xe_goto (tgt := 10) dX5_copyPotsFrom_36 (by decide) ?_
      refine ih (j + 1) υ (by omega) (by omega) (hu.tr (UnT.p hj6 hu2)) ((hu2.f (by unfold pC; omega) 4).trans hc) (fun G hG i hi => ?_)
      by_cases z : i = j
      · subst z; exact hcp _ _ ((hG.2 i hlt).un hu.1 (by unfold tC; have hf := hb.far he hne; omega) (by unfold tC; have hf := hb.far he hne; omega))
      · exact (hP G hG i (by omega)).un hu2 (by unfold pC; omega) (by unfold pC; omega)

theorem sX5_copyPotsFrom {d : Nat} (hd : 2 ≤ d) {σ : xSt} {Post : Option Value → xSt → Prop} {b e n : Nat} (hb : isS b) (he : isS e) (hne : b ≠ e) (hn : σ.1 e 4 = nI n) (h6 : n ≤ 6) (h : ∀ τ, UnT b σ τ → (∀ G, RepT σ e n G → RepT τ b n G) → Post none τ) : xM kX5_copyPotsFrom d [.ref b, .ref e] σ Post := by
  obtain ⟨d, rfl⟩ : ∃ e, d = e + 1 := ⟨d - 1, by omega⟩
  refine xM_start (lv := [some (.ref b), some (.ref e), none]) rfl ?_
  refine xe_aload_n dX5_copyPotsFrom_0 rfl ?_
  refine xe_aload_n dX5_copyPotsFrom_1 rfl ?_
  refine xe_getf dX5_copyPotsFrom_2 flX5_27 he.o.1 he.o.2 rfl ?_
  refine xe_putf dX5_copyPotsFrom_5 flX5_27 hb.o.1 hb.o.2 rfl rfl rfl ?_
  refine xe_iconst (v := 0) dX5_copyPotsFrom_8 rfl ?_
  refine xe_istore_n (lv2 := [_, _, _]) dX5_copyPotsFrom_9 (by decide) rfl ?_
  rw [hn]
  exact lX5_copyPotsFrom (d := d) (σ := σ) (by omega) hb he hne h6 h (n + 1) 0 _ (by omega) (by omega) UnT.n xsF_get (fun G hG i hi => by omega)

theorem lX5_sugarOfAll {d : Nat} {σ : xSt} {Post : Option Value → xSt → Prop} {b n : Nat} (hb : isS b) (h6 : n ≤ 6) (G : Nat → Int32) (hT : RepT σ b n G) (h : Post (some (.int (iS (fun i => G (9 * i + 2)) n))) σ) : ∀ (q j : Nat), n + 1 ≤ j + q → j ≤ n → xEv kX5_sugarOfAll d 4 [some (.ref b), some (.int (iS (fun i => G (9 * i + 2)) j)), some (.int (nI j))] [] σ Post := by
  intro q
  induction q with
  | zero => intro j hq hj; omega
  | succ q ih =>
    intro j hq hj
    refine xe_iload_n dX5_sugarOfAll_4 rfl ?_
    refine xe_aload_n dX5_sugarOfAll_5 rfl ?_
    refine xe_getf dX5_sugarOfAll_6 flX5_27 hb.o.1 hb.o.2 rfl ?_
    refine xe_icmp_ge (tgt := 30) dX5_sugarOfAll_9 (by decide) (fun h9 => ?_) (fun h9 => ?_)
    · rw [hT.1] at h9
      obtain rfl : j = n := by have := nLe (by omega) (by omega) h9; omega
      refine xe_iload_n dX5_sugarOfAll_30 rfl ?_
      refine xe_iret dX5_sugarOfAll_31 rfl rfl ?_
      exact h
    · rw [hT.1] at h9
      have hlt := nNle (by omega) (by omega) h9
      have hj6 : j < 6 := by omega
      refine xe_iload_n dX5_sugarOfAll_12 rfl ?_
      refine xe_aload_n dX5_sugarOfAll_13 rfl ?_
      refine xe_getr dX5_sugarOfAll_14 flX5_23 hb.o.1 hb.o.2 rfl ?_
      refine xe_iload_n dX5_sugarOfAll_17 rfl ?_
      refine xn_aaload dX5_sugarOfAll_18 hb.q.1 hb.q.2 (by decide) (by first | with_reducible rfl | (simp only [xl, pk_mul, nI_add, nI_1]; done) | (simp only [xl, pk_mul, nI_add, nI_1]; rfl)) (by omega) (by decide) (isS.t hj6) ?_
      refine xe_getf dX5_sugarOfAll_19 flX5_64 (hb.p hj6).1.1 (hb.p hj6).1.2 rfl ?_
      refine xe_top ((hT.2 j hlt).2.1 2 (by omega)) ?_
      refine xe_iadd dX5_sugarOfAll_22 ?_
      refine xe_istore_n (lv2 := [_, _, _]) dX5_sugarOfAll_23 (by decide) rfl ?_
      refine xn_inc (j := j) (lv2 := [_, _, _]) dX5_sugarOfAll_24 (by decide) rfl rfl ?_
      refine xe_goto (tgt := 4) dX5_sugarOfAll_27 (by decide) ?_
      exact ih (j + 1) (by omega) (by omega)

theorem sX5_sugarOfAll {d : Nat} (hd : 0 ≤ d) {σ : xSt} {Post : Option Value → xSt → Prop} {b n : Nat} (G : Nat → Int32) (hb : isS b) (h6 : n ≤ 6) (hT : RepT σ b n G) (h : Post (some (.int (iS (fun i => G (9 * i + 2)) n))) σ) : xM kX5_sugarOfAll d [.ref b] σ Post := by
  refine xM_start (lv := [some (.ref b), none, none]) rfl ?_
  refine xe_iconst (v := 0) dX5_sugarOfAll_0 rfl ?_
  refine xe_istore_n (lv2 := [_, _, _]) dX5_sugarOfAll_1 (by decide) rfl ?_
  refine xe_iconst (v := 0) dX5_sugarOfAll_2 rfl ?_
  refine xe_istore_n (lv2 := [_, _, _]) dX5_sugarOfAll_3 (by decide) rfl ?_
  exact lX5_sugarOfAll (d := d) hb h6 G hT h (n + 1) 0 (by omega) (by omega)

theorem lX5_openedOfAll {d : Nat} {σ : xSt} {Post : Option Value → xSt → Prop} {b n : Nat} (hb : isS b) (h6 : n ≤ 6) (G : Nat → Int32) (hT : RepT σ b n G) (h : Post (some (.int (iS (fun i => G (9 * i + 4)) n))) σ) : ∀ (q j : Nat), n + 1 ≤ j + q → j ≤ n → xEv kX5_openedOfAll d 4 [some (.ref b), some (.int (iS (fun i => G (9 * i + 4)) j)), some (.int (nI j))] [] σ Post := by
  intro q
  induction q with
  | zero => intro j hq hj; omega
  | succ q ih =>
    intro j hq hj
    refine xe_iload_n dX5_openedOfAll_4 rfl ?_
    refine xe_aload_n dX5_openedOfAll_5 rfl ?_
    refine xe_getf dX5_openedOfAll_6 flX5_27 hb.o.1 hb.o.2 rfl ?_
    refine xe_icmp_ge (tgt := 30) dX5_openedOfAll_9 (by decide) (fun h9 => ?_) (fun h9 => ?_)
    · rw [hT.1] at h9
      obtain rfl : j = n := by have := nLe (by omega) (by omega) h9; omega
      refine xe_iload_n dX5_openedOfAll_30 rfl ?_
      refine xe_iret dX5_openedOfAll_31 rfl rfl ?_
      exact h
    · rw [hT.1] at h9
      have hlt := nNle (by omega) (by omega) h9
      have hj6 : j < 6 := by omega
      refine xe_iload_n dX5_openedOfAll_12 rfl ?_
      refine xe_aload_n dX5_openedOfAll_13 rfl ?_
      refine xe_getr dX5_openedOfAll_14 flX5_23 hb.o.1 hb.o.2 rfl ?_
      refine xe_iload_n dX5_openedOfAll_17 rfl ?_
      refine xn_aaload dX5_openedOfAll_18 hb.q.1 hb.q.2 (by decide) (by first | with_reducible rfl | (simp only [xl, pk_mul, nI_add, nI_1]; done) | (simp only [xl, pk_mul, nI_add, nI_1]; rfl)) (by omega) (by decide) (isS.t hj6) ?_
      refine xe_getf dX5_openedOfAll_19 flX5_67 (hb.p hj6).1.1 (hb.p hj6).1.2 rfl ?_
      refine xe_top ((hT.2 j hlt).2.1 4 (by omega)) ?_
      refine xe_iadd dX5_openedOfAll_22 ?_
      refine xe_istore_n (lv2 := [_, _, _]) dX5_openedOfAll_23 (by decide) rfl ?_
      refine xn_inc (j := j) (lv2 := [_, _, _]) dX5_openedOfAll_24 (by decide) rfl rfl ?_
      refine xe_goto (tgt := 4) dX5_openedOfAll_27 (by decide) ?_
      exact ih (j + 1) (by omega) (by omega)

theorem sX5_openedOfAll {d : Nat} (hd : 0 ≤ d) {σ : xSt} {Post : Option Value → xSt → Prop} {b n : Nat} (G : Nat → Int32) (hb : isS b) (h6 : n ≤ 6) (hT : RepT σ b n G) (h : Post (some (.int (iS (fun i => G (9 * i + 4)) n))) σ) : xM kX5_openedOfAll d [.ref b] σ Post := by
  refine xM_start (lv := [some (.ref b), none, none]) rfl ?_
  refine xe_iconst (v := 0) dX5_openedOfAll_0 rfl ?_
  refine xe_istore_n (lv2 := [_, _, _]) dX5_openedOfAll_1 (by decide) rfl ?_
  refine xe_iconst (v := 0) dX5_openedOfAll_2 rfl ?_
  refine xe_istore_n (lv2 := [_, _, _]) dX5_openedOfAll_3 (by decide) rfl ?_
  exact lX5_openedOfAll (d := d) hb h6 G hT h (n + 1) 0 (by omega) (by omega)

theorem lX5_ripenAll13 {d : Nat} {σ : xSt} {Post : Option Value → xSt → Prop} (hd : 1 ≤ d) {b n M j : Nat} (kp : Int32) (hb : isS b) (h6 : n ≤ 6) (hj6 : j < 6) (hM : M ≤ 60) (a : Nat → Int32) (s : Nat) (hs9 : s ≤ 9) (hs : a 2 = nI s) (v4 : Option Value) (h : ∀ τ, Un (pC (b + 2 + 2 * j)) σ τ → RepP τ (b + 2 + 2 * j) j (tkPs kp a M) → xEv kX5_ripenAll (d + 1) 35 [some (.ref b), some (.int (nI M)), some (.int kp), some (.int (nI j)), some (.int (nI M))] [] τ Post) : ∀ (q g : Nat) (τ : xSt), M + 1 ≤ g + q → g ≤ M → Un (pC (b + 2 + 2 * j)) σ τ → RepP τ (b + 2 + 2 * j) j (tkPs kp a g) → xEv kX5_ripenAll (d + 1) 13 [some (.ref b), some (.int (nI M)), some (.int kp), some (.int (nI j)), some (.int (nI g))] [] τ Post := by
  intro q
  induction q with
  | zero => intro g τ hq hj hu hr; omega
  | succ q ih =>
    intro g τ hq hj hu hr
    refine xe_iload dX5_ripenAll_13 rfl ?_
    refine xe_iload_n dX5_ripenAll_15 rfl ?_
    refine xe_icmp_ge (tgt := 35) dX5_ripenAll_16 (by decide) (fun h16 => ?_) (fun h16 => ?_)
    · obtain rfl : g = M := by have := nLe (by omega) (by omega) h16; omega
      exact h τ hu hr
    · have hlt := nNle (by omega) (by omega) h16
      obtain ⟨t, ht9, ht⟩ := tkPs_sok (kp := kp) hs hs9 g
      refine xe_aload_n dX5_ripenAll_19 rfl ?_
      refine xe_getr dX5_ripenAll_20 flX5_23 hb.o.1 hb.o.2 rfl ?_
      refine xe_iload_n dX5_ripenAll_23 rfl ?_
      refine xn_aaload dX5_ripenAll_24 hb.q.1 hb.q.2 (by decide) (by first | with_reducible rfl | (simp only [xl, pk_mul, nI_add, nI_1]; done) | (simp only [xl, pk_mul, nI_add, nI_1]; rfl)) (by omega) (by decide) (isS.t hj6) ?_
      refine xe_iload_n dX5_ripenAll_25 rfl ?_
      refine xe_callv (k2 := kX3_ripen) (vs := [_]) dX5_ripenAll_26 okX3_ripen mlX5_61 imX3_ripen slX3_ripen (Or.inl ⟨3, _, _, (hb.p hj6).1.1, (hb.p hj6).1.2, rfl, rfl⟩) rfl rfl (Nat.le_of_ble_eq_true rfl) (Nat.le_of_ble_eq_true rfl) (sX3_ripen (by omega) j _ kp t (hb.p hj6) hr ht ht9 (fun υ hu2 hr2 => ?_))
      refine xn_inc (j := g) (lv2 := [_, _, _, _, _]) dX5_ripenAll_29 (by decide) rfl rfl ?_
      refine xe_goto (tgt := 13) dX5_ripenAll_32 (by decide) ?_
      exact ih (g + 1) υ (by omega) (by omega) (hu.tr hu2) hr2

theorem lX5_ripenAll2 {d : Nat} {σ : xSt} {Post : Option Value → xSt → Prop} (hd : 1 ≤ d) {b n M : Nat} (kp : Int32) (hb : isS b) (h6 : n ≤ 6) (hM : M ≤ 60) (G : Nat → Int32) (hs : SOk n G) (h : ∀ τ, UnT b σ τ → RepT τ b n (tkGs kp n G M) → Post none τ) : ∀ (q j : Nat) (τ : xSt) (v4 : Option Value), n + 1 ≤ j + q → j ≤ n → UnT b σ τ → τ.1 b 4 = nI n → (∀ i, i < j → RepP τ (b + 2 + 2 * i) i (tkPs kp (pV G i) M)) → (∀ i, j ≤ i → i < n → RepP τ (b + 2 + 2 * i) i (pV G i)) → xEv kX5_ripenAll (d + 1) 2 [some (.ref b), some (.int (nI M)), some (.int kp), some (.int (nI j)), v4] [] τ Post := by
  intro q
  induction q with
  | zero => intro j τ v4 hq hj hu hc hP hQ; omega
  | succ q ih =>
    intro j τ v4 hq hj hu hc hP hQ
    refine xe_iload_n dX5_ripenAll_2 rfl ?_
    refine xe_aload_n dX5_ripenAll_3 rfl ?_
    refine xe_getf dX5_ripenAll_4 flX5_27 hb.o.1 hb.o.2 rfl ?_
    refine xe_icmp_ge (tgt := 41) dX5_ripenAll_7 (by decide) (fun h7 => ?_) (fun h7 => ?_)
    · rw [hc] at h7
      obtain rfl : j = n := by have := nLe (by omega) (by omega) h7; omega
      refine xe_vret dX5_ripenAll_41 rfl ?_
      exact h τ hu ⟨hc, fun i hi => (hP i hi).cg (fun k hk => (tkGs_in h6 hi M k hk).symm)⟩
    · rw [hc] at h7
      have hlt := nNle (by omega) (by omega) h7
      have hj6 : j < 6 := by omega
      refine xe_iconst (v := 0) dX5_ripenAll_10 rfl ?_
      refine xe_istore (lv2 := [_, _, _, _, _]) dX5_ripenAll_11 (by decide) rfl ?_
      obtain ⟨s, hs9, hs2⟩ := hs j hlt
      refine lX5_ripenAll13 (d := d) (σ := τ) (by omega) kp hb h6 hj6 hM (pV G j) s hs9 hs2 none (fun υ hu2 hr2 => ?_) (M + 1) 0 τ (by omega) (by omega) Un.rf (hQ j (by omega) hlt)
      refine xn_inc (j := j) (lv2 := [_, _, _, _, _]) dX5_ripenAll_35 (by decide) rfl rfl ?_
      refine xe_goto (tgt := 2) dX5_ripenAll_38 (by decide) ?_
      refine ih (j + 1) υ _ (by omega) (by omega) (hu.tr (UnT.p hj6 hu2)) ((hu2.f (by unfold pC; omega) 4).trans hc) (fun i hi => ?_) (fun i hi hi2 => (hQ i (by omega) hi2).un hu2 (by unfold pC; omega) (by unfold pC; omega))
      by_cases z : i = j
      · subst z; exact hr2
      · exact (hP i (by omega)).un hu2 (by unfold pC; omega) (by unfold pC; omega)

theorem sX5_ripenAll {d : Nat} (hd : 2 ≤ d) {σ : xSt} {Post : Option Value → xSt → Prop} {b n M : Nat} (kp : Int32) (G : Nat → Int32) (hb : isS b) (h6 : n ≤ 6) (hM : M ≤ 60) (hs : SOk n G) (hT : RepT σ b n G) (h : ∀ τ, UnT b σ τ → RepT τ b n (tkGs kp n G M) → Post none τ) : xM kX5_ripenAll d [.ref b, .int (nI M), .int kp] σ Post := by
  obtain ⟨d, rfl⟩ : ∃ e, d = e + 1 := ⟨d - 1, by omega⟩
  refine xM_start (lv := [some (.ref b), some (.int (nI M)), some (.int kp), none, none]) rfl ?_
  refine xe_iconst (v := 0) dX5_ripenAll_0 rfl ?_
  refine xe_istore_n (lv2 := [_, _, _, _, _]) dX5_ripenAll_1 (by decide) rfl ?_
  exact lX5_ripenAll2 (d := d) (σ := σ) (by omega) kp hb h6 hM G hs h (n + 1) 0 σ _ (by omega) (by omega) UnT.rf hT.1 (fun i hi => by omega) (fun i _ hi => hT.2 i hi)

theorem sX5_copyFrom {d : Nat} (hd : 3 ≤ d) {σ : xSt} {Post : Option Value → xSt → Prop} {b e n m p k : Nat} (G : Nat → Int32) (hb : isS b) (he : isS e) (hne : b ≠ e) (hJ : RepJ σ e G n m p k) (h6 : n ≤ 6) (hm : m ≤ 6) (hp : p ≤ 10) (hk : k ≤ 8) (h : ∀ τ, Un (sC b) σ τ → RepJ τ b G n m p k → Post none τ) : xM kX5_copyFrom d [.ref b, .ref e] σ Post := by
  obtain ⟨d, rfl⟩ : ∃ e, d = e + 1 := ⟨d - 1, by omega⟩
  refine xM_start (lv := [some (.ref b), some (.ref e)]) rfl ?_
  refine xe_aload_n dX5_copyFrom_0 rfl ?_
  refine xe_aload_n dX5_copyFrom_1 rfl ?_
  refine xe_getf dX5_copyFrom_2 flX5_9 he.o.1 he.o.2 rfl ?_
  refine xe_putf dX5_copyFrom_5 flX5_9 hb.o.1 hb.o.2 rfl rfl rfl ?_
  refine xe_aload_n dX5_copyFrom_8 rfl ?_
  refine xe_aload_n dX5_copyFrom_9 rfl ?_
  refine xe_getf dX5_copyFrom_10 flX5_15 he.o.1 he.o.2 rfl ?_
  refine xe_putf dX5_copyFrom_13 flX5_15 hb.o.1 hb.o.2 rfl rfl rfl ?_
  refine xe_aload_n dX5_copyFrom_16 rfl ?_
  refine xe_aload_n dX5_copyFrom_17 rfl ?_
  refine xe_getf dX5_copyFrom_18 flX5_18 he.o.1 he.o.2 rfl ?_
  refine xe_putf dX5_copyFrom_21 flX5_18 hb.o.1 hb.o.2 rfl rfl rfl ?_
  generalize e0 : xsF (xsF (xsF σ b 0 _) b 1 _) b 2 _ = τ0
  have hu0 : Un (fun c => c = b) σ τ0 := by rw [← e0]; exact ((Un.F (P := fun c => c = b) rfl).tr (Un.F rfl)).tr (Un.F rfl)
  have hJ0 := hJ.un h6 hu0 (fun c hc => by have hf := hb.far he hne; unfold sC at hc; omega)
  have w0 : τ0.1 b 0 = G 55 := by rw [← e0]; simp [xsF1]; exact hJ.w
  have w1 : τ0.1 b 1 = G 56 := by rw [← e0]; simp [xsF1, hne.symm]; exact hJ.t
  have w2 : τ0.1 b 2 = G 57 - 1 := by rw [← e0]; simp [xsF1, hne.symm]; exact hJ.h
  refine xe_aload_n dX5_copyFrom_24 rfl ?_
  refine xe_aload_n dX5_copyFrom_25 rfl ?_
  refine xe_callv (k2 := kX5_copyPotsFrom) (vs := [_]) dX5_copyFrom_26 okX5_copyPotsFrom mlX5_54 imX5_copyPotsFrom slX5_copyPotsFrom (Or.inl ⟨5, _, _, hb.o.1, hb.o.2, rfl, rfl⟩) rfl rfl (Nat.le_of_ble_eq_true rfl) (Nat.le_of_ble_eq_true rfl) (sX5_copyPotsFrom (by omega) hb he hne hJ0.P.1 h6 (fun τ1 u1 c1 => ?_))
  have hJ1 := hJ0.un h6 u1.1 (fun c hc => by have hf := hb.far he hne; unfold sC at hc; unfold tC; omega)
  refine xe_aload_n dX5_copyFrom_29 rfl ?_
  refine xe_getr dX5_copyFrom_30 flX5_35 hb.o.1 hb.o.2 rfl ?_
  refine xe_aload_n dX5_copyFrom_33 rfl ?_
  refine xe_getr dX5_copyFrom_34 flX5_35 he.o.1 he.o.2 rfl ?_
  refine xe_callv (k2 := kX4_copyFrom) (vs := [_]) dX5_copyFrom_37 okX4_copyFrom mlX5_58 imX4_copyFrom slX4_copyFrom (Or.inl ⟨4, _, _, (hb.h).1.1, (hb.h).1.2, rfl, rfl⟩) rfl rfl (Nat.le_of_ble_eq_true rfl) (Nat.le_of_ble_eq_true rfl) (sX4_copyFrom (by omega) hb.h (by omega) he.h (by have hf := hb.far he hne; omega) hJ1.H.1 hm (fun τ2 u2 c2 => ?_))
  have hJ2 := hJ1.un h6 u2 (fun c hc => by have hf := hb.far he hne; unfold sC at hc; unfold rC; omega)
  refine xe_aload_n dX5_copyFrom_40 rfl ?_
  refine xe_getr dX5_copyFrom_41 flX5_39 hb.o.1 hb.o.2 rfl ?_
  refine xe_aload_n dX5_copyFrom_44 rfl ?_
  refine xe_getr dX5_copyFrom_45 flX5_39 he.o.1 he.o.2 rfl ?_
  refine xe_callv (k2 := kX4_copyFrom) (vs := [_]) dX5_copyFrom_48 okX4_copyFrom mlX5_58 imX4_copyFrom slX4_copyFrom (Or.inl ⟨4, _, _, (hb.l).1.1, (hb.l).1.2, rfl, rfl⟩) rfl rfl (Nat.le_of_ble_eq_true rfl) (Nat.le_of_ble_eq_true rfl) (sX4_copyFrom (by omega) hb.l (by omega) he.l (by have hf := hb.far he hne; omega) hJ2.L.1 hp (fun τ3 u3 c3 => ?_))
  have hJ3 := hJ2.un h6 u3 (fun c hc => by have hf := hb.far he hne; unfold sC at hc; unfold rC; omega)
  refine xe_aload_n dX5_copyFrom_51 rfl ?_
  refine xe_getr dX5_copyFrom_52 flX5_42 hb.o.1 hb.o.2 rfl ?_
  refine xe_aload_n dX5_copyFrom_55 rfl ?_
  refine xe_getr dX5_copyFrom_56 flX5_42 he.o.1 he.o.2 rfl ?_
  refine xe_callv (k2 := kX4_copyFrom) (vs := [_]) dX5_copyFrom_59 okX4_copyFrom mlX5_58 imX4_copyFrom slX4_copyFrom (Or.inl ⟨4, _, _, (hb.b).1.1, (hb.b).1.2, rfl, rfl⟩) rfl rfl (Nat.le_of_ble_eq_true rfl) (Nat.le_of_ble_eq_true rfl) (sX4_copyFrom (by omega) hb.b (by omega) he.b (by have hf := hb.far he hne; omega) hJ3.B.1 hk (fun τ4 u4 c4 => ?_))
  refine xe_vret dX5_copyFrom_62 rfl ?_
  have T1 := c1 G hJ0.P
  have H2 := c2 _ _ _ hJ1.H
  have L3 := c3 _ _ _ hJ2.L
  have B4 := c4 _ _ _ hJ3.B
  refine h τ4 ((((hu0.mono (fun c hc => ?_)).tr (u1.1.mono (fun c hc => ?_))).tr ((u2.mono (fun c hc => ?_)).tr (u3.mono (fun c hc => ?_)))).tr (u4.mono (fun c hc => ?_))) ⟨?_, ?_, ?_, ?_, ?_, ?_, B4⟩
  · omega
  · unfold tC at hc; omega
  · unfold rC at hc; omega
  · unfold rC at hc; omega
  · unfold rC at hc; omega
  · exact ((u4.f (by omega) 0).trans ((u3.f (by omega) 0).trans ((u2.f (by omega) 0).trans (u1.2 0 (by omega))))).trans w0
  · exact ((u4.f (by omega) 1).trans ((u3.f (by omega) 1).trans ((u2.f (by omega) 1).trans (u1.2 1 (by omega))))).trans w1
  · exact ((u4.f (by omega) 2).trans ((u3.f (by omega) 2).trans ((u2.f (by omega) 2).trans (u1.2 2 (by omega))))).trans w2
  · exact (((T1.un u2 h6 (by omega) (fun c _ _ => by omega)).un u3 h6 (by omega) (fun c _ _ => by omega)).un u4 h6 (by omega) (fun c _ _ => by omega))
  · exact ((H2.un u3 (fun c hc => by omega)).un u4 (fun c hc => by omega))
  · exact L3.un u4 (fun c hc => by omega)
