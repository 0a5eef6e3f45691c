/-! cases, as JamOath has them -/
def spB (S : xSem) (G : Nat → Int32) (i : Nat) (F : Int32) (k : Nat) : Int32 := iF (fun f b => if bit F f = 0 then b else if voc (Clr S i (pV G i) f) = 0 then b else b ||| one_ f) 0 k
theorem spB_succ (S : xSem) (G : Nat → Int32) (i : Nat) (F : Int32) (k : Nat) : spB S G i F (k + 1) = if bit F k = 0 then spB S G i F k else if voc (Clr S i (pV G i) k) = 0 then spB S G i F k else spB S G i F k ||| one_ k := rfl
def jeS (sp : Nat → Int32) (n : Nat) (F : Int32) (set : Nat) (b : Int32 × Int32) : Int32 × Int32 := if jBC (nI set) < b.2 ∧ F &&& (tdB sp set n ^^^ (-1)) = 0 then (nI set, jBC (nI set)) else b
def jeF (sp : Nat → Int32) (n : Nat) (F : Int32) (k : Nat) : Int32 × Int32 := iF (fun set b => jeS sp n F set b) (-5, 7) k
theorem jeF_succ (sp : Nat → Int32) (n : Nat) (F : Int32) (k : Nat) : jeF sp n F (k + 1) = jeS sp n F k (jeF sp n F k) := rfl
abbrev lb1 (g : Int64) (s : Nat) : Prop := g >>> ((nI s).toInt64 &&& 63) &&& 1 = 1
def gmI (g : Int64) (i : Nat) (m0 : Int64) (k : Nat) : Int64 := iF (fun s m => if lb1 g s ∧ bit (nI s) i = 0 then m ||| (1 <<< ((nI s ||| one_ i).toInt64 &&& 63)) else m) m0 k
theorem gmI_succ (g : Int64) (i : Nat) (m0 : Int64) (k : Nat) : gmI g i m0 (k + 1) = if lb1 g k ∧ bit (nI k) i = 0 then gmI g i m0 k ||| (1 <<< ((nI k ||| one_ i).toInt64 &&& 63)) else gmI g i m0 k := rfl
def gmO (g : Int64) (sp : Nat → Int32) (f n : Nat) : Int64 := iF (fun i m => if bit (sp i) f = 0 then m else gmI g i m 64) 0 n
theorem gmO_succ (g : Int64) (sp : Nat → Int32) (f n : Nat) : gmO g sp f (n + 1) = if bit (sp n) f = 0 then gmO g sp f n else gmI g n (gmO g sp f n) 64 := rfl
def gvF (F : Int32) (sp : Nat → Int32) (n k : Nat) : Int64 := iF (fun f g => if bit F f = 0 then g else g ||| gmO g sp f n) 1 k
theorem gvF_succ (F : Int32) (sp : Nat → Int32) (n k : Nat) : gvF F sp n (k + 1) = if bit F k = 0 then gvF F sp n k else gvF F sp n k ||| gmO (gvF F sp n k) sp k n := rfl
def mstF (g : Int64) (k : Nat) : Int32 := iF (fun s m => if lb1 g s then mxI m (jBC (nI s)) else m) 0 k
theorem mstF_succ (g : Int64) (k : Nat) : mstF g (k + 1) = if lb1 g k then mxI (mstF g k) (jBC (nI k)) else mstF g k := rfl
def casJ (S : xSem) (G : Nat → Int32) (n : Nat) (F w : Int32) : Int32 := if rng w 0 1 then (if rng F 0 255 then (if w = 0 then (jeF (fun i => spB S G i F 8) n F (2 ^ n)).1 else mstF (gvF F (fun i => spB S G i F 8) n 8) 64) else -2) else -1
theorem jeF_cg {t t2 : Nat → Int32} {n : Nat} (h : ∀ i, i < n → t i = t2 i) (F : Int32) : ∀ k, jeF t n F k = jeF t2 n F k := by
  intro k
  induction k with
  | zero => rfl
  | succ k ih => rw [jeF_succ, jeF_succ, ih, jeS, jeS, tdB_cg h k n (Nat.le_refl _)]
theorem gmO_cg {t t2 : Nat → Int32} (g : Int64) (f : Nat) : ∀ n, (∀ i, i < n → t i = t2 i) → gmO g t f n = gmO g t2 f n := by
  intro n
  induction n with
  | zero => intro _; exact (show gmO g t f 0 = 0 from rfl).trans (show 0 = gmO g t2 f 0 from rfl)
  | succ n ih => intro h; rw [gmO_succ, gmO_succ, ih (fun i hi => h i (by omega)), h n (by omega)]
theorem gvF_cg {t t2 : Nat → Int32} {n : Nat} (h : ∀ i, i < n → t i = t2 i) (F : Int32) : ∀ k, gvF F t n k = gvF F t2 n k := by
  intro k
  induction k with
  | zero => exact (show gvF F t n 0 = 1 from rfl).trans (show 1 = gvF F t2 n 0 from rfl)
  | succ k ih => rw [gvF_succ, gvF_succ, ih, gmO_cg _ _ n h]

theorem lX8_gatherSpoken18 {d : Nat} {σ : xSt} {Post : Option Value → xSt → Prop} (hd : 3 ≤ d) {n m p k i : Nat} (G : Nat → Int32) (S : xSem) (F : Int32) (hi : i < n) (hJ : RepJ σ 1 G n m p k) (hc : CO G n m p k) (hS : JSem σ S) (h : xEv kX8_gatherSpoken (d + 1) 68 [some (.ref 0), some (.int F), some (.int (nI i)), some (.int (spB S G i F 8)), some (.int (nI 8))] [] σ Post) : ∀ (q j : Nat), 9 ≤ j + q → j ≤ 8 → xEv kX8_gatherSpoken (d + 1) 18 [some (.ref 0), some (.int F), some (.int (nI i)), some (.int (spB S G i F j)), some (.int (nI j))] [] σ Post := by
  intro q
  induction q with
  | zero => intro j hq hj; omega
  | succ q ih =>
    intro j hq hj
    have hi6 : i < 6 := by have := hc.2.1; omega
    refine xe_iload dX8_gatherSpoken_18 rfl ?_
    refine xe_bipush (v := 8) dX8_gatherSpoken_20 rfl ?_
    refine xe_icmp_ge (tgt := 68) dX8_gatherSpoken_22 (by decide) (fun h22 => ?_) (fun h22 => ?_)
    · obtain rfl : j = 8 := by have := nLe (a := 8) (by omega) (by omega) h22; omega
      exact h
    · have hlt : j < 8 := nNle (a := 8) (by omega) (by omega) h22
      refine xe_iload_n dX8_gatherSpoken_25 rfl ?_
      refine xe_iload dX8_gatherSpoken_26 rfl ?_
      refine xe_calls (k2 := kX8_isIn) (vs := [_, _]) dX8_gatherSpoken_28 okX8_isIn mlX8_193 stX8_isIn rfl rfl (Nat.le_of_ble_eq_true rfl) (Nat.le_of_ble_eq_true rfl) (sX8_isIn (by omega) F j ?_)
      refine xe_if_eq (tgt := 62) dX8_gatherSpoken_31 (by decide) (fun h31 => ?_) (fun h31 => ?_)
      · refine xn_inc (j := j) (lv2 := [_, _, _, _, _]) dX8_gatherSpoken_62 (by decide) rfl rfl ?_
        refine xe_goto (tgt := 18) dX8_gatherSpoken_65 (by decide) ?_
        have L := ih (j + 1) (by omega) (by omega)
        rw [spB_succ] at L
        first
        | (rw [if_pos h31] at L; exact L)
        | (rw [if_neg h31, if_pos h52] at L; exact L)
        | (rw [if_neg h31, if_neg h52] at L; exact L)
      · refine xe_aload_n dX8_gatherSpoken_34 rfl ?_
        refine xe_aload_n dX8_gatherSpoken_35 rfl ?_
        refine xe_getr dX8_gatherSpoken_36 flX8_12 (by decide) rfl rfl ?_
        refine xe_getr dX8_gatherSpoken_39 flX8_211 (by decide) rfl rfl ?_
        refine xe_iload_n dX8_gatherSpoken_42 rfl ?_
        refine xn_aaload dX8_gatherSpoken_43 (by decide) rfl (by decide) (by first | with_reducible rfl | (simp only [xl, pk_mul, nI_add, nI_1]; done) | (simp only [xl, pk_mul, nI_add, nI_1]; rfl)) (by omega) (by decide) (isS.t hi6) ?_
        refine xe_iload dX8_gatherSpoken_44 rfl ?_
        refine xe_callv (k2 := kX8_clearOf) (vs := [_, _]) dX8_gatherSpoken_46 okX8_clearOf mlX8_105 imX8_clearOf slX8_clearOf (Or.inl ⟨8, _, _, by decide, rfl, rfl, rfl⟩) rfl rfl (Nat.le_of_ble_eq_true rfl) (Nat.le_of_ble_eq_true rfl) (sX8_clearOf (by omega) S _ hS (isS1.p hi6) hlt (hJ.P.2 i hi) ?_)
        refine xe_calls (k2 := kX8_voiceOf) (vs := [_]) dX8_gatherSpoken_49 okX8_voiceOf mlX8_190 stX8_voiceOf rfl rfl (Nat.le_of_ble_eq_true rfl) (Nat.le_of_ble_eq_true rfl) (sX8_voiceOf (by omega) _ ?_)
        refine xe_if_eq (tgt := 62) dX8_gatherSpoken_52 (by decide) (fun h52 => ?_) (fun h52 => ?_)
        · refine xn_inc (j := j) (lv2 := [_, _, _, _, _]) dX8_gatherSpoken_62 (by decide) rfl rfl ?_
          refine xe_goto (tgt := 18) dX8_gatherSpoken_65 (by decide) ?_
          have L := ih (j + 1) (by omega) (by omega)
          rw [spB_succ] at L
          first
          | (rw [if_pos h31] at L; exact L)
          | (rw [if_neg h31, if_pos h52] at L; exact L)
          | (rw [if_neg h31, if_neg h52] at L; exact L)
        · refine xe_iload_n dX8_gatherSpoken_55 rfl ?_
          refine xe_iconst (v := 1) dX8_gatherSpoken_56 rfl ?_
          refine xe_iload dX8_gatherSpoken_57 rfl ?_
          refine xe_ishl dX8_gatherSpoken_59 ?_
          refine xe_ior dX8_gatherSpoken_60 ?_
          refine xe_istore_n (lv2 := [_, _, _, _, _]) dX8_gatherSpoken_61 (by decide) rfl ?_
          refine xn_inc (j := j) (lv2 := [_, _, _, _, _]) dX8_gatherSpoken_62 (by decide) rfl rfl ?_
          refine xe_goto (tgt := 18) dX8_gatherSpoken_65 (by decide) ?_
          have L := ih (j + 1) (by omega) (by omega)
          rw [spB_succ] at L
          first
          | (rw [if_pos h31] at L; exact L)
          | (rw [if_neg h31, if_pos h52] at L; exact L)
          | (rw [if_neg h31, if_neg h52] at L; exact L)

theorem lX8_gatherSpoken2 {d : Nat} {σ : xSt} {Post : Option Value → xSt → Prop} (hd : 3 ≤ d) {n m p k : Nat} (G : Nat → Int32) (S : xSem) (F : Int32) (hJ : RepJ σ 1 G n m p k) (hc : CO G n m p k) (hS : JSem σ S) (h : ∀ τ, JK σ τ → (∀ i, i < n → τ.2.1 99 i = spB S G i F 8) → Post none τ) : ∀ (q j : Nat) (τ : xSt) (v3 v4 : Option Value), n + 1 ≤ j + q → j ≤ n → JK σ τ → (∀ i, i < j → τ.2.1 99 i = spB S G i F 8) → xEv kX8_gatherSpoken (d + 1) 2 [some (.ref 0), some (.int F), some (.int (nI j)), v3, v4] [] τ Post := by
  intro q
  induction q with
  | zero => intro j τ v3 v4 hq hj hk ht; omega
  | succ q ih =>
    intro j τ v3 v4 hq hj hk ht
    have hn6 : n ≤ 6 := hc.2.1
    have hJ2 := hJ.jk hn6 hk
    have hS2 := hS.jk hk
    refine xe_iload_n dX8_gatherSpoken_2 rfl ?_
    refine xe_aload_n dX8_gatherSpoken_3 rfl ?_
    refine xe_getr dX8_gatherSpoken_4 flX8_12 (by decide) rfl rfl ?_
    refine xe_getf dX8_gatherSpoken_7 flX8_208 (by decide) rfl rfl ?_
    rw [hJ2.P.1]
    refine xe_icmp_ge (tgt := 81) dX8_gatherSpoken_10 (by decide) (fun h10 => ?_) (fun h10 => ?_)
    · refine xe_vret dX8_gatherSpoken_81 rfl ?_
      obtain rfl : j = n := by have := nLe (by omega) (by omega) h10; omega
      exact h τ hk ht
    · have hlt := nNle (by omega) (by omega) h10
      refine xe_iconst (v := 0) dX8_gatherSpoken_13 rfl ?_
      refine xe_istore_n (lv2 := [_, _, _, _, _]) dX8_gatherSpoken_14 (by decide) rfl ?_
      refine xe_iconst (v := 0) dX8_gatherSpoken_15 rfl ?_
      refine xe_istore (lv2 := [_, _, _, _, _]) dX8_gatherSpoken_16 (by decide) rfl ?_
      refine lX8_gatherSpoken18 (d := d) hd G S F hlt hJ2 hc hS2 ?_ 9 0 (by omega) (by omega)
      refine xe_aload_n dX8_gatherSpoken_68 rfl ?_
      refine xe_getr dX8_gatherSpoken_69 flX8_64 (by decide) rfl rfl ?_
      refine xe_iload_n dX8_gatherSpoken_72 rfl ?_
      refine xe_iload_n dX8_gatherSpoken_73 rfl ?_
      refine xn_iastore (j := j) dX8_gatherSpoken_74 (by decide) rfl (by first | with_reducible rfl | (simp only [xl, pk_mul, nI_add, nI_1]; done) | (simp only [xl, pk_mul, nI_add, nI_1]; rfl)) (by omega) (by first | decide | omega) ?_
      refine xn_inc (j := j) (lv2 := [_, _, _, _, _]) dX8_gatherSpoken_75 (by decide) rfl rfl ?_
      refine xe_goto (tgt := 2) dX8_gatherSpoken_78 (by decide) ?_
      refine ih (j + 1) _ _ _ (by omega) (by omega) (hk.tr (Un.A (Or.inr (Or.inr rfl)))) (fun i hi => ?_)
      rw [xsA_get]
      by_cases z : i = j
      · subst z; rw [pk_us]
      · rw [pk_un z]; exact ht i (by omega)

theorem sX8_gatherSpoken {d : Nat} (hd : 4 ≤ d) {σ : xSt} {Post : Option Value → xSt → Prop} {n m p k : Nat} (G : Nat → Int32) (S : xSem) (F : Int32) (hJ : RepJ σ 1 G n m p k) (hc : CO G n m p k) (hS : JSem σ S) (h : ∀ τ, JK σ τ → (∀ i, i < n → τ.2.1 99 i = spB S G i F 8) → Post none τ) : xM kX8_gatherSpoken d [.ref 0, .int F] σ Post := by
  obtain ⟨d, rfl⟩ : ∃ e, d = e + 1 := ⟨d - 1, by omega⟩
  refine xM_start (lv := [some (.ref 0), some (.int F), none, none, none]) rfl ?_
  refine xe_iconst (v := 0) dX8_gatherSpoken_0 rfl ?_
  refine xe_istore_n (lv2 := [_, _, _, _, _]) dX8_gatherSpoken_1 (by decide) rfl ?_
  exact lX8_gatherSpoken2 (d := d) (by omega) G S F hJ hc hS h (n + 1) 0 σ _ _ (by omega) (by omega) Un.rf (fun i hi => absurd hi (by omega))

theorem lX8_spokenBy {d : Nat} {σ : xSt} {Post : Option Value → xSt → Prop} {n : Nat} (hn : σ.1 1 4 = nI n) (h6 : n ≤ 6) (set : Nat) (h : Post (some (.int (tdB (σ.2.1 99) set n))) σ) : ∀ (q j : Nat), n + 1 ≤ j + q → j ≤ n → xEv kX8_spokenBy (d + 1) 4 [some (.ref 0), some (.int (nI set)), some (.int (tdB (σ.2.1 99) set j)), some (.int (nI j))] [] σ Post := by
  intro q
  induction q with
  | zero => intro j hq hj; omega
  | succ q ih =>
    intro j hq hj
    refine xe_iload_n dX8_spokenBy_4 rfl ?_
    refine xe_aload_n dX8_spokenBy_5 rfl ?_
    refine xe_getr dX8_spokenBy_6 flX8_12 (by decide) rfl rfl ?_
    refine xe_getf dX8_spokenBy_9 flX8_208 (by decide) rfl rfl ?_
    rw [hn]
    refine xe_icmp_ge (tgt := 38) dX8_spokenBy_12 (by decide) (fun h12 => ?_) (fun h12 => ?_)
    · obtain rfl : j = n := by have := nLe (by omega) (by omega) h12; omega
      refine xe_iload_n dX8_spokenBy_38 rfl ?_
      refine xe_iret dX8_spokenBy_39 rfl rfl ?_
      exact h
    · have hlt := nNle (by omega) (by omega) h12
      refine xe_iload_n dX8_spokenBy_15 rfl ?_
      refine xe_iload_n dX8_spokenBy_16 rfl ?_
      refine xe_calls (k2 := kX8_isIn) (vs := [_, _]) dX8_spokenBy_17 okX8_isIn mlX8_193 stX8_isIn rfl rfl (Nat.le_of_ble_eq_true rfl) (Nat.le_of_ble_eq_true rfl) (sX8_isIn (by omega) (nI set) j ?_)
      refine xe_if_eq (tgt := 32) dX8_spokenBy_20 (by decide) (fun h20 => ?_) (fun h20 => ?_)
      · refine xn_inc (j := j) (lv2 := [_, _, _, _]) dX8_spokenBy_32 (by decide) rfl rfl ?_
        refine xe_goto (tgt := 4) dX8_spokenBy_35 (by decide) ?_
        have L := ih (j + 1) (by omega) (by omega)
        rw [tdB_succ] at L
        first
        | (rw [if_neg (c := bit (nI set) j = 1) (by rw [h20]; decide), Int32.or_zero] at L; exact L)
        | (rw [if_pos (c := bit (nI set) j = 1) ((bit01 (nI set) j).resolve_left h20)] at L; exact L)
      · refine xe_iload_n dX8_spokenBy_23 rfl ?_
        refine xe_aload_n dX8_spokenBy_24 rfl ?_
        refine xe_getr dX8_spokenBy_25 flX8_64 (by decide) rfl rfl ?_
        refine xe_iload_n dX8_spokenBy_28 rfl ?_
        refine xn_iaload (j := j) dX8_spokenBy_29 (by decide) rfl (by first | with_reducible rfl | (simp only [xl, pk_mul, nI_add, nI_1]; done) | (simp only [xl, pk_mul, nI_add, nI_1]; rfl)) (by omega) (by first | decide | omega) ?_
        refine xe_ior dX8_spokenBy_30 ?_
        refine xe_istore_n (lv2 := [_, _, _, _]) dX8_spokenBy_31 (by decide) rfl ?_
        refine xn_inc (j := j) (lv2 := [_, _, _, _]) dX8_spokenBy_32 (by decide) rfl rfl ?_
        refine xe_goto (tgt := 4) dX8_spokenBy_35 (by decide) ?_
        have L := ih (j + 1) (by omega) (by omega)
        rw [tdB_succ] at L
        first
        | (rw [if_neg (c := bit (nI set) j = 1) (by rw [h20]; decide), Int32.or_zero] at L; exact L)
        | (rw [if_pos (c := bit (nI set) j = 1) ((bit01 (nI set) j).resolve_left h20)] at L; exact L)

theorem sX8_spokenBy {d : Nat} (hd : 1 ≤ d) {σ : xSt} {Post : Option Value → xSt → Prop} {n : Nat} (set : Nat) (hn : σ.1 1 4 = nI n) (h6 : n ≤ 6) (h : Post (some (.int (tdB (σ.2.1 99) set n))) σ) : xM kX8_spokenBy d [.ref 0, .int (nI set)] σ Post := by
  obtain ⟨d, rfl⟩ : ∃ e, d = e + 1 := ⟨d - 1, by omega⟩
  refine xM_start (lv := [some (.ref 0), some (.int (nI set)), none, none]) rfl ?_
  refine xe_iconst (v := 0) dX8_spokenBy_0 rfl ?_
  refine xe_istore_n (lv2 := [_, _, _, _]) dX8_spokenBy_1 (by decide) rfl ?_
  refine xe_iconst (v := 0) dX8_spokenBy_2 rfl ?_
  refine xe_istore_n (lv2 := [_, _, _, _]) dX8_spokenBy_3 (by decide) rfl ?_
  exact lX8_spokenBy (d := d) hn h6 set h (n + 1) 0 (by omega) (by omega)

theorem lX8_enough {d : Nat} {σ : xSt} {Post : Option Value → xSt → Prop} (hd : 1 ≤ d) {n : Nat} (hn : σ.1 1 4 = nI n) (h6 : n ≤ 6) (F : Int32) (h : Post (some (.int (jeF (σ.2.1 99) n F (2 ^ n)).1)) σ) : ∀ (q j : Nat) (v5 : Option Value), 2 ^ n + 1 ≤ j + q → j ≤ 2 ^ n → xEv kX8_enough (d + 1) 9 [some (.ref 0), some (.int F), some (.int (jeF (σ.2.1 99) n F j).1), some (.int (jeF (σ.2.1 99) n F j).2), some (.int (nI j)), v5] [] σ Post := by
  intro q
  induction q with
  | zero => intro j v5 hq hj; omega
  | succ q ih =>
    intro j v5 hq hj
    have h64 := pow_le n h6
    refine xe_iload dX8_enough_9 rfl ?_
    refine xe_iconst (v := 1) dX8_enough_11 rfl ?_
    refine xe_aload_n dX8_enough_12 rfl ?_
    refine xe_getr dX8_enough_13 flX8_12 (by decide) rfl rfl ?_
    refine xe_getf dX8_enough_16 flX8_208 (by decide) rfl rfl ?_
    rw [hn]
    refine xe_ishl dX8_enough_19 ?_
    rw [pow_n n h6]
    refine xe_icmp_ge (tgt := 61) dX8_enough_20 (by decide) (fun h20 => ?_) (fun h20 => ?_)
    · obtain rfl : j = 2 ^ n := by have := nLe (by omega) (by omega) h20; omega
      refine xe_iload_n dX8_enough_61 rfl ?_
      refine xe_iret dX8_enough_62 rfl rfl ?_
      exact h
    · have hlt := nNle (by omega) (by omega) h20
      refine xe_iload dX8_enough_23 rfl ?_
      refine xe_calls (k2 := kJ6_bitCount_0f7a4) (vs := [_]) dX8_enough_25 okJ6_bitCount_0f7a4 mlX8_240 stJ6_bitCount_0f7a4 rfl rfl (Nat.le_of_ble_eq_true rfl) (Nat.le_of_ble_eq_true rfl) (sJ6_bitCount_0f7a4 (by omega) (nI j) ?_)
      refine xe_istore (lv2 := [_, _, _, _, _, _]) dX8_enough_28 (by decide) rfl ?_
      refine xe_iload dX8_enough_30 rfl ?_
      refine xe_iload_n dX8_enough_32 rfl ?_
      refine xe_icmp_ge (tgt := 55) dX8_enough_33 (by decide) (fun h33 => ?_) (fun h33 => ?_)
      · refine xn_inc (j := j) (lv2 := [_, _, _, _, _, _]) dX8_enough_55 (by decide) rfl rfl ?_
        refine xe_goto (tgt := 9) dX8_enough_58 (by decide) ?_
        have L := ih (j + 1) (some (.int (jBC (nI j)))) (by omega) (by omega)
        rw [jeF_succ, jeS] at L
        first
        | (rw [if_neg (fun z => absurd z.1 (Int32.not_lt.mpr h33))] at L; exact L)
        | (rw [if_neg (fun z => h46 z.2)] at L; exact L)
        | (rw [if_pos ⟨Int32.not_le.mp h33, h46⟩] at L; exact L)
      · refine xe_iload_n dX8_enough_36 rfl ?_
        refine xe_aload_n dX8_enough_37 rfl ?_
        refine xe_iload dX8_enough_38 rfl ?_
        refine xe_callv (k2 := kX8_spokenBy) (vs := [_]) dX8_enough_40 okX8_spokenBy mlX8_245 imX8_spokenBy slX8_spokenBy (Or.inl ⟨8, _, _, by decide, rfl, rfl, rfl⟩) rfl rfl (Nat.le_of_ble_eq_true rfl) (Nat.le_of_ble_eq_true rfl) (sX8_spokenBy (by omega) j hn h6 ?_)
        refine xe_iconst (v := -1) dX8_enough_43 rfl ?_
        refine xe_ixor dX8_enough_44 ?_
        refine xe_iand dX8_enough_45 ?_
        refine xe_if_ne (tgt := 55) dX8_enough_46 (by decide) (fun h46 => ?_) (fun h46 => ?_)
        · refine xn_inc (j := j) (lv2 := [_, _, _, _, _, _]) dX8_enough_55 (by decide) rfl rfl ?_
          refine xe_goto (tgt := 9) dX8_enough_58 (by decide) ?_
          have L := ih (j + 1) (some (.int (jBC (nI j)))) (by omega) (by omega)
          rw [jeF_succ, jeS] at L
          first
          | (rw [if_neg (fun z => absurd z.1 (Int32.not_lt.mpr h33))] at L; exact L)
          | (rw [if_neg (fun z => h46 z.2)] at L; exact L)
          | (rw [if_pos ⟨Int32.not_le.mp h33, h46⟩] at L; exact L)
        · refine xe_iload dX8_enough_49 rfl ?_
          refine xe_istore_n (lv2 := [_, _, _, _, _, _]) dX8_enough_51 (by decide) rfl ?_
          refine xe_iload dX8_enough_52 rfl ?_
          refine xe_istore_n (lv2 := [_, _, _, _, _, _]) dX8_enough_54 (by decide) rfl ?_
          refine xn_inc (j := j) (lv2 := [_, _, _, _, _, _]) dX8_enough_55 (by decide) rfl rfl ?_
          refine xe_goto (tgt := 9) dX8_enough_58 (by decide) ?_
          have L := ih (j + 1) (some (.int (jBC (nI j)))) (by omega) (by omega)
          rw [jeF_succ, jeS] at L
          first
          | (rw [if_neg (fun z => absurd z.1 (Int32.not_lt.mpr h33))] at L; exact L)
          | (rw [if_neg (fun z => h46 z.2)] at L; exact L)
          | (rw [if_pos ⟨Int32.not_le.mp h33, h46⟩] at L; exact L)

theorem sX8_enough {d : Nat} (hd : 2 ≤ d) {σ : xSt} {Post : Option Value → xSt → Prop} {n : Nat} (F : Int32) (hn : σ.1 1 4 = nI n) (h6 : n ≤ 6) (h : Post (some (.int (jeF (σ.2.1 99) n F (2 ^ n)).1)) σ) : xM kX8_enough d [.ref 0, .int F] σ Post := by
  obtain ⟨d, rfl⟩ : ∃ e, d = e + 1 := ⟨d - 1, by omega⟩
  refine xM_start (lv := [some (.ref 0), some (.int F), none, none, none, none]) rfl ?_
  refine xe_bipush (v := -5) dX8_enough_0 rfl ?_
  refine xe_istore_n (lv2 := [_, _, _, _, _, _]) dX8_enough_2 (by decide) rfl ?_
  refine xe_bipush (v := 7) dX8_enough_3 rfl ?_
  refine xe_istore_n (lv2 := [_, _, _, _, _, _]) dX8_enough_5 (by decide) rfl ?_
  refine xe_iconst (v := 0) dX8_enough_6 rfl ?_
  refine xe_istore (lv2 := [_, _, _, _, _, _]) dX8_enough_7 (by decide) rfl ?_
  exact lX8_enough (d := d) (by omega) hn h6 F h (2 ^ n + 1) 0 _ (by omega) (Nat.zero_le _)

theorem lX8_givenOneMore34 {d : Nat} {σ : xSt} {Post : Option Value → xSt → Prop} (g m0 : Int64) (f i : Nat) (sp : Int32) (hsp : ¬ sp = 0) (hi : i < 6) (h : xEv kX8_givenOneMore (d + 1) 87 [some (.ref 0), some (.long g), none, some (.int (nI f)), some (.long (gmI g i m0 64)), none, some (.int (nI i)), some (.int sp), some (.int (nI 64))] [] σ Post) : ∀ (q j : Nat), 65 ≤ j + q → j ≤ 64 → xEv kX8_givenOneMore (d + 1) 34 [some (.ref 0), some (.long g), none, some (.int (nI f)), some (.long (gmI g i m0 j)), none, some (.int (nI i)), some (.int sp), some (.int (nI j))] [] σ Post := by
  intro q
  induction q with
  | zero => intro j hq hj; omega
  | succ q ih =>
    intro j hq hj
    refine xe_iload dX8_givenOneMore_34 rfl ?_
    refine xe_if_eq (tgt := 87) dX8_givenOneMore_36 (by decide) (fun h36 => absurd h36 hsp) (fun h36 => ?_)
    refine xe_iload dX8_givenOneMore_39 rfl ?_
    refine xe_bipush (v := 64) dX8_givenOneMore_41 rfl ?_
    refine xe_icmp_ge (tgt := 87) dX8_givenOneMore_43 (by decide) (fun h43 => ?_) (fun h43 => ?_)
    · obtain rfl : j = 64 := by have := nLe (a := 64) (by omega) (by omega) h43; omega
      exact h
    · have hlt : j < 64 := nNle (a := 64) (by omega) (by omega) h43
      refine xe_lload_n dX8_givenOneMore_46 rfl ?_
      refine xe_iload dX8_givenOneMore_47 rfl ?_
      refine xe_lshr dX8_givenOneMore_49 ?_
      refine xe_lconst (v := 1) dX8_givenOneMore_50 rfl ?_
      refine xe_land dX8_givenOneMore_51 ?_
      refine xe_lconst (v := 1) dX8_givenOneMore_52 rfl ?_
      refine xe_lcmp dX8_givenOneMore_53 ?_
      refine xe_if_ne (tgt := 81) dX8_givenOneMore_54 (by decide) (fun h54 => ?_) (fun h54 => ?_)
      · refine xn_inc (j := j) (lv2 := [_, _, _, _, _, _, _, _, _]) dX8_givenOneMore_81 (by decide) rfl rfl ?_
        refine xe_goto (tgt := 34) dX8_givenOneMore_84 (by decide) ?_
        have L := ih (j + 1) (by omega) (by omega)
        rw [gmI_succ] at L
        first
        | (rw [if_neg (fun z => h54 (lg_eq0.mpr z.1))] at L; exact L)
        | (rw [if_neg (fun z => h64 z.2)] at L; exact L)
        | (rw [if_pos ⟨lg_eq0.mp h54, h64⟩] at L; exact L)
      · refine xe_iload dX8_givenOneMore_57 rfl ?_
        refine xe_iload dX8_givenOneMore_59 rfl ?_
        refine xe_calls (k2 := kX8_isIn) (vs := [_, _]) dX8_givenOneMore_61 okX8_isIn mlX8_193 stX8_isIn rfl rfl (Nat.le_of_ble_eq_true rfl) (Nat.le_of_ble_eq_true rfl) (sX8_isIn (by omega) (nI j) i ?_)
        refine xe_if_ne (tgt := 81) dX8_givenOneMore_64 (by decide) (fun h64 => ?_) (fun h64 => ?_)
        · refine xn_inc (j := j) (lv2 := [_, _, _, _, _, _, _, _, _]) dX8_givenOneMore_81 (by decide) rfl rfl ?_
          refine xe_goto (tgt := 34) dX8_givenOneMore_84 (by decide) ?_
          have L := ih (j + 1) (by omega) (by omega)
          rw [gmI_succ] at L
          first
          | (rw [if_neg (fun z => h54 (lg_eq0.mpr z.1))] at L; exact L)
          | (rw [if_neg (fun z => h64 z.2)] at L; exact L)
          | (rw [if_pos ⟨lg_eq0.mp h54, h64⟩] at L; exact L)
        · refine xe_lload dX8_givenOneMore_67 rfl ?_
          refine xe_lconst (v := 1) dX8_givenOneMore_69 rfl ?_
          refine xe_iload dX8_givenOneMore_70 rfl ?_
          refine xe_iconst (v := 1) dX8_givenOneMore_72 rfl ?_
          refine xe_iload dX8_givenOneMore_73 rfl ?_
          refine xe_ishl dX8_givenOneMore_75 ?_
          refine xe_ior dX8_givenOneMore_76 ?_
          refine xe_lshl dX8_givenOneMore_77 ?_
          refine xe_lor dX8_givenOneMore_78 ?_
          refine xe_lstore (lv2 := [_, _, _, _, _, _, _, _, _]) dX8_givenOneMore_79 (by decide) rfl ?_
          refine xn_inc (j := j) (lv2 := [_, _, _, _, _, _, _, _, _]) dX8_givenOneMore_81 (by decide) rfl rfl ?_
          refine xe_goto (tgt := 34) dX8_givenOneMore_84 (by decide) ?_
          have L := ih (j + 1) (by omega) (by omega)
          rw [gmI_succ] at L
          first
          | (rw [if_neg (fun z => h54 (lg_eq0.mpr z.1))] at L; exact L)
          | (rw [if_neg (fun z => h64 z.2)] at L; exact L)
          | (rw [if_pos ⟨lg_eq0.mp h54, h64⟩] at L; exact L)

theorem lX8_givenOneMore6 {d : Nat} {σ : xSt} {Post : Option Value → xSt → Prop} {n : Nat} (hn : σ.1 1 4 = nI n) (h6 : n ≤ 6) (g : Int64) (f : Nat) (h : Post (some (.long (gmO g (σ.2.1 99) f n))) σ) : ∀ (q j : Nat) (v7 v8 : Option Value), n + 1 ≤ j + q → j ≤ n → xEv kX8_givenOneMore (d + 1) 6 [some (.ref 0), some (.long g), none, some (.int (nI f)), some (.long (gmO g (σ.2.1 99) f j)), none, some (.int (nI j)), v7, v8] [] σ Post := by
  intro q
  induction q with
  | zero => intro j v7 v8 hq hj; omega
  | succ q ih =>
    intro j v7 v8 hq hj
    refine xe_iload dX8_givenOneMore_6 rfl ?_
    refine xe_aload_n dX8_givenOneMore_8 rfl ?_
    refine xe_getr dX8_givenOneMore_9 flX8_12 (by decide) rfl rfl ?_
    refine xe_getf dX8_givenOneMore_12 flX8_208 (by decide) rfl rfl ?_
    rw [hn]
    refine xe_icmp_ge (tgt := 93) dX8_givenOneMore_15 (by decide) (fun h15 => ?_) (fun h15 => ?_)
    · obtain rfl : j = n := by have := nLe (by omega) (by omega) h15; omega
      refine xe_lload dX8_givenOneMore_93 rfl ?_
      refine xe_lret dX8_givenOneMore_95 rfl ?_
      exact h
    · have hlt := nNle (by omega) (by omega) h15
      refine xe_aload_n dX8_givenOneMore_18 rfl ?_
      refine xe_getr dX8_givenOneMore_19 flX8_64 (by decide) rfl rfl ?_
      refine xe_iload dX8_givenOneMore_22 rfl ?_
      refine xn_iaload (j := j) dX8_givenOneMore_24 (by decide) rfl (by first | with_reducible rfl | (simp only [xl, pk_mul, nI_add, nI_1]; done) | (simp only [xl, pk_mul, nI_add, nI_1]; rfl)) (by omega) (by first | decide | omega) ?_
      refine xe_iload_n dX8_givenOneMore_25 rfl ?_
      refine xe_calls (k2 := kX8_isIn) (vs := [_, _]) dX8_givenOneMore_26 okX8_isIn mlX8_193 stX8_isIn rfl rfl (Nat.le_of_ble_eq_true rfl) (Nat.le_of_ble_eq_true rfl) (sX8_isIn (by omega) _ f ?_)
      refine xe_istore (lv2 := [_, _, _, _, _, _, _, _, _]) dX8_givenOneMore_29 (by decide) rfl ?_
      refine xe_iconst (v := 0) dX8_givenOneMore_31 rfl ?_
      refine xe_istore (lv2 := [_, _, _, _, _, _, _, _, _]) dX8_givenOneMore_32 (by decide) rfl ?_
      have L := fun w7 w8 => ih (j + 1) w7 w8 (by omega) (by omega)
      rw [gmO_succ] at L
      by_cases z : bit (σ.2.1 99 j) f = 0
      · rw [if_pos z] at L
        refine xe_iload dX8_givenOneMore_34 rfl ?_
        refine xe_if_eq (tgt := 87) dX8_givenOneMore_36 (by decide) (fun h36 => ?_) (fun h36 => absurd z h36)
        refine xn_inc (j := j) (lv2 := [_, _, _, _, _, _, _, _, _]) dX8_givenOneMore_87 (by decide) rfl rfl ?_
        refine xe_goto (tgt := 6) dX8_givenOneMore_90 (by decide) ?_
        exact L _ _
      · rw [if_neg z] at L
        refine lX8_givenOneMore34 (d := d) g (gmO g (σ.2.1 99) f j) f j _ z (by omega) ?_ 65 0 (by omega) (by omega)
        refine xn_inc (j := j) (lv2 := [_, _, _, _, _, _, _, _, _]) dX8_givenOneMore_87 (by decide) rfl rfl ?_
        refine xe_goto (tgt := 6) dX8_givenOneMore_90 (by decide) ?_
        exact L _ _

theorem sX8_givenOneMore {d : Nat} (hd : 1 ≤ d) {σ : xSt} {Post : Option Value → xSt → Prop} {n : Nat} (g : Int64) (f : Nat) (hn : σ.1 1 4 = nI n) (h6 : n ≤ 6) (h : Post (some (.long (gmO g (σ.2.1 99) f n))) σ) : xM kX8_givenOneMore d [.ref 0, .long g, .int (nI f)] σ Post := by
  obtain ⟨d, rfl⟩ : ∃ e, d = e + 1 := ⟨d - 1, by omega⟩
  refine xM_start (lv := [some (.ref 0), some (.long g), none, some (.int (nI f)), none, none, none, none, none]) rfl ?_
  refine xe_lconst (v := 0) dX8_givenOneMore_0 rfl ?_
  refine xe_lstore (lv2 := [_, _, _, _, _, _, _, _, _]) dX8_givenOneMore_1 (by decide) rfl ?_
  refine xe_iconst (v := 0) dX8_givenOneMore_3 rfl ?_
  refine xe_istore (lv2 := [_, _, _, _, _, _, _, _, _]) dX8_givenOneMore_4 (by decide) rfl ?_
  exact lX8_givenOneMore6 (d := d) hn h6 g f h (n + 1) 0 _ _ (by omega) (by omega)

theorem lX8_ownPots43 {d : Nat} {σ : xSt} {Post : Option Value → xSt → Prop} (hd : 1 ≤ d) (F : Int32) (g : Int64) (h : Post (some (.int (mstF g 64))) σ) : ∀ (q j : Nat), 65 ≤ j + q → j ≤ 64 → xEv kX8_ownPots (d + 1) 43 [some (.ref 0), some (.int F), some (.long g), none, some (.int (mstF g j)), some (.int (nI j))] [] σ Post := by
  intro q
  induction q with
  | zero => intro j hq hj; omega
  | succ q ih =>
    intro j hq hj
    refine xe_iload dX8_ownPots_43 rfl ?_
    refine xe_bipush (v := 64) dX8_ownPots_45 rfl ?_
    refine xe_icmp_ge (tgt := 79) dX8_ownPots_47 (by decide) (fun h47 => ?_) (fun h47 => ?_)
    · obtain rfl : j = 64 := by have := nLe (a := 64) (by omega) (by omega) h47; omega
      refine xe_iload dX8_ownPots_79 rfl ?_
      refine xe_iret dX8_ownPots_81 rfl rfl ?_
      exact h
    · have hlt : j < 64 := nNle (a := 64) (by omega) (by omega) h47
      refine xe_lload_n dX8_ownPots_50 rfl ?_
      refine xe_iload dX8_ownPots_51 rfl ?_
      refine xe_lshr dX8_ownPots_53 ?_
      refine xe_lconst (v := 1) dX8_ownPots_54 rfl ?_
      refine xe_land dX8_ownPots_55 ?_
      refine xe_lconst (v := 1) dX8_ownPots_56 rfl ?_
      refine xe_lcmp dX8_ownPots_57 ?_
      refine xe_if_ne (tgt := 73) dX8_ownPots_58 (by decide) (fun h58 => ?_) (fun h58 => ?_)
      · refine xn_inc (j := j) (lv2 := [_, _, _, _, _, _]) dX8_ownPots_73 (by decide) rfl rfl ?_
        refine xe_goto (tgt := 43) dX8_ownPots_76 (by decide) ?_
        have L := ih (j + 1) (by omega) (by omega)
        rw [mstF_succ] at L
        first
        | (rw [if_neg (fun z => h58 (lg_eq0.mpr z))] at L; exact L)
        | (rw [if_pos (lg_eq0.mp h58)] at L; exact L)
      · refine xe_iload dX8_ownPots_61 rfl ?_
        refine xe_iload dX8_ownPots_63 rfl ?_
        refine xe_calls (k2 := kJ6_bitCount_0f7a4) (vs := [_]) dX8_ownPots_65 okJ6_bitCount_0f7a4 mlX8_240 stJ6_bitCount_0f7a4 rfl rfl (Nat.le_of_ble_eq_true rfl) (Nat.le_of_ble_eq_true rfl) (sJ6_bitCount_0f7a4 (by omega) (nI j) ?_)
        refine xe_mmax dX8_ownPots_68 mlX8_252 (by omega) (Nat.le_of_ble_eq_true rfl) ?_
        refine xe_istore (lv2 := [_, _, _, _, _, _]) dX8_ownPots_71 (by decide) rfl ?_
        refine xn_inc (j := j) (lv2 := [_, _, _, _, _, _]) dX8_ownPots_73 (by decide) rfl rfl ?_
        refine xe_goto (tgt := 43) dX8_ownPots_76 (by decide) ?_
        have L := ih (j + 1) (by omega) (by omega)
        rw [mstF_succ] at L
        first
        | (rw [if_neg (fun z => h58 (lg_eq0.mpr z))] at L; exact L)
        | (rw [if_pos (lg_eq0.mp h58)] at L; exact L)

theorem lX8_ownPots5 {d : Nat} {σ : xSt} {Post : Option Value → xSt → Prop} (hd : 1 ≤ d) {n : Nat} (hn : σ.1 1 4 = nI n) (h6 : n ≤ 6) (F : Int32) (h : Post (some (.int (mstF (gvF F (σ.2.1 99) n 8) 64))) σ) : ∀ (q j : Nat), 9 ≤ j + q → j ≤ 8 → xEv kX8_ownPots (d + 1) 5 [some (.ref 0), some (.int F), some (.long (gvF F (σ.2.1 99) n j)), none, some (.int (nI j)), none] [] σ Post := by
  intro q
  induction q with
  | zero => intro j hq hj; omega
  | succ q ih =>
    intro j hq hj
    refine xe_iload dX8_ownPots_5 rfl ?_
    refine xe_bipush (v := 8) dX8_ownPots_7 rfl ?_
    refine xe_icmp_ge (tgt := 37) dX8_ownPots_9 (by decide) (fun h9 => ?_) (fun h9 => ?_)
    · obtain rfl : j = 8 := by have := nLe (a := 8) (by omega) (by omega) h9; omega
      refine xe_iconst (v := 0) dX8_ownPots_37 rfl ?_
      refine xe_istore (lv2 := [_, _, _, _, _, _]) dX8_ownPots_38 (by decide) rfl ?_
      refine xe_iconst (v := 0) dX8_ownPots_40 rfl ?_
      refine xe_istore (lv2 := [_, _, _, _, _, _]) dX8_ownPots_41 (by decide) rfl ?_
      exact lX8_ownPots43 (d := d) hd F _ h 65 0 (by omega) (by omega)
    · have hlt : j < 8 := nNle (a := 8) (by omega) (by omega) h9
      refine xe_iload_n dX8_ownPots_12 rfl ?_
      refine xe_iload dX8_ownPots_13 rfl ?_
      refine xe_calls (k2 := kX8_isIn) (vs := [_, _]) dX8_ownPots_15 okX8_isIn mlX8_193 stX8_isIn rfl rfl (Nat.le_of_ble_eq_true rfl) (Nat.le_of_ble_eq_true rfl) (sX8_isIn (by omega) F j ?_)
      refine xe_if_eq (tgt := 31) dX8_ownPots_18 (by decide) (fun h18 => ?_) (fun h18 => ?_)
      · refine xn_inc (j := j) (lv2 := [_, _, _, _, _, _]) dX8_ownPots_31 (by decide) rfl rfl ?_
        refine xe_goto (tgt := 5) dX8_ownPots_34 (by decide) ?_
        have L := ih (j + 1) (by omega) (by omega)
        rw [gvF_succ] at L
        first
        | (rw [if_pos h18] at L; exact L)
        | (rw [if_neg h18] at L; exact L)
      · refine xe_lload_n dX8_ownPots_21 rfl ?_
        refine xe_aload_n dX8_ownPots_22 rfl ?_
        refine xe_lload_n dX8_ownPots_23 rfl ?_
        refine xe_iload dX8_ownPots_24 rfl ?_
        refine xe_callv (k2 := kX8_givenOneMore) (vs := [_, _]) dX8_ownPots_26 okX8_givenOneMore mlX8_248 imX8_givenOneMore slX8_givenOneMore (Or.inl ⟨8, _, _, by decide, rfl, rfl, rfl⟩) rfl rfl (Nat.le_of_ble_eq_true rfl) (Nat.le_of_ble_eq_true rfl) (sX8_givenOneMore (by omega) (gvF F (σ.2.1 99) n j) j hn h6 ?_)
        refine xe_lor dX8_ownPots_29 ?_
        refine xe_lstore_n (lv2 := [_, _, _, _, _, _]) dX8_ownPots_30 (by decide) rfl ?_
        refine xn_inc (j := j) (lv2 := [_, _, _, _, _, _]) dX8_ownPots_31 (by decide) rfl rfl ?_
        refine xe_goto (tgt := 5) dX8_ownPots_34 (by decide) ?_
        have L := ih (j + 1) (by omega) (by omega)
        rw [gvF_succ] at L
        first
        | (rw [if_pos h18] at L; exact L)
        | (rw [if_neg h18] at L; exact L)

theorem sX8_ownPots {d : Nat} (hd : 2 ≤ d) {σ : xSt} {Post : Option Value → xSt → Prop} {n : Nat} (F : Int32) (hn : σ.1 1 4 = nI n) (h6 : n ≤ 6) (h : Post (some (.int (mstF (gvF F (σ.2.1 99) n 8) 64))) σ) : xM kX8_ownPots d [.ref 0, .int F] σ Post := by
  obtain ⟨d, rfl⟩ : ∃ e, d = e + 1 := ⟨d - 1, by omega⟩
  refine xM_start (lv := [some (.ref 0), some (.int F), none, none, none, none]) rfl ?_
  refine xe_lconst (v := 1) dX8_ownPots_0 rfl ?_
  refine xe_lstore_n (lv2 := [_, _, _, _, _, _]) dX8_ownPots_1 (by decide) rfl ?_
  refine xe_iconst (v := 0) dX8_ownPots_2 rfl ?_
  refine xe_istore (lv2 := [_, _, _, _, _, _]) dX8_ownPots_3 (by decide) rfl ?_
  exact lX8_ownPots5 (d := d) (by omega) hn h6 F h 9 0 (by omega) (by omega)

theorem sX8_cases {d : Nat} (hd : 5 ≤ d) {σ : xSt} {Post : Option Value → xSt → Prop} {n m p k : Nat} (G : Nat → Int32) (S : xSem) (F w : Int32) (hJ : RepJ σ 1 G n m p k) (hc : CO G n m p k) (hS : JSem σ S) (h : ∀ τ, JK σ τ → Post (some (.int (casJ S G n F w))) τ) : xM kX8_cases d [.ref 0, .int F, .int w] σ Post := by
  obtain ⟨d, rfl⟩ : ∃ e, d = e + 1 := ⟨d - 1, by omega⟩
  refine xM_start (lv := [some (.ref 0), some (.int F), some (.int w)]) rfl ?_
  have hn6 : n ≤ 6 := hc.2.1
  refine xe_iload_n dX8_cases_0 rfl ?_
  refine xe_if_eq (tgt := 11) dX8_cases_1 (by decide) (fun h1 => ?_) (fun h1 => ?_)
  · have cw : rng w 0 1 := by first | (rw [h1]; decide) | (rw [h6]; decide)
    refine xe_iload_n dX8_cases_11 rfl ?_
    refine xe_if_lt (tgt := 22) dX8_cases_12 (by decide) (fun h12 => ?_) (fun h12 => ?_)
    · refine xe_bipush (v := -2) dX8_cases_22 rfl ?_
      refine xe_iret dX8_cases_24 rfl rfl ?_
      have cF : ¬ rng F 0 255 := by first | exact fun z => absurd z.1 (Int32.not_le.mpr h12) | exact fun z => h19 z.2
      have e := h σ Un.rf
      rw [casJ, if_pos cw, if_neg cF] at e
      exact e
    · refine xe_iload_n dX8_cases_15 rfl ?_
      refine xe_sipush (v := 255) dX8_cases_16 rfl ?_
      refine xe_icmp_le (tgt := 25) dX8_cases_19 (by decide) (fun h19 => ?_) (fun h19 => ?_)
      · have cF : rng F 0 255 := ⟨Int32.not_lt.mp h12, h19⟩
        refine xe_aload_n dX8_cases_25 rfl ?_
        refine xe_iload_n dX8_cases_26 rfl ?_
        refine xe_callv (k2 := kX8_gatherSpoken) (vs := [_]) dX8_cases_27 okX8_gatherSpoken mlX8_231 imX8_gatherSpoken slX8_gatherSpoken (Or.inl ⟨8, _, _, by decide, rfl, rfl, rfl⟩) rfl rfl (Nat.le_of_ble_eq_true rfl) (Nat.le_of_ble_eq_true rfl) (sX8_gatherSpoken (by omega) G S F hJ hc hS (fun τ hk ht => ?_))
        refine xe_iload_n dX8_cases_30 rfl ?_
        refine xe_if_ne (tgt := 42) dX8_cases_31 (by decide) (fun h31 => ?_) (fun h31 => ?_)
        · refine xe_aload_n dX8_cases_42 rfl ?_
          refine xe_iload_n dX8_cases_43 rfl ?_
          refine xe_callv (k2 := kX8_ownPots) (vs := [_]) dX8_cases_44 okX8_ownPots mlX8_237 imX8_ownPots slX8_ownPots (Or.inl ⟨8, _, _, by decide, rfl, rfl, rfl⟩) rfl rfl (Nat.le_of_ble_eq_true rfl) (Nat.le_of_ble_eq_true rfl) (sX8_ownPots (by omega) F (hJ.jk hn6 hk).P.1 hn6 ?_)
          refine xe_iret dX8_cases_47 rfl rfl ?_
          have e := h τ hk
          rw [casJ, if_pos cw, if_pos cF] at e
          first | (rw [if_pos h31] at e; rw [jeF_cg ht]; exact e) | (rw [if_neg h31] at e; rw [gvF_cg ht]; exact e)
        · refine xe_aload_n dX8_cases_34 rfl ?_
          refine xe_iload_n dX8_cases_35 rfl ?_
          refine xe_callv (k2 := kX8_enough) (vs := [_]) dX8_cases_36 okX8_enough mlX8_234 imX8_enough slX8_enough (Or.inl ⟨8, _, _, by decide, rfl, rfl, rfl⟩) rfl rfl (Nat.le_of_ble_eq_true rfl) (Nat.le_of_ble_eq_true rfl) (sX8_enough (by omega) F (hJ.jk hn6 hk).P.1 hn6 ?_)
          refine xe_goto (tgt := 47) dX8_cases_39 (by decide) ?_
          refine xe_iret dX8_cases_47 rfl rfl ?_
          have e := h τ hk
          rw [casJ, if_pos cw, if_pos cF] at e
          first | (rw [if_pos h31] at e; rw [jeF_cg ht]; exact e) | (rw [if_neg h31] at e; rw [gvF_cg ht]; exact e)
      · refine xe_bipush (v := -2) dX8_cases_22 rfl ?_
        refine xe_iret dX8_cases_24 rfl rfl ?_
        have cF : ¬ rng F 0 255 := by first | exact fun z => absurd z.1 (Int32.not_le.mpr h12) | exact fun z => h19 z.2
        have e := h σ Un.rf
        rw [casJ, if_pos cw, if_neg cF] at e
        exact e
  · refine xe_iload_n dX8_cases_4 rfl ?_
    refine xe_iconst (v := 1) dX8_cases_5 rfl ?_
    refine xe_icmp_eq (tgt := 11) dX8_cases_6 (by decide) (fun h6 => ?_) (fun h6 => ?_)
    · have cw : rng w 0 1 := by first | (rw [h1]; decide) | (rw [h6]; decide)
      refine xe_iload_n dX8_cases_11 rfl ?_
      refine xe_if_lt (tgt := 22) dX8_cases_12 (by decide) (fun h12 => ?_) (fun h12 => ?_)
      · refine xe_bipush (v := -2) dX8_cases_22 rfl ?_
        refine xe_iret dX8_cases_24 rfl rfl ?_
        have cF : ¬ rng F 0 255 := by first | exact fun z => absurd z.1 (Int32.not_le.mpr h12) | exact fun z => h19 z.2
        have e := h σ Un.rf
        rw [casJ, if_pos cw, if_neg cF] at e
        exact e
      · refine xe_iload_n dX8_cases_15 rfl ?_
        refine xe_sipush (v := 255) dX8_cases_16 rfl ?_
        refine xe_icmp_le (tgt := 25) dX8_cases_19 (by decide) (fun h19 => ?_) (fun h19 => ?_)
        · have cF : rng F 0 255 := ⟨Int32.not_lt.mp h12, h19⟩
          refine xe_aload_n dX8_cases_25 rfl ?_
          refine xe_iload_n dX8_cases_26 rfl ?_
          refine xe_callv (k2 := kX8_gatherSpoken) (vs := [_]) dX8_cases_27 okX8_gatherSpoken mlX8_231 imX8_gatherSpoken slX8_gatherSpoken (Or.inl ⟨8, _, _, by decide, rfl, rfl, rfl⟩) rfl rfl (Nat.le_of_ble_eq_true rfl) (Nat.le_of_ble_eq_true rfl) (sX8_gatherSpoken (by omega) G S F hJ hc hS (fun τ hk ht => ?_))
          refine xe_iload_n dX8_cases_30 rfl ?_
          refine xe_if_ne (tgt := 42) dX8_cases_31 (by decide) (fun h31 => ?_) (fun h31 => ?_)
          · refine xe_aload_n dX8_cases_42 rfl ?_
            refine xe_iload_n dX8_cases_43 rfl ?_
            refine xe_callv (k2 := kX8_ownPots) (vs := [_]) dX8_cases_44 okX8_ownPots mlX8_237 imX8_ownPots slX8_ownPots (Or.inl ⟨8, _, _, by decide, rfl, rfl, rfl⟩) rfl rfl (Nat.le_of_ble_eq_true rfl) (Nat.le_of_ble_eq_true rfl) (sX8_ownPots (by omega) F (hJ.jk hn6 hk).P.1 hn6 ?_)
            refine xe_iret dX8_cases_47 rfl rfl ?_
            have e := h τ hk
            rw [casJ, if_pos cw, if_pos cF] at e
            first | (rw [if_pos h31] at e; rw [jeF_cg ht]; exact e) | (rw [if_neg h31] at e; rw [gvF_cg ht]; exact e)
          · refine xe_aload_n dX8_cases_34 rfl ?_
            refine xe_iload_n dX8_cases_35 rfl ?_
            refine xe_callv (k2 := kX8_enough) (vs := [_]) dX8_cases_36 okX8_enough mlX8_234 imX8_enough slX8_enough (Or.inl ⟨8, _, _, by decide, rfl, rfl, rfl⟩) rfl rfl (Nat.le_of_ble_eq_true rfl) (Nat.le_of_ble_eq_true rfl) (sX8_enough (by omega) F (hJ.jk hn6 hk).P.1 hn6 ?_)
            refine xe_goto (tgt := 47) dX8_cases_39 (by decide) ?_
            refine xe_iret dX8_cases_47 rfl rfl ?_
            have e := h τ hk
            rw [casJ, if_pos cw, if_pos cF] at e
            first | (rw [if_pos h31] at e; rw [jeF_cg ht]; exact e) | (rw [if_neg h31] at e; rw [gvF_cg ht]; exact e)
        · refine xe_bipush (v := -2) dX8_cases_22 rfl ?_
          refine xe_iret dX8_cases_24 rfl rfl ?_
          have cF : ¬ rng F 0 255 := by first | exact fun z => absurd z.1 (Int32.not_le.mpr h12) | exact fun z => h19 z.2
          have e := h σ Un.rf
          rw [casJ, if_pos cw, if_neg cF] at e
          exact e
    · refine xe_iconst (v := -1) dX8_cases_9 rfl ?_
      refine xe_iret dX8_cases_10 rfl rfl ?_
      have e := h σ Un.rf
      rw [casJ, if_neg (fun z => (rng01 z).elim h1 h6)] at e
      exact e
