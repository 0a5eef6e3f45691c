theorem nI_or (a b : Nat) : nI a ||| nI b = nI (a ||| b) := by
  apply Int32.toBitVec_inj.mp
  show BitVec.ofNat 32 a ||| BitVec.ofNat 32 b = BitVec.ofNat 32 (a ||| b)
  exact BitVec.ofNat_or.symm
theorem one_nI : ∀ j, j < 16 → one_ j = nI (2 ^ j) := by decide +kernel
theorem pV_upd {G : Nat → Int32} {i k : Nat} {x : Int32} : pV (upd G (9 * i + k) x) i = upd (pV G i) k x := by
  funext j
  by_cases z : j = k
  · subst z; show upd G (9 * i + j) x (9 * i + j) = _; rw [pk_us, pk_us]
  · show upd G (9 * i + k) x (9 * i + j) = _; rw [pk_un (by omega), pk_un z]
theorem ftB_nat (S : xSem) (G : Nat → Int32) (m i k : Nat) : ∀ j, j ≤ 10 → ∃ u, u < 2 ^ 10 ∧ ftB S G m i k j = nI u := by
  intro j
  induction j with
  | zero => intro _; exact ⟨0, by decide, rfl⟩
  | succ j ih =>
    intro hj
    obtain ⟨u, hu, e⟩ := ih (by omega)
    rw [ftB_succ, e]
    split
    · refine ⟨u ||| 2 ^ j, Nat.or_lt_two_pow hu (Nat.pow_lt_pow_right (by omega) (by omega)), ?_⟩
      rw [one_nI j (by omega), nI_or]
    · exact ⟨u, hu, Int32.or_zero⟩
def us_ (x : Int32) (k : Nat) : Int32 := (x.toUInt32 >>> ((nI k).toUInt32 &&& Int32.toUInt32 31)).toInt32
def jb1 (x : Int32) : Int32 := x - (us_ x 1 &&& 1431655765)
def jb2 (x : Int32) : Int32 := (x &&& 858993459) + (us_ x 2 &&& 858993459)
def jb3 (x : Int32) : Int32 := (x + us_ x 4) &&& 252645135
def jb4 (x : Int32) : Int32 := x + us_ x 8
def jb5 (x : Int32) : Int32 := x + us_ x 16
def jBC (x : Int32) : Int32 := jb5 (jb4 (jb3 (jb2 (jb1 x)))) &&& 63
theorem jBC_cn : ∀ u, u < 2 ^ 10 → jBC (nI u) = (cnF (nI u) 10).1 := by decide +kernel
def lsB (b : Int32) : Nat → Nat → Int32
  | 0, _ => -5
  | q + 1, j => if bit b j = 0 then lsB b q (j + 1) else nI j
theorem lsB_cn : ∀ u, u < 2 ^ 10 → lsB (nI u) 10 0 = (cnF (nI u) 10).2 := by decide +kernel
theorem asR_mono {S : xSem} {G : Nat → Int32} {i r : Nat} : ∀ m, r ≤ m → asR S G i m = true → asR S G i r = true := by
  intro m
  induction m with
  | zero => intro h e; rw [show r = 0 by omega]; rfl
  | succ m ih =>
    intro h e
    by_cases z : r = m + 1
    · rw [z]; exact e
    · rw [asR, Bool.and_eq_true] at e; exact ih (by omega) e.1
theorem asR_no {S : xSem} {G : Nat → Int32} {i r m : Nat} (h : r ≤ m) (e : asR S G i r = false) : asR S G i m = false := by
  cases q : asR S G i m
  · rfl
  · rw [asR_mono m h q] at e; cases e
/-- what was heard is -1, 0, 1: never -5 -/
def H3o (G : Nat → Int32) (m : Nat) : Prop := ∀ r, r < m → ¬ G (59 + 3 * r + 2) = -5
theorem said_iff {c : Int32} {f : Nat} {w s : Int32} (h : ¬ s = -5) : ((if syB c f w = -5 then -1 else syB c f w) = s) ↔ syB c f w = said s := by
  unfold said
  rcases syB_cases c f w with q | q | q <;> rw [q]
  · rw [if_pos rfl]
    by_cases z : s = -1
    · rw [if_pos z, z]; simp
    · rw [if_neg z]
      constructor
      · intro e; exact absurd e.symm z
      · intro e; exact absurd e.symm h
  · rw [if_neg (by decide)]
    by_cases z : s = -1
    · rw [if_pos z, z]; decide
    · rw [if_neg z]
  · rw [if_neg (by decide)]
    by_cases z : s = -1
    · rw [if_pos z, z]; decide
    · rw [if_neg z]
theorem rngc {u c : Nat} (hu : u < 2 ^ 31) (hc : c ≤ 30) : rng (nI u - nI c) 0 7 ↔ (c ≤ u ∧ u ≤ c + 7) := by
  unfold rng
  rw [Int32.le_iff_toInt_le, Int32.le_iff_toInt_le, Int32.toInt_sub, nI_toInt hu, nI_toInt (by omega), show (0 : Int32).toInt = 0 from rfl, show (7 : Int32).toInt = 7 from rfl, Int.bmod_eq_of_le (by omega) (by omega)]
  omega

theorem ofneg {w : Int32} {c : Nat} (hc : 10 ≤ c) (hc2 : c ≤ 30) (h5 : ¬ 5 ≤ w) (z : ¬ rng w 0 4) (q : rng (w - nI c) 0 7) : False := by
  have hw : w < 0 := by
    apply Int32.not_le.mp
    intro h0
    refine z ⟨h0, ?_⟩
    have h5 := Int32.not_le.mp h5
    rw [Int32.lt_iff_toInt_lt, show (5 : Int32).toInt = 5 from rfl] at h5
    rw [Int32.le_iff_toInt_le, show (4 : Int32).toInt = 4 from rfl]; omega
  have e : w = (w - nI c) + nI c := by rw [Int32.sub_add_cancel]
  obtain ⟨j, hj, ej⟩ := rng_nat (m := 7) (by omega) q
  rw [ej, nI_add] at e
  rw [e] at hw
  exact nI_pos (by omega) hw

theorem sJ6_bitCount_0f7a4 {d : Nat} (hd : 0 ≤ d) {σ : xSt} {Post : Option Value → xSt → Prop} (x : Int32) (h : Post (some (.int (jBC x))) σ) : xM kJ6_bitCount_0f7a4 d [.int x] σ Post := by
  refine xM_start (lv := [some (.int x)]) rfl ?_
  refine xe_iload_n dJ6_bitCount_0f7a4_0 rfl ?_
  refine xe_iload_n dJ6_bitCount_0f7a4_1 rfl ?_
  refine xe_iconst (v := 1) dJ6_bitCount_0f7a4_2 rfl ?_
  refine xe_iushr dJ6_bitCount_0f7a4_3 ?_
  refine xe_ldcw dJ6_bitCount_0f7a4_4 cnJ6_265 ?_
  refine xe_iand dJ6_bitCount_0f7a4_7 ?_
  refine xe_isub dJ6_bitCount_0f7a4_8 ?_
  refine xe_top (x2 := jb1 x) rfl ?_
  refine xe_istore_n (lv2 := [_]) dJ6_bitCount_0f7a4_9 (by decide) rfl ?_
  refine xe_iload_n dJ6_bitCount_0f7a4_10 rfl ?_
  refine xe_ldcw dJ6_bitCount_0f7a4_11 cnJ6_266 ?_
  refine xe_iand dJ6_bitCount_0f7a4_14 ?_
  refine xe_iload_n dJ6_bitCount_0f7a4_15 rfl ?_
  refine xe_iconst (v := 2) dJ6_bitCount_0f7a4_16 rfl ?_
  refine xe_iushr dJ6_bitCount_0f7a4_17 ?_
  refine xe_ldcw dJ6_bitCount_0f7a4_18 cnJ6_266 ?_
  refine xe_iand dJ6_bitCount_0f7a4_21 ?_
  refine xe_iadd dJ6_bitCount_0f7a4_22 ?_
  refine xe_top (x2 := jb2 (jb1 x)) rfl ?_
  refine xe_istore_n (lv2 := [_]) dJ6_bitCount_0f7a4_23 (by decide) rfl ?_
  refine xe_iload_n dJ6_bitCount_0f7a4_24 rfl ?_
  refine xe_iload_n dJ6_bitCount_0f7a4_25 rfl ?_
  refine xe_iconst (v := 4) dJ6_bitCount_0f7a4_26 rfl ?_
  refine xe_iushr dJ6_bitCount_0f7a4_27 ?_
  refine xe_iadd dJ6_bitCount_0f7a4_28 ?_
  refine xe_ldcw dJ6_bitCount_0f7a4_29 cnJ6_267 ?_
  refine xe_iand dJ6_bitCount_0f7a4_32 ?_
  refine xe_top (x2 := jb3 (jb2 (jb1 x))) rfl ?_
  refine xe_istore_n (lv2 := [_]) dJ6_bitCount_0f7a4_33 (by decide) rfl ?_
  refine xe_iload_n dJ6_bitCount_0f7a4_34 rfl ?_
  refine xe_iload_n dJ6_bitCount_0f7a4_35 rfl ?_
  refine xe_bipush (v := 8) dJ6_bitCount_0f7a4_36 rfl ?_
  refine xe_iushr dJ6_bitCount_0f7a4_38 ?_
  refine xe_iadd dJ6_bitCount_0f7a4_39 ?_
  refine xe_top (x2 := jb4 (jb3 (jb2 (jb1 x)))) rfl ?_
  refine xe_istore_n (lv2 := [_]) dJ6_bitCount_0f7a4_40 (by decide) rfl ?_
  refine xe_iload_n dJ6_bitCount_0f7a4_41 rfl ?_
  refine xe_iload_n dJ6_bitCount_0f7a4_42 rfl ?_
  refine xe_bipush (v := 16) dJ6_bitCount_0f7a4_43 rfl ?_
  refine xe_iushr dJ6_bitCount_0f7a4_45 ?_
  refine xe_iadd dJ6_bitCount_0f7a4_46 ?_
  refine xe_top (x2 := jb5 (jb4 (jb3 (jb2 (jb1 x))))) rfl ?_
  refine xe_istore_n (lv2 := [_]) dJ6_bitCount_0f7a4_47 (by decide) rfl ?_
  refine xe_iload_n dJ6_bitCount_0f7a4_48 rfl ?_
  refine xe_bipush (v := 63) dJ6_bitCount_0f7a4_49 rfl ?_
  refine xe_iand dJ6_bitCount_0f7a4_51 ?_
  refine xe_iret dJ6_bitCount_0f7a4_52 rfl rfl ?_
  exact h

theorem sX8_trait {d : Nat} (hd : 0 ≤ d) {σ : xSt} {Post : Option Value → xSt → Prop} {c i : Nat} (a : Nat → Int32) (w : Int32) (hp : isP c) (hr : RepP σ c i a) (h : Post (some (.int (if rng w 0 4 then a (cN w) else -10001))) σ) : xM kX8_trait d [.ref c, .int w] σ Post := by
  refine xM_start (lv := [some (.ref c), some (.int w)]) rfl ?_
  refine xe_iload_n dX8_trait_0 rfl ?_
  refine xn_tsw (tgs := [36, 41, 46, 51, 56]) (td := 61) dX8_trait_1 rfl rfl rfl (fun i1 t1 hg1 hx1 => ?_) (fun hx1 => ?_)
  · match i1, hg1, hx1 with
    | 0, hg1, hx1 =>
      cases hg1
      have cw : w = 0 := Int32.toInt_inj.mp (by rw [hx1]; rfl)
      refine xe_aload_n dX8_trait_36 rfl ?_
      refine xe_getf dX8_trait_37 flX8_123 hp.1.1 hp.1.2 rfl ?_
      refine xe_iret dX8_trait_40 rfl rfl ?_
      subst cw
      rw [show σ.1 c 1 = a 0 from hr.2.1 0 (by omega)]
      exact h
    | 1, hg1, hx1 =>
      cases hg1
      have cw : w = 1 := Int32.toInt_inj.mp (by rw [hx1]; rfl)
      refine xe_aload_n dX8_trait_41 rfl ?_
      refine xe_getf dX8_trait_42 flX8_174 hp.1.1 hp.1.2 rfl ?_
      refine xe_iret dX8_trait_45 rfl rfl ?_
      subst cw
      rw [show σ.1 c 2 = a 1 from hr.2.1 1 (by omega)]
      exact h
    | 2, hg1, hx1 =>
      cases hg1
      have cw : w = 2 := Int32.toInt_inj.mp (by rw [hx1]; rfl)
      refine xe_aload_n dX8_trait_46 rfl ?_
      refine xe_getf dX8_trait_47 flX8_117 hp.1.1 hp.1.2 rfl ?_
      refine xe_iret dX8_trait_50 rfl rfl ?_
      subst cw
      rw [show σ.1 c 3 = a 2 from hr.2.1 2 (by omega)]
      exact h
    | 3, hg1, hx1 =>
      cases hg1
      have cw : w = 3 := Int32.toInt_inj.mp (by rw [hx1]; rfl)
      refine xe_aload_n dX8_trait_51 rfl ?_
      refine xe_getf dX8_trait_52 flX8_177 hp.1.1 hp.1.2 rfl ?_
      refine xe_iret dX8_trait_55 rfl rfl ?_
      subst cw
      rw [show σ.1 c 4 = a 3 from hr.2.1 3 (by omega)]
      exact h
    | 4, hg1, hx1 =>
      cases hg1
      have cw : w = 4 := Int32.toInt_inj.mp (by rw [hx1]; rfl)
      refine xe_aload_n dX8_trait_56 rfl ?_
      refine xe_getf dX8_trait_57 flX8_180 hp.1.1 hp.1.2 rfl ?_
      refine xe_iret dX8_trait_60 rfl rfl ?_
      subst cw
      rw [show σ.1 c 5 = a 4 from hr.2.1 4 (by omega)]
      exact h
    | i1 + 5, hg1, hx1 => simp at hg1
  · skip
    have cw : ¬ rng w 0 4 := fun z => by
      have q1 := Int32.le_iff_toInt_le.mp z.1
      have q2 := Int32.le_iff_toInt_le.mp z.2
      rw [show (0 : Int32).toInt = 0 from rfl] at q1
      rw [show (4 : Int32).toInt = 4 from rfl] at q2
      omega
    refine xe_sipush (v := -10001) dX8_trait_61 rfl ?_
    refine xe_iret dX8_trait_64 rfl rfl ?_
    rw [if_neg cw] at h
    exact h

theorem lX8_bearsOut {d : Nat} {σ : xSt} {Post : Option Value → xSt → Prop} (hd : 3 ≤ d) {c i m : Nat} (S : xSem) (G : Nat → Int32) (hS : JSem σ S) (hp : isP c) (hr : RepP σ c i (pV G i)) (hw : σ.1 1 0 = G 55) (hH : RepR σ 15 m (fun r => G (59 + 3 * r)) (fun r => G (59 + 3 * r + 1)) (fun r => G (59 + 3 * r + 2))) (hm : m ≤ 6) (hh : HRo G m) (h3 : H3o G m) (h : Post (some (.int (bI (asR S G i m)))) σ) : ∀ (q j : Nat) (v4 : Option Value), m + 1 ≤ j + q → j ≤ m → asR S G i j = true → xEv kX8_bearsOut (d + 1) 10 [some (.ref 0), some (.ref c), some (.ref 15), some (.int (nI j)), v4] [] σ Post := by
  intro q
  induction q with
  | zero => intro j v4 hq hj ha; omega
  | succ q ih =>
    intro j v4 hq hj ha
    refine xe_iload_n dX8_bearsOut_10 rfl ?_
    refine xe_aload_n dX8_bearsOut_11 rfl ?_
    refine xe_getf dX8_bearsOut_12 flX8_282 (by decide) rfl rfl ?_
    refine xe_top (x2 := nI m) hH.1 ?_
    refine xe_icmp_ge (tgt := 74) dX8_bearsOut_15 (by decide) (fun h15 => ?_) (fun h15 => ?_)
    · obtain rfl : j = m := by have := nLe (by omega) (by omega) h15; omega
      refine xe_iconst (v := 1) dX8_bearsOut_74 rfl ?_
      refine xe_iret dX8_bearsOut_75 rfl (by first | rfl | decide | assumption | exact bI_nar _ | exact xb_narrow rfl | exact xb_narrow (by assumption)) ?_
      rw [ha] at h; exact h
    · have hlt := nNle (by omega) (by omega) h15
      obtain ⟨r1, r2, r3⟩ := hH.2 j hlt
      obtain ⟨⟨pp, hpp, epp⟩, f, hf, ef⟩ := hh j hlt
      have ej : asR S G i (j + 1) = (asR S G i j && (decide (¬ G (59 + 3 * j) = nI i) || decide (syB (Clr S i (pV G i) (cN (G (59 + 3 * j + 1)))) (cN (G (59 + 3 * j + 1))) (G 55) = said (G (59 + 3 * j + 2))))) := rfl
      rw [ha, ef, cN_nI (by omega), Bool.true_and] at ej
      have S3 := said_iff (c := Clr S i (pV G i) f) (f := f) (w := G 55) (h3 j hlt)
      refine xe_aload_n dX8_bearsOut_18 rfl ?_
      refine xe_getr dX8_bearsOut_19 flX8_284 (by decide) rfl rfl ?_
      refine xe_iload_n dX8_bearsOut_22 rfl ?_
      refine xn_iaload (j := j) dX8_bearsOut_23 (by decide) rfl (by first | with_reducible rfl | (simp only [xl, pk_mul, nI_add, nI_1]; done) | (simp only [xl, pk_mul, nI_add, nI_1]; rfl)) (by omega) (by first | decide | omega) ?_
      refine xe_top (x2 := G (59 + 3 * j)) r1 ?_
      refine xe_aload_n dX8_bearsOut_24 rfl ?_
      refine xe_getf dX8_bearsOut_25 flX8_300 hp.1.1 hp.1.2 rfl ?_
      refine xe_top (x2 := nI i) hr.1 ?_
      refine xe_icmp_ne (tgt := 68) dX8_bearsOut_28 (by decide) (fun h28 => ?_) (fun h28 => ?_)
      · refine xn_inc (j := j) (lv2 := [_, _, _, _, _]) dX8_bearsOut_68 (by decide) rfl rfl ?_
        refine xe_goto (tgt := 10) dX8_bearsOut_71 (by decide) ?_
        refine ih (j + 1) _ (by omega) (by omega) ?_
        first
        | (rw [ej, decide_eq_true (show ¬ G (59 + 3 * j) = nI i from h28)]; rfl)
        | (rw [if_pos h48] at S3; rw [ej, decide_eq_true (S3.mp h63), Bool.or_true])
        | (rw [if_neg h48] at S3; rw [ej, decide_eq_true (S3.mp h63), Bool.or_true])
      · refine xe_aload_n dX8_bearsOut_31 rfl ?_
        refine xe_aload_n dX8_bearsOut_32 rfl ?_
        refine xe_aload_n dX8_bearsOut_33 rfl ?_
        refine xe_getr dX8_bearsOut_34 flX8_287 (by decide) rfl rfl ?_
        refine xe_iload_n dX8_bearsOut_37 rfl ?_
        refine xn_iaload (j := j) dX8_bearsOut_38 (by decide) rfl (by first | with_reducible rfl | (simp only [xl, pk_mul, nI_add, nI_1]; done) | (simp only [xl, pk_mul, nI_add, nI_1]; rfl)) (by omega) (by first | decide | omega) ?_
        refine xe_top (x2 := nI f) (r2.trans ef) ?_
        refine xe_callv (k2 := kX8_says) (vs := [_, _]) dX8_bearsOut_39 okX8_says mlX8_108 imX8_says slX8_says (Or.inl ⟨8, _, _, by decide, rfl, rfl, rfl⟩) rfl rfl (Nat.le_of_ble_eq_true rfl) (Nat.le_of_ble_eq_true rfl) (sX8_says (by omega) S _ hS hp hf hr ?_)
        rw [hw]
        refine xe_istore (lv2 := [_, _, _, _, _]) dX8_bearsOut_42 (by decide) rfl ?_
        refine xe_iload dX8_bearsOut_44 rfl ?_
        refine xe_bipush (v := -5) dX8_bearsOut_46 rfl ?_
        refine xe_icmp_ne (tgt := 55) dX8_bearsOut_48 (by decide) (fun h48 => ?_) (fun h48 => ?_)
        · refine xe_iload dX8_bearsOut_55 rfl ?_
          refine xe_aload_n dX8_bearsOut_57 rfl ?_
          refine xe_getr dX8_bearsOut_58 flX8_290 (by decide) rfl rfl ?_
          refine xe_iload_n dX8_bearsOut_61 rfl ?_
          refine xn_iaload (j := j) dX8_bearsOut_62 (by decide) rfl (by first | with_reducible rfl | (simp only [xl, pk_mul, nI_add, nI_1]; done) | (simp only [xl, pk_mul, nI_add, nI_1]; rfl)) (by omega) (by first | decide | omega) ?_
          refine xe_top (x2 := G (59 + 3 * j + 2)) r3 ?_
          refine xe_icmp_eq (tgt := 68) dX8_bearsOut_63 (by decide) (fun h63 => ?_) (fun h63 => ?_)
          · refine xn_inc (j := j) (lv2 := [_, _, _, _, _]) dX8_bearsOut_68 (by decide) rfl rfl ?_
            refine xe_goto (tgt := 10) dX8_bearsOut_71 (by decide) ?_
            refine ih (j + 1) _ (by omega) (by omega) ?_
            first
            | (rw [ej, decide_eq_true (show ¬ G (59 + 3 * j) = nI i from h28)]; rfl)
            | (rw [if_pos h48] at S3; rw [ej, decide_eq_true (S3.mp h63), Bool.or_true])
            | (rw [if_neg h48] at S3; rw [ej, decide_eq_true (S3.mp h63), Bool.or_true])
          · refine xe_iconst (v := 0) dX8_bearsOut_66 rfl ?_
            refine xe_iret dX8_bearsOut_67 rfl (by first | rfl | decide | assumption | exact bI_nar _ | exact xb_narrow rfl | exact xb_narrow (by assumption)) ?_
            have en : asR S G i (j + 1) = false := by
              first
              | (rw [if_pos h48] at S3; rw [ej, decide_eq_false (fun z => h63 (S3.mpr z)), decide_eq_false (fun z => z h28)]; rfl)
              | (rw [if_neg h48] at S3; rw [ej, decide_eq_false (fun z => h63 (S3.mpr z)), decide_eq_false (fun z => z h28)]; rfl)
            rw [asR_no (show j + 1 ≤ m by omega) en] at h
            exact h
        · refine xe_iconst (v := -1) dX8_bearsOut_51 rfl ?_
          refine xe_goto (tgt := 57) dX8_bearsOut_52 (by decide) ?_
          refine xe_aload_n dX8_bearsOut_57 rfl ?_
          refine xe_getr dX8_bearsOut_58 flX8_290 (by decide) rfl rfl ?_
          refine xe_iload_n dX8_bearsOut_61 rfl ?_
          refine xn_iaload (j := j) dX8_bearsOut_62 (by decide) rfl (by first | with_reducible rfl | (simp only [xl, pk_mul, nI_add, nI_1]; done) | (simp only [xl, pk_mul, nI_add, nI_1]; rfl)) (by omega) (by first | decide | omega) ?_
          refine xe_top (x2 := G (59 + 3 * j + 2)) r3 ?_
          refine xe_icmp_eq (tgt := 68) dX8_bearsOut_63 (by decide) (fun h63 => ?_) (fun h63 => ?_)
          · refine xn_inc (j := j) (lv2 := [_, _, _, _, _]) dX8_bearsOut_68 (by decide) rfl rfl ?_
            refine xe_goto (tgt := 10) dX8_bearsOut_71 (by decide) ?_
            refine ih (j + 1) _ (by omega) (by omega) ?_
            first
            | (rw [ej, decide_eq_true (show ¬ G (59 + 3 * j) = nI i from h28)]; rfl)
            | (rw [if_pos h48] at S3; rw [ej, decide_eq_true (S3.mp h63), Bool.or_true])
            | (rw [if_neg h48] at S3; rw [ej, decide_eq_true (S3.mp h63), Bool.or_true])
          · refine xe_iconst (v := 0) dX8_bearsOut_66 rfl ?_
            refine xe_iret dX8_bearsOut_67 rfl (by first | rfl | decide | assumption | exact bI_nar _ | exact xb_narrow rfl | exact xb_narrow (by assumption)) ?_
            have en : asR S G i (j + 1) = false := by
              first
              | (rw [if_pos h48] at S3; rw [ej, decide_eq_false (fun z => h63 (S3.mpr z)), decide_eq_false (fun z => z h28)]; rfl)
              | (rw [if_neg h48] at S3; rw [ej, decide_eq_false (fun z => h63 (S3.mpr z)), decide_eq_false (fun z => z h28)]; rfl)
            rw [asR_no (show j + 1 ≤ m by omega) en] at h
            exact h

theorem sX8_bearsOut {d : Nat} (hd : 4 ≤ d) {σ : xSt} {Post : Option Value → xSt → Prop} {c i m : Nat} (S : xSem) (G : Nat → Int32) (hS : JSem σ S) (hp : isP c) (hr : RepP σ c i (pV G i)) (hw : σ.1 1 0 = G 55) (hH : RepR σ 15 m (fun r => G (59 + 3 * r)) (fun r => G (59 + 3 * r + 1)) (fun r => G (59 + 3 * r + 2))) (hm : m ≤ 6) (hh : HRo G m) (h3 : H3o G m) (h : Post (some (.int (bI (asR S G i m)))) σ) : xM kX8_bearsOut d [.ref 0, .ref c] σ Post := by
  obtain ⟨d, rfl⟩ : ∃ e, d = e + 1 := ⟨d - 1, by omega⟩
  refine xM_start (lv := [some (.ref 0), some (.ref c), none, none, none]) rfl ?_
  refine xe_aload_n dX8_bearsOut_0 rfl ?_
  refine xe_getr dX8_bearsOut_1 flX8_12 (by decide) rfl rfl ?_
  refine xe_getr dX8_bearsOut_4 flX8_255 (by decide) rfl rfl ?_
  refine xe_astore_n (lv2 := [_, _, _, _, _]) dX8_bearsOut_7 (by decide) rfl ?_
  refine xe_iconst (v := 0) dX8_bearsOut_8 rfl ?_
  refine xe_istore_n (lv2 := [_, _, _, _, _]) dX8_bearsOut_9 (by decide) rfl ?_
  exact lX8_bearsOut (d := d) (by omega) S G hS hp hr hw hH hm hh h3 h (m + 1) 0 _ (by omega) (by omega) rfl

theorem lX8_least {d : Nat} {σ : xSt} {Post : Option Value → xSt → Prop} (b : Int32) : ∀ (q j : Nat), j + q = 10 → Post (some (.int (lsB b q j))) σ → xEv kX8_least (d + 1) 2 [some (.int b), some (.int (nI j))] [] σ Post := by
  intro q
  induction q with
  | zero =>
    intro j hq h
    refine xe_iload_n dX8_least_2 rfl ?_
    refine xe_bipush (v := 9) dX8_least_3 rfl ?_
    refine xe_icmp_gt (tgt := 24) dX8_least_5 (by decide) (fun h5 => ?_) (fun h5 => absurd (show nI 9 < nI j from nI_lt (by omega) (by omega)) h5)
    refine xe_bipush (v := -5) dX8_least_24 rfl ?_
    refine xe_iret dX8_least_26 rfl rfl ?_
    exact h
  | succ q ih =>
    intro j hq h
    rw [lsB] at h
    refine xe_iload_n dX8_least_2 rfl ?_
    refine xe_bipush (v := 9) dX8_least_3 rfl ?_
    refine xe_icmp_gt (tgt := 24) dX8_least_5 (by decide) (fun h5 => absurd h5 (show ¬ nI 9 < nI j from nI_nlt (by omega) (by omega))) (fun h5 => ?_)
    refine xe_iload_n dX8_least_8 rfl ?_
    refine xe_iload_n dX8_least_9 rfl ?_
    refine xe_calls (k2 := kX8_isIn) (vs := [_, _]) dX8_least_10 okX8_isIn mlX8_193 stX8_isIn rfl rfl (Nat.le_of_ble_eq_true rfl) (Nat.le_of_ble_eq_true rfl) (sX8_isIn (by omega) b j ?_)
    refine xe_if_eq (tgt := 18) dX8_least_13 (by decide) (fun h13 => ?_) (fun h13 => ?_)
    · refine xn_inc (j := j) (lv2 := [_, _]) dX8_least_18 (by decide) rfl rfl ?_
      refine xe_goto (tgt := 2) dX8_least_21 (by decide) ?_
      rw [if_pos h13] at h
      exact ih (j + 1) (by omega) h
    · refine xe_iload_n dX8_least_16 rfl ?_
      refine xe_iret dX8_least_17 rfl rfl ?_
      rw [if_neg h13] at h
      exact h

theorem sX8_least {d : Nat} (hd : 1 ≤ d) {σ : xSt} {Post : Option Value → xSt → Prop} (b : Int32) (h : Post (some (.int (lsB b 10 0))) σ) : xM kX8_least d [.int b] σ Post := by
  obtain ⟨d, rfl⟩ : ∃ e, d = e + 1 := ⟨d - 1, by omega⟩
  refine xM_start (lv := [some (.int b), none]) rfl ?_
  refine xe_iconst (v := 0) dX8_least_0 rfl ?_
  refine xe_istore_n (lv2 := [_, _]) dX8_least_1 (by decide) rfl ?_
  exact lX8_least (d := d) b 10 0 (by omega) h

theorem lX8_fittingSugars {d : Nat} {σ : xSt} {Post : Option Value → xSt → Prop} (hd : 4 ≤ d) {n m p k i : Nat} (G : Nat → Int32) (S : xSem) (hJ : RepJ σ 1 G n m p k) (hc : CO G n m p k) (hS : JSem σ S) (hi : i < n) (hh : HRo G m) (h3 : H3o G m) (h : ∀ τ, JK σ τ → Post (some (.int (ftB S G m i 2 10))) τ) : ∀ (q j : Nat) (τ : xSt) (x : Int32), 11 ≤ j + q → j ≤ 10 → JK σ τ → RepP τ 79 i (upd (pV G i) 2 x) → xEv kX8_fittingSugars (d + 1) 12 [some (.ref 0), some (.ref (1 + 2 + 2 * i)), some (.int (ftB S G m i 2 j)), some (.int (nI j))] [] τ Post := by
  intro q
  induction q with
  | zero => intro j τ x hq hj hk hr; omega
  | succ q ih =>
    intro j τ x hq hj hk hr
    have hn6 : n ≤ 6 := hc.2.1
    refine xe_iload_n dX8_fittingSugars_12 rfl ?_
    refine xe_bipush (v := 9) dX8_fittingSugars_13 rfl ?_
    refine xe_icmp_gt (tgt := 49) dX8_fittingSugars_15 (by decide) (fun h15 => ?_) (fun h15 => ?_)
    · obtain rfl : j = 10 := by have := nLt (a := 9) (by omega) (by omega) h15; omega
      refine xe_iload_n dX8_fittingSugars_49 rfl ?_
      refine xe_iret dX8_fittingSugars_50 rfl rfl ?_
      exact h τ hk
    · have hlt : j < 10 := by have := nNlt (a := 9) (by omega) (by omega) h15; omega
      refine xe_aload_n dX8_fittingSugars_18 rfl ?_
      refine xe_getr dX8_fittingSugars_19 flX8_27 (by decide) rfl rfl ?_
      refine xe_iload_n dX8_fittingSugars_22 rfl ?_
      refine xe_putf dX8_fittingSugars_23 flX8_117 (by decide) rfl rfl rfl rfl ?_
      have hu2 : Un (pC 79) τ (xsF τ 79 3 (nI j)) := Un.F (Or.inl rfl)
      have hk2 : JK σ (xsF τ 79 3 (nI j)) := hk.tr (JK.p hu2)
      have hr2 := hr.set (k := 2) (v := nI j) (by omega)
      rw [upd_upd, ← pV_upd] at hr2
      have hJ2 := hJ.jk hc.2.1 hk2
      have hh2 : HRo (upd G (9 * i + 2) (nI j)) m := fun r hr => by
        rw [pk_un (by omega), pk_un (by omega)]; exact hh r hr
      have h32 : H3o (upd G (9 * i + 2) (nI j)) m := fun r hr => by
        rw [pk_un (by omega)]; exact h3 r hr
      have hH2 : RepR (xsF τ 79 3 (nI j)) 15 m (fun r => (upd G (9 * i + 2) (nI j)) (59 + 3 * r)) (fun r => (upd G (9 * i + 2) (nI j)) (59 + 3 * r + 1)) (fun r => (upd G (9 * i + 2) (nI j)) (59 + 3 * r + 2)) := hJ2.H.cg (fun r _ => ⟨(pk_un (f := G) (j := 59 + 3 * r) (k := 9 * i + 2) (by omega)).symm, (pk_un (f := G) (j := 59 + 3 * r + 1) (k := 9 * i + 2) (by omega)).symm, (pk_un (f := G) (j := 59 + 3 * r + 2) (k := 9 * i + 2) (by omega)).symm⟩)
      have hw2 : (xsF τ 79 3 (nI j)).1 1 0 = (upd G (9 * i + 2) (nI j)) 55 := by rw [pk_un (by omega)]; exact hJ2.w
      refine xe_aload_n dX8_fittingSugars_26 rfl ?_
      refine xe_aload_n dX8_fittingSugars_27 rfl ?_
      refine xe_getr dX8_fittingSugars_28 flX8_27 (by decide) rfl rfl ?_
      refine xe_callv (k2 := kX8_bearsOut) (vs := [_]) dX8_fittingSugars_31 okX8_bearsOut mlX8_303 imX8_bearsOut slX8_bearsOut (Or.inl ⟨8, _, _, by decide, rfl, rfl, rfl⟩) rfl rfl (Nat.le_of_ble_eq_true rfl) (Nat.le_of_ble_eq_true rfl) (sX8_bearsOut (by omega) S (upd G (9 * i + 2) (nI j)) (hS.jk hk2) isP79 hr2 hw2 hH2 hc.2.2.2.1 hh2 h32 ?_)
      refine xe_if_eq (tgt := 43) dX8_fittingSugars_34 (by decide) (fun h34 => ?_) (fun h34 => ?_)
      · refine xn_inc (j := j) (lv2 := [_, _, _, _]) dX8_fittingSugars_43 (by decide) rfl rfl ?_
        refine xe_goto (tgt := 12) dX8_fittingSugars_46 (by decide) ?_
        have L := ih (j + 1) _ (nI j) (by omega) (by omega) hk2 (by rw [← pV_upd]; exact hr2)
        rw [ftB_succ] at L
        first
        | (rw [if_neg (by rw [bI_eq0.mp h34]; decide), Int32.or_zero] at L; exact L)
        | (rw [if_pos (bI_ne0.mp h34)] at L; exact L)
      · refine xe_iload_n dX8_fittingSugars_37 rfl ?_
        refine xe_iconst (v := 1) dX8_fittingSugars_38 rfl ?_
        refine xe_iload_n dX8_fittingSugars_39 rfl ?_
        refine xe_ishl dX8_fittingSugars_40 ?_
        refine xe_ior dX8_fittingSugars_41 ?_
        refine xe_istore_n (lv2 := [_, _, _, _]) dX8_fittingSugars_42 (by decide) rfl ?_
        refine xn_inc (j := j) (lv2 := [_, _, _, _]) dX8_fittingSugars_43 (by decide) rfl rfl ?_
        refine xe_goto (tgt := 12) dX8_fittingSugars_46 (by decide) ?_
        have L := ih (j + 1) _ (nI j) (by omega) (by omega) hk2 (by rw [← pV_upd]; exact hr2)
        rw [ftB_succ] at L
        first
        | (rw [if_neg (by rw [bI_eq0.mp h34]; decide), Int32.or_zero] at L; exact L)
        | (rw [if_pos (bI_ne0.mp h34)] at L; exact L)

theorem sX8_fittingSugars {d : Nat} (hd : 5 ≤ d) {σ : xSt} {Post : Option Value → xSt → Prop} {n m p k i : Nat} (G : Nat → Int32) (S : xSem) (hJ : RepJ σ 1 G n m p k) (hc : CO G n m p k) (hS : JSem σ S) (hi : i < n) (hh : HRo G m) (h3 : H3o G m) (h : ∀ τ, JK σ τ → Post (some (.int (ftB S G m i 2 10))) τ) : xM kX8_fittingSugars d [.ref 0, .ref (1 + 2 + 2 * i)] σ Post := by
  obtain ⟨d, rfl⟩ : ∃ e, d = e + 1 := ⟨d - 1, by omega⟩
  refine xM_start (lv := [some (.ref 0), some (.ref (1 + 2 + 2 * i)), none, none]) rfl ?_
  have hn6 : n ≤ 6 := hc.2.1
  refine xe_iconst (v := 0) dX8_fittingSugars_0 rfl ?_
  refine xe_istore_n (lv2 := [_, _, _, _]) dX8_fittingSugars_1 (by decide) rfl ?_
  refine xe_aload_n dX8_fittingSugars_2 rfl ?_
  refine xe_getr dX8_fittingSugars_3 flX8_27 (by decide) rfl rfl ?_
  refine xe_aload_n dX8_fittingSugars_6 rfl ?_
  refine xe_callv (k2 := kX3_copyFrom) (vs := [_]) dX8_fittingSugars_7 okX3_copyFrom mlX8_200 imX3_copyFrom slX3_copyFrom (Or.inl ⟨3, _, _, by decide, rfl, rfl, rfl⟩) rfl rfl (Nat.le_of_ble_eq_true rfl) (Nat.le_of_ble_eq_true rfl) (sX3_copyFrom (by omega) isP79 (isS1.p (i := i) (by omega)) (by omega) (by omega) (by omega) (fun τ hu hcp => ?_))
  refine xe_iconst (v := 0) dX8_fittingSugars_10 rfl ?_
  refine xe_istore_n (lv2 := [_, _, _, _]) dX8_fittingSugars_11 (by decide) rfl ?_
  exact lX8_fittingSugars (d := d) (by omega) G S hJ hc hS hi hh h3 h 11 0 τ (pV G i 2) (by omega) (by omega) (JK.p hu) (by rw [upd_self]; exact hcp i _ (hJ.P.2 i hi))

theorem lX8_fittingNumbers {d : Nat} {σ : xSt} {Post : Option Value → xSt → Prop} (hd : 4 ≤ d) {n m p k i : Nat} (G : Nat → Int32) (S : xSem) (hJ : RepJ σ 1 G n m p k) (hc : CO G n m p k) (hS : JSem σ S) (hi : i < n) (hh : HRo G m) (h3 : H3o G m) (h : ∀ τ, JK σ τ → Post (some (.int (ftB S G m i 1 10))) τ) : ∀ (q j : Nat) (τ : xSt) (x : Int32), 11 ≤ j + q → j ≤ 10 → JK σ τ → RepP τ 79 i (upd (pV G i) 1 x) → xEv kX8_fittingNumbers (d + 1) 12 [some (.ref 0), some (.ref (1 + 2 + 2 * i)), some (.int (ftB S G m i 1 j)), some (.int (nI j))] [] τ Post := by
  intro q
  induction q with
  | zero => intro j τ x hq hj hk hr; omega
  | succ q ih =>
    intro j τ x hq hj hk hr
    have hn6 : n ≤ 6 := hc.2.1
    refine xe_iload_n dX8_fittingNumbers_12 rfl ?_
    refine xe_bipush (v := 9) dX8_fittingNumbers_13 rfl ?_
    refine xe_icmp_gt (tgt := 49) dX8_fittingNumbers_15 (by decide) (fun h15 => ?_) (fun h15 => ?_)
    · obtain rfl : j = 10 := by have := nLt (a := 9) (by omega) (by omega) h15; omega
      refine xe_iload_n dX8_fittingNumbers_49 rfl ?_
      refine xe_iret dX8_fittingNumbers_50 rfl rfl ?_
      exact h τ hk
    · have hlt : j < 10 := by have := nNlt (a := 9) (by omega) (by omega) h15; omega
      refine xe_aload_n dX8_fittingNumbers_18 rfl ?_
      refine xe_getr dX8_fittingNumbers_19 flX8_27 (by decide) rfl rfl ?_
      refine xe_iload_n dX8_fittingNumbers_22 rfl ?_
      refine xe_putf dX8_fittingNumbers_23 flX8_174 (by decide) rfl rfl rfl rfl ?_
      have hu2 : Un (pC 79) τ (xsF τ 79 2 (nI j)) := Un.F (Or.inl rfl)
      have hk2 : JK σ (xsF τ 79 2 (nI j)) := hk.tr (JK.p hu2)
      have hr2 := hr.set (k := 1) (v := nI j) (by omega)
      rw [upd_upd, ← pV_upd] at hr2
      have hJ2 := hJ.jk hc.2.1 hk2
      have hh2 : HRo (upd G (9 * i + 1) (nI j)) m := fun r hr => by
        rw [pk_un (by omega), pk_un (by omega)]; exact hh r hr
      have h32 : H3o (upd G (9 * i + 1) (nI j)) m := fun r hr => by
        rw [pk_un (by omega)]; exact h3 r hr
      have hH2 : RepR (xsF τ 79 2 (nI j)) 15 m (fun r => (upd G (9 * i + 1) (nI j)) (59 + 3 * r)) (fun r => (upd G (9 * i + 1) (nI j)) (59 + 3 * r + 1)) (fun r => (upd G (9 * i + 1) (nI j)) (59 + 3 * r + 2)) := hJ2.H.cg (fun r _ => ⟨(pk_un (f := G) (j := 59 + 3 * r) (k := 9 * i + 1) (by omega)).symm, (pk_un (f := G) (j := 59 + 3 * r + 1) (k := 9 * i + 1) (by omega)).symm, (pk_un (f := G) (j := 59 + 3 * r + 2) (k := 9 * i + 1) (by omega)).symm⟩)
      have hw2 : (xsF τ 79 2 (nI j)).1 1 0 = (upd G (9 * i + 1) (nI j)) 55 := by rw [pk_un (by omega)]; exact hJ2.w
      refine xe_aload_n dX8_fittingNumbers_26 rfl ?_
      refine xe_aload_n dX8_fittingNumbers_27 rfl ?_
      refine xe_getr dX8_fittingNumbers_28 flX8_27 (by decide) rfl rfl ?_
      refine xe_callv (k2 := kX8_bearsOut) (vs := [_]) dX8_fittingNumbers_31 okX8_bearsOut mlX8_303 imX8_bearsOut slX8_bearsOut (Or.inl ⟨8, _, _, by decide, rfl, rfl, rfl⟩) rfl rfl (Nat.le_of_ble_eq_true rfl) (Nat.le_of_ble_eq_true rfl) (sX8_bearsOut (by omega) S (upd G (9 * i + 1) (nI j)) (hS.jk hk2) isP79 hr2 hw2 hH2 hc.2.2.2.1 hh2 h32 ?_)
      refine xe_if_eq (tgt := 43) dX8_fittingNumbers_34 (by decide) (fun h34 => ?_) (fun h34 => ?_)
      · refine xn_inc (j := j) (lv2 := [_, _, _, _]) dX8_fittingNumbers_43 (by decide) rfl rfl ?_
        refine xe_goto (tgt := 12) dX8_fittingNumbers_46 (by decide) ?_
        have L := ih (j + 1) _ (nI j) (by omega) (by omega) hk2 (by rw [← pV_upd]; exact hr2)
        rw [ftB_succ] at L
        first
        | (rw [if_neg (by rw [bI_eq0.mp h34]; decide), Int32.or_zero] at L; exact L)
        | (rw [if_pos (bI_ne0.mp h34)] at L; exact L)
      · refine xe_iload_n dX8_fittingNumbers_37 rfl ?_
        refine xe_iconst (v := 1) dX8_fittingNumbers_38 rfl ?_
        refine xe_iload_n dX8_fittingNumbers_39 rfl ?_
        refine xe_ishl dX8_fittingNumbers_40 ?_
        refine xe_ior dX8_fittingNumbers_41 ?_
        refine xe_istore_n (lv2 := [_, _, _, _]) dX8_fittingNumbers_42 (by decide) rfl ?_
        refine xn_inc (j := j) (lv2 := [_, _, _, _]) dX8_fittingNumbers_43 (by decide) rfl rfl ?_
        refine xe_goto (tgt := 12) dX8_fittingNumbers_46 (by decide) ?_
        have L := ih (j + 1) _ (nI j) (by omega) (by omega) hk2 (by rw [← pV_upd]; exact hr2)
        rw [ftB_succ] at L
        first
        | (rw [if_neg (by rw [bI_eq0.mp h34]; decide), Int32.or_zero] at L; exact L)
        | (rw [if_pos (bI_ne0.mp h34)] at L; exact L)

theorem sX8_fittingNumbers {d : Nat} (hd : 5 ≤ d) {σ : xSt} {Post : Option Value → xSt → Prop} {n m p k i : Nat} (G : Nat → Int32) (S : xSem) (hJ : RepJ σ 1 G n m p k) (hc : CO G n m p k) (hS : JSem σ S) (hi : i < n) (hh : HRo G m) (h3 : H3o G m) (h : ∀ τ, JK σ τ → Post (some (.int (ftB S G m i 1 10))) τ) : xM kX8_fittingNumbers d [.ref 0, .ref (1 + 2 + 2 * i)] σ Post := by
  obtain ⟨d, rfl⟩ : ∃ e, d = e + 1 := ⟨d - 1, by omega⟩
  refine xM_start (lv := [some (.ref 0), some (.ref (1 + 2 + 2 * i)), none, none]) rfl ?_
  have hn6 : n ≤ 6 := hc.2.1
  refine xe_iconst (v := 0) dX8_fittingNumbers_0 rfl ?_
  refine xe_istore_n (lv2 := [_, _, _, _]) dX8_fittingNumbers_1 (by decide) rfl ?_
  refine xe_aload_n dX8_fittingNumbers_2 rfl ?_
  refine xe_getr dX8_fittingNumbers_3 flX8_27 (by decide) rfl rfl ?_
  refine xe_aload_n dX8_fittingNumbers_6 rfl ?_
  refine xe_callv (k2 := kX3_copyFrom) (vs := [_]) dX8_fittingNumbers_7 okX3_copyFrom mlX8_200 imX3_copyFrom slX3_copyFrom (Or.inl ⟨3, _, _, by decide, rfl, rfl, rfl⟩) rfl rfl (Nat.le_of_ble_eq_true rfl) (Nat.le_of_ble_eq_true rfl) (sX3_copyFrom (by omega) isP79 (isS1.p (i := i) (by omega)) (by omega) (by omega) (by omega) (fun τ hu hcp => ?_))
  refine xe_iconst (v := 0) dX8_fittingNumbers_10 rfl ?_
  refine xe_istore_n (lv2 := [_, _, _, _]) dX8_fittingNumbers_11 (by decide) rfl ?_
  exact lX8_fittingNumbers (d := d) (by omega) G S hJ hc hS hi hh h3 h 11 0 τ (pV G i 1) (by omega) (by omega) (JK.p hu) (by rw [upd_self]; exact hcp i _ (hJ.P.2 i hi))

theorem sX8_can {d : Nat} (hd : 6 ≤ d) {σ : xSt} {Post : Option Value → xSt → Prop} {n m p k : Nat} (G : Nat → Int32) (S : xSem) (pp w : Int32) (hJ : RepJ σ 1 G n m p k) (hc : CO G n m p k) (hS : JSem σ S) (hh : HRo G m) (h3 : H3o G m) (h : ∀ τ, JK σ τ → Post (some (.int (canV S G m pp w))) τ) : xM kX8_can d [.ref 0, .int pp, .int w] σ Post := by
  obtain ⟨d, rfl⟩ : ∃ e, d = e + 1 := ⟨d - 1, by omega⟩
  refine xM_start (lv := [some (.ref 0), some (.int pp), some (.int w), none, none]) rfl ?_
  refine xe_aload_n dX8_can_0 rfl ?_
  refine xe_getr dX8_can_1 flX8_12 (by decide) rfl rfl ?_
  refine xe_iload_n dX8_can_4 rfl ?_
  refine xe_callv (k2 := kX5_potAt) (vs := [_]) dX8_can_5 okX5_potAt mlX8_90 imX5_potAt slX5_potAt (Or.inl ⟨5, _, _, by decide, rfl, rfl, rfl⟩) rfl rfl (Nat.le_of_ble_eq_true rfl) (Nat.le_of_ble_eq_true rfl) (sX5_potAt (by omega) n pp isS1 hJ.P.1 hc.2.1 ⟨fun i hi ei => ?_, fun hx => ?_⟩)
  · skip
    subst ei
    have hn6 : n ≤ 6 := hc.2.1
    have hp := isS1.p (i := i) (by omega)
    have hr := hJ.P.2 i hi
    have cp : pOk (G 54) (nI i) := by rw [hc.1]; exact ⟨nI_pos' (by omega), nI_lt hi (by omega)⟩
    have ei : cN (nI i) = i := cN_nI (by omega)
    refine xe_astore_n (lv2 := [_, _, _, _, _]) dX8_can_8 (by decide) rfl ?_
    refine xe_aload_n dX8_can_9 rfl ?_
    refine xe_ifnull dX8_can_10 ?_
    refine xe_iload_n dX8_can_13 rfl ?_
    refine xe_if_eq (tgt := 24) dX8_can_14 (by decide) (fun h14 => ?_) (fun h14 => ?_)
    · have cw : rng w 0 1 := by first | (rw [h14]; decide) | (rw [h19]; decide)
      refine xe_aload_n dX8_can_24 rfl ?_
      refine xe_aload_n dX8_can_25 rfl ?_
      refine xe_callv (k2 := kX8_fittingNumbers) (vs := [_]) dX8_can_26 okX8_fittingNumbers mlX8_266 imX8_fittingNumbers slX8_fittingNumbers (Or.inl ⟨8, _, _, by decide, rfl, rfl, rfl⟩) rfl rfl (Nat.le_of_ble_eq_true rfl) (Nat.le_of_ble_eq_true rfl) (sX8_fittingNumbers (by omega) G S hJ hc hS hi hh h3 (fun τ hk => ?_))
      obtain ⟨u, hu, eu⟩ := ftB_nat S G m i 1 10 (by omega)
      rw [eu]
      refine xe_istore (lv2 := [_, _, _, _, _]) dX8_can_29 (by decide) rfl ?_
      refine xe_iload_n dX8_can_31 rfl ?_
      refine xe_if_ne (tgt := 43) dX8_can_32 (by decide) (fun h32 => ?_) (fun h32 => ?_)
      · refine xe_iload dX8_can_43 rfl ?_
        refine xe_calls (k2 := kX8_least) (vs := [_]) dX8_can_45 okX8_least mlX8_269 stX8_least rfl rfl (Nat.le_of_ble_eq_true rfl) (Nat.le_of_ble_eq_true rfl) (sX8_least (by omega) _ ?_)
        refine xe_iret dX8_can_48 rfl rfl ?_
        have e := h τ hk
        rw [canV, if_pos ⟨cp, cw⟩, ei, eu] at e
        first
        | (rw [if_pos h32] at e; rw [jBC_cn u hu]; exact e)
        | (rw [if_neg h32] at e; rw [lsB_cn u hu]; exact e)
      · refine xe_iload dX8_can_35 rfl ?_
        refine xe_calls (k2 := kJ6_bitCount_0f7a4) (vs := [_]) dX8_can_37 okJ6_bitCount_0f7a4 mlX8_240 stJ6_bitCount_0f7a4 rfl rfl (Nat.le_of_ble_eq_true rfl) (Nat.le_of_ble_eq_true rfl) (sJ6_bitCount_0f7a4 (by omega) _ ?_)
        refine xe_goto (tgt := 48) dX8_can_40 (by decide) ?_
        refine xe_iret dX8_can_48 rfl rfl ?_
        have e := h τ hk
        rw [canV, if_pos ⟨cp, cw⟩, ei, eu] at e
        first
        | (rw [if_pos h32] at e; rw [jBC_cn u hu]; exact e)
        | (rw [if_neg h32] at e; rw [lsB_cn u hu]; exact e)
    · refine xe_iload_n dX8_can_17 rfl ?_
      refine xe_iconst (v := 1) dX8_can_18 rfl ?_
      refine xe_icmp_eq (tgt := 24) dX8_can_19 (by decide) (fun h19 => ?_) (fun h19 => ?_)
      · have cw : rng w 0 1 := by first | (rw [h14]; decide) | (rw [h19]; decide)
        refine xe_aload_n dX8_can_24 rfl ?_
        refine xe_aload_n dX8_can_25 rfl ?_
        refine xe_callv (k2 := kX8_fittingNumbers) (vs := [_]) dX8_can_26 okX8_fittingNumbers mlX8_266 imX8_fittingNumbers slX8_fittingNumbers (Or.inl ⟨8, _, _, by decide, rfl, rfl, rfl⟩) rfl rfl (Nat.le_of_ble_eq_true rfl) (Nat.le_of_ble_eq_true rfl) (sX8_fittingNumbers (by omega) G S hJ hc hS hi hh h3 (fun τ hk => ?_))
        obtain ⟨u, hu, eu⟩ := ftB_nat S G m i 1 10 (by omega)
        rw [eu]
        refine xe_istore (lv2 := [_, _, _, _, _]) dX8_can_29 (by decide) rfl ?_
        refine xe_iload_n dX8_can_31 rfl ?_
        refine xe_if_ne (tgt := 43) dX8_can_32 (by decide) (fun h32 => ?_) (fun h32 => ?_)
        · refine xe_iload dX8_can_43 rfl ?_
          refine xe_calls (k2 := kX8_least) (vs := [_]) dX8_can_45 okX8_least mlX8_269 stX8_least rfl rfl (Nat.le_of_ble_eq_true rfl) (Nat.le_of_ble_eq_true rfl) (sX8_least (by omega) _ ?_)
          refine xe_iret dX8_can_48 rfl rfl ?_
          have e := h τ hk
          rw [canV, if_pos ⟨cp, cw⟩, ei, eu] at e
          first
          | (rw [if_pos h32] at e; rw [jBC_cn u hu]; exact e)
          | (rw [if_neg h32] at e; rw [lsB_cn u hu]; exact e)
        · refine xe_iload dX8_can_35 rfl ?_
          refine xe_calls (k2 := kJ6_bitCount_0f7a4) (vs := [_]) dX8_can_37 okJ6_bitCount_0f7a4 mlX8_240 stJ6_bitCount_0f7a4 rfl rfl (Nat.le_of_ble_eq_true rfl) (Nat.le_of_ble_eq_true rfl) (sJ6_bitCount_0f7a4 (by omega) _ ?_)
          refine xe_goto (tgt := 48) dX8_can_40 (by decide) ?_
          refine xe_iret dX8_can_48 rfl rfl ?_
          have e := h τ hk
          rw [canV, if_pos ⟨cp, cw⟩, ei, eu] at e
          first
          | (rw [if_pos h32] at e; rw [jBC_cn u hu]; exact e)
          | (rw [if_neg h32] at e; rw [lsB_cn u hu]; exact e)
      · refine xe_iconst (v := -1) dX8_can_22 rfl ?_
        refine xe_iret dX8_can_23 rfl rfl ?_
        have e := h σ Un.rf
        rw [canV, if_neg (fun z => (rng01 z.2).elim h14 h19)] at e; exact e
  · skip
    rw [← hc.1] at hx
    refine xe_astore_nN (lv2 := [_, _, _, _, _]) dX8_can_8 (by decide) rfl ?_
    refine xe_aload_nN dX8_can_9 rfl ?_
    refine xe_ifnullN (tgt := 22) dX8_can_10 (by decide) ?_
    refine xe_iconst (v := -1) dX8_can_22 rfl ?_
    refine xe_iret dX8_can_23 rfl rfl ?_
    have e := h σ Un.rf
    rw [canV, if_neg (fun z => hx z.1)] at e; exact e

theorem sX8_of {d : Nat} (hd : 6 ≤ d) {σ : xSt} {Post : Option Value → xSt → Prop} {n m p k : Nat} (G : Nat → Int32) (S : xSem) (pp w : Int32) (hJ : RepJ σ 1 G n m p k) (hc : CO G n m p k) (hS : JSem σ S) (hs : SOk n G) (hh : HRo G m) (h3 : H3o G m) (h : ∀ τ, JK σ τ → Post (some (.int (ofV S G m pp w))) τ) : xM kX8_of d [.ref 0, .int pp, .int w] σ Post := by
  obtain ⟨d, rfl⟩ : ∃ e, d = e + 1 := ⟨d - 1, by omega⟩
  refine xM_start (lv := [some (.ref 0), some (.int pp), some (.int w), none, none]) rfl ?_
  refine xe_aload_n dX8_of_0 rfl ?_
  refine xe_getr dX8_of_1 flX8_12 (by decide) rfl rfl ?_
  refine xe_iload_n dX8_of_4 rfl ?_
  refine xe_callv (k2 := kX5_potAt) (vs := [_]) dX8_of_5 okX5_potAt mlX8_90 imX5_potAt slX5_potAt (Or.inl ⟨5, _, _, by decide, rfl, rfl, rfl⟩) rfl rfl (Nat.le_of_ble_eq_true rfl) (Nat.le_of_ble_eq_true rfl) (sX5_potAt (by omega) n pp isS1 hJ.P.1 hc.2.1 ⟨fun i hi ei => ?_, fun hx => ?_⟩)
  · skip
    subst ei
    have hn6 : n ≤ 6 := hc.2.1
    have hp := isS1.p (i := i) (by omega)
    have hr := hJ.P.2 i hi
    have cp : pOk (G 54) (nI i) := by rw [hc.1]; exact ⟨nI_pos' (by omega), nI_lt hi (by omega)⟩
    have ei : cN (nI i) = i := cN_nI (by omega)
    refine xe_astore_n (lv2 := [_, _, _, _, _]) dX8_of_8 (by decide) rfl ?_
    refine xe_aload_n dX8_of_9 rfl ?_
    refine xe_ifnonnull (tgt := 17) dX8_of_10 (by decide) ?_
    refine xe_iload_n dX8_of_17 rfl ?_
    refine xe_iconst (v := 5) dX8_of_18 rfl ?_
    refine xe_icmp_ne (tgt := 28) dX8_of_19 (by decide) (fun h19 => ?_) (fun h19 => ?_)
    · have h5 : ¬ w = 5 := h19
      refine xe_iload_n dX8_of_28 rfl ?_
      refine xe_iconst (v := 5) dX8_of_29 rfl ?_
      refine xe_icmp_ge (tgt := 39) dX8_of_30 (by decide) (fun h30 => ?_) (fun h30 => ?_)
      · obtain ⟨u, hu31, rfl⟩ := nI_of (x := w) (Int32.not_lt.mpr (Int32.le_trans (by decide) h30))
        have hu5 : 6 ≤ u := by have a1 := nLe (a := 5) (by omega) hu31 h30; have a2 : ¬ u = 5 := fun z => h5 (by rw [z]; rfl); omega
        have cw0 : ¬ rng (nI u) 0 4 := fun z => by have := nLe (b := 4) hu31 (by omega) z.2; omega
        refine xe_iload_n dX8_of_39 rfl ?_
        refine xe_bipush (v := 10) dX8_of_40 rfl ?_
        refine xe_irem dX8_of_42 (by decide) ?_
        refine xe_top (x2 := nI (u % 10)) (pk_rem (d := 10) hu31 (by omega) (by omega)) ?_
        refine xe_istore (lv2 := [_, _, _, _, _]) dX8_of_43 (by decide) rfl ?_
        refine xe_iload dX8_of_45 rfl ?_
        refine xe_calls (k2 := kX8_isFact) (vs := [_]) dX8_of_47 okX8_isFact mlX8_102 stX8_isFact rfl rfl (Nat.le_of_ble_eq_true rfl) (Nat.le_of_ble_eq_true rfl) (sX8_isFact (by omega) _ ?_)
        refine xe_if_ne (tgt := 57) dX8_of_50 (by decide) (fun h50 => ?_) (fun h50 => ?_)
        · have hf7 : u % 10 ≤ 7 := nLe (b := 7) (by omega) (by omega) ((xb_ne0 rfl).mp h50).2
          have hf8 : u % 10 < 8 := by omega
          refine xe_iload_n dX8_of_57 rfl ?_
          refine xe_bipush (v := 10) dX8_of_58 rfl ?_
          refine xe_idiv dX8_of_60 (by decide) ?_
          refine xe_top (x2 := nI (u / 10)) (pk_div (d := 10) hu31 (by omega) (by omega)) ?_
          have ed := nI_toInt (n := u / 10) (by omega)
          refine xn_tsw (tgs := [88, 96, 104]) (td := 112) dX8_of_61 rfl rfl rfl (fun i61 t61 hg61 hx61 => ?_) (fun hx61 => ?_)
          · match i61, hg61, hx61 with
            | 0, hg61, hx61 =>
              cases hg61
              rw [ed] at hx61
              have hq : u / 10 = 1 := by omega
              refine xe_aload_n dX8_of_88 rfl ?_
              refine xe_aload_n dX8_of_89 rfl ?_
              refine xe_iload dX8_of_90 rfl ?_
              refine xe_callv (k2 := kX8_clearOf) (vs := [_, _]) dX8_of_92 okX8_clearOf mlX8_105 imX8_clearOf slX8_clearOf (Or.inl ⟨8, _, _, by decide, rfl, rfl, rfl⟩) rfl rfl (Nat.le_of_ble_eq_true rfl) (Nat.le_of_ble_eq_true rfl) (sX8_clearOf (by omega) S _ hS hp (f := u % 10) hf8 hr ?_)
              refine xe_iret dX8_of_95 rfl rfl ?_
              have e := h σ Un.rf
              rw [ofV, if_pos cp, if_neg cw0, if_neg h5, if_pos (show rng (nI u - 10) 0 7 from (rngc (c := 10) hu31 (by omega)).mpr (by omega)), show nI u - 10 = nI (u % 10) by rw [show (10 : Int32) = nI 10 from rfl, pk_sub (by omega)]; congr 1; omega, cN_nI (n := u % 10) (by omega), ei] at e
              exact e
            | 1, hg61, hx61 =>
              cases hg61
              rw [ed] at hx61
              have hq : u / 10 = 2 := by omega
              refine xe_aload_n dX8_of_96 rfl ?_
              refine xe_aload_n dX8_of_97 rfl ?_
              refine xe_iload dX8_of_98 rfl ?_
              refine xe_callv (k2 := kX8_says) (vs := [_, _]) dX8_of_100 okX8_says mlX8_108 imX8_says slX8_says (Or.inl ⟨8, _, _, by decide, rfl, rfl, rfl⟩) rfl rfl (Nat.le_of_ble_eq_true rfl) (Nat.le_of_ble_eq_true rfl) (sX8_says (by omega) S _ hS hp (f := u % 10) hf8 hr ?_)
              rw [hJ.w]
              refine xe_iret dX8_of_103 rfl rfl ?_
              have e := h σ Un.rf
              rw [ofV, if_pos cp, if_neg cw0, if_neg h5, if_neg (show ¬ rng (nI u - 10) 0 7 from fun z => by have := (rngc (c := 10) hu31 (by omega)).mp z; omega), if_pos (show rng (nI u - 20) 0 7 from (rngc (c := 20) hu31 (by omega)).mpr (by omega)), show nI u - 20 = nI (u % 10) by rw [show (20 : Int32) = nI 20 from rfl, pk_sub (by omega)]; congr 1; omega, cN_nI (n := u % 10) (by omega), ei] at e
              exact e
            | 2, hg61, hx61 =>
              cases hg61
              rw [ed] at hx61
              have hq : u / 10 = 3 := by omega
              obtain ⟨sg, hsg, esg⟩ := hs i hi
              refine xe_aload_n dX8_of_104 rfl ?_
              refine xe_aload_n dX8_of_105 rfl ?_
              refine xe_iload dX8_of_106 rfl ?_
              refine xe_callv (k2 := kX8_when) (vs := [_, _]) dX8_of_108 okX8_when mlX8_111 imX8_when slX8_when (Or.inl ⟨8, _, _, by decide, rfl, rfl, rfl⟩) rfl rfl (Nat.le_of_ble_eq_true rfl) (Nat.le_of_ble_eq_true rfl) (sX8_when (by omega) S _ sg hS hp (by omega) (f := u % 10) hf8 hr hsg esg (fun τ hk => ?_))
              refine xe_iret dX8_of_111 rfl rfl ?_
              have e := h τ hk
              rw [ofV, if_pos cp, if_neg cw0, if_neg h5, if_neg (show ¬ rng (nI u - 10) 0 7 from fun z => by have := (rngc (c := 10) hu31 (by omega)).mp z; omega), if_neg (show ¬ rng (nI u - 20) 0 7 from fun z => by have := (rngc (c := 20) hu31 (by omega)).mp z; omega), if_pos (show rng (nI u - 30) 0 7 from (rngc (c := 30) hu31 (by omega)).mpr (by omega)), show nI u - 30 = nI (u % 10) by rw [show (30 : Int32) = nI 30 from rfl, pk_sub (by omega)]; congr 1; omega, cN_nI (n := u % 10) (by omega), ei] at e
              exact e
            | i61 + 3, hg61, hx61 => simp at hg61
          · skip
            rw [ed] at hx61
            refine xe_sipush (v := -10001) dX8_of_112 rfl ?_
            refine xe_iret dX8_of_115 rfl rfl ?_
            have e := h σ Un.rf
            rw [ofV, if_pos cp, if_neg cw0, if_neg h5, if_neg (show ¬ rng (nI u - 10) 0 7 from fun z => by have := (rngc (c := 10) hu31 (by omega)).mp z; omega), if_neg (show ¬ rng (nI u - 20) 0 7 from fun z => by have := (rngc (c := 20) hu31 (by omega)).mp z; omega), if_neg (show ¬ rng (nI u - 30) 0 7 from fun z => by have := (rngc (c := 30) hu31 (by omega)).mp z; omega)] at e
            exact e
        · refine xe_sipush (v := -10001) dX8_of_53 rfl ?_
          refine xe_iret dX8_of_56 rfl rfl ?_
          have hf7 : ¬ u % 10 ≤ 7 := fun z => (xb_eq0 rfl).mp h50 ⟨nI_pos' (by omega), nI_le (b := 7) z (by omega)⟩
          have e := h σ Un.rf
          rw [ofV, if_pos cp, if_neg cw0, if_neg h5, if_neg (show ¬ rng (nI u - 10) 0 7 from fun z => by have := (rngc (c := 10) hu31 (by omega)).mp z; omega), if_neg (show ¬ rng (nI u - 20) 0 7 from fun z => by have := (rngc (c := 20) hu31 (by omega)).mp z; omega), if_neg (show ¬ rng (nI u - 30) 0 7 from fun z => by have := (rngc (c := 30) hu31 (by omega)).mp z; omega)] at e
          exact e
      · refine xe_aload_n dX8_of_33 rfl ?_
        refine xe_iload_n dX8_of_34 rfl ?_
        refine xe_calls (k2 := kX8_trait) (vs := [_, _]) dX8_of_35 okX8_trait mlX8_98 stX8_trait rfl rfl (Nat.le_of_ble_eq_true rfl) (Nat.le_of_ble_eq_true rfl) (sX8_trait (by omega) (pV G i) w hp hr ?_)
        refine xe_iret dX8_of_38 rfl rfl ?_
        have e := h σ Un.rf
        rw [ofV, if_pos cp, ei] at e
        by_cases z : rng w 0 4
        · rw [if_pos z] at e ⊢; exact e
        · have z2 : ∀ c : Nat, 10 ≤ c → c ≤ 30 → ¬ rng (w - nI c) 0 7 := fun c hc hc2 q => ofneg hc hc2 h30 z q
          rw [if_neg z, if_neg h5, if_neg (show ¬ rng (w - 10) 0 7 from z2 10 (by omega) (by omega)), if_neg (show ¬ rng (w - 20) 0 7 from z2 20 (by omega) (by omega)), if_neg (show ¬ rng (w - 30) 0 7 from z2 30 (by omega) (by omega))] at e
          rw [if_neg z]; exact e
    · refine xe_aload_n dX8_of_22 rfl ?_
      refine xe_aload_n dX8_of_23 rfl ?_
      refine xe_callv (k2 := kX8_fittingSugars) (vs := [_]) dX8_of_24 okX8_fittingSugars mlX8_94 imX8_fittingSugars slX8_fittingSugars (Or.inl ⟨8, _, _, by decide, rfl, rfl, rfl⟩) rfl rfl (Nat.le_of_ble_eq_true rfl) (Nat.le_of_ble_eq_true rfl) (sX8_fittingSugars (by omega) G S hJ hc hS hi hh h3 (fun τ hk => ?_))
      refine xe_iret dX8_of_27 rfl rfl ?_
      have e := h τ hk
      subst h19
      rw [ofV, if_pos cp, ei] at e; exact e
  · skip
    rw [← hc.1] at hx
    refine xe_astore_nN (lv2 := [_, _, _, _, _]) dX8_of_8 (by decide) rfl ?_
    refine xe_aload_nN dX8_of_9 rfl ?_
    refine xe_ifnonnullN dX8_of_10 ?_
    refine xe_sipush (v := -10001) dX8_of_13 rfl ?_
    refine xe_iret dX8_of_16 rfl rfl ?_
    have e := h σ Un.rf
    rw [ofV, if_neg hx] at e; exact e
