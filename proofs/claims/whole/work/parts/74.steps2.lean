/-! steps: tapes, cellars -/
theorem st_tape (x s q : Int32) : StI kX8_tape kX9_tape [.int x, .int s, .int q] := by
  intro σ h
  obtain ⟨n, m, p, k, ru, t, a, hj, hi, hm, hr, ht, hc, hb, ha, hp⟩ := id h
  refine sX8_tape (by omega) _ _ _ x s q hp.1 (fun τ hu hT => ⟨_, rfl, ?_⟩)
  have C0 : Ch tpC σ τ := Ch.ofUn hu
  have e4 : τ.2.1 134 = σ.2.1 134 := C0.a (by unfold tpC; omega)
  have e5 : τ.2.1 135 = σ.2.1 135 := C0.a (by unfold tpC; omega)
  have e6 : τ.2.2 136 = σ.2.2 136 := (C0.2.1 136 (by unfold tpC; omega)).2
  refine sX9_tape (by omega) x s q ?_
  refine ⟨rfl, ?_⟩
  by_cases hz : tapeOk x s q
  · rw [if_pos hz] at hT ⊢
    rw [e4, e5, e6]
    have C1 : Ch (fun c => tpC c ∨ c = 134 ∨ c = 135 ∨ c = 136) σ (xsJ (xsA (xsA τ 134 (upd (σ.2.1 134) (cN x) s)) 135 (upd (σ.2.1 135) (cN x) (if s < 0 then 0 else q))) 136 (zeroJ (σ.2.2 136) (60 * cN x) 60)) :=
      C0.tr (Ch.ofUn (P := fun c => c = 134 ∨ c = 135 ∨ c = 136) (((Un.A (Or.inl rfl)).tr (Un.A (Or.inr (Or.inl rfl)))).tr (Un.J (Or.inr (Or.inr rfl)))))
    refine ⟨n, m, p, k, ru, t, a, hj.ch C1 (fun c q z => by unfold tpC at z; omega), hi.ch C1 (fun c q z => by unfold tpC at z; omega), hm.ch C1 (fun c q z => by unfold tpC at z; omega), hr.ch C1 (fun c q z => by unfold tpC at z; omega), ht.ch C1 (fun c q z => by unfold tpC at z; omega), hc.ch hr.1 C1 (fun c q z => by unfold tpC at z; omega), hb.ch C1 (fun z => by unfold tpC at z; omega), ha.ch C1 (fun c q z => by unfold tpC at z; omega), ?_⟩
    unfold INVp
    rw [xsJ_A, xsJ_get, xsA_get, xsA_ne (by omega), xsA_get]
    obtain ⟨z1, z2, z3⟩ := hz
    obtain ⟨i, hi5, rfl⟩ := rng_nat (m := 5) (by omega) z1
    rw [cN_nI (by omega)] at hT ⊢
    have z2 := Classical.not_not.mp z2
    have hs : s = -1 ∨ ∃ u, u ≤ 4 ∧ s = nI u := by
      by_cases s0 : s < 0
      · left
        have b1 := Int32.le_iff_toInt_le.mp z2.1.1
        have b2 := Int32.lt_iff_toInt_lt.mp s0
        rw [show (-1 : Int32).toInt = -1 from rfl] at b1
        rw [show (0 : Int32).toInt = 0 from rfl] at b2
        exact Int32.toInt_inj.mp (by rw [show (-1 : Int32).toInt = -1 from rfl]; omega)
      · right
        obtain ⟨u, hu4, e⟩ := rng_nat (m := 4) (f := s) (by omega) ⟨Int32.not_lt.mp s0, z2.1.2⟩
        exact ⟨u, hu4, e⟩
    refine ⟨?_, fun t2 ht2 => ?_, fun t2 ht2 e => ?_, fun t2 ht2 e j hj2 => ?_⟩
    · exact RepTp.un hT (((Un.A (P := fun c => c = 134 ∨ c = 135 ∨ c = 136) (Or.inl rfl)).tr (Un.A (Or.inr (Or.inl rfl)))).tr (Un.J (Or.inr (Or.inr rfl)))) (fun c hs => by unfold tpC at hs; omega)
    · by_cases e : t2 = i
      · subst e
        rw [updE, updE]
        refine ⟨?_, hs⟩
        by_cases s0 : s < 0
        · rw [if_pos s0]; exact ⟨0, by omega, rfl⟩
        · rw [if_neg s0]
          have q0 : 0 ≤ q := Int32.not_lt.mp (fun y => z3 ⟨Int32.not_lt.mp s0, y⟩)
          obtain ⟨u, hu6, e⟩ := rng_nat (m := 60) (f := q) (by omega) ⟨q0, z2.2.resolve_left s0⟩
          exact ⟨u, hu6, e⟩
      · rw [updN e, updN e]; exact hp.2.1 t2 ht2
    · by_cases e2 : t2 = i
      · subst e2
        rw [updE] at e ⊢
        rw [if_pos (by rw [e]; decide)]
      · rw [updN e2] at e ⊢; exact hp.2.2.1 t2 ht2 e
    · by_cases e2 : t2 = i
      · subst e2
        left
        unfold zeroJ
        rw [if_pos (by omega)]
      · rw [updN e2] at e
        have := hp.2.2.2 t2 ht2 e j hj2
        unfold zeroJ
        rw [if_neg (by omega)]; exact this
  · rw [if_neg hz] at hT ⊢
    refine ⟨n, m, p, k, ru, t, a, hj.ch C0 (fun c q z => by unfold tpC at z; omega), hi.ch C0 (fun c q z => by unfold tpC at z; omega), hm.ch C0 (fun c q z => by unfold tpC at z; omega), hr.ch C0 (fun c q z => by unfold tpC at z; omega), ht.ch C0 (fun c q z => by unfold tpC at z; omega), hc.ch hr.1 C0 (fun c q z => by unfold tpC at z; omega), hb.ch C0 (fun z => by unfold tpC at z; omega), ha.ch C0 (fun c q z => by unfold tpC at z; omega), ?_⟩
    unfold INVp
    rw [e4, e5, e6]
    exact ⟨hT, hp.2⟩
theorem INVp.items {σ τ υ : xSt} (hp : INVp σ) (hu : Un tpC σ τ) {it : Nat → Int64} (hT : RepTp τ (σ.2.1 134) (σ.2.1 135) it) (h01 : ∀ t, t < 6 → σ.2.1 134 t = 4 → ∀ j, j < 60 → it (60 * t + j) = 0 ∨ it (60 * t + j) = 1) (hU : Un (fun c => c = 136 ∨ c = 137) τ υ) (hi : υ.2.2 136 = it) : INVp υ := by
  have e4 : υ.2.1 134 = σ.2.1 134 := (hU.a (by omega)).trans (hu.a (by unfold tpC; omega))
  have e5 : υ.2.1 135 = σ.2.1 135 := (hU.a (by omega)).trans (hu.a (by unfold tpC; omega))
  unfold INVp
  rw [e4, e5, hi]
  exact ⟨hT.un hU (fun c hs => by unfold tpC at hs; omega), hp.2.1, hp.2.2.1, h01⟩
theorem loB01 {so : Int32} (h : so = 4) (v : Int64) : loB so v = 0 ∨ loB so v = 1 := by
  subst h
  unfold loB
  rw [if_neg (by decide), if_neg (by decide), if_neg (by decide), if_neg (by decide)]
  split
  · exact Or.inl rfl
  · exact Or.inr rfl
theorem st_item (x i : Int32) (v : Int64) : StI kX8_item kX9_item [.int x, .int i, .long v] := by
  intro σ h
  obtain ⟨n, m, p, k, ru, t, a, hj, hi, hm, hr, ht, hc, hb, ha, hp⟩ := id h
  refine sX8_item (by omega) _ _ _ x i v hp.1 hp.2.1 (fun τ hu hT => ⟨_, rfl, ?_⟩)
  have C0 : Ch tpC σ τ := Ch.ofUn hu
  have e4 : τ.2.1 134 = σ.2.1 134 := C0.a (by unfold tpC; omega)
  have e5 : τ.2.1 135 = σ.2.1 135 := C0.a (by unfold tpC; omega)
  have e6 : τ.2.2 136 = σ.2.2 136 := (C0.2.1 136 (by unfold tpC; omega)).2
  refine sX9_item (by omega) x i v (by rw [e5]; exact fun q hq => (hp.2.1 q hq).1) ?_
  rw [e4, e5, e6]
  refine ⟨rfl, ?_⟩
  have fin : ∀ (υ : xSt) (it : Nat → Int64), RepTp τ (σ.2.1 134) (σ.2.1 135) it → (∀ t, t < 6 → σ.2.1 134 t = 4 → ∀ j, j < 60 → it (60 * t + j) = 0 ∨ it (60 * t + j) = 1) → Un (fun c => c = 136 ∨ c = 137) τ υ → υ.2.2 136 = it → INV υ := by
    intro υ it h1 h2 h3 h4
    have C1 : Ch (fun c => tpC c ∨ c = 136 ∨ c = 137) σ υ := C0.tr (Ch.ofUn h3)
    exact ⟨n, m, p, k, ru, t, a, hj.ch C1 (fun c q z => by unfold tpC at z; omega), hi.ch C1 (fun c q z => by unfold tpC at z; omega), hm.ch C1 (fun c q z => by unfold tpC at z; omega), hr.ch C1 (fun c q z => by unfold tpC at z; omega), ht.ch C1 (fun c q z => by unfold tpC at z; omega), hc.ch hr.1 C1 (fun c q z => by unfold tpC at z; omega), hb.ch C1 (fun z => by unfold tpC at z; omega), ha.ch C1 (fun c q z => by unfold tpC at z; omega), hp.items hu h1 h2 h3 h4⟩
  by_cases hz : itemV (σ.2.1 134) (σ.2.1 135) x i = 1
  · rw [if_pos hz] at hT ⊢
    refine fin _ _ hT (fun t2 ht2 e j hj2 => ?_) (Un.J (Or.inl rfl)) xsJ_get
    unfold vp_updL
    by_cases e2 : 60 * t2 + j = 60 * cN x + cN i
    · rw [if_pos e2]
      unfold itemV at hz
      split at hz
      · rename_i z1
        obtain ⟨y, hy, rfl⟩ := rng_nat (m := 5) (by omega) z1
        rw [cN_nI (by omega)] at hz e2 ⊢
        split at hz
        · exact absurd hz (by decide)
        · split at hz
          · rename_i z3
            obtain ⟨⟨u, hu6, eu⟩, -⟩ := hp.2.1 y (by omega)
            rw [eu] at z3
            have := (le_pred (n := u) (f := i) (by omega)).mp z3
            obtain ⟨w, hw, rfl⟩ := pOk_nat (by omega) this
            rw [cN_nI (by omega)] at e2
            have : t2 = y := by omega
            subst this
            exact loB01 e v
          · exact absurd hz (by decide)
      · exact absurd hz (by decide)
    · rw [if_neg e2]; exact hp.2.2.2 t2 ht2 e j hj2
  · rw [if_neg hz] at hT ⊢
    exact fin _ _ hT hp.2.2.2 Un.rf e6
theorem st_shift (x i y j w : Int32) : StI kX8_shift kX9_shift [.int x, .int i, .int y, .int j, .int w] := by
  intro σ h
  obtain ⟨n, m, p, k, ru, t, a, hj, hi, hm, hr, ht, hc, hb, ha, hp⟩ := id h
  refine sX8_shift (by omega) _ _ _ x i y j w hp.1 hp.2.1 (fun τ hu hT => ⟨_, rfl, ?_⟩)
  have C0 : Ch tpC σ τ := Ch.ofUn hu
  have e4 : τ.2.1 134 = σ.2.1 134 := C0.a (by unfold tpC; omega)
  have e5 : τ.2.1 135 = σ.2.1 135 := C0.a (by unfold tpC; omega)
  have e6 : τ.2.2 136 = σ.2.2 136 := (C0.2.1 136 (by unfold tpC; omega)).2
  refine sX9_shift (by omega) x i y j w (by rw [e5]; exact fun q hq => (hp.2.1 q hq).1) (fun g => ?_)
  rw [e4, e5, e6]
  refine ⟨rfl, ?_⟩
  have fin : ∀ (υ : xSt) (it : Nat → Int64), RepTp τ (σ.2.1 134) (σ.2.1 135) it → (∀ t, t < 6 → σ.2.1 134 t = 4 → ∀ j, j < 60 → it (60 * t + j) = 0 ∨ it (60 * t + j) = 1) → Un (fun c => c = 136 ∨ c = 137) τ υ → υ.2.2 136 = it → INV υ := by
    intro υ it h1 h2 h3 h4
    have C1 : Ch (fun c => tpC c ∨ c = 136 ∨ c = 137) σ υ := C0.tr (Ch.ofUn h3)
    exact ⟨n, m, p, k, ru, t, a, hj.ch C1 (fun c q z => by unfold tpC at z; omega), hi.ch C1 (fun c q z => by unfold tpC at z; omega), hm.ch C1 (fun c q z => by unfold tpC at z; omega), hr.ch C1 (fun c q z => by unfold tpC at z; omega), ht.ch C1 (fun c q z => by unfold tpC at z; omega), hc.ch hr.1 C1 (fun c q z => by unfold tpC at z; omega), hb.ch C1 (fun z => by unfold tpC at z; omega), ha.ch C1 (fun c q z => by unfold tpC at z; omega), hp.items hu h1 h2 h3 h4⟩
  by_cases hz : shiftOk (σ.2.1 134) (σ.2.1 135) x i y j w
  · rw [if_pos hz] at hT ⊢
    refine fin _ _ hT (fun t2 ht2 e q hq => ?_) ((Un.J (Or.inr rfl)).tr (Un.J (Or.inl rfl))) xsJ_get
    unfold va_cpy
    split
    · rename_i z
      obtain ⟨⟨z1, z2⟩, z3, z4, z5⟩ := hz
      obtain ⟨X, hX, rfl⟩ := rng_nat (m := 5) (by omega) z1
      obtain ⟨Y, hY, rfl⟩ := rng_nat (m := 5) (by omega) z2
      have cX : cN (nI X) = X := cN_nI (by omega)
      have cY : cN (nI Y) = Y := cN_nI (by omega)
      rw [cX, cY] at z4
      rw [cY] at z
      rw [cX, cY]
      obtain ⟨⟨lx, hlx, ex⟩, -⟩ := hp.2.1 X (by omega)
      obtain ⟨⟨ly, hly, ey⟩, -⟩ := hp.2.1 Y (by omega)
      have z5 : ¬ (w < 0 ∨ i < 0 ∨ j < 0 ∨ nI lx - i < w ∨ nI ly - j < w) := by
        intro y
        apply z5
        unfold shiftPl
        rw [cX, cY, ex, ey]
        exact y
      obtain ⟨W, hW, rfl⟩ := nI_of (x := w) (fun y => z5 (Or.inl y))
      obtain ⟨I, hI, rfl⟩ := nI_of (x := i) (fun y => z5 (Or.inr (Or.inl y)))
      obtain ⟨J, hJ, rfl⟩ := nI_of (x := j) (fun y => z5 (Or.inr (Or.inr (Or.inl y))))
      rw [cN_nI hJ, cN_nI hW] at z
      rw [cN_nI hI, cN_nI hJ]
      have b1 : I + W ≤ lx := by
        have y := Int32.not_lt.mp (fun y => z5 (Or.inr (Or.inr (Or.inr (Or.inl y)))))
        rw [Int32.le_iff_toInt_le, Int32.toInt_sub, show (nI lx).toInt = (lx : Int) from nI_toInt (by omega), nI_toInt hI, nI_toInt hW, Int.bmod_eq_of_le (by omega) (by omega)] at y
        omega
      have b2 : J + W ≤ ly := by
        have y := Int32.not_lt.mp (fun y => z5 (Or.inr (Or.inr (Or.inr (Or.inr y)))))
        rw [Int32.le_iff_toInt_le, Int32.toInt_sub, show (nI ly).toInt = (ly : Int) from nI_toInt (by omega), nI_toInt hJ, nI_toInt hW, Int.bmod_eq_of_le (by omega) (by omega)] at y
        omega
      have eY : t2 = Y := by omega
      subst eY
      have := hp.2.2.2 X (by omega) (z4.trans e) (I + (60 * t2 + q - (60 * t2 + J))) (by omega)
      rw [show 60 * X + I + (60 * t2 + q - (60 * t2 + J)) = 60 * X + (I + (60 * t2 + q - (60 * t2 + J))) by omega]
      exact this
    · exact hp.2.2.2 t2 ht2 e q hq
  · rw [if_neg hz] at hT ⊢
    exact fin _ _ hT hp.2.2.2 Un.rf e6
theorem ToK.cg {T T2 : Nat → Int32} {t : Nat} (h : ToK T t) (e : ∀ k, k < t → T2 k = T k) : ToK T2 t := ⟨h.1, fun k hk => by rw [e k hk]; exact h.2 k hk⟩
theorem st_cellar : StI kX8_cellar kX9_cellar [] := by
  intro σ h
  obtain ⟨n, m, p, k, ru, t, a, hj, hi, hm, hr, ht, hc, hb, ha, hp⟩ := id h
  have h6 := hj.2.1.2.1
  have r6 := hr.1
  have t100 := ht.2.2.1.1
  have er : ∀ nm, mRd (σ.2.1 82) nm t = mRd (σ.2.1 119) nm t := fun nm => mRd_cg ht.2.2.2 (fun _ _ => rfl)
  have hT2 : ToK (σ.2.1 82) t := ht.2.2.1.cg ht.2.2.2
  refine sX8_cellar (by omega) ru t hr.2.1 r6 ht.1 hT2 ⟨fun hru => ⟨_, rfl, ?_⟩, fun hru hk τ hu z1 => ⟨_, rfl, ?_⟩, fun hru hk τ l hu z1 hl hs => ⟨_, rfl, ?_⟩⟩
  · exact sX9_cellar (by omega) ru t hr.2.2 r6 ht.2.1 t100 hm.1 ⟨fun _ => ⟨rfl, h⟩, fun q => by omega, fun q => by omega⟩
  · rw [er] at hk ⊢
    have C0 : Ch (xC (84 + 2 * ru)) σ τ := Ch.ofUn hu
    have e9 : τ.2.1 119 = σ.2.1 119 := C0.a (by unfold xC; omega)
    refine sX9_cellar (by omega) ru t ((C0.2.2 (by unfold xC; omega) 8 (by omega)).trans hr.2.2) r6 ((C0.2.2 (by unfold xC; omega) 5 (by omega)).trans ht.2.1) t100 (hm.ch C0 (fun c q z => by unfold xC at z; omega)).1 ⟨fun q => by omega, fun _ _ υ hk2 => ?_, fun _ q => by rw [e9, hk] at q; cases q⟩
    rw [e9]
    refine ⟨rfl, INV.km (σ := xsF τ 115 5 0) ?_ hk2⟩
    refine ⟨n, m, p, k, ru, 0, a, (hj.ch C0 (fun c q z => by unfold xC at z; omega)).ch c115 (fun c q z => by omega), (hi.ch C0 (fun c q z => by unfold xC at z; omega)).f115 (by omega), (hm.ch C0 (fun c q z => by unfold xC at z; omega)).ch c115 (fun c q z => by omega), (hr.ch C0 (fun c q z => by unfold xC at z; omega)).f115 (by omega), ⟨?_, xsF_get, ⟨by omega, fun q hq => by omega⟩, fun q hq => by omega⟩, ?_, (hb.ch C0 (fun z => by unfold xC at z; omega)).ch c115 (by omega), (ha.ch C0 (fun c q z => by unfold xC at z; omega)).f115 (by omega), (hp.ch C0 (fun c q z => by unfold xC at z; omega)).ch c115 (fun c q z => by omega)⟩
    · rw [xsF_ne (Or.inl (by omega))]; exact z1
    · intro x hx
      obtain ⟨lx, h1, h2⟩ := hc x hx
      have C1 : Ch (fun c => xC (84 + 2 * ru) c ∨ c = 115) σ (xsF τ 115 5 0) := C0.tr c115
      have e : rdT (xsF τ 115 5 0) x = rdT σ x := by unfold rdT; rw [C1.a (by unfold xC; omega), C1.a (by unfold xC; omega)]
      rw [e, C1.f (by unfold xC; omega) (by omega)]
      exact ⟨lx, h1.un C1.un (by unfold xC; omega) (by unfold xC; omega), h2⟩
  · rw [er] at hk
    have C0 : Ch (xC (84 + 2 * ru)) σ τ := Ch.ofUn hu
    have C1 : Ch (fun c => (xC (84 + 2 * ru) c ∨ c = 1) ∨ c = 0) σ (xsF (xsF τ 1 2 (nI ru)) 0 8 (nI (ru + 1))) := (C0.tr (Ch.ofUn (Un.F (P := fun b => b = 1) rfl))).tr (Ch.ofUn (Un.F (P := fun b => b = 0) rfl))
    generalize eτ : xsF (xsF τ 1 2 (nI ru)) 0 8 (nI (ru + 1)) = τ2 at C1
    have e9 : τ2.2.1 119 = σ.2.1 119 := C1.a (by unfold xC; omega)
    refine sX9_cellar (by omega) ru t ((C1.2.2 (by unfold xC; omega) 8 (by omega)).trans hr.2.2) r6 ((C1.2.2 (by unfold xC; omega) 5 (by omega)).trans ht.2.1) t100 (hm.ch C1 (fun c q z => by unfold xC at z; omega)).1 ⟨fun q => by omega, fun _ q => (by rw [e9, hk] at q; cases q), fun _ _ υ hk2 => ?_⟩
    refine ⟨rfl, INV.km (σ := cS τ2 ru t) ?_ hk2⟩
    have eG : τ2.2.1 116 = σ.2.1 116 := C1.a (by unfold xC; omega)
    have f0 : (cS τ2 ru t).2.1 116 = upd (σ.2.1 116) 57 (nI (ru + 1)) := by unfold cS; rw [xsA_get, eG]
    have f1 : (cS τ2 ru t).2.1 120 = va_cpy (σ.2.1 119) (σ.2.1 120) 0 (100 * ru) t := by unfold cS; rw [xsA_ne (by omega), xsF_A, xsA_ne (by omega), xsA_get, e9, C1.a (by unfold xC; omega)]
    have f2 : (cS τ2 ru t).2.1 121 = upd (σ.2.1 121) ru (nI t) := by unfold cS; rw [xsA_ne (by omega), xsF_A, xsA_get, C1.a (by unfold xC; omega)]
    have C2 : Ch (fun c => ((xC (84 + 2 * ru) c ∨ c = 1) ∨ c = 0) ∨ c = 115 ∨ c = 116 ∨ c = 120 ∨ c = 121) σ (cS τ2 ru t) := by
      refine C1.tr (Ch.ofUn ?_)
      unfold cS
      exact ((((Un.F (P := fun c => c = 115 ∨ c = 116 ∨ c = 120 ∨ c = 121) (Or.inl rfl)).tr (Un.A (Or.inr (Or.inr (Or.inl rfl))))).tr (Un.A (Or.inr (Or.inr (Or.inr rfl))))).tr (Un.F (Or.inl rfl))).tr (Un.A (Or.inr (Or.inl rfl)))
    have k5 : ∀ j, j ≠ 5 → j ≠ 8 → ¬ (10 ≤ j ∧ j ≤ 15) → (cS τ2 ru t).1 115 j = σ.1 115 j := by
      intro j j5 j8 j10
      show (xsF (xsF τ2 115 5 0) 115 8 (nI (ru + 1))).1 115 j = _
      rw [xsF_ne (Or.inr j8), xsF_ne (Or.inr j5)]; exact C1.2.2 (by unfold xC; omega) j j10
    have k8 : (cS τ2 ru t).1 115 8 = nI (ru + 1) := by
      show (xsF (xsF τ2 115 5 0) 115 8 (nI (ru + 1))).1 115 8 = _
      exact xsF_get
    have k55 : (cS τ2 ru t).1 115 5 = 0 := by
      show (xsF (xsF τ2 115 5 0) 115 8 (nI (ru + 1))).1 115 5 = _
      rw [xsF_ne (Or.inr (by omega)), xsF_get]
    have kf : ∀ c j, c ≠ 115 → (cS τ2 ru t).1 c j = τ2.1 c j := by
      intro c j h5
      show (xsF (xsF τ2 115 5 0) 115 8 (nI (ru + 1))).1 c j = _
      rw [xsF_ne (Or.inl h5), xsF_ne (Or.inl h5)]
    have g57 : ∀ c, ¬ c = 57 → upd (σ.2.1 116) 57 (nI (ru + 1)) c = σ.2.1 116 c := fun c hc2 => updN hc2
    obtain ⟨c0, g1, g2, g3, g4, g5, g6, r, q1, q2⟩ := id hj.2
    obtain ⟨b1, b2, b3, b4, b5, b6, b7, b8⟩ := id c0
    have hGO : GOk (upd (σ.2.1 116) 57 (nI (ru + 1))) n m p k (ru + 1) :=
      ⟨⟨by rw [g57 _ (by omega)]; exact b1, b2, by rw [g57 _ (by omega)]; exact b3, b4, by rw [g57 _ (by omega)]; exact b5, b6, by rw [g57 _ (by omega)]; exact b7, b8⟩, fun i hi => by rw [g57 _ (by omega)]; exact g1 i hi, fun i hi => by rw [g57 _ (by omega)]; exact g2 i hi, fun q hq => by rw [g57 _ (by omega), g57 _ (by omega)]; exact g3 q hq, fun q hq => by rw [g57 _ (by omega)]; exact g4 q hq, fun q hq => by rw [g57 _ (by omega), g57 _ (by omega)]; exact g5 q hq, fun q hq => by rw [g57 _ (by omega)]; exact g6 q hq, ru + 1, Nat.le_refl _, updE⟩
    have UJ : Un (fun c => c = 0 ∨ c = 1 ∨ xC (84 + 2 * ru) c ∨ c = 115 ∨ c = 116 ∨ c = 120 ∨ c = 121) σ (cS τ2 ru t) := fun c hc2 => C2.un c (fun z => hc2 (by rcases z with (((z | z) | z) | z) | z <;> simp [z]))
    have s1 : ∀ j, j ≠ 2 → (cS τ2 ru t).1 1 j = σ.1 1 j := by
      intro j hj2
      rw [kf 1 j (by omega), ← eτ, xsF_ne (Or.inl (by omega)), xsF_ne (Or.inr hj2)]; exact C0.f (by unfold xC; omega) (by omega) j
    refine ⟨n, m, p, k, ru + 1, 0, a, ⟨?_, ?_⟩, ⟨?_, ?_⟩, ⟨?_, ?_⟩, ⟨by omega, ?_, k8⟩, ⟨?_, k55, ⟨by omega, fun q hq => by omega⟩, fun q hq => by omega⟩, ?_, hb.ch C2 (fun z => by unfold xC at z; omega), ⟨ha.1, ?_, ?_, ?_⟩, hp.ch C2 (fun c q z => by unfold xC at z; omega)⟩
    · rw [f0]
      refine ⟨?_, ?_, ?_, ?_, ?_, ?_, ?_⟩
      · rw [s1 0 (by omega), g57 _ (by omega)]; exact hj.1.w
      · rw [s1 1 (by omega), g57 _ (by omega)]; exact hj.1.t
      · rw [updE, kf 1 2 (by omega), ← eτ, xsF_ne (Or.inl (by omega)), xsF_get]; exact (pk_sub (a := ru + 1) (b := 1) (by omega)).symm
      · refine ⟨(s1 4 (by omega)).trans hj.1.P.1, fun i hi2 => ?_⟩
        exact ((hj.1.P.2 i hi2).un UJ (by unfold xC; omega) (by unfold xC; omega)).cg (fun c hc2 => (g57 _ (by omega)).symm)
      · exact (hj.1.H.un UJ (fun c hs => by unfold rC at hs; unfold xC; omega)).cg (fun q hq => ⟨(g57 _ (by omega)).symm, (g57 _ (by omega)).symm, (g57 _ (by omega)).symm⟩)
      · exact (hj.1.L.un UJ (fun c hs => by unfold rC at hs; unfold xC; omega)).cg (fun q hq => ⟨(g57 _ (by omega)).symm, (g57 _ (by omega)).symm, rfl⟩)
      · exact (hj.1.B.un UJ (fun c hs => by unfold rC at hs; unfold xC; omega)).cg (fun q hq => ⟨(g57 _ (by omega)).symm, (g57 _ (by omega)).symm, rfl⟩)
    · rw [f0]; exact hGO
    · rw [k5 3 (by omega) (by omega) (by omega), kf 0 4 (by omega), ← eτ, xsF_ne (Or.inr (by omega)), xsF_ne (Or.inl (by omega)), C0.f (by unfold xC; omega) (by omega)]; exact hi.1
    · intro z
      rw [kf 0 4 (by omega), ← eτ, xsF_ne (Or.inr (by omega)), xsF_ne (Or.inl (by omega)), C0.f (by unfold xC; omega) (by omega)] at z
      obtain ⟨n2, m2, p2, k2, h1, h2⟩ := hi.2 z
      rw [C2.a (c := 118) (by unfold xC; omega)]
      exact ⟨n2, m2, p2, k2, h1.un h2.1.2.1 C2.un (fun c hs => by unfold sC at hs; unfold xC; omega), h2.ru (by omega)⟩
    · have M : Ch (fun c => ((xC (84 + 2 * ru) c ∨ c = 1) ∨ c = 0) ∨ c = 115 ∨ c = 116 ∨ c = 120 ∨ c = 121) σ (cS τ2 ru t) := C2
      unfold MCo
      rw [M.a (c := 124) (by unfold xC; omega), M.a (c := 125) (by unfold xC; omega), M.a (c := 126) (by unfold xC; omega), M.a (c := 131) (by unfold xC; omega), M.a (c := 132) (by unfold xC; omega)]
      exact hm.1
    · intro c hc2
      rw [f2]
      by_cases e : c = ru
      · subst e; exact ⟨t, updE, t100⟩
      · rw [updN e]; exact hm.2 c hc2
    · rw [kf 0 8 (by omega), ← eτ, xsF_get]
    · rw [kf 81 1 (by omega), ← eτ, xsF_ne (Or.inl (by omega)), xsF_ne (Or.inl (by omega))]; exact z1
    · intro x hx
      by_cases e : x = ru
      · subst e
        have er2 : rdT (cS τ2 x t) x = fun nm => (mRd (σ.2.1 119) nm t).1 := by
          funext nm
          unfold rdT
          rw [f1, f2, updE, cN_nI (by omega), mRd_cg (T2 := σ.2.1 119) (nm2 := nm) (fun q hq => by unfold va_cpy; rw [if_pos (by omega), Nat.zero_add, Nat.add_sub_cancel_left]) (fun _ _ => rfl)]
        rw [er2]
        refine ⟨l, ?_, fun nm => ?_⟩
        · refine hl.un (P := fun c => c = 0 ∨ c = 1 ∨ c = 115 ∨ c = 116 ∨ c = 120 ∨ c = 121) ?_ (by omega) (by omega)
          rw [← eτ]
          unfold cS
          exact ((((((Un.F (P := fun c => c = 0 ∨ c = 1 ∨ c = 115 ∨ c = 116 ∨ c = 120 ∨ c = 121) (Or.inr (Or.inl rfl))).tr (Un.F (Or.inl rfl))).tr (Un.F (Or.inr (Or.inr (Or.inl rfl))))).tr (Un.A (Or.inr (Or.inr (Or.inr (Or.inr (Or.inl rfl))))))).tr (Un.A (Or.inr (Or.inr (Or.inr (Or.inr (Or.inr rfl))))))).tr (Un.F (Or.inr (Or.inr (Or.inl rfl))))).tr (Un.A (Or.inr (Or.inr (Or.inr (Or.inl rfl)))))
        · rw [kf _ _ (by omega), ← eτ, xsF_ne (Or.inl (by omega)), xsF_ne (Or.inl (by omega))]
          show jRun nm l (nm 4, 0) = ((mRd (σ.2.1 119) nm t).1.1, 0) ∧ τ.1 (84 + 2 * x) 2 = (mRd (σ.2.1 119) nm t).1.2
          rw [← er nm]
          exact hs nm
      · obtain ⟨lx, h1, h2⟩ := hc x (by omega)
        obtain ⟨z, ez, z100⟩ := hm.2 x (by omega)
        have er2 : rdT (cS τ2 ru t) x = rdT σ x := by
          funext nm
          unfold rdT
          rw [f1, f2, updN e, ez, cN_nI (by omega), mRd_cg (T2 := fun q => σ.2.1 120 (100 * x + q)) (nm2 := nm) (fun q hq => by unfold va_cpy; rw [if_neg (by omega)]) (fun _ _ => rfl)]
        rw [er2, C2.f (by unfold xC; omega) (by omega)]
        exact ⟨lx, h1.un C2.un (by unfold xC; omega) (by unfold xC; omega), h2⟩
    · rw [kf 100 1 (by omega), ← eτ, xsF_ne (Or.inl (by omega)), xsF_ne (Or.inl (by omega)), C0.f (by unfold xC; omega) (by omega)]; exact ha.2.1
    · rw [k5 27 (by omega) (by omega) (by omega)]; exact ha.2.2.1
    · rw [C2.a (c := 101) (by unfold xC; omega), C2.a (c := 133) (by unfold xC; omega)]; exact ha.2.2.2
