theorem lX9_terms {d : Nat} (hd : 22 ≤ d) {σ : xSt} {Post : Option Value → xSt → Prop} (n : Nat) (hn : σ.2.1 116 54 = nI n) (h6 : n ≤ 6) (hM : MCo σ) (hR : RUo σ) (m : Nat) (hm : m ≤ 60) (h : ∀ σ2, KM (xsA σ 116 (tkGs (kpM σ) n (σ.2.1 116) m)) σ2 → Post none σ2) : ∀ (c j : Nat) (τ : xSt), m + 1 ≤ j + c → j ≤ m → KM (xsA σ 116 (tkGs (kpM σ) n (σ.2.1 116) j)) τ → xEv kX9_terms (d + 1) 2 [some (.ref 115), some (.int (nI m)), some (.int (nI j))] [] τ Post := by
  intro c
  induction c with
  | zero => intro j τ hc hj; omega
  | succ c ih =>
    intro j τ hc hj kt
    have g57 : tkGs (kpM σ) n (σ.2.1 116) j 57 = σ.2.1 116 57 := tkGs_hi h6 (by omega) (by omega) j
    have gt : τ.2.1 116 = tkGs (kpM σ) n (σ.2.1 116) j := by rw [kt.1 116 (by omega), xsA_get]
    have hM2 : MCo τ := (hM.set).km kt
    have hR2 : RUo τ := (hR.set g57).km kt
    have hk2 : kpM τ = kpM σ := by rw [kpM_eq, kpM_eq, mSem.km kt, mSem_set g57]
    have hn2 : τ.2.1 116 54 = nI n := by rw [gt, tkGs_hi h6 (by omega) (by omega)]; exact hn
    refine xe_iload_n dX9_terms_2 rfl ?_
    refine xe_iload_n dX9_terms_3 rfl ?_
    refine xe_icmp_ge (tgt := 17) dX9_terms_4 (by decide) (fun h4 => ?_) (fun h4 => ?_)
    · refine xe_vret dX9_terms_17 rfl ?_
      have e := nLe (a := m) (by omega) (by omega) h4
      obtain rfl : j = m := by omega
      exact h _ kt
    · have e := nNle (a := m) (by omega) (by omega) h4
      refine xe_aload_n dX9_terms_7 rfl ?_
      refine xe_callv (k2 := kX9_term) (vs := []) dX9_terms_8 okX9_term mlX9_199 imX9_term slX9_term (Or.inl ⟨9, _, _, by decide, rfl, rfl, rfl⟩) rfl rfl (Nat.le_of_ble_eq_true rfl) (Nat.le_of_ble_eq_true rfl) (sX9_term (by omega) n hn2 h6 hM2 hR2 (fun σ2 k2 => ?_))
      refine xn_inc (j := j) (lv2 := [_, _, _]) dX9_terms_11 (by decide) rfl rfl ?_
      refine xe_goto (tgt := 2) dX9_terms_14 (by decide) ?_
      refine ih (j + 1) σ2 (by omega) (by omega) ?_
      have q := kt.set (c := 116) (g := tkG (kpM τ) n (τ.2.1 116)) (by omega)
      rw [xsA_A] at q
      rw [gt, hk2] at q k2
      exact q.tr k2

theorem sX9_terms {d : Nat} (hd : 23 ≤ d) {σ : xSt} {Post : Option Value → xSt → Prop} (n : Nat) (hn : σ.2.1 116 54 = nI n) (h6 : n ≤ 6) (m : Nat) (hm : m ≤ 60) (hM : MCo σ) (hR : RUo σ) (h : ∀ σ2, KM (xsA σ 116 (tkGs (kpM σ) n (σ.2.1 116) m)) σ2 → Post none σ2) : xM kX9_terms d [.ref 115, .int (nI m)] σ Post := by
  obtain ⟨d, rfl⟩ : ∃ e, d = e + 1 := ⟨d - 1, by omega⟩
  refine xM_start (lv := [some (.ref 115), some (.int (nI m)), none]) rfl ?_
  refine xe_iconst (v := 0) dX9_terms_0 rfl ?_
  refine xe_istore_n (lv2 := [_, _, _]) dX9_terms_1 (by decide) rfl ?_
  exact lX9_terms (by omega) n hn h6 hM hR m hm h (m + 1) 0 σ (by omega) (by omega) (by rw [show tkGs (kpM σ) n (σ.2.1 116) 0 = σ.2.1 116 from rfl, xsA_self]; exact KM.rf)

/-- the fewest terms behind which a pot is clear enough, from the j-th on; c more are looked at -/
def whF (S : xSem) (i : Nat) (a : Nat → Int32) (f : Nat) : Nat → Nat → Int32
  | 0, _ => -5
  | c + 1, j => if 4 ≤ Clr S i (tkPs (kpS S) a j) f then nI j else whF S i a f c (j + 1)
theorem nmO_cg {i : Nat} {a b : Nat → Int32} {f : Int32} (h : ∀ k, k < 9 → a k = b k) : nmO i a f = nmO i b f := by
  funext k; unfold nmO; rw [h 0 (by omega), h 1 (by omega), h 2 (by omega), h 3 (by omega)]
theorem Clr_cg {S : xSem} {i f : Nat} {a b : Nat → Int32} (h : ∀ k, k < 9 → a k = b k) : Clr S i a f = Clr S i b f := by
  unfold Clr clrF
  rw [nmO_cg h, h 0 (by omega), h 1 (by omega), h 3 (by omega), h 4 (by omega), h (5 + f % 4) (by omega)]
/-- and the rows beside may change too -/
abbrev mS2 (c : Nat) : Prop := c = 117 ∨ c = 122 ∨ c = 123 ∨ (127 ≤ c ∧ c ≤ 130)
def KM2 (σ σ2 : xSt) : Prop := (∀ c, ¬ mS2 c → σ2.2.1 c = σ.2.1 c) ∧ (∀ c, c ≠ 137 → σ2.2.2 c = σ.2.2 c) ∧ (∀ c, c ≠ 115 → σ2.1 c = σ.1 c) ∧ ∀ j, ¬ (10 ≤ j ∧ j ≤ 15) → σ2.1 115 j = σ.1 115 j
theorem KM.two {σ σ2 : xSt} (h : KM σ σ2) : KM2 σ σ2 := ⟨fun c hc => h.1 c (by omega), h.2⟩
theorem KM2.rf {σ : xSt} : KM2 σ σ := KM.rf.two
theorem KM2.tr {a b c : xSt} (h : KM2 a b) (h2 : KM2 b c) : KM2 a c := ⟨fun x hx => (h2.1 x hx).trans (h.1 x hx), fun x hx => (h2.2.1 x hx).trans (h.2.1 x hx), fun x hx => (h2.2.2.1 x hx).trans (h.2.2.1 x hx), fun x hx => (h2.2.2.2 x hx).trans (h.2.2.2 x hx)⟩
theorem KM2.A {σ : xSt} {c : Nat} {g : Nat → Int32} (h : mS2 c) : KM2 σ (xsA σ c g) := ⟨fun x hx => xsA_ne (fun z => hx (z ▸ h)), fun _ _ => rfl, fun _ _ => rfl, fun _ _ => rfl⟩
theorem KM2.set {σ σ2 : xSt} {c : Nat} {g : Nat → Int32} (h : KM2 σ σ2) : KM2 (xsA σ c g) (xsA σ2 c g) := by
  refine ⟨fun x hx => ?_, h.2.1, h.2.2.1, h.2.2.2⟩
  by_cases e : x = c
  · subst e; rw [xsA_get, xsA_get]
  · rw [xsA_ne e, xsA_ne e]; exact h.1 x hx
theorem MCo.km2 {σ σ2 : xSt} (h : MCo σ) (hk : KM2 σ σ2) : MCo σ2 := by
  unfold MCo
  rw [hk.1 124 (by omega), hk.1 125 (by omega), hk.1 126 (by omega), hk.1 131 (by omega), hk.1 132 (by omega)]
  exact h
theorem RUo.km2 {σ σ2 : xSt} (h : RUo σ) (hk : KM2 σ σ2) : RUo σ2 := by
  unfold RUo
  rw [hk.1 116 (by omega), hk.1 121 (by omega)]
  exact h
theorem mSem.km2 {σ σ2 : xSt} (hk : KM2 σ σ2) : mSem σ2 = mSem σ := by
  unfold mSem rdT
  rw [hk.1 116 (by omega), hk.1 120 (by omega), hk.1 121 (by omega)]
theorem xsA_comm {σ : xSt} {a b : Nat} {f g : Nat → Int32} (h : a ≠ b) : xsA (xsA σ a f) b g = xsA (xsA σ b g) a f := by
  unfold xsA
  have : va_up (va_up σ.2.1 a f) b g = va_up (va_up σ.2.1 b g) a f := by
    funext c; unfold va_up
    by_cases h1 : c = b
    · subst h1; simp [Ne.symm h]
    · simp [h1]
  rw [this]
/-- behind what was asked all is as it was -/
theorem KM.back {σ τ : xSt} {G2 : Nat → Int32} (kt : KM (xsA (xsA σ 117 (va_cpy (σ.2.1 116) (σ.2.1 117) 0 0 115)) 116 G2) τ) (hG : ∀ k, 115 ≤ k → G2 k = σ.2.1 116 k) : KM2 σ (xsA τ 116 (va_cpy (τ.2.1 117) (τ.2.1 116) 0 0 115)) := by
  have e : va_cpy (τ.2.1 117) (τ.2.1 116) 0 0 115 = σ.2.1 116 := by
    rw [kt.1 117 (by omega), kt.1 116 (by omega), xsA_get, xsA_ne (by decide), xsA_get]
    funext k
    unfold va_cpy
    by_cases hk : k < 115
    · simp [hk]
    · simp [hk]; exact hG k (by omega)
  have q := (kt.set (c := 116) (g := σ.2.1 116) (by omega)).two
  rw [xsA_A, xsA_comm (by decide), xsA_self] at q
  rw [e]
  exact (KM2.A (by omega)).tr q

theorem nI_n5 {j : Nat} (h : j < 2 ^ 31) : ¬ nI j = -5 := fun z => absurd (nI_pos' h) (by rw [z]; decide)
theorem lX9_when {d : Nat} (hd : 22 ≤ d) {σ : xSt} {Post : Option Value → xSt → Prop} (n : Nat) (hn : σ.2.1 116 54 = nI n) (h6 : n ≤ 6) (hM : MCo σ) (hR : RUo σ) (i f : Nat) (hi : i < n) (hf : f < 8) : ∀ (c j : Nat) (v : Int32) (τ : xSt), j + c = 61 → KM (xsA (xsA σ 117 (va_cpy (σ.2.1 116) (σ.2.1 117) 0 0 115)) 116 (tkGs (kpM σ) n (σ.2.1 116) j)) τ → (v = -5 → ∀ σ2, KM2 σ σ2 → Post (some (.int (whF (mSem σ) i (pV (σ.2.1 116) i) f c j))) σ2) → (¬ v = -5 → ∀ σ2, KM2 σ σ2 → Post (some (.int v)) σ2) → xEv kX9_when (d + 1) 17 [some (.ref 115), some (.int (nI i)), some (.int (nI f)), some (.int v), some (.int (nI j))] [] τ Post := by
  intro c
  induction c with
  | zero =>
    intro j v τ hj kt hv hw
    refine xe_iload dX9_when_17 rfl ?_
    refine xe_bipush (v := 60) dX9_when_19 rfl ?_
    refine xe_icmp_gt (tgt := 58) dX9_when_21 (by decide) (fun h21 => ?_) (fun h21 => absurd (show (60 : Int32) < nI j from nI_lt (a := 60) (by omega) (by omega)) h21)
    refine xe_aload_n dX9_when_58 rfl ?_
    refine xe_getr dX9_when_59 flX9_15 (by decide) rfl rfl ?_
    refine xe_aload_n dX9_when_62 rfl ?_
    refine xe_getr dX9_when_63 flX9_9 (by decide) rfl rfl ?_
    refine xe_calls (k2 := kX9_move) (vs := [_, _]) dX9_when_66 okX9_move mlX9_85 stX9_move rfl rfl (Nat.le_of_ble_eq_true rfl) (Nat.le_of_ble_eq_true rfl) (sX9_move (by omega) 117 116 ⟨by decide, rfl⟩ ⟨by decide, rfl⟩ (by decide) ?_)
    refine xe_iload_n dX9_when_69 rfl ?_
    refine xe_iret dX9_when_70 rfl rfl ?_
    refine (?_ : ∀ σ2, KM2 σ σ2 → Post (some (.int v)) σ2) _ (kt.back (fun k hk => tkGs_hi h6 (by omega) (by omega) j))
    by_cases h27 : v = -5
    · have h2 := hv h27; rw [whF] at h2; rw [h27]; exact h2
    · exact hw h27
  | succ c ih =>
    intro j v τ hj kt hv hw
    have hi : i < 6 := by omega
    have g57 : tkGs (kpM σ) n (σ.2.1 116) j 57 = σ.2.1 116 57 := tkGs_hi h6 (by omega) (by omega) j
    have e7 : (xsA σ 117 (va_cpy (σ.2.1 116) (σ.2.1 117) 0 0 115)).2.1 116 = σ.2.1 116 := xsA_ne (by decide)
    have s7 : mSem (xsA σ 117 (va_cpy (σ.2.1 116) (σ.2.1 117) 0 0 115)) = mSem σ := by unfold mSem rdT; rw [e7, xsA_ne (by decide), xsA_ne (by decide)]
    have gt : τ.2.1 116 = tkGs (kpM σ) n (σ.2.1 116) j := by rw [kt.1 116 (by omega), xsA_get]
    have hM2 : MCo τ := (MCo.set (σ := xsA σ 117 _) (by unfold MCo; rw [xsA_ne (by decide), xsA_ne (by decide), xsA_ne (by decide), xsA_ne (by decide), xsA_ne (by decide)]; exact hM)).km kt
    have hR2 : RUo τ := (RUo.set (σ := xsA σ 117 _) (by unfold RUo; rw [e7, xsA_ne (by decide)]; exact hR) (by rw [e7]; exact g57)).km kt
    have hS2 : mSem τ = mSem σ := by rw [mSem.km kt, mSem_set (by rw [e7]; exact g57), s7]
    have hk2 : kpM τ = kpM σ := by rw [kpM_eq, kpM_eq, hS2]
    have hn2 : τ.2.1 116 54 = nI n := by rw [gt, tkGs_hi h6 (by omega) (by omega)]; exact hn
    have ecl : Clr (mSem τ) i (pV (τ.2.1 116) i) f = Clr (mSem σ) i (tkPs (kpS (mSem σ)) (pV (σ.2.1 116) i) j) f := by
      rw [hS2]
      exact Clr_cg (fun k hk => by show τ.2.1 116 (9 * i + k) = _; rw [gt, ← kpM_eq]; exact tkGs_in h6 (by omega) j k hk)
    refine xe_iload dX9_when_17 rfl ?_
    refine xe_bipush (v := 60) dX9_when_19 rfl ?_
    refine xe_icmp_gt (tgt := 58) dX9_when_21 (by decide) (fun h21 => ?_) (fun h21 => ?_)
    · refine xe_aload_n dX9_when_58 rfl ?_
      refine xe_getr dX9_when_59 flX9_15 (by decide) rfl rfl ?_
      refine xe_aload_n dX9_when_62 rfl ?_
      refine xe_getr dX9_when_63 flX9_9 (by decide) rfl rfl ?_
      refine xe_calls (k2 := kX9_move) (vs := [_, _]) dX9_when_66 okX9_move mlX9_85 stX9_move rfl rfl (Nat.le_of_ble_eq_true rfl) (Nat.le_of_ble_eq_true rfl) (sX9_move (by omega) 117 116 ⟨by decide, rfl⟩ ⟨by decide, rfl⟩ (by decide) ?_)
      refine xe_iload_n dX9_when_69 rfl ?_
      refine xe_iret dX9_when_70 rfl rfl ?_
      refine (?_ : ∀ σ2, KM2 σ σ2 → Post (some (.int v)) σ2) _ (kt.back (fun k hk => tkGs_hi h6 (by omega) (by omega) j))
      first
      | exact hw h27
      | (have e9 := nLt (a := 60) (by omega) (by omega) h21; omega)
    · refine xe_iload_n dX9_when_24 rfl ?_
      refine xe_bipush (v := -5) dX9_when_25 rfl ?_
      refine xe_icmp_ne (tgt := 58) dX9_when_27 (by decide) (fun h27 => ?_) (fun h27 => ?_)
      · refine xe_aload_n dX9_when_58 rfl ?_
        refine xe_getr dX9_when_59 flX9_15 (by decide) rfl rfl ?_
        refine xe_aload_n dX9_when_62 rfl ?_
        refine xe_getr dX9_when_63 flX9_9 (by decide) rfl rfl ?_
        refine xe_calls (k2 := kX9_move) (vs := [_, _]) dX9_when_66 okX9_move mlX9_85 stX9_move rfl rfl (Nat.le_of_ble_eq_true rfl) (Nat.le_of_ble_eq_true rfl) (sX9_move (by omega) 117 116 ⟨by decide, rfl⟩ ⟨by decide, rfl⟩ (by decide) ?_)
        refine xe_iload_n dX9_when_69 rfl ?_
        refine xe_iret dX9_when_70 rfl rfl ?_
        refine (?_ : ∀ σ2, KM2 σ σ2 → Post (some (.int v)) σ2) _ (kt.back (fun k hk => tkGs_hi h6 (by omega) (by omega) j))
        first
        | exact hw h27
        | (have e9 := nLt (a := 60) (by omega) (by omega) h21; omega)
      · refine xe_aload_n dX9_when_30 rfl ?_
        refine xe_iload_n dX9_when_31 rfl ?_
        refine xe_iload_n dX9_when_32 rfl ?_
        refine xe_callv (k2 := kX9_clear) (vs := [_, _]) dX9_when_33 okX9_clear mlX9_111 imX9_clear slX9_clear (Or.inl ⟨9, _, _, by decide, rfl, rfl, rfl⟩) rfl rfl (Nat.le_of_ble_eq_true rfl) (Nat.le_of_ble_eq_true rfl) (sX9_clear (by omega) i f hi hf hM2 hR2 (fun σ3 k3 => ?_))
        rw [ecl]
        refine xe_iconst (v := 4) dX9_when_36 rfl ?_
        refine xe_icmp_lt (tgt := 45) dX9_when_37 (by decide) (fun h37 => ?_) (fun h37 => ?_)
        · refine xe_bipush (v := -5) dX9_when_45 rfl ?_
          refine xe_istore_n (lv2 := [_, _, _, _, _]) dX9_when_47 (by decide) rfl ?_
          have g3 : σ3.2.1 116 = tkGs (kpM σ) n (σ.2.1 116) j := by rw [k3.1 116 (by omega), gt]
          have hM3 : MCo σ3 := hM2.km k3
          have hR3 : RUo σ3 := hR2.km k3
          have hk3 : kpM σ3 = kpM σ := by rw [← hk2, kpM_eq, kpM_eq, mSem.km k3]
          have hn3 : σ3.2.1 116 54 = nI n := by rw [k3.1 116 (by omega)]; exact hn2
          refine xe_aload_n dX9_when_48 rfl ?_
          refine xe_callv (k2 := kX9_term) (vs := []) dX9_when_49 okX9_term mlX9_199 imX9_term slX9_term (Or.inl ⟨9, _, _, by decide, rfl, rfl, rfl⟩) rfl rfl (Nat.le_of_ble_eq_true rfl) (Nat.le_of_ble_eq_true rfl) (sX9_term (by omega) n hn3 h6 hM3 hR3 (fun σ4 k4 => ?_))
          refine xn_inc (j := j) (lv2 := [_, _, _, _, _]) dX9_when_52 (by decide) rfl rfl ?_
          refine xe_goto (tgt := 17) dX9_when_55 (by decide) ?_
          have q := (kt.tr k3).set (c := 116) (g := tkG (kpM σ3) n (σ3.2.1 116)) (by omega)
          rw [xsA_A] at q
          rw [g3, hk3] at q k4
          first
          | (refine ih (j + 1) (-5) σ4 (by omega) (q.tr k4) (fun _ => ?_) (fun z => absurd rfl z); have h2 := hv h27; rw [whF, if_neg (fun z => absurd (Int32.not_le.mpr h37) (fun y => y z))] at h2; exact h2)
          | (refine ih (j + 1) (nI j) σ4 (by omega) (q.tr k4) (fun z => absurd z (nI_n5 (by omega))) (fun _ => ?_); have h2 := hv h27; rw [whF, if_pos (Int32.not_lt.mp h37)] at h2; exact h2)
        · refine xe_iload dX9_when_40 rfl ?_
          refine xe_goto (tgt := 47) dX9_when_42 (by decide) ?_
          refine xe_istore_n (lv2 := [_, _, _, _, _]) dX9_when_47 (by decide) rfl ?_
          have g3 : σ3.2.1 116 = tkGs (kpM σ) n (σ.2.1 116) j := by rw [k3.1 116 (by omega), gt]
          have hM3 : MCo σ3 := hM2.km k3
          have hR3 : RUo σ3 := hR2.km k3
          have hk3 : kpM σ3 = kpM σ := by rw [← hk2, kpM_eq, kpM_eq, mSem.km k3]
          have hn3 : σ3.2.1 116 54 = nI n := by rw [k3.1 116 (by omega)]; exact hn2
          refine xe_aload_n dX9_when_48 rfl ?_
          refine xe_callv (k2 := kX9_term) (vs := []) dX9_when_49 okX9_term mlX9_199 imX9_term slX9_term (Or.inl ⟨9, _, _, by decide, rfl, rfl, rfl⟩) rfl rfl (Nat.le_of_ble_eq_true rfl) (Nat.le_of_ble_eq_true rfl) (sX9_term (by omega) n hn3 h6 hM3 hR3 (fun σ4 k4 => ?_))
          refine xn_inc (j := j) (lv2 := [_, _, _, _, _]) dX9_when_52 (by decide) rfl rfl ?_
          refine xe_goto (tgt := 17) dX9_when_55 (by decide) ?_
          have q := (kt.tr k3).set (c := 116) (g := tkG (kpM σ3) n (σ3.2.1 116)) (by omega)
          rw [xsA_A] at q
          rw [g3, hk3] at q k4
          first
          | (refine ih (j + 1) (-5) σ4 (by omega) (q.tr k4) (fun _ => ?_) (fun z => absurd rfl z); have h2 := hv h27; rw [whF, if_neg (fun z => absurd (Int32.not_le.mpr h37) (fun y => y z))] at h2; exact h2)
          | (refine ih (j + 1) (nI j) σ4 (by omega) (q.tr k4) (fun z => absurd z (nI_n5 (by omega))) (fun _ => ?_); have h2 := hv h27; rw [whF, if_pos (Int32.not_lt.mp h37)] at h2; exact h2)

theorem sX9_when {d : Nat} (hd : 23 ≤ d) {σ : xSt} {Post : Option Value → xSt → Prop} (n : Nat) (hn : σ.2.1 116 54 = nI n) (h6 : n ≤ 6) (i f : Nat) (hi : i < n) (hf : f < 8) (hM : MCo σ) (hR : RUo σ) (h : ∀ σ2, KM2 σ σ2 → Post (some (.int (whF (mSem σ) i (pV (σ.2.1 116) i) f 61 0))) σ2) : xM kX9_when d [.ref 115, .int (nI i), .int (nI f)] σ Post := by
  obtain ⟨d, rfl⟩ : ∃ e, d = e + 1 := ⟨d - 1, by omega⟩
  refine xM_start (lv := [some (.ref 115), some (.int (nI i)), some (.int (nI f)), none, none]) rfl ?_
  refine xe_aload_n dX9_when_0 rfl ?_
  refine xe_getr dX9_when_1 flX9_9 (by decide) rfl rfl ?_
  refine xe_aload_n dX9_when_4 rfl ?_
  refine xe_getr dX9_when_5 flX9_15 (by decide) rfl rfl ?_
  refine xe_calls (k2 := kX9_move) (vs := [_, _]) dX9_when_8 okX9_move mlX9_85 stX9_move rfl rfl (Nat.le_of_ble_eq_true rfl) (Nat.le_of_ble_eq_true rfl) (sX9_move (by omega) 116 117 ⟨by decide, rfl⟩ ⟨by decide, rfl⟩ (by decide) ?_)
  refine xe_bipush (v := -5) dX9_when_11 rfl ?_
  refine xe_istore_n (lv2 := [_, _, _, _, _]) dX9_when_13 (by decide) rfl ?_
  refine xe_iconst (v := 0) dX9_when_14 rfl ?_
  refine xe_istore (lv2 := [_, _, _, _, _]) dX9_when_15 (by decide) rfl ?_
  refine lX9_when (by omega) n hn h6 hM hR i f hi hf 61 0 (-5) _ (by omega) ?_ (fun _ => h) (fun z => absurd rfl z)
  show KM (xsA _ 116 (σ.2.1 116)) _
  have q : xsA (xsA σ 117 (va_cpy (σ.2.1 116) (σ.2.1 117) 0 0 115)) 116 (σ.2.1 116) = xsA σ 117 (va_cpy (σ.2.1 116) (σ.2.1 117) 0 0 115) := by rw [xsA_comm (by decide), xsA_self]
  rw [q]
  exact KM.rf
