/-! the steps of a cellar: what reading appends -/
theorem RepC.app {σ : xSt} {cc : Nat} {l : List (Nat × Nat)} (h : RepC σ cc l) (hl : l.length < 100) {q n : Nat} (hq : q ≤ 22) (hn : n ≤ 99) : RepC (xsF (xsA σ (cc + 1) (upd (σ.2.1 (cc + 1)) l.length (nI (100 * q + n)))) cc 1 (nI (l.length + 1))) cc (l ++ [(q, n)]) := by
  refine ⟨by rw [xsF_get, List.length_append]; rfl, by rw [List.length_append]; exact hl, fun j q2 n2 hj => ?_⟩
  rw [xsF_A, xsA_get]
  by_cases hlt : j < l.length
  · rw [List.getElem?_append_left hlt] at hj
    obtain ⟨a1, a2, a3⟩ := h.2.2 j q2 n2 hj
    refine ⟨a1, a2, ?_⟩
    rw [upd, if_neg (by omega)]; exact a3
  · have hj2 : j < (l ++ [(q, n)]).length := (List.getElem?_eq_some_iff.mp hj).1
    rw [List.length_append] at hj2
    have e : j = l.length := by simp at hj2; omega
    subst e
    rw [List.getElem?_append_right (Nat.le_refl _)] at hj
    simp at hj
    obtain ⟨rfl, rfl⟩ := hj
    exact ⟨hq, hn, by rw [upd, if_pos rfl]⟩
theorem TxR.app {σ : xSt} {T : Nat → Int32} {sz cc e : Nat} {s : pS} {a : jA} (h : TxR σ T sz cc (e + 1) s a) (hc : isX cc) {m q n : Nat} (em : σ.1 cc 1 = nI m) (hm : m < 100) (hq : q ≤ 22) (hn : n ≤ 99) : TxR (xsF (xsA σ (cc + 1) (upd (σ.2.1 (cc + 1)) m (nI (100 * q + n)))) cc 1 (nI (m + 1))) T sz cc e s (a.1 ++ [(q, n)], a.2) := by
  obtain ⟨h1, h2, h3, h4, h5, -, h7⟩ := h
  have h84 := hc.2
  refine ⟨by rw [xsF_ne (Or.inl (by omega))]; exact h1, fun k hk => by rw [xsF_A, xsA_ne (by omega)]; exact h2 k hk, by rw [xsF_ne (Or.inl (by omega))]; exact h3, by rw [xsF_ne (Or.inl (by omega))]; exact h4, h5, ⟨m + 1, hm, xsF_get⟩, fun z => ?_⟩
  obtain ⟨q1, q2, q3⟩ := h7 z
  have el : m = a.1.length := nEq (by omega) (by have := q1.2.1; omega) (em.symm.trans q1.1)
  subst el
  refine ⟨q1.app hm hq hn, ?_, by rw [xsF_ne (Or.inr (by decide))]; exact q3⟩
  rw [List.length_append]
  show a.1.length + 1 + e ≤ s.1
  omega

theorem sX1_append {d : Nat} (hd : 0 ≤ d) {σ : xSt} {Post : Option Value → xSt → Prop} {T : Nat → Int32} {sz cc e : Nat} {s : pS} {a : jA} (q n : Nat) (hT : ToK T sz) (hc : isX cc) (hq : q ≤ 22) (hn : n ≤ 99) (hR : TxR σ T sz cc (e + 1) s a) (h : ∀ τ, Un (xC cc) σ τ → TxR τ T sz cc e s (a.1 ++ [(q, n)], a.2) → Post none τ) : xM kX1_append d [.ref cc, .int (nI q), .int (nI n)] σ Post := by
  refine xM_start (lv := [some (.ref cc), some (.int (nI q)), some (.int (nI n))]) rfl ?_
  obtain ⟨m, hm, em⟩ := hR.2.2.2.2.2.1
  have hsz := hT.1
  have hle := hR.2.2.2.2.1
  refine xe_aload_n dX1_append_0 rfl ?_
  refine xe_getf dX1_append_1 flX1_15 hc.1.1.1 hc.1.1.2 rfl ?_
  rw [em]
  refine xe_aload_n dX1_append_4 rfl ?_
  refine xe_getr dX1_append_5 flX1_9 hc.1.1.1 hc.1.1.2 rfl ?_
  refine xe_alen dX1_append_8 hc.1.2.1 hc.1.2.2 (by decide) ?_
  refine xe_icmp_ge (tgt := 37) dX1_append_9 (by decide) (fun h9 => ?_) (fun h9 => ?_)
  · first
    | (have hge := nLe (a := 100) (by omega) (by omega) h9
       have hb : s.2 = false := by
         cases z : s.2 with
         | false => rfl
         | true =>
           obtain ⟨q1, q2, q3⟩ := hR.2.2.2.2.2.2 z
           have el : m = a.1.length := nEq (by omega) (by have := q1.2.1; omega) (em.symm.trans q1.1)
           omega)
    | skip
    refine xe_vret dX1_append_37 rfl ?_
    first
    | (rw [nI_1]; exact h _ ((Un.A (P := xC cc) (Or.inr (Or.inr rfl))).tr (Un.F (Or.inr (Or.inl rfl)))) (hR.app hc em hlt hq hn))
    | exact h _ Un.rf (hR.bad hb)
  · have hlt := nNle (a := 100) (by omega) (by omega) h9
    refine xe_aload_n dX1_append_12 rfl ?_
    refine xe_getr dX1_append_13 flX1_9 hc.1.1.1 hc.1.1.2 rfl ?_
    refine xe_aload_n dX1_append_16 rfl ?_
    refine xe_getf dX1_append_17 flX1_15 hc.1.1.1 hc.1.1.2 rfl ?_
    rw [em]
    refine xe_bipush (v := 100) dX1_append_20 rfl ?_
    refine xe_iload_n dX1_append_22 rfl ?_
    refine xe_imul dX1_append_23 ?_
    refine xe_iload_n dX1_append_24 rfl ?_
    refine xe_iadd dX1_append_25 ?_
    refine xe_top (x2 := nI (100 * q + n)) (by rw [show (100 : Int32) = nI 100 from rfl, pk_mul, nI_add]) ?_
    refine xn_iastore (j := m) dX1_append_26 hc.1.2.1 hc.1.2.2 (by first | with_reducible rfl | (simp only [xl, pk_mul, nI_add, nI_1]; done) | (simp only [xl, pk_mul, nI_add, nI_1]; rfl)) (by omega) (by first | decide | omega) ?_
    refine xe_aload_n dX1_append_27 rfl ?_
    refine xe_dup dX1_append_28 rfl ?_
    refine xe_getf dX1_append_29 flX1_15 hc.1.1.1 hc.1.1.2 rfl ?_
    rw [xsA_1, em]
    refine xe_iconst (v := 1) dX1_append_32 rfl ?_
    refine xe_iadd dX1_append_33 ?_
    refine xe_putf dX1_append_34 flX1_15 hc.1.1.1 hc.1.1.2 rfl rfl rfl ?_
    first
    | (have hge := nLe (a := 100) (by omega) (by omega) h9
       have hb : s.2 = false := by
         cases z : s.2 with
         | false => rfl
         | true =>
           obtain ⟨q1, q2, q3⟩ := hR.2.2.2.2.2.2 z
           have el : m = a.1.length := nEq (by omega) (by have := q1.2.1; omega) (em.symm.trans q1.1)
           omega)
    | skip
    refine xe_vret dX1_append_37 rfl ?_
    first
    | (rw [nI_1]; exact h _ ((Un.A (P := xC cc) (Or.inr (Or.inr rfl))).tr (Un.F (Or.inr (Or.inl rfl)))) (hR.app hc em hlt hq hn))
    | exact h _ Un.rf (hR.bad hb)

def jTs (L r : Nat) (n : Int32) : List (Nat × Nat) := [(3 * L + r, cN n)]
def jNg (a : List (Nat × Nat)) : List (Nat × Nat) := a ++ [(18, 0)]
def jAn (a b : List (Nat × Nat)) : List (Nat × Nat) := a ++ b ++ [(19, 0)]
def jOr (a b : List (Nat × Nat)) : List (Nat × Nat) := a ++ b ++ [(20, 0)]
def jFa (T : Nat → Int32) (sz r : Nat) (s : pS) : List (Nat × Nat) × pS := pFa T sz jTs [] jNg jAn jOr r s
theorem pLp_t {α : Type} {T : Nat → Int32} {sz : Nat} {c : Int32} {op : α → α → α} {f : pS → α × pS} {n : Nat} {x : α} {s : pS} (hp : pAt T sz s c = true) : pLp T sz c op f (n + 1) (x, s) = pLp T sz c op f n (op x (f (s.1 + 1, s.2)).1, (f (s.1 + 1, s.2)).2) := by rw [pLp]; simp only [hp, cond_true]
theorem pLp_f {α : Type} {T : Nat → Int32} {sz : Nat} {c : Int32} {op : α → α → α} {f : pS → α × pS} {n : Nat} {x : α} {s : pS} (hp : ¬ pAt T sz s c = true) : pLp T sz c op f (n + 1) (x, s) = (x, s) := by rw [pLp]; simp only [show pAt T sz s c = false by simpa using hp, cond_false]
/-- a method of THE TEXT that appends the steps of f -/
def jMt (k : xMD) (hgt r : Nat) (T : Nat → Int32) (sz cc : Nat) (f : pS → List (Nat × Nat) × pS) : Prop := ∀ (d : Nat) (σ : xSt) (e : Nat) (s : pS) (a : jA) (Post : Option Value → xSt → Prop), hgt ≤ d → TxR σ T sz cc e s a → (∀ τ, Un (xC cc) σ τ → TxR τ T sz cc e (f s).2 (a.1 ++ (f s).1, a.2) → Post none τ) → xM k d [.ref 81, .ref cc, .int (nI (4 - r))] σ Post

theorem lX7_both {T : Nat → Int32} {sz cc r : Nat} {f : pS → List (Nat × Nat) × pS} (hT : ToK T sz) (hc : isX cc) (hg : Nat) (hg5 : 1 ≤ hg) (hS : jMt kX7_single hg r T sz cc f) {d : Nat} (hd : hg ≤ d) {e : Nat} {a : jA} {Post : Option Value → xSt → Prop} : ∀ (q j : Nat) (σ : xSt) (c : List (Nat × Nat)) (s : pS), j + q = 100 → TxR σ T sz cc e s (a.1 ++ c, a.2) → (∀ τ, Un (xC cc) σ τ → TxR τ T sz cc e (pLp T sz 38 jAn f q (c, s)).2 (a.1 ++ (pLp T sz 38 jAn f q (c, s)).1, a.2) → Post none τ) → xEv kX7_both (d + 1) 8 [some (.ref 81), some (.ref cc), some (.int (nI (4 - r))), some (.int (nI j))] [] σ Post := by
  intro q
  induction q with
  | zero =>
    intro j σ c s hq hR h
    refine xe_iload_n dX7_both_8 rfl ?_
    refine xe_bipush (v := 100) dX7_both_9 rfl ?_
    refine xe_icmp_ge (tgt := 52) dX7_both_11 (by decide) (fun h11 => ?_) (fun h11 => absurd (show nI 100 ≤ nI j from nI_le (by omega) (by omega)) h11)
    refine xe_vret dX7_both_52 rfl ?_
    exact h _ Un.rf hR
  | succ q ih =>
    intro j σ c s hq hR h
    refine xe_iload_n dX7_both_8 rfl ?_
    refine xe_bipush (v := 100) dX7_both_9 rfl ?_
    refine xe_icmp_ge (tgt := 52) dX7_both_11 (by decide) (fun h11 => absurd h11 (show ¬ nI 100 ≤ nI j from nI_ge (by omega) (by omega))) (fun h11 => ?_)
    refine xe_aload_n dX7_both_14 rfl ?_
    refine xe_callv (k2 := kX7_next) (vs := []) dX7_both_15 okX7_next mlX7_35 imX7_next slX7_next (Or.inl ⟨7, _, _, by decide, rfl, rfl, rfl⟩) rfl rfl (Nat.le_of_ble_eq_true rfl) (Nat.le_of_ble_eq_true rfl) (sX7_next (by omega) hT hc hR ?_)
    refine xe_bipush (v := 38) dX7_both_18 rfl ?_
    refine xe_icmp_ne (tgt := 52) dX7_both_20 (by decide) (fun h20 => ?_) (fun h20 => ?_)
    · have hp : ¬ pAt T sz s 38 = true := fun z => h20 ((jNx_at 38 (by omega)).mpr z)
      rw [pLp_f hp] at h
      refine xe_vret dX7_both_52 rfl ?_
      exact h _ Un.rf hR
    · have hp : pAt T sz s 38 = true := (jNx_at 38 (by omega)).mp h20
      rw [pLp_t hp] at h
      refine xe_aload_n dX7_both_23 rfl ?_
      refine xe_dup dX7_both_24 rfl ?_
      refine xe_getf dX7_both_25 flX7_19 (by decide) rfl rfl ?_
      rw [hR.2.2.1]
      refine xe_iconst (v := 1) dX7_both_28 rfl ?_
      refine xe_iadd dX7_both_29 ?_
      refine xe_putf dX7_both_30 flX7_19 (by decide) rfl rfl rfl rfl ?_
      rw [nI_1]
      have hR2 := hR.at hc (pAt_lt hp)
      refine xe_aload_n dX7_both_33 rfl ?_
      refine xe_aload_n dX7_both_34 rfl ?_
      refine xe_iload_n dX7_both_35 rfl ?_
      refine xe_callv (k2 := kX7_single) (vs := [_, _]) dX7_both_36 okX7_single mlX7_77 imX7_single slX7_single (Or.inl ⟨7, _, _, by decide, rfl, rfl, rfl⟩) rfl rfl (Nat.le_of_ble_eq_true rfl) (Nat.le_of_ble_eq_true rfl) (hS d _ (e + 1) (s.1 + 1, s.2) (a.1 ++ c, a.2) _ (by omega) hR2 (fun τ hu hR3 => ?_))
      refine xe_aload_n dX7_both_39 rfl ?_
      refine xe_bipush (v := 19) dX7_both_40 rfl ?_
      refine xe_iconst (v := 0) dX7_both_42 rfl ?_
      refine xe_callv (k2 := kX1_append) (vs := [_, _]) dX7_both_43 okX1_append mlX7_70 imX1_append slX1_append (Or.inl ⟨1, _, _, hc.1.1.1, hc.1.1.2, rfl, rfl⟩) rfl rfl (Nat.le_of_ble_eq_true rfl) (Nat.le_of_ble_eq_true rfl) (sX1_append (by omega) 19 0 hT hc (by omega) (by omega) hR3 (fun τ2 hu2 hR4 => ?_))
      refine xn_inc (j := j) (lv2 := [_, _, _, _]) dX7_both_46 (by decide) rfl rfl ?_
      refine xe_goto (tgt := 8) dX7_both_49 (by decide) ?_
      exact ih (j + 1) _ _ _ (by omega) (hR4.cg rfl (by simp [jAn, List.append_assoc])) (fun τ3 hu3 h3 => h τ3 ((((Un.F (P := xC cc) (Or.inl rfl)).tr hu).tr hu2).tr hu3) h3)
theorem sX7_both {T : Nat → Int32} {sz cc r : Nat} {f : pS → List (Nat × Nat) × pS} (hT : ToK T sz) (hc : isX cc) (hg : Nat) (hg5 : 1 ≤ hg) (hS : jMt kX7_single hg r T sz cc f) : jMt kX7_both (hg + 1) r T sz cc (fun s => pLp T sz 38 jAn f 100 (f s)) := by
  intro d σ e s a Post hd hR h
  obtain ⟨d, rfl⟩ : ∃ e, d = e + 1 := ⟨d - 1, by omega⟩
  refine xM_start (lv := [some (.ref 81), some (.ref cc), some (.int (nI (4 - r))), none]) rfl ?_
  refine xe_aload_n dX7_both_0 rfl ?_
  refine xe_aload_n dX7_both_1 rfl ?_
  refine xe_iload_n dX7_both_2 rfl ?_
  refine xe_callv (k2 := kX7_single) (vs := [_, _]) dX7_both_3 okX7_single mlX7_77 imX7_single slX7_single (Or.inl ⟨7, _, _, by decide, rfl, rfl, rfl⟩) rfl rfl (Nat.le_of_ble_eq_true rfl) (Nat.le_of_ble_eq_true rfl) (hS d _ e s a _ (by omega) hR (fun τ hu hR1 => ?_))
  refine xe_iconst (v := 0) dX7_both_6 rfl ?_
  refine xe_istore_n (lv2 := [_, _, _, _]) dX7_both_7 (by decide) rfl ?_
  exact lX7_both (d := d) hT hc hg hg5 hS (by omega) 100 0 _ _ _ (by omega) hR1 (fun τ2 hu2 h2 => h τ2 (hu.tr hu2) h2)

theorem lX7_either {T : Nat → Int32} {sz cc r : Nat} {f : pS → List (Nat × Nat) × pS} (hT : ToK T sz) (hc : isX cc) (hg : Nat) (hg5 : 1 ≤ hg) (hS : jMt kX7_both hg r T sz cc f) {d : Nat} (hd : hg ≤ d) {e : Nat} {a : jA} {Post : Option Value → xSt → Prop} : ∀ (q j : Nat) (σ : xSt) (c : List (Nat × Nat)) (s : pS), j + q = 100 → TxR σ T sz cc e s (a.1 ++ c, a.2) → (∀ τ, Un (xC cc) σ τ → TxR τ T sz cc e (pLp T sz 124 jOr f q (c, s)).2 (a.1 ++ (pLp T sz 124 jOr f q (c, s)).1, a.2) → Post none τ) → xEv kX7_either (d + 1) 8 [some (.ref 81), some (.ref cc), some (.int (nI (4 - r))), some (.int (nI j))] [] σ Post := by
  intro q
  induction q with
  | zero =>
    intro j σ c s hq hR h
    refine xe_iload_n dX7_either_8 rfl ?_
    refine xe_bipush (v := 100) dX7_either_9 rfl ?_
    refine xe_icmp_ge (tgt := 52) dX7_either_11 (by decide) (fun h11 => ?_) (fun h11 => absurd (show nI 100 ≤ nI j from nI_le (by omega) (by omega)) h11)
    refine xe_vret dX7_either_52 rfl ?_
    exact h _ Un.rf hR
  | succ q ih =>
    intro j σ c s hq hR h
    refine xe_iload_n dX7_either_8 rfl ?_
    refine xe_bipush (v := 100) dX7_either_9 rfl ?_
    refine xe_icmp_ge (tgt := 52) dX7_either_11 (by decide) (fun h11 => absurd h11 (show ¬ nI 100 ≤ nI j from nI_ge (by omega) (by omega))) (fun h11 => ?_)
    refine xe_aload_n dX7_either_14 rfl ?_
    refine xe_callv (k2 := kX7_next) (vs := []) dX7_either_15 okX7_next mlX7_35 imX7_next slX7_next (Or.inl ⟨7, _, _, by decide, rfl, rfl, rfl⟩) rfl rfl (Nat.le_of_ble_eq_true rfl) (Nat.le_of_ble_eq_true rfl) (sX7_next (by omega) hT hc hR ?_)
    refine xe_bipush (v := 124) dX7_either_18 rfl ?_
    refine xe_icmp_ne (tgt := 52) dX7_either_20 (by decide) (fun h20 => ?_) (fun h20 => ?_)
    · have hp : ¬ pAt T sz s 124 = true := fun z => h20 ((jNx_at 124 (by omega)).mpr z)
      rw [pLp_f hp] at h
      refine xe_vret dX7_either_52 rfl ?_
      exact h _ Un.rf hR
    · have hp : pAt T sz s 124 = true := (jNx_at 124 (by omega)).mp h20
      rw [pLp_t hp] at h
      refine xe_aload_n dX7_either_23 rfl ?_
      refine xe_dup dX7_either_24 rfl ?_
      refine xe_getf dX7_either_25 flX7_19 (by decide) rfl rfl ?_
      rw [hR.2.2.1]
      refine xe_iconst (v := 1) dX7_either_28 rfl ?_
      refine xe_iadd dX7_either_29 ?_
      refine xe_putf dX7_either_30 flX7_19 (by decide) rfl rfl rfl rfl ?_
      rw [nI_1]
      have hR2 := hR.at hc (pAt_lt hp)
      refine xe_aload_n dX7_either_33 rfl ?_
      refine xe_aload_n dX7_either_34 rfl ?_
      refine xe_iload_n dX7_either_35 rfl ?_
      refine xe_callv (k2 := kX7_both) (vs := [_, _]) dX7_either_36 okX7_both mlX7_74 imX7_both slX7_both (Or.inl ⟨7, _, _, by decide, rfl, rfl, rfl⟩) rfl rfl (Nat.le_of_ble_eq_true rfl) (Nat.le_of_ble_eq_true rfl) (hS d _ (e + 1) (s.1 + 1, s.2) (a.1 ++ c, a.2) _ (by omega) hR2 (fun τ hu hR3 => ?_))
      refine xe_aload_n dX7_either_39 rfl ?_
      refine xe_bipush (v := 20) dX7_either_40 rfl ?_
      refine xe_iconst (v := 0) dX7_either_42 rfl ?_
      refine xe_callv (k2 := kX1_append) (vs := [_, _]) dX7_either_43 okX1_append mlX7_70 imX1_append slX1_append (Or.inl ⟨1, _, _, hc.1.1.1, hc.1.1.2, rfl, rfl⟩) rfl rfl (Nat.le_of_ble_eq_true rfl) (Nat.le_of_ble_eq_true rfl) (sX1_append (by omega) 20 0 hT hc (by omega) (by omega) hR3 (fun τ2 hu2 hR4 => ?_))
      refine xn_inc (j := j) (lv2 := [_, _, _, _]) dX7_either_46 (by decide) rfl rfl ?_
      refine xe_goto (tgt := 8) dX7_either_49 (by decide) ?_
      exact ih (j + 1) _ _ _ (by omega) (hR4.cg rfl (by simp [jOr, List.append_assoc])) (fun τ3 hu3 h3 => h τ3 ((((Un.F (P := xC cc) (Or.inl rfl)).tr hu).tr hu2).tr hu3) h3)
theorem sX7_either {T : Nat → Int32} {sz cc r : Nat} {f : pS → List (Nat × Nat) × pS} (hT : ToK T sz) (hc : isX cc) (hg : Nat) (hg5 : 1 ≤ hg) (hS : jMt kX7_both hg r T sz cc f) : jMt kX7_either (hg + 1) r T sz cc (fun s => pLp T sz 124 jOr f 100 (f s)) := by
  intro d σ e s a Post hd hR h
  obtain ⟨d, rfl⟩ : ∃ e, d = e + 1 := ⟨d - 1, by omega⟩
  refine xM_start (lv := [some (.ref 81), some (.ref cc), some (.int (nI (4 - r))), none]) rfl ?_
  refine xe_aload_n dX7_either_0 rfl ?_
  refine xe_aload_n dX7_either_1 rfl ?_
  refine xe_iload_n dX7_either_2 rfl ?_
  refine xe_callv (k2 := kX7_both) (vs := [_, _]) dX7_either_3 okX7_both mlX7_74 imX7_both slX7_both (Or.inl ⟨7, _, _, by decide, rfl, rfl, rfl⟩) rfl rfl (Nat.le_of_ble_eq_true rfl) (Nat.le_of_ble_eq_true rfl) (hS d _ e s a _ (by omega) hR (fun τ hu hR1 => ?_))
  refine xe_iconst (v := 0) dX7_either_6 rfl ?_
  refine xe_istore_n (lv2 := [_, _, _, _]) dX7_either_7 (by decide) rfl ?_
  exact lX7_either (d := d) hT hc hg hg5 hS (by omega) 100 0 _ _ _ (by omega) hR1 (fun τ2 hu2 h2 => h τ2 (hu.tr hu2) h2)

theorem pLt_no {T : Nat → Int32} {sz : Nat} {s : pS} {c : Int32} (h : pAt T sz s c = true) (hc : c = 33 ∨ c = 40) : pLt T sz s = none := by
  cases q : pLt T sz s with
  | none => rfl
  | some L =>
    obtain ⟨-, -, h3, h4⟩ := pLt_lt q
    unfold pAt at h
    simp at h
    rw [h.2.2] at h4
    rcases hc with rfl | rfl
    · exact absurd h4 ((show ∀ L, L < 6 → ¬ (33 : Int32) = xlet L by decide) L h3)
    · exact absurd h4 ((show ∀ L, L < 6 → ¬ (40 : Int32) = xlet L by decide) L h3)
theorem ix3 (x : Int32) : ixO 3 x = iF (fun k r => bif decide (x = xlet k) then some k else r) none 6 := by
  by_cases h1 : x = 112
  · subst h1; rfl
  by_cases h2 : x = 107
  · subst h2; rfl
  by_cases h3 : x = 118
  · subst h3; rfl
  by_cases h4 : x = 102
  · subst h4; rfl
  by_cases h5 : x = 115
  · subst h5; rfl
  by_cases h6 : x = 97
  · subst h6; rfl
  have g1 : ¬ 112 = x := fun z => h1 z.symm
  have g2 : ¬ 107 = x := fun z => h2 z.symm
  have g3 : ¬ 118 = x := fun z => h3 z.symm
  have g4 : ¬ 102 = x := fun z => h4 z.symm
  have g5 : ¬ 115 = x := fun z => h5 z.symm
  have g6 : ¬ 97 = x := fun z => h6 z.symm
  have l : ixO 3 x = none := by simp [ixO, ixF, xbyt, xlen, g1, g2, g3, g4, g5, g6]
  rw [l]
  simp [iF, xlet, h1, h2, h3, h4, h5, h6]
theorem one3 (T : Nat → Int32) (sz : Nat) (s : pS) : jOne 3 T sz s = pLt T sz s := by
  unfold jOne pLt
  by_cases h : s.2 = true ∧ s.1 < sz
  · rw [if_pos h, ix3, show (fun (k : Nat) (r : Option Nat) => bif pAt T sz s (xlet k) then some k else r) = (fun k r => bif decide (T s.1 = xlet k) then some k else r) from by funext k r; simp [pAt, h.1, h.2]]
  · rw [if_neg h, show (fun (k : Nat) (r : Option Nat) => bif pAt T sz s (xlet k) then some k else r) = (fun _ r => r) from by
      funext k r
      have : pAt T sz s (xlet k) = false := by
        cases q : pAt T sz s (xlet k) with
        | false => rfl
        | true => exact absurd ⟨pAt_ok q, pAt_lt q⟩ h
      rw [this]; rfl]
    rfl
theorem one4 (T : Nat → Int32) (sz : Nat) (s : pS) : (jOne 4 T sz s = none → pTk T sz s (pRc (pRl T sz s)) = (s.1, false)) ∧ ∀ R, jOne 4 T sz s = some R → R = pRl T sz s ∧ R < 3 ∧ pTk T sz s (pRc (pRl T sz s)) = (s.1 + 1, s.2) := by
  unfold jOne
  by_cases h : s.2 = true ∧ s.1 < sz
  · rw [if_pos h]
    have e : ∀ c, pAt T sz s c = decide (T s.1 = c) := fun c => by simp [pAt, h.1, h.2]
    unfold pTk pRl
    simp only [e]
    generalize T s.1 = x
    by_cases h1 : x = 60
    · subst h1; exact ⟨fun z => absurd z (by decide), fun R z => (by have e0 := Option.some.inj ((show ixO 4 60 = some 0 from rfl).symm.trans z); subst e0; exact ⟨rfl, by omega, rfl⟩)⟩
    by_cases h2 : x = 61
    · subst h2; exact ⟨fun z => absurd z (by decide), fun R z => (by have e0 := Option.some.inj ((show ixO 4 61 = some 1 from rfl).symm.trans z); subst e0; exact ⟨rfl, by omega, rfl⟩)⟩
    by_cases h3 : x = 62
    · subst h3; exact ⟨fun z => absurd z (by decide), fun R z => (by have e0 := Option.some.inj ((show ixO 4 62 = some 2 from rfl).symm.trans z); subst e0; exact ⟨rfl, by omega, rfl⟩)⟩
    have g1 : ¬ 60 = x := fun z => h1 z.symm
    have g2 : ¬ 61 = x := fun z => h2 z.symm
    have g3 : ¬ 62 = x := fun z => h3 z.symm
    have l : ixO 4 x = none := by simp [ixO, ixF, xbyt, xlen, g1, g2, g3]
    rw [l]
    refine ⟨fun _ => ?_, fun R z => by cases z⟩
    simp [h1, h2, h3, pRc]
  · rw [if_neg h]
    refine ⟨fun _ => ?_, fun R z => by cases z⟩
    exact pTk_f (fun q => h ⟨pAt_ok q, pAt_lt q⟩)
theorem pNm_bad {T : Nat → Int32} {sz : Nat} {s : pS} (h : s.2 = false) : pNm T sz s = (0, (s.1, false)) := by
  have : pDg T sz s = false := by unfold pDg; rw [h]; rfl
  unfold pNm; rw [this]; rfl
theorem jOne_bad {T : Nat → Int32} {sz i : Nat} {s : pS} (h : s.2 = false) : jOne i T sz s = none := by
  unfold jOne; rw [if_neg (by rw [h]; simp)]
theorem pTs_n {T : Nat → Int32} {sz : Nat} {s : pS} (h : pLt T sz s = none) : pTs jTs [] T sz s = ([], (s.1, false)) := by unfold pTs; rw [h]
theorem pTs_s {T : Nat → Int32} {sz L : Nat} {s : pS} (h : pLt T sz s = some L) : pTs jTs [] T sz s = (jTs L (pRl T sz (s.1 + 1, s.2)) (pNm T sz (pTk T sz (s.1 + 1, s.2) (pRc (pRl T sz (s.1 + 1, s.2))))).1, (pNm T sz (pTk T sz (s.1 + 1, s.2) (pRc (pRl T sz (s.1 + 1, s.2))))).2) := by unfold pTs; rw [h]

theorem lX7_sg17 {d : Nat} {σ : xSt} {Post : Option Value → xSt → Prop} {T : Nat → Int32} {sz cc e : Nat} {s : pS} {a : jA} (hd : 4 ≤ d) (hT : ToK T sz) (hc : isX cc) (hR : TxR σ T sz cc e s a) (x2 v3 : Int32) (h : ∀ τ, Un (xC cc) σ τ → TxR τ T sz cc e (pTs jTs [] T sz s).2 (a.1 ++ (pTs jTs [] T sz s).1, a.2) → Post none τ) : xEv kX7_single (d + 1) 17 [some (.ref 81), some (.ref cc), some (.int x2), some (.int v3), none, none] [] σ Post := by
  refine xe_aload_n dX7_single_17 rfl ?_
  refine xe_text3 rfl dX7_single_18 ?_
  refine xe_callv (k2 := kX7_expectOne) (vs := [_]) dX7_single_20 okX7_expectOne mlX7_82 imX7_expectOne slX7_expectOne (Or.inl ⟨7, _, _, by decide, rfl, rfl, rfl⟩) rfl rfl (Nat.le_of_ble_eq_true rfl) (Nat.le_of_ble_eq_true rfl) (sX7_expectOne (i := 3) (by omega) hT hc hR (by omega) ⟨fun q3 τ hu hR1 => ?_, fun L hL q3 τ hu hR1 => ?_⟩)
  · skip
    rw [one3] at q3
    refine xe_istore (lv2 := [_, _, _, _, _, _]) dX7_single_23 (by decide) rfl ?_
    refine xe_aload_n dX7_single_25 rfl ?_
    refine xe_text4 rfl dX7_single_26 ?_
    refine xe_callv (k2 := kX7_expectOne) (vs := [_]) dX7_single_28 okX7_expectOne mlX7_82 imX7_expectOne slX7_expectOne (Or.inl ⟨7, _, _, by decide, rfl, rfl, rfl⟩) rfl rfl (Nat.le_of_ble_eq_true rfl) (Nat.le_of_ble_eq_true rfl) (sX7_expectOne (i := 4) (by omega) hT hc hR1 (by omega) ⟨fun q4 τ2 hu2 hR2 => ?_, fun R hRl q4 τ2 hu2 hR2 => ?_⟩)
    · skip
      refine xe_istore (lv2 := [_, _, _, _, _, _]) dX7_single_31 (by decide) rfl ?_
      refine xe_aload_n dX7_single_33 rfl ?_
      refine xe_iconst (v := 3) dX7_single_34 rfl ?_
      refine xe_iload dX7_single_35 rfl ?_
      refine xe_imul dX7_single_37 ?_
      refine xe_iload dX7_single_38 rfl ?_
      refine xe_iadd dX7_single_40 ?_
      refine xe_top (x2 := nI 0) (by decide) ?_
      refine xe_aload_n dX7_single_41 rfl ?_
      refine xe_callv (k2 := kX7_expectNumber) (vs := []) dX7_single_42 okX7_expectNumber mlX7_61 imX7_expectNumber slX7_expectNumber (Or.inl ⟨7, _, _, by decide, rfl, rfl, rfl⟩) rfl rfl (Nat.le_of_ble_eq_true rfl) (Nat.le_of_ble_eq_true rfl) (sX7_expectNumber (by omega) hT hc hR2 (fun τ3 hu3 hR3 => ?_))
      rw [pNm_bad rfl] at hR3 ⊢
      refine xe_top (x2 := nI 0) rfl ?_
      refine xe_callv (k2 := kX1_append) (vs := [_, _]) dX7_single_45 okX1_append mlX7_70 imX1_append slX1_append (Or.inl ⟨1, _, _, hc.1.1.1, hc.1.1.2, rfl, rfl⟩) rfl rfl (Nat.le_of_ble_eq_true rfl) (Nat.le_of_ble_eq_true rfl) (sX1_append (by omega) 0 0 hT hc (by omega) (by omega) (hR3.bad (e2 := e + 1) (a2 := a) rfl) (fun τ4 hu4 hR4 => ?_))
      refine xe_vret dX7_single_48 rfl ?_
      rw [pTs_n q3] at h
      exact h _ (((hu.tr hu2).tr hu3).tr hu4) (hR4.bad rfl)
    · skip
      first
      | (rw [jOne_bad rfl] at q4; cases q4; done)
      | obtain ⟨eR, hR3l, eT⟩ := (one4 T sz (s.1 + 1, s.2)).2 R q4
  · skip
    rw [one3] at q3
    refine xe_istore (lv2 := [_, _, _, _, _, _]) dX7_single_23 (by decide) rfl ?_
    refine xe_aload_n dX7_single_25 rfl ?_
    refine xe_text4 rfl dX7_single_26 ?_
    refine xe_callv (k2 := kX7_expectOne) (vs := [_]) dX7_single_28 okX7_expectOne mlX7_82 imX7_expectOne slX7_expectOne (Or.inl ⟨7, _, _, by decide, rfl, rfl, rfl⟩) rfl rfl (Nat.le_of_ble_eq_true rfl) (Nat.le_of_ble_eq_true rfl) (sX7_expectOne (i := 4) (by omega) hT hc hR1 (by omega) ⟨fun q4 τ2 hu2 hR2 => ?_, fun R hRl q4 τ2 hu2 hR2 => ?_⟩)
    · skip
      refine xe_istore (lv2 := [_, _, _, _, _, _]) dX7_single_31 (by decide) rfl ?_
      refine xe_aload_n dX7_single_33 rfl ?_
      refine xe_iconst (v := 3) dX7_single_34 rfl ?_
      refine xe_iload dX7_single_35 rfl ?_
      refine xe_imul dX7_single_37 ?_
      refine xe_iload dX7_single_38 rfl ?_
      refine xe_iadd dX7_single_40 ?_
      refine xe_top (x2 := nI (3 * L)) (by rw [show (3 : Int32) = nI 3 from rfl, show (0 : Int32) = nI 0 from rfl, pk_mul, nI_add]; rfl) ?_
      refine xe_aload_n dX7_single_41 rfl ?_
      refine xe_callv (k2 := kX7_expectNumber) (vs := []) dX7_single_42 okX7_expectNumber mlX7_61 imX7_expectNumber slX7_expectNumber (Or.inl ⟨7, _, _, by decide, rfl, rfl, rfl⟩) rfl rfl (Nat.le_of_ble_eq_true rfl) (Nat.le_of_ble_eq_true rfl) (sX7_expectNumber (by omega) hT hc hR2 (fun τ3 hu3 hR3 => ?_))
      rw [pNm_bad rfl] at hR3 ⊢
      refine xe_top (x2 := nI 0) rfl ?_
      refine xe_callv (k2 := kX1_append) (vs := [_, _]) dX7_single_45 okX1_append mlX7_70 imX1_append slX1_append (Or.inl ⟨1, _, _, hc.1.1.1, hc.1.1.2, rfl, rfl⟩) rfl rfl (Nat.le_of_ble_eq_true rfl) (Nat.le_of_ble_eq_true rfl) (sX1_append (by omega) (3 * L) 0 hT hc (by omega) (by omega) (hR3.bad (e2 := e + 1) (a2 := a) rfl) (fun τ4 hu4 hR4 => ?_))
      refine xe_vret dX7_single_48 rfl ?_
      rw [pTs_s q3, (one4 T sz (s.1 + 1, s.2)).1 q4, pNm_bad rfl] at h
      exact h _ (((hu.tr hu2).tr hu3).tr hu4) (hR4.bad rfl)
    · skip
      first
      | (rw [jOne_bad rfl] at q4; cases q4; done)
      | obtain ⟨eR, hR3l, eT⟩ := (one4 T sz (s.1 + 1, s.2)).2 R q4
      refine xe_istore (lv2 := [_, _, _, _, _, _]) dX7_single_31 (by decide) rfl ?_
      refine xe_aload_n dX7_single_33 rfl ?_
      refine xe_iconst (v := 3) dX7_single_34 rfl ?_
      refine xe_iload dX7_single_35 rfl ?_
      refine xe_imul dX7_single_37 ?_
      refine xe_iload dX7_single_38 rfl ?_
      refine xe_iadd dX7_single_40 ?_
      refine xe_top (x2 := nI (3 * L + R)) (by rw [show (3 : Int32) = nI 3 from rfl, pk_mul, nI_add]) ?_
      refine xe_aload_n dX7_single_41 rfl ?_
      refine xe_callv (k2 := kX7_expectNumber) (vs := []) dX7_single_42 okX7_expectNumber mlX7_61 imX7_expectNumber slX7_expectNumber (Or.inl ⟨7, _, _, by decide, rfl, rfl, rfl⟩) rfl rfl (Nat.le_of_ble_eq_true rfl) (Nat.le_of_ble_eq_true rfl) (sX7_expectNumber (by omega) hT hc hR2 (fun τ3 hu3 hR3 => ?_))
      obtain ⟨n, hn, en⟩ := pNm_nat hT (s.1 + 1 + 1, s.2)
      rw [en]
      refine xe_callv (k2 := kX1_append) (vs := [_, _]) dX7_single_45 okX1_append mlX7_70 imX1_append slX1_append (Or.inl ⟨1, _, _, hc.1.1.1, hc.1.1.2, rfl, rfl⟩) rfl rfl (Nat.le_of_ble_eq_true rfl) (Nat.le_of_ble_eq_true rfl) (sX1_append (by omega) (3 * L + R) n hT hc (by omega) hn (hR3.wk (e2 := e + 1) (by omega)) (fun τ4 hu4 hR4 => ?_))
      refine xe_vret dX7_single_48 rfl ?_
      rw [pTs_s q3, eT, ← eR] at h
      have h2 : ∀ τ, Un (xC cc) σ τ → TxR τ T sz cc e (pNm T sz (s.1 + 1 + 1, s.2)).2 (a.1 ++ jTs L R (pNm T sz (s.1 + 1 + 1, s.2)).1, a.2) → Post none τ := h
      rw [jTs, en, cN_nI (by omega)] at h2
      exact h2 _ (((hu.tr hu2).tr hu3).tr hu4) hR4

theorem sX7_single0 {T : Nat → Int32} {sz cc : Nat} (hT : ToK T sz) (hc : isX cc) : jMt kX7_single 5 0 T sz cc (jFa T sz 0) := by
  intro d σ e s a Post hd hR h
  obtain ⟨d, rfl⟩ : ∃ e, d = e + 1 := ⟨d - 1, by omega⟩
  refine xM_start (lv := [some (.ref 81), some (.ref cc), some (.int (nI (4 - 0))), none, none, none]) rfl ?_
  refine xe_aload_n dX7_single_0 rfl ?_
  refine xe_callv (k2 := kX7_next) (vs := []) dX7_single_1 okX7_next mlX7_35 imX7_next slX7_next (Or.inl ⟨7, _, _, by decide, rfl, rfl, rfl⟩) rfl rfl (Nat.le_of_ble_eq_true rfl) (Nat.le_of_ble_eq_true rfl) (sX7_next (by omega) hT hc hR ?_)
  refine xe_istore_n (lv2 := [_, _, _, _, _, _]) dX7_single_4 (by decide) rfl ?_
  refine xe_iload_n dX7_single_5 rfl ?_
  refine xe_bipush (v := 33) dX7_single_6 rfl ?_
  refine xe_icmp_eq (tgt := 49) dX7_single_8 (by decide) (fun h8 => ?_) (fun h8 => ?_)
  · have hp : pAt T sz s 33 = true ∨ pAt T sz s 40 = true := by
      first
      | exact Or.inr ((jNx_at 40 (by omega)).mp h14)
      | exact Or.inl ((jNx_at 33 (by omega)).mp h8)
    refine xe_iload_n dX7_single_49 rfl ?_
    refine xe_iconst (v := 4) dX7_single_50 rfl ?_
    refine xe_icmp_lt (tgt := 60) dX7_single_51 (by decide) (fun h51 => absurd h51 (by decide)) (fun h51 => ?_)
    refine xe_aload_n dX7_single_54 rfl ?_
    refine xe_iconst (v := 1) dX7_single_55 rfl ?_
    refine xe_putf dX7_single_56 flX7_22 (by decide) rfl rfl (by first | rfl | decide | assumption | exact bI_nar _ | exact xb_narrow rfl | exact xb_narrow (by assumption)) rfl ?_
    refine xe_vret dX7_single_59 rfl ?_
    have e0 : jFa T sz 0 s = ([], (s.1, false)) := by
      show pTs jTs [] T sz s = _
      rcases hp with hp | hp
      · exact pTs_n (pLt_no hp (Or.inl rfl))
      · exact pTs_n (pLt_no hp (Or.inr rfl))
    rw [e0] at h
    exact h _ (Un.F (Or.inl rfl)) (hR.fail hc)
  · refine xe_iload_n dX7_single_11 rfl ?_
    refine xe_bipush (v := 40) dX7_single_12 rfl ?_
    refine xe_icmp_eq (tgt := 49) dX7_single_14 (by decide) (fun h14 => ?_) (fun h14 => ?_)
    · have hp : pAt T sz s 33 = true ∨ pAt T sz s 40 = true := by
        first
        | exact Or.inr ((jNx_at 40 (by omega)).mp h14)
        | exact Or.inl ((jNx_at 33 (by omega)).mp h8)
      refine xe_iload_n dX7_single_49 rfl ?_
      refine xe_iconst (v := 4) dX7_single_50 rfl ?_
      refine xe_icmp_lt (tgt := 60) dX7_single_51 (by decide) (fun h51 => absurd h51 (by decide)) (fun h51 => ?_)
      refine xe_aload_n dX7_single_54 rfl ?_
      refine xe_iconst (v := 1) dX7_single_55 rfl ?_
      refine xe_putf dX7_single_56 flX7_22 (by decide) rfl rfl (by first | rfl | decide | assumption | exact bI_nar _ | exact xb_narrow rfl | exact xb_narrow (by assumption)) rfl ?_
      refine xe_vret dX7_single_59 rfl ?_
      have e0 : jFa T sz 0 s = ([], (s.1, false)) := by
        show pTs jTs [] T sz s = _
        rcases hp with hp | hp
        · exact pTs_n (pLt_no hp (Or.inl rfl))
        · exact pTs_n (pLt_no hp (Or.inr rfl))
      rw [e0] at h
      exact h _ (Un.F (Or.inl rfl)) (hR.fail hc)
    · exact lX7_sg17 (d := d) (by omega) hT hc hR _ _ h

theorem jFa_n {T : Nat → Int32} {sz r : Nat} {s : pS} (h1 : ¬ pAt T sz s 33 = true) (h2 : ¬ pAt T sz s 40 = true) : jFa T sz (r + 1) s = pTs jTs [] T sz s := by
  unfold jFa; rw [pFa, show pAt T sz s 33 = false by simpa using h1, show pAt T sz s 40 = false by simpa using h2]; rfl
theorem jFa_b {T : Nat → Int32} {sz r : Nat} {s : pS} (h1 : pAt T sz s 33 = true) : jFa T sz (r + 1) s = (jNg (jFa T sz r (s.1 + 1, s.2)).1, (jFa T sz r (s.1 + 1, s.2)).2) := by
  unfold jFa; rw [pFa, h1]; rfl
theorem jFa_p {T : Nat → Int32} {sz r : Nat} {s : pS} (h1 : ¬ pAt T sz s 33 = true) (h2 : pAt T sz s 40 = true) : jFa T sz (r + 1) s = ((pAy T sz jAn jOr (jFa T sz r) (s.1 + 1, s.2)).1, pTk T sz (pAy T sz jAn jOr (jFa T sz r) (s.1 + 1, s.2)).2 41) := by
  unfold jFa; rw [pFa, show pAt T sz s 33 = false by simpa using h1, h2]; rfl
theorem sX7_eitherF {T : Nat → Int32} {sz cc r : Nat} (hT : ToK T sz) (hc : isX cc) (hg : Nat) (hg5 : 1 ≤ hg) (hS : jMt kX7_single hg r T sz cc (jFa T sz r)) : jMt kX7_either (hg + 2) r T sz cc (pAy T sz jAn jOr (jFa T sz r)) :=
  sX7_either hT hc (hg + 1) (by omega) (sX7_both hT hc hg hg5 hS)

theorem sX7_singleS {T : Nat → Int32} {sz cc r : Nat} (hT : ToK T sz) (hc : isX cc) (hr : r < 4) (hg : Nat) (hg5 : 4 ≤ hg) (hS : jMt kX7_single hg r T sz cc (jFa T sz r)) : jMt kX7_single (hg + 3) (r + 1) T sz cc (jFa T sz (r + 1)) := by
  intro d σ e s a Post hd hR h
  obtain ⟨d, rfl⟩ : ∃ e, d = e + 1 := ⟨d - 1, by omega⟩
  refine xM_start (lv := [some (.ref 81), some (.ref cc), some (.int (nI (4 - (r + 1)))), none, none, none]) rfl ?_
  refine xe_aload_n dX7_single_0 rfl ?_
  refine xe_callv (k2 := kX7_next) (vs := []) dX7_single_1 okX7_next mlX7_35 imX7_next slX7_next (Or.inl ⟨7, _, _, by decide, rfl, rfl, rfl⟩) rfl rfl (Nat.le_of_ble_eq_true rfl) (Nat.le_of_ble_eq_true rfl) (sX7_next (by omega) hT hc hR ?_)
  refine xe_istore_n (lv2 := [_, _, _, _, _, _]) dX7_single_4 (by decide) rfl ?_
  refine xe_iload_n dX7_single_5 rfl ?_
  refine xe_bipush (v := 33) dX7_single_6 rfl ?_
  refine xe_icmp_eq (tgt := 49) dX7_single_8 (by decide) (fun h8 => ?_) (fun h8 => ?_)
  · have hp : pAt T sz s 33 = true ∨ (¬ pAt T sz s 33 = true ∧ pAt T sz s 40 = true) := by
      first
      | exact Or.inr ⟨fun z => h8 ((jNx_at 33 (by omega)).mpr z), (jNx_at 40 (by omega)).mp h14⟩
      | exact Or.inl ((jNx_at 33 (by omega)).mp h8)
    have hlt : s.1 < sz := by rcases hp with hp | hp; exact pAt_lt hp; exact pAt_lt hp.2
    refine xe_iload_n dX7_single_49 rfl ?_
    refine xe_iconst (v := 4) dX7_single_50 rfl ?_
    refine xe_icmp_lt (tgt := 60) dX7_single_51 (by decide) (fun h51 => ?_) (fun h51 => absurd (show nI (4 - (r + 1)) < nI 4 from nI_lt (by omega) (by omega)) h51)
    refine xe_aload_n dX7_single_60 rfl ?_
    refine xe_dup dX7_single_61 rfl ?_
    refine xe_getf dX7_single_62 flX7_19 (by decide) rfl rfl ?_
    rw [hR.2.2.1]
    refine xe_iconst (v := 1) dX7_single_65 rfl ?_
    refine xe_iadd dX7_single_66 ?_
    refine xe_putf dX7_single_67 flX7_19 (by decide) rfl rfl rfl rfl ?_
    rw [nI_1]
    have hR2 := hR.at hc hlt
    refine xe_iload_n dX7_single_70 rfl ?_
    refine xe_bipush (v := 33) dX7_single_71 rfl ?_
    refine xe_icmp_ne (tgt := 94) dX7_single_73 (by decide) (fun h73 => ?_) (fun h73 => ?_)
    · have hp3 : ¬ pAt T sz s 33 = true := fun z => h73 ((jNx_at 33 (by omega)).mpr z)
      rw [jFa_p hp3 (by rcases hp with hp | hp; exact absurd hp hp3; exact hp.2)] at h
      refine xe_aload_n dX7_single_94 rfl ?_
      refine xe_aload_n dX7_single_95 rfl ?_
      refine xe_iload_n dX7_single_96 rfl ?_
      refine xe_iconst (v := 1) dX7_single_97 rfl ?_
      refine xe_iadd dX7_single_98 ?_
      refine xe_top (x2 := nI (4 - r)) (by rw [nI_1]; congr 1; omega) ?_
      refine xe_callv (k2 := kX7_either) (vs := [_, _]) dX7_single_99 okX7_either mlX7_66 imX7_either slX7_either (Or.inl ⟨7, _, _, by decide, rfl, rfl, rfl⟩) rfl rfl (Nat.le_of_ble_eq_true rfl) (Nat.le_of_ble_eq_true rfl) (sX7_eitherF hT hc hg (by omega) hS d _ (e + 1) (s.1 + 1, s.2) a _ (by omega) hR2 (fun τ hu hR3 => ?_))
      refine xe_aload_n dX7_single_102 rfl ?_
      refine xe_bipush (v := 41) dX7_single_103 rfl ?_
      refine xe_callv (k2 := kX7_expect) (vs := [_]) dX7_single_105 okX7_expect mlX7_57 imX7_expect slX7_expect (Or.inl ⟨7, _, _, by decide, rfl, rfl, rfl⟩) rfl rfl (Nat.le_of_ble_eq_true rfl) (Nat.le_of_ble_eq_true rfl) (sX7_expect (by omega) 41 hT hc hR3 (by omega) (fun τ2 hu2 hR4 => ?_))
      refine xe_vret dX7_single_108 rfl ?_
      first
      | exact h _ (((Un.F (P := xC cc) (Or.inl rfl)).tr hu).tr hu2) (hR4.cg rfl (by simp [jNg, List.append_assoc]))
      | exact h _ (((Un.F (P := xC cc) (Or.inl rfl)).tr hu).tr hu2) (hR4.wk (by omega))
    · have hp3 : pAt T sz s 33 = true := (jNx_at 33 (by omega)).mp h73
      rw [jFa_b hp3] at h
      refine xe_aload_n dX7_single_76 rfl ?_
      refine xe_aload_n dX7_single_77 rfl ?_
      refine xe_iload_n dX7_single_78 rfl ?_
      refine xe_iconst (v := 1) dX7_single_79 rfl ?_
      refine xe_iadd dX7_single_80 ?_
      refine xe_top (x2 := nI (4 - r)) (by rw [nI_1]; congr 1; omega) ?_
      refine xe_callv (k2 := kX7_single) (vs := [_, _]) dX7_single_81 okX7_single mlX7_77 imX7_single slX7_single (Or.inl ⟨7, _, _, by decide, rfl, rfl, rfl⟩) rfl rfl (Nat.le_of_ble_eq_true rfl) (Nat.le_of_ble_eq_true rfl) (hS d _ (e + 1) (s.1 + 1, s.2) a _ (by omega) hR2 (fun τ hu hR3 => ?_))
      refine xe_aload_n dX7_single_84 rfl ?_
      refine xe_bipush (v := 18) dX7_single_85 rfl ?_
      refine xe_iconst (v := 0) dX7_single_87 rfl ?_
      refine xe_callv (k2 := kX1_append) (vs := [_, _]) dX7_single_88 okX1_append mlX7_70 imX1_append slX1_append (Or.inl ⟨1, _, _, hc.1.1.1, hc.1.1.2, rfl, rfl⟩) rfl rfl (Nat.le_of_ble_eq_true rfl) (Nat.le_of_ble_eq_true rfl) (sX1_append (by omega) 18 0 hT hc (by omega) (by omega) hR3 (fun τ2 hu2 hR4 => ?_))
      refine xe_goto (tgt := 108) dX7_single_91 (by decide) ?_
      refine xe_vret dX7_single_108 rfl ?_
      first
      | exact h _ (((Un.F (P := xC cc) (Or.inl rfl)).tr hu).tr hu2) (hR4.cg rfl (by simp [jNg, List.append_assoc]))
      | exact h _ (((Un.F (P := xC cc) (Or.inl rfl)).tr hu).tr hu2) (hR4.wk (by omega))
  · refine xe_iload_n dX7_single_11 rfl ?_
    refine xe_bipush (v := 40) dX7_single_12 rfl ?_
    refine xe_icmp_eq (tgt := 49) dX7_single_14 (by decide) (fun h14 => ?_) (fun h14 => ?_)
    · have hp : pAt T sz s 33 = true ∨ (¬ pAt T sz s 33 = true ∧ pAt T sz s 40 = true) := by
        first
        | exact Or.inr ⟨fun z => h8 ((jNx_at 33 (by omega)).mpr z), (jNx_at 40 (by omega)).mp h14⟩
        | exact Or.inl ((jNx_at 33 (by omega)).mp h8)
      have hlt : s.1 < sz := by rcases hp with hp | hp; exact pAt_lt hp; exact pAt_lt hp.2
      refine xe_iload_n dX7_single_49 rfl ?_
      refine xe_iconst (v := 4) dX7_single_50 rfl ?_
      refine xe_icmp_lt (tgt := 60) dX7_single_51 (by decide) (fun h51 => ?_) (fun h51 => absurd (show nI (4 - (r + 1)) < nI 4 from nI_lt (by omega) (by omega)) h51)
      refine xe_aload_n dX7_single_60 rfl ?_
      refine xe_dup dX7_single_61 rfl ?_
      refine xe_getf dX7_single_62 flX7_19 (by decide) rfl rfl ?_
      rw [hR.2.2.1]
      refine xe_iconst (v := 1) dX7_single_65 rfl ?_
      refine xe_iadd dX7_single_66 ?_
      refine xe_putf dX7_single_67 flX7_19 (by decide) rfl rfl rfl rfl ?_
      rw [nI_1]
      have hR2 := hR.at hc hlt
      refine xe_iload_n dX7_single_70 rfl ?_
      refine xe_bipush (v := 33) dX7_single_71 rfl ?_
      refine xe_icmp_ne (tgt := 94) dX7_single_73 (by decide) (fun h73 => ?_) (fun h73 => ?_)
      · have hp3 : ¬ pAt T sz s 33 = true := fun z => h73 ((jNx_at 33 (by omega)).mpr z)
        rw [jFa_p hp3 (by rcases hp with hp | hp; exact absurd hp hp3; exact hp.2)] at h
        refine xe_aload_n dX7_single_94 rfl ?_
        refine xe_aload_n dX7_single_95 rfl ?_
        refine xe_iload_n dX7_single_96 rfl ?_
        refine xe_iconst (v := 1) dX7_single_97 rfl ?_
        refine xe_iadd dX7_single_98 ?_
        refine xe_top (x2 := nI (4 - r)) (by rw [nI_1]; congr 1; omega) ?_
        refine xe_callv (k2 := kX7_either) (vs := [_, _]) dX7_single_99 okX7_either mlX7_66 imX7_either slX7_either (Or.inl ⟨7, _, _, by decide, rfl, rfl, rfl⟩) rfl rfl (Nat.le_of_ble_eq_true rfl) (Nat.le_of_ble_eq_true rfl) (sX7_eitherF hT hc hg (by omega) hS d _ (e + 1) (s.1 + 1, s.2) a _ (by omega) hR2 (fun τ hu hR3 => ?_))
        refine xe_aload_n dX7_single_102 rfl ?_
        refine xe_bipush (v := 41) dX7_single_103 rfl ?_
        refine xe_callv (k2 := kX7_expect) (vs := [_]) dX7_single_105 okX7_expect mlX7_57 imX7_expect slX7_expect (Or.inl ⟨7, _, _, by decide, rfl, rfl, rfl⟩) rfl rfl (Nat.le_of_ble_eq_true rfl) (Nat.le_of_ble_eq_true rfl) (sX7_expect (by omega) 41 hT hc hR3 (by omega) (fun τ2 hu2 hR4 => ?_))
        refine xe_vret dX7_single_108 rfl ?_
        first
        | exact h _ (((Un.F (P := xC cc) (Or.inl rfl)).tr hu).tr hu2) (hR4.cg rfl (by simp [jNg, List.append_assoc]))
        | exact h _ (((Un.F (P := xC cc) (Or.inl rfl)).tr hu).tr hu2) (hR4.wk (by omega))
      · have hp3 : pAt T sz s 33 = true := (jNx_at 33 (by omega)).mp h73
        rw [jFa_b hp3] at h
        refine xe_aload_n dX7_single_76 rfl ?_
        refine xe_aload_n dX7_single_77 rfl ?_
        refine xe_iload_n dX7_single_78 rfl ?_
        refine xe_iconst (v := 1) dX7_single_79 rfl ?_
        refine xe_iadd dX7_single_80 ?_
        refine xe_top (x2 := nI (4 - r)) (by rw [nI_1]; congr 1; omega) ?_
        refine xe_callv (k2 := kX7_single) (vs := [_, _]) dX7_single_81 okX7_single mlX7_77 imX7_single slX7_single (Or.inl ⟨7, _, _, by decide, rfl, rfl, rfl⟩) rfl rfl (Nat.le_of_ble_eq_true rfl) (Nat.le_of_ble_eq_true rfl) (hS d _ (e + 1) (s.1 + 1, s.2) a _ (by omega) hR2 (fun τ hu hR3 => ?_))
        refine xe_aload_n dX7_single_84 rfl ?_
        refine xe_bipush (v := 18) dX7_single_85 rfl ?_
        refine xe_iconst (v := 0) dX7_single_87 rfl ?_
        refine xe_callv (k2 := kX1_append) (vs := [_, _]) dX7_single_88 okX1_append mlX7_70 imX1_append slX1_append (Or.inl ⟨1, _, _, hc.1.1.1, hc.1.1.2, rfl, rfl⟩) rfl rfl (Nat.le_of_ble_eq_true rfl) (Nat.le_of_ble_eq_true rfl) (sX1_append (by omega) 18 0 hT hc (by omega) (by omega) hR3 (fun τ2 hu2 hR4 => ?_))
        refine xe_goto (tgt := 108) dX7_single_91 (by decide) ?_
        refine xe_vret dX7_single_108 rfl ?_
        first
        | exact h _ (((Un.F (P := xC cc) (Or.inl rfl)).tr hu).tr hu2) (hR4.cg rfl (by simp [jNg, List.append_assoc]))
        | exact h _ (((Un.F (P := xC cc) (Or.inl rfl)).tr hu).tr hu2) (hR4.wk (by omega))
    · rw [jFa_n (fun z => h8 ((jNx_at 33 (by omega)).mpr z)) (fun z => h14 ((jNx_at 40 (by omega)).mpr z))] at h
      exact lX7_sg17 (d := d) (by omega) hT hc hR _ _ h

theorem sX7_singleA {T : Nat → Int32} {sz cc : Nat} (hT : ToK T sz) (hc : isX cc) : ∀ r, r ≤ 4 → jMt kX7_single (5 + 3 * r) r T sz cc (jFa T sz r) := by
  intro r
  induction r with
  | zero => intro _; exact sX7_single0 hT hc
  | succ r ih => intro hr; exact sX7_singleS hT hc (by omega) (5 + 3 * r) (by omega) (ih (by omega))
theorem sX7_eitherA {T : Nat → Int32} {sz cc : Nat} (hT : ToK T sz) (hc : isX cc) : jMt kX7_either 19 4 T sz cc (pAy T sz jAn jOr (jFa T sz 4)) := sX7_eitherF hT hc 17 (by omega) (sX7_singleA hT hc 4 (by omega))
