/-! the other steps: texts, images, acts, tapes -/
section F115
variable {σ : xSt} {j ru t a n m p k : Nat} {v : Int32}
theorem c115 : Ch (fun b => b = 115) σ (xsF σ 115 j v) := Ch.ofUn (Un.F rfl)
theorem INVi.f115 (h : INVi σ ru) (hj : j ≠ 3) : INVi (xsF σ 115 j v) ru := by
  unfold INVi
  rw [xsF_ne (Or.inl (by omega)), xsF_ne (Or.inr (by omega)), xsF_A]
  refine ⟨h.1, fun z => ?_⟩
  obtain ⟨n, m, p, k, h1, h2⟩ := h.2 z
  exact ⟨n, m, p, k, h1.un h2.1.2.1 (Un.F (P := fun b => b = 115) rfl) (fun c hs => by unfold sC at hs; omega), h2⟩
theorem INVr.f115 (h : INVr σ ru) (hj : j ≠ 8) : INVr (xsF σ 115 j v) ru := by
  unfold INVr
  rw [xsF_ne (Or.inl (by omega)), xsF_ne (Or.inr (by omega))]; exact h
theorem INVt.f115 (h : INVt σ t) (hj : j ≠ 5) : INVt (xsF σ 115 j v) t := by
  unfold INVt
  rw [xsF_ne (Or.inl (by omega)), xsF_ne (Or.inr (by omega)), xsF_A]; exact h
theorem INVa.f115 (h : INVa σ a) (hj : j ≠ 27) : INVa (xsF σ 115 j v) a := by
  unfold INVa
  rw [xsF_ne (Or.inl (by omega)), xsF_ne (Or.inr (by omega)), xsF_A]; exact h
end F115
theorem GOk.ru {G : Nat → Int32} {n m p k ru ru2 : Nat} (h : GOk G n m p k ru) (hr : ru ≤ ru2) : GOk G n m p k ru2 := by
  obtain ⟨a, b, c, d, e, f, g, r, r1, r2⟩ := h
  exact ⟨a, b, c, d, e, f, g, r, by omega, r2⟩
theorem GOk.cg {G G2 : Nat → Int32} {n m p k ru : Nat} (h : GOk G n m p k ru) (e : ∀ c, c < 115 → G2 c = G c) : GOk G2 n m p k ru := by
  obtain ⟨c0, g1, g2, g3, g4, g5, g6, r, r1, r2⟩ := h
  obtain ⟨b1, b2, b3, b4, b5, b6, b7, b8⟩ := c0
  refine ⟨⟨by rw [e _ (by omega)]; exact b1, b2, by rw [e _ (by omega)]; exact b3, b4, by rw [e _ (by omega)]; exact b5, b6, by rw [e _ (by omega)]; exact b7, b8⟩, fun i hi => by rw [e _ (by omega)]; exact g1 i hi, fun i hi => by rw [e _ (by omega)]; exact g2 i hi, fun q hq => by rw [e _ (by omega), e _ (by omega)]; exact g3 q hq, fun q hq => by rw [e _ (by omega)]; exact g4 q hq, fun q hq => by rw [e _ (by omega), e _ (by omega)]; exact g5 q hq, fun q hq => by rw [e _ (by omega)]; exact g6 q hq, r, r1, by rw [e _ (by omega)]; exact r2⟩
theorem RepJ.cg {σ : xSt} {b : Nat} {G G2 : Nat → Int32} {n m p k : Nat} (h : RepJ σ b G n m p k) (hc : CO G n m p k) (e : ∀ c, c < 115 → G2 c = G c) : RepJ σ b G2 n m p k := by
  obtain ⟨b1, b2, b3, b4, b5, b6, b7, b8⟩ := hc
  exact ⟨h.w.trans (e _ (by omega)).symm, h.t.trans (e _ (by omega)).symm, by rw [h.h, e _ (by omega)], h.P.cg (fun c hc => (e c (by omega)).symm), h.H.cg (fun r hr => ⟨(e _ (by omega)).symm, (e _ (by omega)).symm, (e _ (by omega)).symm⟩), h.L.cg (fun r hr => ⟨(e _ (by omega)).symm, (e _ (by omega)).symm, rfl⟩), h.B.cg (fun r hr => ⟨(e _ (by omega)).symm, (e _ (by omega)).symm, rfl⟩)⟩
theorem st_feed (s : Int32) : StI kX8_feed kX9_feed [.int s] := by
  intro σ h
  obtain ⟨n, m, p, k, ru, t, a, hj, hi, hm, hr, ht, hc, hb, ha, hp⟩ := id h
  have t100 := ht.2.2.1.1
  refine sX8_feed (by omega) t s ht.1 t100 ⟨_, rfl, ?_⟩
  by_cases hz : rng s 0 127 ∧ t < 100
  · rw [if_pos hz]
    have C1 : Ch (fun b => b = 81 ∨ b = 82) σ (xsF (xsA σ 82 (upd (σ.2.1 82) t s)) 81 1 (nI (t + 1))) := Ch.ofUn ((Un.A (Or.inr rfl)).tr (Un.F (Or.inl rfl)))
    have e119 : (xsF (xsA σ 82 (upd (σ.2.1 82) t s)) 81 1 (nI (t + 1))).2.1 119 = σ.2.1 119 := C1.a (by omega)
    refine sX9_feed (by omega) t s (by rw [C1.2.2 (by omega) 5 (by omega)]; exact ht.2.1) t100 ?_
    rw [if_pos hz, e119]
    refine ⟨rfl, ?_⟩
    have C2 := C1.tr (Ch.A (σ := xsF (xsA σ 82 (upd (σ.2.1 82) t s)) 81 1 (nI (t + 1))) (c := 119) (g := upd (σ.2.1 119) t s))
    obtain ⟨u, hu, rfl⟩ := rng_nat (m := 127) (by omega) hz.1
    refine ⟨n, m, p, k, ru, t + 1, a, (hj.ch C2 (fun c q z => by omega)).ch c115 (fun c q z => by omega), (hi.ch C2 (fun c q z => by omega)).f115 (by omega), (hm.ch C2 (fun c q z => by omega)).ch c115 (fun c q z => by omega), (hr.ch C2 (fun c q z => by omega)).f115 (by omega), ⟨?_, xsF_get, ⟨by omega, fun q hq => ?_⟩, fun q hq => ?_⟩, (hc.ch hr.1 C2 (fun c q z => by omega)).ch hr.1 c115 (fun c q z => by omega), (hb.ch C2 (fun z => by omega)).ch c115 (by omega), (ha.ch C2 (fun c q z => by omega)).f115 (by omega), (hp.ch C2 (fun c q z => by omega)).ch c115 (fun c q z => by omega)⟩
    · rw [xsF_ne (Or.inl (by omega)), xsA_1, xsF_get]
    · rw [xsF_A, xsA_get]
      by_cases e : q = t
      · subst e; exact ⟨u, by omega, updE⟩
      · rw [updN e]; exact ht.2.2.1.2 q (by omega)
    · rw [xsF_A, xsA_get, xsA_ne (by omega), xsF_A, xsA_get]
      by_cases e : q = t
      · subst e; rw [updE, updE]
      · rw [updN e, updN e]; exact ht.2.2.2 q (by omega)
  · rw [if_neg hz]
    refine sX9_feed (by omega) t s ht.2.1 t100 ?_
    rw [if_neg hz]
    exact ⟨rfl, h⟩
theorem st_image : StI kX8_image kX9_image [] := by
  intro σ h
  obtain ⟨n, m, p, k, ru, t, a, hj, hi, hm, hr, ht, hc, hb, ha, hp⟩ := id h
  have h6 := hj.2.1.2.1
  refine sX8_image (by omega) (σ.2.1 116) hj.1 hj.2.1 (fun τ hu hJ2 => ⟨_, rfl, ?_⟩)
  have C0 : Ch (sC 27) σ τ := Ch.ofUn hu
  have eG : τ.2.1 116 = σ.2.1 116 := C0.a (by unfold sC; omega)
  refine sX9_image (by omega) ?_
  show some (Value.int (τ.2.1 116 54)) = _ ∧ INV (xsA (xsF (xsF τ 0 4 1) 115 3 1) 118 (va_cpy (τ.2.1 116) (τ.2.1 118) 0 0 115))
  rw [eG]
  refine ⟨rfl, ?_⟩
  have eg : ∀ c, c < 115 → va_cpy (σ.2.1 116) (τ.2.1 118) 0 0 115 c = σ.2.1 116 c := fun c hc2 => by unfold va_cpy; rw [if_pos (by omega), Nat.zero_add, Nat.sub_zero]
  have C1 : Ch (fun c => (sC 27 c ∨ c = 0) ∨ c = 118) σ (xsA (xsF τ 0 4 1) 118 (va_cpy (σ.2.1 116) (τ.2.1 118) 0 0 115)) := (C0.tr (Ch.ofUn (Un.F (P := fun b => b = 0) rfl))).tr Ch.A
  have es : xsA (xsF (xsF τ 0 4 1) 115 3 1) 118 (va_cpy (σ.2.1 116) (τ.2.1 118) 0 0 115) = xsF (xsA (xsF τ 0 4 1) 118 (va_cpy (σ.2.1 116) (τ.2.1 118) 0 0 115)) 115 3 1 := rfl
  rw [es]
  refine ⟨n, m, p, k, ru, t, a, (hj.ch C1 (fun c q z => by unfold sC at z; omega)).ch c115 (fun c q z => by omega), ⟨?_, fun _ => ⟨n, m, p, k, ?_, ?_⟩⟩, (hm.ch C1 (fun c q z => by unfold sC at z; omega)).ch c115 (fun c q z => by omega), ⟨hr.1, ?_, ?_⟩, (ht.ch C1 (fun c q z => by unfold sC at z; omega)).f115 (by omega), (hc.ch hr.1 C1 (fun c q z => by unfold sC at z; omega)).ch hr.1 c115 (fun c q z => by omega), (hb.ch C1 (fun z => by unfold sC at z; omega)).ch c115 (by omega), (ha.ch C1 (fun c q z => by unfold sC at z; omega)).f115 (by omega), (hp.ch C1 (fun c q z => by unfold sC at z; omega)).ch c115 (fun c q z => by omega)⟩
  · rw [xsF_get, xsF_ne (Or.inl (by omega)), xsA_1, xsF_get]
  · rw [xsF_A, xsA_get]
    refine RepJ.cg (G := σ.2.1 116) ?_ hj.2.1 eg
    exact hJ2.un h6 (((Un.F (P := fun b => b = 0 ∨ b = 118 ∨ b = 115) (Or.inl rfl)).tr (Un.A (Or.inr (Or.inl rfl)))).tr (Un.F (Or.inr (Or.inr rfl)))) (fun c hs => by unfold sC at hs; omega)
  · rw [xsF_A, xsA_get]; exact hj.2.cg eg
  · rw [xsF_ne (Or.inl (by omega)), xsA_1, xsF_ne (Or.inr (by omega)), C0.f (by unfold sC; omega) (by omega)]; exact hr.2.1
  · rw [xsF_ne (Or.inr (by omega)), xsA_1, xsF_ne (Or.inl (by omega)), C0.2.2 (by unfold sC; omega) 8 (by omega)]; exact hr.2.2
theorem st_undo : StI kX8_undo kX9_undo [] := by
  intro σ h
  obtain ⟨n, m, p, k, ru, t, a, hj, hi, hm, hr, ht, hc, hb, ha, hp⟩ := id h
  by_cases hz : σ.1 0 4 = 0
  · refine sX8_undo (n := 0) (m := 0) (p := 0) (k := 0) (by omega) (σ.2.1 118) ⟨fun _ => ⟨_, rfl, ?_⟩, fun z => absurd hz z⟩
    refine sX9_undo (by omega) ⟨fun _ => ⟨rfl, h⟩, fun z => absurd (hi.1 ▸ hz) z⟩
  · obtain ⟨n2, m2, p2, k2, h1, h2⟩ := hi.2 hz
    refine sX8_undo (n := n2) (m := m2) (p := p2) (k := k2) (by omega) (σ.2.1 118) ⟨fun z => absurd z hz, fun _ => ⟨h1, h2.1, fun τ hu hJ2 => ⟨_, rfl, ?_⟩⟩⟩
    have C0 : Ch (sC 1) σ τ := Ch.ofUn hu
    have e8 : τ.2.1 118 = σ.2.1 118 := C0.a (by unfold sC; omega)
    have e3 : τ.1 115 3 = σ.1 115 3 := C0.2.2 (by unfold sC; omega) 3 (by omega)
    refine sX9_undo (by omega) ⟨fun z => absurd (hi.1.trans (e3.symm.trans z)) hz, fun _ => ?_⟩
    rw [e8]
    have eg : ∀ c, c < 115 → va_cpy (σ.2.1 118) (τ.2.1 116) 0 0 115 c = σ.2.1 118 c := fun c hc2 => by unfold va_cpy; rw [if_pos (by omega), Nat.zero_add, Nat.sub_zero]
    exact ⟨rfl, INV.setG hi hm hr ht hc hb ha hp hu (hJ2.cg h2.1 eg) (h2.cg eg)⟩
theorem actV_le (G : Nat → Int32) (pp q x : Int32) (tr : Nat → Int32) : (actV G pp q x tr).2.1 < 2 ^ 30 := by
  unfold actV
  split
  · have := aF_le (cN (G (9 * cN pp))) (cN pp) (G (9 * cN pp + 1)) 7 (cN (G (9 * cN pp))) (cN q) x (0, tr)
    have e : (3 : Nat) ^ 7 = 2187 := by decide
    rw [e] at this
    simp only at this
    omega
  · show 0 < 2 ^ 30; omega
theorem st_act (pp q x : Int32) : StI kX8_act kX9_act [.int pp, .int q, .int x] := by
  intro σ h
  obtain ⟨n, m, p, k, ru, t, a, hj, hi, hm, hr, ht, hc, hb, ha, hp⟩ := id h
  have h6 := hj.2.1.2.1
  refine sX8_act (by omega) (σ.2.1 116) pp q x hj.1 hj.2.1 hj.2.2.2.1 ⟨_, rfl, ?_⟩
  have hA := actV_le (σ.2.1 116) pp q x (σ.2.1 101)
  generalize eA : actV (σ.2.1 116) pp q x (σ.2.1 101) = A at hA ⊢
  have C1 : Ch (fun c => c = 101 ∨ c = 100) σ (jaS σ A.2) := Ch.ofUn ((Un.A (Or.inl rfl)).tr (Un.F (Or.inr rfl)))
  have eG : (jaS σ A.2).2.1 116 = σ.2.1 116 := C1.a (by omega)
  have eT : (jaS σ A.2).2.1 133 = σ.2.1 101 := (C1.a (by omega)).trans ha.2.2.2.symm
  refine sX9_act (by omega) n (by rw [eG]; exact hj.2.1.1) h6 pp q x (hm.ch C1 (fun c q z => by omega)).1 (by rw [eG]; exact hj.2.2.2.1) ?_
  rw [eG, eT, eA]
  refine ⟨rfl, ?_⟩
  have C2 := C1.tr (Ch.A (σ := jaS σ A.2) (c := 133) (g := A.2.2))
  show INV (xsF (xsA (jaS σ A.2) 133 A.2.2) 115 27 (nI A.2.1))
  refine ⟨n, m, p, k, ru, t, A.2.1, (hj.ch C2 (fun c q z => by omega)).ch c115 (fun c q z => by omega), (hi.ch C2 (fun c q z => by omega)).f115 (by omega), (hm.ch C2 (fun c q z => by omega)).ch c115 (fun c q z => by omega), (hr.ch C2 (fun c q z => by omega)).f115 (by omega), (ht.ch C2 (fun c q z => by omega)).f115 (by omega), (hc.ch hr.1 C2 (fun c q z => by omega)).ch hr.1 c115 (fun c q z => by omega), (hb.ch C2 (fun z => by omega)).ch c115 (by omega), ⟨hA, ?_, xsF_get, ?_⟩, (hp.ch C2 (fun c q z => by omega)).ch c115 (fun c q z => by omega)⟩
  · rw [xsF_ne (Or.inl (by omega)), xsA_1]; exact xsF_get
  · rw [xsF_A, xsA_get, xsA_ne (by omega)]; show (xsA σ 101 A.2.2).2.1 101 = _; exact xsA_get
