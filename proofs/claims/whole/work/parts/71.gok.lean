/-! the row's own order stays, whatever is called -/
theorem CO.eq {G : Nat → Int32} {n m p k n2 m2 p2 k2 : Nat} (h : CO G n m p k) (h2 : CO G n2 m2 p2 k2) : n2 = n ∧ m2 = m ∧ p2 = p ∧ k2 = k := by
  obtain ⟨a1, a2, a3, a4, a5, a6, a7, a8⟩ := h
  obtain ⟨b1, b2, b3, b4, b5, b6, b7, b8⟩ := h2
  exact ⟨nEq (by omega) (by omega) (b1.symm.trans a1), nEq (by omega) (by omega) (b3.symm.trans a3), nEq (by omega) (by omega) (b5.symm.trans a5), nEq (by omega) (by omega) (b7.symm.trans a7)⟩
theorem GOk.same {G G2 : Nat → Int32} {n m p k ru n2 m2 p2 k2 : Nat} (h : GOk G n m p k ru) (hC : CO G2 n2 m2 p2 k2) (e : G2 = G) : GOk G2 n2 m2 p2 k2 ru := by
  subst e
  obtain ⟨rfl, rfl, rfl, rfl⟩ := h.1.eq hC
  exact h
theorem GOk.pots {G G2 : Nat → Int32} {n m p k ru n2 m2 p2 k2 : Nat} (h : GOk G n m p k ru) (hC : CO G2 n2 m2 p2 k2) (hi : ∀ c, 57 ≤ c → G2 c = G c) (h54 : G2 54 = G 54) (hk : ∀ i, i < n → G2 (9 * i) = G (9 * i)) (hs : SOk n G2) : GOk G2 n2 m2 p2 k2 ru := by
  obtain ⟨rfl, rfl, rfl, rfl⟩ := (CO.cg h.1 h54 (hi 58 (by omega)) (hi 77 (by omega)) (hi 98 (by omega))).eq hC
  obtain ⟨c0, g1, g2, g3, g4, g5, g6, r, r1, r2⟩ := h
  refine ⟨hC, hs, fun i hi2 => by rw [hk i hi2]; exact g2 i hi2, fun q hq => ?_, fun q hq => ?_, fun q hq => ?_, fun q hq => ?_, r, r1, by rw [hi 57 (by omega)]; exact r2⟩
  · rw [hi _ (by omega), hi _ (by omega)]; exact g3 q hq
  · rw [hi _ (by omega)]; exact g4 q hq
  · rw [hi _ (by omega), hi _ (by omega)]; exact g5 q hq
  · rw [hi _ (by omega)]; exact g6 q hq
section GK
variable {G : Nat → Int32} {n m p k ru n2 m2 p2 k2 : Nat}
theorem updN {G : Nat → Int32} {c d : Nat} {v : Int32} (h : ¬ c = d) : upd G d v c = G c := by unfold upd; rw [if_neg h]
theorem updE {G : Nat → Int32} {d : Nat} {v : Int32} : upd G d v d = v := by unfold upd; rw [if_pos rfl]
theorem gk_world (f : Int32) (h : GOk G n m p k ru) (hC : CO (worldG G f) n2 m2 p2 k2) : GOk (worldG G f) n2 m2 p2 k2 ru := by
  have h6 := h.1.2.1
  unfold worldG at hC ⊢
  split at hC
  · rename_i z
    rw [if_pos z]
    exact h.pots hC (fun c hc => updN (by omega)) (updN (by omega)) (fun i hi => updN (by omega)) (fun i hi => by rw [updN (by omega)]; exact h.2.1 i hi)
  · rename_i z
    rw [if_neg z]; exact h.same hC rfl
theorem gk_sugar (pp x : Int32) (h : GOk G n m p k ru) (hC : CO (sugarG G pp x) n2 m2 p2 k2) : GOk (sugarG G pp x) n2 m2 p2 k2 ru := by
  have h6 := h.1.2.1
  unfold sugarG at hC ⊢
  split at hC
  · rename_i z
    rw [if_pos z]
    obtain ⟨z1, z2⟩ := z
    rw [h.1.1] at z1
    obtain ⟨j, hj, rfl⟩ := pOk_nat (by omega) z1
    obtain ⟨u, hu, rfl⟩ := rng_nat (m := 9) (by omega) z2
    rw [cN_nI (by omega)] at hC ⊢
    refine h.pots hC (fun c hc => updN (by omega)) (updN (by omega)) (fun i hi => updN (by omega)) (fun i hi => ?_)
    by_cases e : i = j
    · subst e; exact ⟨u, hu, updE⟩
    · rw [updN (by omega)]; exact h.2.1 i hi
  · rename_i z
    rw [if_neg z]; exact h.same hC rfl
theorem gk_row (pp t x : Int32) (h : GOk G n m p k ru) (hC : CO (rowG G pp t x) n2 m2 p2 k2) : GOk (rowG G pp t x) n2 m2 p2 k2 ru := by
  have h6 := h.1.2.1
  unfold rowG at hC ⊢
  split at hC
  · rename_i z
    rw [if_pos z]
    obtain ⟨⟨z1, z2⟩, -⟩ := z
    rw [h.1.1] at z1
    obtain ⟨j, hj, rfl⟩ := pOk_nat (by omega) z1
    obtain ⟨u, hu, rfl⟩ := rng_nat (m := 3) (by omega) z2
    rw [cN_nI (by omega), cN_nI (by omega)] at hC ⊢
    exact h.pots hC (fun c hc => updN (by omega)) (updN (by omega)) (fun i hi => updN (by omega)) (fun i hi => by rw [updN (by omega)]; exact h.2.1 i hi)
  · rename_i z
    rw [if_neg z]; exact h.same hC rfl
theorem mx_sok {u : Nat} (hu : u ≤ 9) : ∃ t, t ≤ 9 ∧ mxI 0 (nI u - 1) = nI t := by
  match u, hu with
  | 0, _ => exact ⟨0, by omega, by decide⟩
  | 1, _ => exact ⟨0, by omega, by decide⟩
  | 2, _ => exact ⟨1, by omega, by decide⟩
  | 3, _ => exact ⟨2, by omega, by decide⟩
  | 4, _ => exact ⟨3, by omega, by decide⟩
  | 5, _ => exact ⟨4, by omega, by decide⟩
  | 6, _ => exact ⟨5, by omega, by decide⟩
  | 7, _ => exact ⟨6, by omega, by decide⟩
  | 8, _ => exact ⟨7, by omega, by decide⟩
  | 9, _ => exact ⟨8, by omega, by decide⟩
theorem gk_spoon (pp f : Int32) (h : GOk G n m p k ru) (hC : CO (spoonG G pp f) n2 m2 p2 k2) : GOk (spoonG G pp f) n2 m2 p2 k2 ru := by
  have h6 := h.1.2.1
  unfold spoonG at hC ⊢
  split at hC
  · rename_i z
    rw [if_pos z]
    obtain ⟨z1, -⟩ := z
    rw [h.1.1] at z1
    obtain ⟨j, hj, rfl⟩ := pOk_nat (by omega) z1
    rw [cN_nI (by omega)] at hC ⊢
    refine h.pots hC (fun c hc => opG_hi (by omega) (by omega)) (opG_hi (by omega) (by omega)) (fun i hi => ?_) (fun i hi => ?_)
    · unfold opG; rw [updN (by omega), updN (by omega)]
    · obtain ⟨u, hu, eu⟩ := h.2.1 i hi
      unfold opG
      by_cases e : i = j
      · subst e
        rw [updE, eu]; exact mx_sok hu
      · rw [updN (by omega), updN (by omega)]; exact ⟨u, hu, eu⟩
  · rename_i z
    rw [if_neg z]; exact h.same hC rfl
theorem tkPs_0 (kp : Int32) (a : Nat → Int32) : ∀ j, tkPs kp a j 0 = a 0 := by
  intro j
  induction j with
  | zero => rfl
  | succ j ih =>
    show tkP kp (tkPs kp a j) 0 = a 0
    unfold tkP
    rw [updN (by omega), updN (by omega)]; exact ih
theorem gk_pass (kp x : Int32) (h : GOk G n m p k ru) (hC : CO (passG kp n G x) n2 m2 p2 k2) : GOk (passG kp n G x) n2 m2 p2 k2 ru := by
  have h6 := h.1.2.1
  unfold passG at hC ⊢
  split at hC
  · rename_i z
    rw [if_pos z]
    exact h.pots hC (fun c hc => tkGs_hi h6 (by omega) (by omega) _) (tkGs_hi h6 (by omega) (by omega) _) (fun i hi => by have := tkGs_in (kp := kp) (G := G) h6 hi (cN x) 0 (by omega); rw [Nat.add_zero] at this; rw [this, tkPs_0]; rfl) (tkGs_sok h6 h.2.1 _)
  · rename_i z
    rw [if_neg z]; exact h.same hC rfl
theorem iFz {G : Nat → Int32} {n c : Nat} (hc : ¬ (9 * n ≤ c ∧ c < 9 * n + 9)) : ∀ q, q ≤ 9 → iF (fun k g => upd g (9 * n + k) 0) G q c = G c := by
  intro q
  induction q with
  | zero => intro _; rfl
  | succ q ih => intro hq; rw [iF_succ, updN (by omega)]; exact ih (by omega)
theorem gk_pot (kd v sg : Int32) (h : GOk G n m p k ru) (hC : CO (potG G kd v sg) n2 m2 p2 k2) : GOk (potG G kd v sg) n2 m2 p2 k2 ru := by
  have h6 := h.1.2.1
  unfold potG at hC ⊢
  split at hC
  · rename_i z
    rw [if_pos z]
    obtain ⟨z1, ⟨z2, z3⟩, z4⟩ := z
    have hn5 : n < 6 := by
      have : ¬ n = 6 := fun e => z4 (by rw [h.1.1, e]; rfl)
      omega
    obtain ⟨kk, hkk, rfl⟩ := rng_nat (m := 6) (by omega) z1
    obtain ⟨u, hu, rfl⟩ := rng_nat (m := 9) (by omega) z3
    rw [h.1.1, cN_nI (by omega)] at hC ⊢
    have hi : ∀ c, ¬ (9 * n ≤ c ∧ c < 9 * n + 9) → ¬ c = 54 → potG1 G n (nI kk) v (nI u) c = G c := by
      intro c h1 h2
      unfold potG1
      rw [updN h2, updN (by omega), updN (by omega), updN (by omega), iFz h1 9 (by omega)]
    have e54 : potG1 G n (nI kk) v (nI u) 54 = nI (n + 1) := updE
    obtain ⟨c0, g1, g2, g3, g4, g5, g6, r, r1, r2⟩ := h
    have hC0 : CO (potG1 G n (nI kk) v (nI u)) (n + 1) m p k := ⟨e54, by omega, by rw [hi 58 (by omega) (by omega)]; exact c0.2.2.1, c0.2.2.2.1, by rw [hi 77 (by omega) (by omega)]; exact c0.2.2.2.2.1, c0.2.2.2.2.2.1, by rw [hi 98 (by omega) (by omega)]; exact c0.2.2.2.2.2.2.1, c0.2.2.2.2.2.2.2⟩
    obtain ⟨rfl, rfl, rfl, rfl⟩ := hC0.eq hC
    refine ⟨hC, fun i hi2 => ?_, fun i hi2 => ?_, fun q hq => ?_, fun q hq => ?_, fun q hq => ?_, fun q hq => ?_, r, r1, by rw [hi 57 (by omega) (by omega)]; exact r2⟩
    · by_cases e : i = n
      · subst e
        refine ⟨u, hu, ?_⟩
        unfold potG1
        rw [updN (by omega), updE]
      · rw [hi _ (by omega) (by omega)]; exact g1 i (by omega)
    · by_cases e : i = n
      · subst e
        refine ⟨kk, by omega, ?_⟩
        unfold potG1
        rw [updN (by omega), updN (by omega), updN (by omega), updE]
      · rw [hi _ (by omega) (by omega)]; exact g2 i (by omega)
    · have := c0.2.2.2.1
      rw [hi _ (by omega) (by omega), hi _ (by omega) (by omega)]
      obtain ⟨⟨a, ha, ea⟩, b⟩ := g3 q hq
      exact ⟨⟨a, by omega, ea⟩, b⟩
    · rw [hi _ (by omega) (by omega)]; exact g4 q hq
    · rw [hi _ (by omega) (by omega), hi _ (by omega) (by omega)]
      rcases g5 q hq with e | ⟨e, a, f, ha, hf, ea⟩ | ⟨e, a, ha, ea⟩ | e
      · exact Or.inl e
      · exact Or.inr (Or.inl ⟨e, a, f, by omega, hf, ea⟩)
      · exact Or.inr (Or.inr (Or.inl ⟨e, a, by omega, ea⟩))
      · exact Or.inr (Or.inr (Or.inr e))
    · rw [hi _ (by omega) (by omega)]
      obtain ⟨a, ha, ea⟩ := g6 q hq
      exact ⟨a, by omega, ea⟩
  · rename_i z
    rw [if_neg z]; exact h.same hC rfl
theorem gk_hear (pp f s : Int32) (h : GOk G n m p k ru) (hC : CO (hearG G pp f s) n2 m2 p2 k2) : GOk (hearG G pp f s) n2 m2 p2 k2 ru := by
  have h6 := h.1.2.1
  obtain ⟨c0, g1, g2, g3, g4, g5, g6, r, r1, r2⟩ := id h
  have hm6 := c0.2.2.2.1
  unfold hearG at hC ⊢
  split at hC
  · rename_i z
    rw [if_pos z]
    have hC0 : CO (upd G 58 0) n 0 p k := ⟨by rw [updN (by omega)]; exact c0.1, h6, updE, by omega, by rw [updN (by omega)]; exact c0.2.2.2.2.1, c0.2.2.2.2.2.1, by rw [updN (by omega)]; exact c0.2.2.2.2.2.2.1, c0.2.2.2.2.2.2.2⟩
    obtain ⟨rfl, rfl, rfl, rfl⟩ := hC0.eq hC
    refine ⟨hC, fun i hi => by rw [updN (by omega)]; exact g1 i hi, fun i hi => by rw [updN (by omega)]; exact g2 i hi, fun q hq => by omega, fun q hq => by omega, fun q hq => by rw [updN (by omega), updN (by omega)]; exact g5 q hq, fun q hq => by rw [updN (by omega)]; exact g6 q hq, r, r1, by rw [updN (by omega)]; exact r2⟩
  · rename_i z
    rw [if_neg z]
    split at hC
    · rename_i z2
      rw [if_pos z2]
      obtain ⟨⟨q1, q2⟩, q3, q4⟩ := z2
      rw [c0.1] at q1
      obtain ⟨j, hj, rfl⟩ := pOk_nat (by omega) q1
      obtain ⟨u, hu, rfl⟩ := rng_nat (m := 7) (by omega) q2
      have hm5 : m < 6 := by
        have : ¬ m = 6 := fun e => q4 (by rw [c0.2.2.1, e]; rfl)
        omega
      rw [c0.2.2.1, cN_nI (by omega)] at hC ⊢
      have hi : ∀ c, ¬ (59 + 3 * m ≤ c ∧ c ≤ 61 + 3 * m) → ¬ c = 58 → hearG1 G m (nI j) (nI u) s c = G c := by
        intro c h1 h2
        unfold hearG1
        rw [updN h2, updN (by omega), updN (by omega), updN (by omega)]
      have e0 : hearG1 G m (nI j) (nI u) s (59 + 3 * m) = nI j := by unfold hearG1; rw [updN (by omega), updN (by omega), updN (by omega), updE]
      have e1 : hearG1 G m (nI j) (nI u) s (59 + 3 * m + 1) = nI u := by unfold hearG1; rw [updN (by omega), updN (by omega), updE]
      have e2 : hearG1 G m (nI j) (nI u) s (59 + 3 * m + 2) = s := by unfold hearG1; rw [updN (by omega), updE]
      have hC0 : CO (hearG1 G m (nI j) (nI u) s) n (m + 1) p k := ⟨by rw [hi 54 (by omega) (by omega)]; exact c0.1, h6, updE, by omega, by rw [hi 77 (by omega) (by omega)]; exact c0.2.2.2.2.1, c0.2.2.2.2.2.1, by rw [hi 98 (by omega) (by omega)]; exact c0.2.2.2.2.2.2.1, c0.2.2.2.2.2.2.2⟩
      obtain ⟨rfl, rfl, rfl, rfl⟩ := hC0.eq hC
      refine ⟨hC, fun i hi2 => by rw [hi _ (by omega) (by omega)]; exact g1 i hi2, fun i hi2 => by rw [hi _ (by omega) (by omega)]; exact g2 i hi2, fun q hq => ?_, fun q hq => ?_, fun q hq => by have := c0.2.2.2.2.2.1; rw [hi _ (by omega) (by omega), hi _ (by omega) (by omega)]; exact g5 q hq, fun q hq => by rw [hi _ (by omega) (by omega)]; exact g6 q hq, r, r1, by rw [hi 57 (by omega) (by omega)]; exact r2⟩
      · by_cases e : q = m
        · subst e; rw [e0, e1]; exact ⟨⟨j, hj, rfl⟩, u, by omega, rfl⟩
        · rw [hi _ (by omega) (by omega), hi _ (by omega) (by omega)]; exact g3 q (by omega)
      · by_cases e : q = m
        · subst e; rw [e2]
          have b1 := Int32.le_iff_toInt_le.mp q3.1
          have b2 := Int32.le_iff_toInt_le.mp q3.2
          rw [show (-1 : Int32).toInt = -1 from rfl] at b1
          rw [show (1 : Int32).toInt = 1 from rfl] at b2
          rcases (show s.toInt = -1 ∨ s.toInt = 0 ∨ s.toInt = 1 by omega) with y | y | y
          · exact Or.inl (Int32.toInt_inj.mp (by rw [y]; rfl))
          · exact Or.inr (Or.inl (Int32.toInt_inj.mp (by rw [y]; rfl)))
          · exact Or.inr (Or.inr (Int32.toInt_inj.mp (by rw [y]; rfl)))
        · rw [hi _ (by omega) (by omega)]; exact g4 q (by omega)
    · rename_i z2
      rw [if_neg z2]; exact h.same hC rfl
theorem gk_book (pp s : Int32) (h : GOk G n m p k ru) (hC : CO (bookG G pp s) n2 m2 p2 k2) : GOk (bookG G pp s) n2 m2 p2 k2 ru := by
  have h6 := h.1.2.1
  obtain ⟨c0, g1, g2, g3, g4, g5, g6, r, r1, r2⟩ := id h
  have hm6 := c0.2.2.2.1
  have hp10 := c0.2.2.2.2.2.1
  have hk8 := c0.2.2.2.2.2.2.2
  unfold bookG at hC ⊢
  split at hC
  · rename_i z
    rw [if_pos z]
    have hC0 : CO (upd G 98 0) n m p 0 := ⟨by rw [updN (by omega)]; exact c0.1, h6, by rw [updN (by omega)]; exact c0.2.2.1, hm6, by rw [updN (by omega)]; exact c0.2.2.2.2.1, hp10, updE, by omega⟩
    obtain ⟨rfl, rfl, rfl, rfl⟩ := hC0.eq hC
    refine ⟨hC, fun i hi => by rw [updN (by omega)]; exact g1 i hi, fun i hi => by rw [updN (by omega)]; exact g2 i hi, fun q hq => by rw [updN (by omega), updN (by omega)]; exact g3 q hq, fun q hq => by rw [updN (by omega)]; exact g4 q hq, fun q hq => by rw [updN (by omega), updN (by omega)]; exact g5 q hq, fun q hq => by omega, r, r1, by rw [updN (by omega)]; exact r2⟩
  · rename_i z
    rw [if_neg z]
    split at hC
    · rename_i z2
      rw [if_pos z2]
      obtain ⟨q1, q3, q4⟩ := z2
      rw [c0.1] at q1
      obtain ⟨j, hj, rfl⟩ := pOk_nat (by omega) q1
      have hk7 : k < 8 := by
        have : ¬ k = 8 := fun e => q4 (by rw [c0.2.2.2.2.2.2.1, e]; rfl)
        omega
      rw [c0.2.2.2.2.2.2.1, cN_nI (by omega)] at hC ⊢
      have hi : ∀ c, ¬ (99 + 2 * k ≤ c ∧ c ≤ 100 + 2 * k) → ¬ c = 98 → bookG1 G k (nI j) s c = G c := by
        intro c h1 h2
        unfold bookG1
        rw [updN h2, updN (by omega), updN (by omega)]
      have e0 : bookG1 G k (nI j) s (99 + 2 * k) = nI j := by unfold bookG1; rw [updN (by omega), updN (by omega), updE]
      have hC0 : CO (bookG1 G k (nI j) s) n m p (k + 1) := ⟨by rw [hi 54 (by omega) (by omega)]; exact c0.1, h6, by rw [hi 58 (by omega) (by omega)]; exact c0.2.2.1, hm6, by rw [hi 77 (by omega) (by omega)]; exact c0.2.2.2.2.1, hp10, updE, by omega⟩
      obtain ⟨rfl, rfl, rfl, rfl⟩ := hC0.eq hC
      refine ⟨hC, fun i hi2 => by rw [hi _ (by omega) (by omega)]; exact g1 i hi2, fun i hi2 => by rw [hi _ (by omega) (by omega)]; exact g2 i hi2, fun q hq => by rw [hi _ (by omega) (by omega), hi _ (by omega) (by omega)]; exact g3 q hq, fun q hq => by rw [hi _ (by omega) (by omega)]; exact g4 q hq, fun q hq => by rw [hi _ (by omega) (by omega), hi _ (by omega) (by omega)]; exact g5 q hq, fun q hq => ?_, r, r1, by rw [hi 57 (by omega) (by omega)]; exact r2⟩
      by_cases e : q = k
      · subst e; rw [e0]; exact ⟨j, hj, rfl⟩
      · rw [hi _ (by omega) (by omega)]; exact g6 q (by omega)
    · rename_i z2
      rw [if_neg z2]; exact h.same hC rfl
theorem gk_plan (w x : Int32) (h : GOk G n m p k ru) (hC : CO (planG G w x) n2 m2 p2 k2) : GOk (planG G w x) n2 m2 p2 k2 ru := by
  have h6 := h.1.2.1
  obtain ⟨c0, g1, g2, g3, g4, g5, g6, r, r1, r2⟩ := id h
  have hm6 := c0.2.2.2.1
  have hp10 := c0.2.2.2.2.2.1
  have hk8 := c0.2.2.2.2.2.2.2
  unfold planG at hC ⊢
  split at hC
  · rename_i z
    rw [if_pos z]
    have hC0 : CO (upd G 77 0) n m 0 k := ⟨by rw [updN (by omega)]; exact c0.1, h6, by rw [updN (by omega)]; exact c0.2.2.1, hm6, updE, by omega, by rw [updN (by omega)]; exact c0.2.2.2.2.2.2.1, hk8⟩
    obtain ⟨rfl, rfl, rfl, rfl⟩ := hC0.eq hC
    refine ⟨hC, fun i hi => by rw [updN (by omega)]; exact g1 i hi, fun i hi => by rw [updN (by omega)]; exact g2 i hi, fun q hq => by rw [updN (by omega), updN (by omega)]; exact g3 q hq, fun q hq => by rw [updN (by omega)]; exact g4 q hq, fun q hq => by omega, fun q hq => by rw [updN (by omega)]; exact g6 q hq, r, r1, by rw [updN (by omega)]; exact r2⟩
  · rename_i z
    rw [if_neg z]
    split at hC
    · rename_i z2
      rw [if_pos z2]
      obtain ⟨q1, q4⟩ := z2
      have hp9 : p < 10 := by
        have : ¬ p = 10 := fun e => q4 (by rw [c0.2.2.2.2.1, e]; rfl)
        omega
      rw [c0.2.2.2.2.1, cN_nI (by omega)] at hC ⊢
      have hi : ∀ c, ¬ (78 + 2 * p ≤ c ∧ c ≤ 79 + 2 * p) → ¬ c = 77 → planG1 G p w x c = G c := by
        intro c h1 h2
        unfold planG1
        rw [updN h2, updN (by omega), updN (by omega)]
      have e0 : planG1 G p w x (78 + 2 * p) = w := by unfold planG1; rw [updN (by omega), updN (by omega), updE]
      have e1 : planG1 G p w x (79 + 2 * p) = x := by unfold planG1; rw [updN (by omega), updE]
      have hC0 : CO (planG1 G p w x) n m (p + 1) k := ⟨by rw [hi 54 (by omega) (by omega)]; exact c0.1, h6, by rw [hi 58 (by omega) (by omega)]; exact c0.2.2.1, hm6, updE, by omega, by rw [hi 98 (by omega) (by omega)]; exact c0.2.2.2.2.2.2.1, hk8⟩
      obtain ⟨rfl, rfl, rfl, rfl⟩ := hC0.eq hC
      refine ⟨hC, fun i hi2 => by rw [hi _ (by omega) (by omega)]; exact g1 i hi2, fun i hi2 => by rw [hi _ (by omega) (by omega)]; exact g2 i hi2, fun q hq => by rw [hi _ (by omega) (by omega), hi _ (by omega) (by omega)]; exact g3 q hq, fun q hq => by rw [hi _ (by omega) (by omega)]; exact g4 q hq, fun q hq => ?_, fun q hq => by rw [hi _ (by omega) (by omega)]; exact g6 q hq, r, r1, by rw [hi 57 (by omega) (by omega)]; exact r2⟩
      by_cases e : q = p
      · subst e
        rw [e0, e1]
        rcases q1 with y | ⟨y, y0, y1, y2⟩ | ⟨y, y1⟩ | ⟨y, y1⟩
        · exact Or.inl y
        · rw [c0.1] at y1
          obtain ⟨v, hv, rfl⟩ := nI_of (x := x) (fun z => Int32.not_le.mpr z y0)
          rw [show (10 : Int32) = nI 10 from rfl, pk_div (by omega) (by omega) (by omega)] at y1 y2
          obtain ⟨j, hj, ej⟩ := pOk_nat (by omega) y1
          have ej := nEq (by omega) (by omega) ej
          rw [pk_mul, pk_sub (by omega)] at y2
          obtain ⟨u, hu, eu⟩ := rng_nat (m := 7) (by omega) y2
          have eu := nEq (by omega) (by omega) eu
          exact Or.inr (Or.inl ⟨y, j, u, hj, by omega, by congr 1; omega⟩)
        · rw [c0.1] at y1
          obtain ⟨j, hj, rfl⟩ := pOk_nat (by omega) y1
          exact Or.inr (Or.inr (Or.inl ⟨y, j, hj, rfl⟩))
        · obtain ⟨u, hu, rfl⟩ := rng_nat (m := 7) (by omega) y1
          exact Or.inr (Or.inr (Or.inr ⟨y, u, by omega, rfl⟩))
      · rw [hi _ (by omega) (by omega), hi _ (by omega) (by omega)]; exact g5 q (by omega)
    · rename_i z2
      rw [if_neg z2]; exact h.same hC rfl
end GK
