/-! one call of the law: both answer alike, and the invariant stays -/
def StI (k8 k9 : xMD) (vs : List Value) : Prop := ∀ σ, INV σ → xM k8 26 (.ref 0 :: vs) σ (fun r τ => ∃ x : Int32, r = some (.int x) ∧ xM k9 26 (.ref 115 :: vs) τ (fun r2 υ => r2 = some (.int x) ∧ INV υ))
def StL (k8 k9 : xMD) (vs : List Value) : Prop := ∀ σ, INV σ → xM k8 26 (.ref 0 :: vs) σ (fun r τ => ∃ x : Int64, r = some (.long x) ∧ xM k9 26 (.ref 115 :: vs) τ (fun r2 υ => r2 = some (.long x) ∧ INV υ))
theorem jkM {σ τ : xSt} (hk : JK σ τ) : τ.2.1 116 = σ.2.1 116 ∧ mSem τ = mSem σ ∧ (MCo σ → MCo τ) ∧ (RUo σ → RUo τ) := by
  have e : ∀ c, 115 ≤ c → τ.2.1 c = σ.2.1 c := fun c hc => hk.a (by unfold JSc; omega)
  refine ⟨e 116 (by omega), ?_, ?_, ?_⟩
  · unfold mSem rdT; rw [e 116 (by omega), e 120 (by omega), e 121 (by omega)]
  · unfold MCo; rw [e 124 (by omega), e 125 (by omega), e 126 (by omega), e 131 (by omega), e 132 (by omega)]; exact id
  · unfold RUo; rw [e 116 (by omega), e 121 (by omega)]; exact id
theorem unM {σ τ : xSt} (hk : Un (sC 1) σ τ) : τ.2.1 116 = σ.2.1 116 ∧ mSem τ = mSem σ ∧ (MCo σ → MCo τ) ∧ (RUo σ → RUo τ) := by
  have e : ∀ c, 115 ≤ c → τ.2.1 c = σ.2.1 c := fun c hc => hk.a (by unfold sC; omega)
  refine ⟨e 116 (by omega), ?_, ?_, ?_⟩
  · unfold mSem rdT; rw [e 116 (by omega), e 120 (by omega), e 121 (by omega)]
  · unfold MCo; rw [e 124 (by omega), e 125 (by omega), e 126 (by omega), e 131 (by omega), e 132 (by omega)]; exact id
  · unfold RUo; rw [e 116 (by omega), e 121 (by omega)]; exact id
theorem INV.setG {σ τ : xSt} {ru t a : Nat} (hi : INVi σ ru) (hm : INVm σ) (hr : INVr σ ru) (ht : INVt σ t) (hc : INVc σ ru) (hb : INVb σ) (ha : INVa σ a) (hp : INVp σ) (hu : Un (sC 1) σ τ) {G2 : Nat → Int32} {n m p k : Nat} (hJ : RepJ τ 1 G2 n m p k) (hG : GOk G2 n m p k ru) : INV (xsA τ 116 G2) := by
  have C : Ch (fun c => sC 1 c ∨ c = 116) σ (xsA τ 116 G2) := (Ch.ofUn hu).tr Ch.A
  refine ⟨n, m, p, k, ru, t, a, ⟨?_, ?_⟩, hi.ch C (fun c q z => by unfold sC at z; omega), hm.ch C (fun c q z => by unfold sC at z; omega), hr.ch C (fun c q z => by unfold sC at z; omega), ht.ch C (fun c q z => by unfold sC at z; omega), hc.ch hr.1 C (fun c q z => by unfold sC at z; omega), hb.ch C (fun z => by unfold sC at z; omega), ha.ch C (fun c q z => by unfold sC at z; omega), hp.ch C (fun c q z => by unfold sC at z; omega)⟩
  · rw [xsA_get]; exact hJ.un hG.1.2.1 (Un.A (P := fun b => b = 116) rfl) (fun c hs => by unfold sC at hs; omega)
  · rw [xsA_get]; exact hG
theorem H3i.o {G : Nat → Int32} {m : Nat} (h : H3i G m) : H3o G m := fun r hr z => by
  rcases h r hr with e | e | e <;> rw [e] at z <;> exact absurd z (by decide)
theorem GOk.sum {G : Nat → Int32} {n m p k ru : Nat} (h : GOk G n m p k ru) (kp : Int32) : ∀ j, j ≤ 60 → ∃ x, x ≤ 54 ∧ iS (fun i => tkGs kp n G j (9 * i + 2)) n = nI x := by
  intro j _
  have h6 := h.1.2.1
  have hs := tkGs_sok (kp := kp) h6 h.2.1 j
  have key : ∀ q, q ≤ n → ∃ x, x ≤ 9 * q ∧ iS (fun i => tkGs kp n G j (9 * i + 2)) q = nI x := by
    intro q
    induction q with
    | zero => intro _; exact ⟨0, by omega, rfl⟩
    | succ q ih =>
      intro hq
      obtain ⟨x, hx, ex⟩ := ih (by omega)
      obtain ⟨s, hs1, es⟩ := hs q (by omega)
      refine ⟨x + s, by omega, ?_⟩
      show iS (fun i => tkGs kp n G j (9 * i + 2)) q + tkGs kp n G j (9 * q + 2) = _
      rw [ex, es, nI_add]
  obtain ⟨x, hx, ex⟩ := key n (Nat.le_refl _)
  exact ⟨x, by omega, ex⟩

theorem st_of (pp w : Int32) : StI kX8_of kX9_of [.int pp, .int w] := by
  intro σ h
  obtain ⟨n, m, p, k, ru, t, a, hj, hi, hm, hr, ht, hc, hb, ha, hp⟩ := id h
  obtain ⟨c0, g1, g2, g3, g4, g5, g6, g7⟩ := id hj.2
  have h6 := c0.2.1
  have hS := hj.sem hr hc hb
  have hR := hj.ru hm hr.1
  refine sX8_of (by omega) (σ.2.1 116) (mSem σ) pp w hj.1 c0 hS g1 (g3.o h6) g4.o (fun τ hk => ⟨_, rfl, ?_⟩)
  obtain ⟨eG, eS, fM, fR⟩ := jkM hk
  refine sX9_of (by omega) n (by rw [eG]; exact c0.1) h6 pp w (fM hm.1) (fR hR) m (by rw [eG]; exact c0.2.2.1) c0.2.2.2.1 (by rw [eG]; exact g3.o h6) (fun υ hk2 => ⟨?_, (h.jk hk).km hk2⟩)
  rw [eG, eS]

theorem st_told (w : Int32) : StI kX8_told kX9_told [.int w] := by
  intro σ h
  obtain ⟨n, m, p, k, ru, t, a, hj, hi, hm, hr, ht, hc, hb, ha, hp⟩ := id h
  obtain ⟨c0, g1, g2, g3, g4, g5, g6, g7⟩ := id hj.2
  have h6 := c0.2.1
  have hS := hj.sem hr hc hb
  have hR := hj.ru hm hr.1
  refine sX8_told (by omega) (σ.2.1 116) (mSem σ) w hj.1 c0 hS g3 (fun τ hk => ⟨_, rfl, ?_⟩)
  obtain ⟨eG, eS, fM, fR⟩ := jkM hk
  refine sX9_told (by omega) n (by rw [eG]; exact c0.1) h6 w (fM hm.1) (fR hR) m (by rw [eG]; exact c0.2.2.1) c0.2.2.2.1 (by rw [eG]; exact g3.o h6) (fun υ hk2 => ⟨?_, (h.jk hk).km hk2⟩)
  rw [eG, eS, told_eq _ _ _ _ _ (g3.o h6) g4]

theorem st_on (x w : Int32) : StI kX8_on kX9_on [.int x, .int w] := by
  intro σ h
  obtain ⟨n, m, p, k, ru, t, a, hj, hi, hm, hr, ht, hc, hb, ha, hp⟩ := id h
  obtain ⟨c0, g1, g2, g3, g4, g5, g6, g7⟩ := id hj.2
  have h6 := c0.2.1
  have hS := hj.sem hr hc hb
  have hR := hj.ru hm hr.1
  refine sX8_on (by omega) (σ.2.1 116) (mSem σ) x w hj.1 c0 hS g1 (fun τ hk => ⟨_, rfl, ?_⟩)
  obtain ⟨eG, eS, fM, fR⟩ := jkM hk
  refine sX9_on (by omega) n (by rw [eG]; exact c0.1) h6 x w (fM hm.1) (fR hR) (fun υ hk2 => ⟨?_, (h.jk hk).km hk2⟩)
  rw [eG, eS]

theorem st_cases (F w : Int32) : StI kX8_cases kX9_cases [.int F, .int w] := by
  intro σ h
  obtain ⟨n, m, p, k, ru, t, a, hj, hi, hm, hr, ht, hc, hb, ha, hp⟩ := id h
  obtain ⟨c0, g1, g2, g3, g4, g5, g6, g7⟩ := id hj.2
  have h6 := c0.2.1
  have hS := hj.sem hr hc hb
  have hR := hj.ru hm hr.1
  refine sX8_cases (by omega) (σ.2.1 116) (mSem σ) F w hj.1 c0 hS (fun τ hk => ⟨_, rfl, ?_⟩)
  obtain ⟨eG, eS, fM, fR⟩ := jkM hk
  refine sX9_cases (by omega) n (by rw [eG]; exact c0.1) h6 F w (fM hm.1) (fR hR) (fun υ hk2 => ⟨?_, (h.jk hk).km hk2⟩)
  rw [eG, eS, cas_eq _ _ h6]

theorem st_can (pp w : Int32) : StI kX8_can kX9_can [.int pp, .int w] := by
  intro σ h
  obtain ⟨n, m, p, k, ru, t, a, hj, hi, hm, hr, ht, hc, hb, ha, hp⟩ := id h
  obtain ⟨c0, g1, g2, g3, g4, g5, g6, g7⟩ := id hj.2
  have h6 := c0.2.1
  have hS := hj.sem hr hc hb
  have hR := hj.ru hm hr.1
  refine sX8_can (by omega) (σ.2.1 116) (mSem σ) pp w hj.1 c0 hS (g3.o h6) g4.o (fun τ hk => ⟨_, rfl, ?_⟩)
  obtain ⟨eG, eS, fM, fR⟩ := jkM hk
  refine sX9_can (by omega) n (by rw [eG]; exact c0.1) h6 pp w (fM hm.1) (fR hR) m (by rw [eG]; exact c0.2.2.1) c0.2.2.2.1 (by rw [eG]; exact g3.o h6) (fun υ hk2 => ⟨?_, (h.jk hk).km hk2⟩)
  rw [eG, eS]

theorem st_odds (f pt : Int32) : StL kX8_odds kX9_odds [.int f, .int pt] := by
  intro σ h
  obtain ⟨n, m, p, k, ru, t, a, hj, hi, hm, hr, ht, hc, hb, ha, hp⟩ := id h
  obtain ⟨c0, g1, g2, g3, g4, g5, g6, g7⟩ := id hj.2
  have h6 := c0.2.1
  have hS := hj.sem hr hc hb
  have hR := hj.ru hm hr.1
  refine sX8_odds (by omega) (σ.2.1 116) (mSem σ) f pt hj.1 c0 hS g3 (fun τ hk => ⟨_, rfl, ?_⟩)
  obtain ⟨eG, eS, fM, fR⟩ := jkM hk
  refine sX9_odds (by omega) f pt (fM hm.1) (fR hR) m (by rw [eG]; exact c0.2.2.1) c0.2.2.2.1 (by rw [eG]; exact g3.o h6) (fun υ hk2 => ⟨?_, (h.jk hk).km hk2⟩)
  rw [eG, eS, odd_eq (FIv.all (mSem σ) (σ.2.1 116) m (g3.o h6) g4)]

theorem st_mean (x pt : Int32) : StL kX8_mean kX9_mean [.int x, .int pt] := by
  intro σ h
  obtain ⟨n, m, p, k, ru, t, a, hj, hi, hm, hr, ht, hc, hb, ha, hp⟩ := id h
  obtain ⟨c0, g1, g2, g3, g4, g5, g6, g7⟩ := id hj.2
  have h6 := c0.2.1
  have hS := hj.sem hr hc hb
  have hR := hj.ru hm hr.1
  refine sX8_mean (by omega) (σ.2.1 116) (mSem σ) x pt hj.1 c0 hS g1 (fun τ hk => ⟨_, rfl, ?_⟩)
  obtain ⟨eG, eS, fM, fR⟩ := jkM hk
  refine sX9_mean (by omega) n (by rw [eG]; exact c0.1) h6 x pt (fM hm.1) (fR hR) (by rw [eG]; exact hj.2.sum _) (fun υ hk2 => ⟨?_, (h.jk hk).km hk2⟩)
  rw [eG, eS]

theorem st_ends (w : Int32) : StI kX8_ends kX9_ends [.int w] := by
  intro σ h
  obtain ⟨n, m, p, k, ru, t, a, hj, hi, hm, hr, ht, hc, hb, ha, hp⟩ := id h
  obtain ⟨c0, g1, g2, g3, g4, g5, g6, g7⟩ := id hj.2
  have h6 := c0.2.1
  have hS := hj.sem hr hc hb
  have hR := hj.ru hm hr.1
  refine sX8_ends (by omega) (σ.2.1 116) (mSem σ) w hj.1 c0 hS g1 g5 (fun τ hk => ⟨_, rfl, ?_⟩)
  obtain ⟨eG, eS, fM, fR⟩ := jkM hk
  refine sX9_ends (by omega) n (by rw [eG]; exact c0.1) h6 p w (fM hm.1) (fR hR) (by rw [eG]; exact c0.2.2.2.2.1) c0.2.2.2.2.2.1 (by rw [eG]; exact g5) (fun υ hk2 => ⟨?_, (h.jk hk).km hk2⟩)
  rw [eG, eS]

theorem st_pot (kd v sg : Int32) : StI kX8_pot kX9_pot [.int kd, .int v, .int sg] := by
  intro σ h
  obtain ⟨n, m, p, k, ru, t, a, hj, hi, hm, hr, ht, hc, hb, ha, hp⟩ := id h
  obtain ⟨c0, g1, g2, g3, g4, g5, g6, g7⟩ := id hj.2
  have h6 := c0.2.1
  refine sX8_pot (by omega) (σ.2.1 116) kd v sg hj.1 c0 (fun τ n2 m2 p2 k2 hu hJ2 hC2 => ⟨_, rfl, ?_⟩)
  obtain ⟨eG, eS, fM, fR⟩ := unM hu
  refine sX9_pot (by omega) n kd v sg (by rw [eG]; exact c0.1) h6 ?_
  rw [eG]
  exact ⟨rfl, INV.setG hi hm hr ht hc hb ha hp hu hJ2 (gk_pot kd v sg hj.2 hC2)⟩

theorem st_world (f : Int32) : StI kX8_world kX9_world [.int f] := by
  intro σ h
  obtain ⟨n, m, p, k, ru, t, a, hj, hi, hm, hr, ht, hc, hb, ha, hp⟩ := id h
  obtain ⟨c0, g1, g2, g3, g4, g5, g6, g7⟩ := id hj.2
  have h6 := c0.2.1
  refine sX8_world (by omega) (σ.2.1 116) f hj.1 c0 (fun τ n2 m2 p2 k2 hu hJ2 hC2 => ⟨_, rfl, ?_⟩)
  obtain ⟨eG, eS, fM, fR⟩ := unM hu
  refine sX9_world (by omega) f ?_
  rw [eG]
  exact ⟨rfl, INV.setG hi hm hr ht hc hb ha hp hu hJ2 (gk_world f hj.2 hC2)⟩

theorem st_sugar (pp x : Int32) : StI kX8_sugar kX9_sugar [.int pp, .int x] := by
  intro σ h
  obtain ⟨n, m, p, k, ru, t, a, hj, hi, hm, hr, ht, hc, hb, ha, hp⟩ := id h
  obtain ⟨c0, g1, g2, g3, g4, g5, g6, g7⟩ := id hj.2
  have h6 := c0.2.1
  refine sX8_sugar (by omega) (σ.2.1 116) pp x hj.1 c0 (fun τ n2 m2 p2 k2 hu hJ2 hC2 => ⟨_, rfl, ?_⟩)
  obtain ⟨eG, eS, fM, fR⟩ := unM hu
  refine sX9_sugar (by omega) n pp x (by rw [eG]; exact c0.1) h6 ?_
  rw [eG]
  exact ⟨rfl, INV.setG hi hm hr ht hc hb ha hp hu hJ2 (gk_sugar pp x hj.2 hC2)⟩

theorem st_row (pp q x : Int32) : StI kX8_row kX9_row [.int pp, .int q, .int x] := by
  intro σ h
  obtain ⟨n, m, p, k, ru, t, a, hj, hi, hm, hr, ht, hc, hb, ha, hp⟩ := id h
  obtain ⟨c0, g1, g2, g3, g4, g5, g6, g7⟩ := id hj.2
  have h6 := c0.2.1
  refine sX8_row (by omega) (σ.2.1 116) pp q x hj.1 c0 (fun τ n2 m2 p2 k2 hu hJ2 hC2 => ⟨_, rfl, ?_⟩)
  obtain ⟨eG, eS, fM, fR⟩ := unM hu
  refine sX9_row (by omega) n pp q x (by rw [eG]; exact c0.1) h6 ?_
  rw [eG]
  exact ⟨rfl, INV.setG hi hm hr ht hc hb ha hp hu hJ2 (gk_row pp q x hj.2 hC2)⟩

theorem st_spoon (pp f : Int32) : StI kX8_spoon kX9_spoon [.int pp, .int f] := by
  intro σ h
  obtain ⟨n, m, p, k, ru, t, a, hj, hi, hm, hr, ht, hc, hb, ha, hp⟩ := id h
  obtain ⟨c0, g1, g2, g3, g4, g5, g6, g7⟩ := id hj.2
  have h6 := c0.2.1
  have hS := hj.sem hr hc hb
  have hR := hj.ru hm hr.1
  refine sX8_spoon (by omega) (σ.2.1 116) (mSem σ) pp f hj.1 c0 hS (fun τ n2 m2 p2 k2 hu hJ2 hC2 => ⟨_, rfl, ?_⟩)
  obtain ⟨eG, eS, fM, fR⟩ := unM hu
  refine sX9_spoon (by omega) n (by rw [eG]; exact c0.1) h6 pp f (fM hm.1) (fR hR) ?_
  intro υ hk
  rw [eG ] at hk
  rw [eG, eS]
  exact ⟨rfl, (INV.setG hi hm hr ht hc hb ha hp hu hJ2 (gk_spoon pp f hj.2 hC2)).km hk.two⟩

theorem st_pass (x : Int32) : StI kX8_pass kX9_pass [.int x] := by
  intro σ h
  obtain ⟨n, m, p, k, ru, t, a, hj, hi, hm, hr, ht, hc, hb, ha, hp⟩ := id h
  obtain ⟨c0, g1, g2, g3, g4, g5, g6, g7⟩ := id hj.2
  have h6 := c0.2.1
  have hS := hj.sem hr hc hb
  have hR := hj.ru hm hr.1
  refine sX8_pass (by omega) (σ.2.1 116) (mSem σ) x hj.1 c0 hS g1 (fun τ n2 m2 p2 k2 hu hJ2 hC2 => ⟨_, rfl, ?_⟩)
  obtain ⟨eG, eS, fM, fR⟩ := unM hu
  refine sX9_pass (by omega) n (by rw [eG]; exact c0.1) h6 x (fM hm.1) (fR hR) ?_
  intro υ hk
  rw [eG, kpM_eq, eS] at hk
  rw [eG]
  exact ⟨rfl, (INV.setG hi hm hr ht hc hb ha hp hu hJ2 (gk_pass (kpS (mSem σ)) x hj.2 hC2)).km hk.two⟩

theorem st_hear (pp f s : Int32) : StI kX8_hear kX9_hear [.int pp, .int f, .int s] := by
  intro σ h
  obtain ⟨n, m, p, k, ru, t, a, hj, hi, hm, hr, ht, hc, hb, ha, hp⟩ := id h
  obtain ⟨c0, g1, g2, g3, g4, g5, g6, g7⟩ := id hj.2
  have h6 := c0.2.1
  refine sX8_hear (by omega) (σ.2.1 116) pp f s hj.1 c0 (fun τ n2 m2 p2 k2 hu hJ2 hC2 => ⟨_, rfl, ?_⟩)
  obtain ⟨eG, eS, fM, fR⟩ := unM hu
  refine sX9_hear (by omega) n (by rw [eG]; exact c0.1) h6 m pp f s (by rw [eG]; exact c0.2.2.1) c0.2.2.2.1 ?_
  rw [eG]
  exact ⟨rfl, INV.setG hi hm hr ht hc hb ha hp hu hJ2 (gk_hear pp f s hj.2 hC2)⟩

theorem st_plan (w x : Int32) : StI kX8_plan kX9_plan [.int w, .int x] := by
  intro σ h
  obtain ⟨n, m, p, k, ru, t, a, hj, hi, hm, hr, ht, hc, hb, ha, hp⟩ := id h
  obtain ⟨c0, g1, g2, g3, g4, g5, g6, g7⟩ := id hj.2
  have h6 := c0.2.1
  refine sX8_plan (by omega) (σ.2.1 116) w x hj.1 c0 (fun τ n2 m2 p2 k2 hu hJ2 hC2 => ⟨_, rfl, ?_⟩)
  obtain ⟨eG, eS, fM, fR⟩ := unM hu
  refine sX9_plan (by omega) n (by rw [eG]; exact c0.1) h6 p w x (by rw [eG]; exact c0.2.2.2.2.1) c0.2.2.2.2.2.1 ?_
  rw [eG]
  exact ⟨rfl, INV.setG hi hm hr ht hc hb ha hp hu hJ2 (gk_plan w x hj.2 hC2)⟩

theorem st_book (pp s : Int32) : StI kX8_book kX9_book [.int pp, .int s] := by
  intro σ h
  obtain ⟨n, m, p, k, ru, t, a, hj, hi, hm, hr, ht, hc, hb, ha, hp⟩ := id h
  obtain ⟨c0, g1, g2, g3, g4, g5, g6, g7⟩ := id hj.2
  have h6 := c0.2.1
  refine sX8_book (by omega) (σ.2.1 116) pp s hj.1 c0 (fun τ n2 m2 p2 k2 hu hJ2 hC2 => ⟨_, rfl, ?_⟩)
  obtain ⟨eG, eS, fM, fR⟩ := unM hu
  refine sX9_book (by omega) n (by rw [eG]; exact c0.1) h6 k pp s (by rw [eG]; exact c0.2.2.2.2.2.2.1) c0.2.2.2.2.2.2.2 ?_
  rw [eG]
  exact ⟨rfl, INV.setG hi hm hr ht hc hb ha hp hu hJ2 (gk_book pp s hj.2 hC2)⟩

theorem st_looked  : StI kX8_looked kX9_looked [] := by
  intro σ h
  obtain ⟨n, m, p, k, ru, t, a, hj, hi, hm, hr, ht, hc, hb, ha, hp⟩ := id h
  obtain ⟨c0, g1, g2, g3, g4, g5, g6, g7⟩ := id hj.2
  have h6 := c0.2.1
  refine sX8_looked (by omega) (σ.2.1 116) hj.1 c0 g6 ⟨_, rfl, ?_⟩
  refine sX9_looked (by omega) k c0.2.2.2.2.2.2.1 c0.2.2.2.2.2.2.2 (fun r hr2 => by obtain ⟨q, hq, e⟩ := g6 r hr2; exact ⟨q, by omega, e⟩) ?_
  exact ⟨rfl, h⟩

theorem st_trace (i : Int32) : StI kX8_trace kX9_trace [.int i] := by
  intro σ h
  obtain ⟨n, m, p, k, ru, t, a, hj, hi, hm, hr, ht, hc, hb, ha, hp⟩ := id h
  obtain ⟨c0, g1, g2, g3, g4, g5, g6, g7⟩ := id hj.2
  have h6 := c0.2.1
  refine sX8_trace (by omega) a i ha.2.1 ha.1 ⟨_, rfl, ?_⟩
  refine sX9_trace (by omega) a i ha.2.2.1 ha.1 ?_
  exact ⟨by rw [ha.2.2.1, ha.2.2.2], h⟩

theorem st_taken (pp q : Int32) : StI kX8_taken kX9_taken [.int pp, .int q] := by
  intro σ h
  obtain ⟨n, m, p, k, ru, t, a, hj, hi, hm, hr, ht, hc, hb, ha, hp⟩ := id h
  obtain ⟨c0, g1, g2, g3, g4, g5, g6, g7⟩ := id hj.2
  have h6 := c0.2.1
  refine sX8_taken (by omega) (σ.2.1 116) pp q hj.1 c0 (fun i hi2 => by obtain ⟨j, h1, h2⟩ := g2 i hi2; exact ⟨j, by omega, h2⟩) ⟨_, rfl, ?_⟩
  refine sX9_taken (by omega) n c0.1 h6 pp q hm.1 (fun i hi2 => by obtain ⟨j, h1, h2⟩ := g2 i hi2; exact ⟨j, by omega, h2⟩) ?_
  exact ⟨rfl, h⟩

theorem st_count (w : Int32) : StI kX8_count kX9_count [.int w] := by
  intro σ h
  obtain ⟨n, m, p, k, ru, t, a, hj, hi, hm, hr, ht, hc, hb, ha, hp⟩ := id h
  obtain ⟨c0, g1, g2, g3, g4, g5, g6, g7⟩ := id hj.2
  have h6 := c0.2.1
  refine sX8_count (by omega) (σ.2.1 116) w hj.1 c0 ⟨_, rfl, ?_⟩
  refine sX9_count (by omega) w ?_
  exact ⟨by rw [hr.2.1, hr.2.2, ht.1, ht.2.1, ha.2.1, ha.2.2.1], h⟩

theorem st_read (x i : Int32) : StL kX8_read kX9_read [.int x, .int i] := by
  intro σ h
  obtain ⟨n, m, p, k, ru, t, a, hj, hi, hm, hr, ht, hc, hb, ha, hp⟩ := id h
  obtain ⟨c0, g1, g2, g3, g4, g5, g6, g7⟩ := id hj.2
  have h6 := c0.2.1
  refine sX8_read (by omega) _ _ _ x i hp.1 hp.2.1 ⟨_, rfl, ?_⟩
  refine sX9_read (by omega) x i (fun q hq => (hp.2.1 q hq).1) ?_
  exact ⟨rfl, h⟩

theorem st_judge (x i : Int32) : StI kX8_judge kX9_judge [.int x, .int i] := by
  intro σ h
  obtain ⟨n, m, p, k, ru, t, a, hj, hi, hm, hr, ht, hc, hb, ha, hp⟩ := id h
  obtain ⟨c0, g1, g2, g3, g4, g5, g6, g7⟩ := id hj.2
  have h6 := c0.2.1
  refine sX8_judge (by omega) _ _ _ x i hp.1 hp.2.1 hp.2.2.1 hp.2.2.2 ⟨_, rfl, ?_⟩
  refine sX9_judge (by omega) x i (fun q hq => (hp.2.1 q hq).1) ?_
  exact ⟨by rw [hj.1.w], h⟩
