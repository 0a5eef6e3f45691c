/-! THE INVARIANT between two calls of the law: JamOath's cells and the reference's stand for the same -/
def GOk (G : Nat → Int32) (n m p k ru : Nat) : Prop := CO G n m p k ∧ SOk n G ∧ (∀ i, i < n → ∃ j, j < 7 ∧ G (9 * i) = nI j) ∧ HRn n G m ∧ H3i G m ∧ PLo n G p ∧ BKo n G k ∧ ∃ r, r ≤ ru ∧ G 57 = nI r
def INVj (σ : xSt) (n m p k ru : Nat) : Prop := RepJ σ 1 (σ.2.1 116) n m p k ∧ GOk (σ.2.1 116) n m p k ru
def INVi (σ : xSt) (ru : Nat) : Prop := σ.1 0 4 = σ.1 115 3 ∧ (¬ σ.1 0 4 = 0 → ∃ n m p k, RepJ σ 27 (σ.2.1 118) n m p k ∧ GOk (σ.2.1 118) n m p k ru)
def INVm (σ : xSt) : Prop := MCo σ ∧ ∀ c, c < 6 → ∃ z, σ.2.1 121 c = nI z ∧ z ≤ 100
def INVr (σ : xSt) (ru : Nat) : Prop := ru ≤ 6 ∧ σ.1 0 8 = nI ru ∧ σ.1 115 8 = nI ru
def INVt (σ : xSt) (t : Nat) : Prop := σ.1 81 1 = nI t ∧ σ.1 115 5 = nI t ∧ ToK (σ.2.1 119) t ∧ ∀ k, k < t → σ.2.1 82 k = σ.2.1 119 k
def INVc (σ : xSt) (ru : Nat) : Prop := ∀ h, h < ru → ∃ l, RepC σ (84 + 2 * h) l ∧ ∀ nm, jRun nm l (nm 4, 0) = ((rdT σ h nm).1, 0) ∧ σ.1 (84 + 2 * h) 2 = (rdT σ h nm).2
def INVb (σ : xSt) : Prop := σ.1 96 1 = 0 ∧ σ.1 96 2 = 5
def INVa (σ : xSt) (a : Nat) : Prop := a < 2 ^ 30 ∧ σ.1 100 1 = nI a ∧ σ.1 115 27 = nI a ∧ σ.2.1 101 = σ.2.1 133
def INVp (σ : xSt) : Prop := RepTp σ (σ.2.1 134) (σ.2.1 135) (σ.2.2 136) ∧ TpOk (σ.2.1 134) (σ.2.1 135) ∧ (∀ t, t < 6 → σ.2.1 134 t = -1 → σ.2.1 135 t = 0) ∧ ∀ t, t < 6 → σ.2.1 134 t = 4 → ∀ j, j < 60 → σ.2.2 136 (60 * t + j) = 0 ∨ σ.2.2 136 (60 * t + j) = 1
def INV (σ : xSt) : Prop := ∃ n m p k ru t a, INVj σ n m p k ru ∧ INVi σ ru ∧ INVm σ ∧ INVr σ ru ∧ INVt σ t ∧ INVc σ ru ∧ INVb σ ∧ INVa σ a ∧ INVp σ
/-- what may have changed: the cells of P, and of the reference's own fields what nobody sees -/
def Ch (P : Nat → Prop) (σ τ : xSt) : Prop := (∀ c, ¬ P c → c ≠ 115 → τ.1 c = σ.1 c) ∧ (∀ c, ¬ P c → τ.2.1 c = σ.2.1 c ∧ τ.2.2 c = σ.2.2 c) ∧ (¬ P 115 → ∀ j, ¬ (10 ≤ j ∧ j ≤ 15) → τ.1 115 j = σ.1 115 j)
theorem Ch.ofUn {P : Nat → Prop} {σ τ : xSt} (h : Un P σ τ) : Ch P σ τ := ⟨fun c hc _ => (h c hc).1, fun c hc => (h c hc).2, fun hc j _ => h.f hc j⟩
theorem Ch.ofKM2 {σ τ : xSt} (h : KM2 σ τ) : Ch (fun c => mS2 c ∨ c = 137) σ τ := ⟨fun c _ h5 => h.2.2.1 c h5, fun c hc => ⟨h.1 c (fun z => hc (Or.inl z)), h.2.1 c (fun z => hc (Or.inr z))⟩, fun _ j hj => h.2.2.2 j hj⟩
theorem Ch.A {σ : xSt} {c : Nat} {g : Nat → Int32} : Ch (fun b => b = c) σ (xsA σ c g) := Ch.ofUn (Un.A rfl)
theorem Ch.tr {P Q : Nat → Prop} {σ τ υ : xSt} (h : Ch P σ τ) (h2 : Ch Q τ υ) : Ch (fun c => P c ∨ Q c) σ υ :=
  ⟨fun c hc h5 => (h2.1 c (fun z => hc (Or.inr z)) h5).trans (h.1 c (fun z => hc (Or.inl z)) h5), fun c hc => ⟨(h2.2.1 c (fun z => hc (Or.inr z))).1.trans (h.2.1 c (fun z => hc (Or.inl z))).1, (h2.2.1 c (fun z => hc (Or.inr z))).2.trans (h.2.1 c (fun z => hc (Or.inl z))).2⟩, fun hc j hj => (h2.2.2 (fun z => hc (Or.inr z)) j hj).trans (h.2.2 (fun z => hc (Or.inl z)) j hj)⟩
theorem Ch.mono {P Q : Nat → Prop} {σ τ : xSt} (h : Ch P σ τ) (hp : ∀ c, P c → Q c) : Ch Q σ τ := ⟨fun c hc h5 => h.1 c (fun z => hc (hp c z)) h5, fun c hc => h.2.1 c (fun z => hc (hp c z)), fun hc j hj => h.2.2 (fun z => hc (hp _ z)) j hj⟩
theorem Ch.un {P : Nat → Prop} {σ τ : xSt} (h : Ch P σ τ) : Un (fun c => P c ∨ c = 115) σ τ := fun c hc => ⟨h.1 c (fun z => hc (Or.inl z)) (fun z => hc (Or.inr z)), h.2.1 c (fun z => hc (Or.inl z))⟩
theorem Ch.a {P : Nat → Prop} {σ τ : xSt} (h : Ch P σ τ) {c : Nat} (hc : ¬ P c) : τ.2.1 c = σ.2.1 c := (h.2.1 c hc).1
theorem Ch.f {P : Nat → Prop} {σ τ : xSt} (h : Ch P σ τ) {c : Nat} (hc : ¬ P c) (h5 : c ≠ 115) (j : Nat) : τ.1 c j = σ.1 c j := congrFun (h.1 c hc h5) j
section CH
variable {P : Nat → Prop} {σ τ : xSt} {n m p k ru t a : Nat}
theorem INVj.ch (h : INVj σ n m p k ru) (hc : Ch P σ τ) (hP : ∀ c, (1 ≤ c ∧ c ≤ 26) ∨ c = 116 → ¬ P c) : INVj τ n m p k ru := by
  unfold INVj
  rw [hc.a (hP 116 (by omega))]
  exact ⟨h.1.un h.2.1.2.1 hc.un (fun c hs => by have := hP c (Or.inl (by unfold sC at hs; omega)); unfold sC at hs; intro z; rcases z with z | z; exact this z; omega), h.2⟩
theorem INVi.ch (h : INVi σ ru) (hc : Ch P σ τ) (hP : ∀ c, c = 0 ∨ (27 ≤ c ∧ c ≤ 52) ∨ c = 115 ∨ c = 118 → ¬ P c) : INVi τ ru := by
  unfold INVi
  rw [hc.f (hP 0 (by omega)) (by omega), hc.2.2 (hP 115 (by omega)) 3 (by omega), hc.a (hP 118 (by omega))]
  refine ⟨h.1, fun z => ?_⟩
  obtain ⟨n, m, p, k, h1, h2⟩ := h.2 z
  exact ⟨n, m, p, k, h1.un h2.1.2.1 hc.un (fun c hs => by have := hP c (Or.inr (Or.inl (by unfold sC at hs; omega))); unfold sC at hs; intro z; rcases z with z | z; exact this z; omega), h2⟩
theorem INVm.ch (h : INVm σ) (hc : Ch P σ τ) (hP : ∀ c, c = 121 ∨ (124 ≤ c ∧ c ≤ 126) ∨ c = 131 ∨ c = 132 → ¬ P c) : INVm τ := by
  unfold INVm MCo
  rw [hc.a (hP 124 (by omega)), hc.a (hP 125 (by omega)), hc.a (hP 126 (by omega)), hc.a (hP 131 (by omega)), hc.a (hP 132 (by omega)), hc.a (hP 121 (by omega))]
  exact h
theorem INVr.ch (h : INVr σ ru) (hc : Ch P σ τ) (hP : ∀ c, c = 0 ∨ c = 115 → ¬ P c) : INVr τ ru := by
  unfold INVr
  rw [hc.f (hP 0 (by omega)) (by omega), hc.2.2 (hP 115 (by omega)) 8 (by omega)]
  exact h
theorem INVt.ch (h : INVt σ t) (hc : Ch P σ τ) (hP : ∀ c, c = 81 ∨ c = 82 ∨ c = 115 ∨ c = 119 → ¬ P c) : INVt τ t := by
  unfold INVt
  rw [hc.f (hP 81 (by omega)) (by omega), hc.2.2 (hP 115 (by omega)) 5 (by omega), hc.a (hP 119 (by omega)), hc.a (hP 82 (by omega))]
  exact h
theorem INVc.ch (h : INVc σ ru) (hr : ru ≤ 6) (hc : Ch P σ τ) (hP : ∀ c, (84 ≤ c ∧ c ≤ 95) ∨ c = 120 ∨ c = 121 → ¬ P c) : INVc τ ru := by
  intro x hx
  obtain ⟨l, h1, h2⟩ := h x hx
  have e : rdT τ x = rdT σ x := by unfold rdT; rw [hc.a (hP 120 (by omega)), hc.a (hP 121 (by omega))]
  rw [e, hc.f (hP (84 + 2 * x) (by omega)) (by omega)]
  exact ⟨l, h1.un hc.un (fun z => by rcases z with z | z; exact hP (84 + 2 * x) (by omega) z; omega) (fun z => by rcases z with z | z; exact hP (84 + 2 * x + 1) (by omega) z; omega), h2⟩
theorem INVb.ch (h : INVb σ) (hc : Ch P σ τ) (hP : ¬ P 96) : INVb τ := by
  unfold INVb
  rw [hc.f hP (by omega), hc.f hP (by omega)]
  exact h
theorem INVa.ch (h : INVa σ a) (hc : Ch P σ τ) (hP : ∀ c, c = 100 ∨ c = 101 ∨ c = 115 ∨ c = 133 → ¬ P c) : INVa τ a := by
  unfold INVa
  rw [hc.f (hP 100 (by omega)) (by omega), hc.2.2 (hP 115 (by omega)) 27 (by omega), hc.a (hP 101 (by omega)), hc.a (hP 133 (by omega))]
  exact h
theorem INVp.ch (h : INVp σ) (hc : Ch P σ τ) (hP : ∀ c, (103 ≤ c ∧ c ≤ 114) ∨ (134 ≤ c ∧ c ≤ 136) → ¬ P c) : INVp τ := by
  unfold INVp
  rw [hc.a (hP 134 (by omega)), hc.a (hP 135 (by omega)), (hc.2.1 136 (hP 136 (by omega))).2]
  exact ⟨h.1.un hc.un (fun c hs => by have := hP c (Or.inl (by unfold tpC at hs; omega)); unfold tpC at hs; intro z; rcases z with z | z; exact this z; omega), h.2⟩
end CH
/-- what the invariant speaks of -/
def Us (c : Nat) : Prop := c ≤ 52 ∨ c = 81 ∨ c = 82 ∨ (84 ≤ c ∧ c ≤ 96) ∨ c = 100 ∨ c = 101 ∨ (103 ≤ c ∧ c ≤ 116) ∨ (118 ≤ c ∧ c ≤ 121) ∨ (124 ≤ c ∧ c ≤ 126) ∨ (131 ≤ c ∧ c ≤ 136)
theorem INV.ch {P : Nat → Prop} {σ τ : xSt} (h : INV σ) (hc : Ch P σ τ) (hP : ∀ c, Us c → ¬ P c) : INV τ := by
  obtain ⟨n, m, p, k, ru, t, a, hj, hi, hm, hr, ht, hcc, hb, ha, hp⟩ := h
  exact ⟨n, m, p, k, ru, t, a, hj.ch hc (fun c q => hP c (by unfold Us; omega)), hi.ch hc (fun c q => hP c (by unfold Us; omega)), hm.ch hc (fun c q => hP c (by unfold Us; omega)), hr.ch hc (fun c q => hP c (by unfold Us; omega)), ht.ch hc (fun c q => hP c (by unfold Us; omega)), hcc.ch hr.1 hc (fun c q => hP c (by unfold Us; omega)), hb.ch hc (hP 96 (by unfold Us; omega)), ha.ch hc (fun c q => hP c (by unfold Us; omega)), hp.ch hc (fun c q => hP c (by unfold Us; omega))⟩
theorem INV.jk {σ τ : xSt} (h : INV σ) (hk : JK σ τ) : INV τ := h.ch (Ch.ofUn hk) (fun c q z => by unfold Us at q; unfold JSc at z; omega)
theorem INV.km {σ τ : xSt} (h : INV σ) (hk : KM2 σ τ) : INV τ := h.ch (Ch.ofKM2 hk) (fun c q z => by unfold Us at q; simp only [mS2] at z; omega)
/-- what a call may use -/
theorem INVj.ru {σ : xSt} {n m p k ru : Nat} (h : INVj σ n m p k ru) (hm : INVm σ) (hr : ru ≤ 6) : RUo σ := by
  obtain ⟨r, h1, h2⟩ := h.2.2.2.2.2.2.2.2
  exact ⟨⟨r, h2, by omega⟩, hm.2⟩
theorem INVj.sem {σ : xSt} {n m p k ru : Nat} (h : INVj σ n m p k ru) (hr : INVr σ ru) (hc : INVc σ ru) (hb : INVb σ) : JSem σ (mSem σ) := by
  obtain ⟨r, h1, h2⟩ := h.2.2.2.2.2.2.2.2
  have hh := h.1.h
  rw [h2] at hh
  have r6 := hr.1
  by_cases r0 : r = 0
  · subst r0
    have e : mSem σ = fun nm => (nm 4, 5) := by funext nm; unfold mSem; rw [h2, if_pos (show nI 0 = 0 from rfl)]
    refine ⟨96, [], ⟨⟨⟨by decide, rfl⟩, by decide, rfl⟩, ⟨hb.1, by simp, fun j q n z => by simp at z⟩, Or.inr ⟨by rw [hh]; decide, rfl⟩⟩, ?_, fun nm => ?_⟩
    · rw [hb.2, e]; rfl
    · rw [e]; rfl
  · obtain ⟨l, l1, l2⟩ := hc (r - 1) (by omega)
    have e : mSem σ = rdT σ (r - 1) := by
      funext nm
      unfold mSem
      rw [h2, if_neg (c := nI r = 0) (fun z => r0 (nEq (b := 0) (by omega) (by omega) z)), cN_nI (by omega)]
    refine ⟨84 + 2 * (r - 1), l, ⟨(isXc (r - 1) (by omega)).1, l1, Or.inl ⟨r - 1, ru, by omega, r6, ?_, hr.2.1, rfl⟩⟩, ?_, fun nm => ?_⟩
    · rw [hh]; exact pk_sub (b := 1) (by omega)
    · rw [e, (l2 (fun _ => 0)).2]; rfl
    · rw [e, (l2 nm).1]
