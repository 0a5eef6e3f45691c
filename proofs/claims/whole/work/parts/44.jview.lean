/-! JamOath's own cells: what they stand for -/
def Un (P : Nat → Prop) (σ τ : xSt) : Prop := ∀ c, ¬ P c → τ.1 c = σ.1 c ∧ τ.2.1 c = σ.2.1 c ∧ τ.2.2 c = σ.2.2 c
theorem Un.rf {P : Nat → Prop} {σ : xSt} : Un P σ σ := fun _ _ => ⟨rfl, rfl, rfl⟩
theorem Un.tr {P : Nat → Prop} {σ τ υ : xSt} (h : Un P σ τ) (h2 : Un P τ υ) : Un P σ υ := fun c hc => ⟨(h2 c hc).1.trans (h c hc).1, (h2 c hc).2.1.trans (h c hc).2.1, (h2 c hc).2.2.trans (h c hc).2.2⟩
theorem Un.mono {P Q : Nat → Prop} {σ τ : xSt} (h : Un P σ τ) (hp : ∀ c, P c → Q c) : Un Q σ τ := fun c hc => h c (fun z => hc (hp c z))
theorem Un.F {P : Nat → Prop} {σ : xSt} {c j : Nat} {v : Int32} (h : P c) : Un P σ (xsF σ c j v) := fun b hb => ⟨va_up_ne _ _ (fun z => hb (z ▸ h)), rfl, rfl⟩
theorem Un.A {P : Nat → Prop} {σ : xSt} {c : Nat} {g : Nat → Int32} (h : P c) : Un P σ (xsA σ c g) := fun b hb => ⟨rfl, va_up_ne _ _ (fun z => hb (z ▸ h)), rfl⟩
theorem Un.J {P : Nat → Prop} {σ : xSt} {c : Nat} {g : Nat → Int64} (h : P c) : Un P σ (xsJ σ c g) := fun b hb => ⟨rfl, rfl, va_up_ne _ _ (fun z => hb (z ▸ h))⟩
theorem Un.f {P : Nat → Prop} {σ τ : xSt} (h : Un P σ τ) {c : Nat} (hc : ¬ P c) (j : Nat) : τ.1 c j = σ.1 c j := congrFun (h c hc).1 j
theorem Un.a {P : Nat → Prop} {σ τ : xSt} (h : Un P σ τ) {c : Nat} (hc : ¬ P c) : τ.2.1 c = σ.2.1 c := (h c hc).2.1
theorem Un.l {P : Nat → Prop} {σ τ : xSt} (h : Un P σ τ) {c : Nat} (hc : ¬ P c) : τ.2.2 c = σ.2.2 c := (h c hc).2.2
theorem xsF1 (σ : xSt) (c j b i : Nat) (v : Int32) : (xsF σ c j v).1 b i = if b = c ∧ i = j then v else σ.1 b i := by
  unfold xsF va_up upd
  by_cases h : b = c
  · subst h; by_cases h2 : i = j <;> simp [h2]
  · simp [h]
theorem xsA1 (σ : xSt) (c b : Nat) (g : Nat → Int32) : (xsA σ c g).2.1 b = if b = c then g else σ.2.1 b := rfl
/-- a pot's cell, and its row -/
abbrev pC (c b : Nat) : Prop := b = c ∨ b = c + 1
def isP (c : Nat) : Prop := (c < 138 ∧ xsh c = .inr (3, [none, none, none, none, none, none, some (c + 1)])) ∧ xI (c + 1) 4
def RepP (σ : xSt) (c i : Nat) (a : Nat → Int32) : Prop := σ.1 c 0 = nI i ∧ (∀ k, k < 5 → σ.1 c (k + 1) = a k) ∧ ∀ k, k < 4 → σ.2.1 (c + 1) k = a (5 + k)
theorem RepP.un {P : Nat → Prop} {σ τ : xSt} {c i : Nat} {a : Nat → Int32} (h : RepP σ c i a) (hu : Un P σ τ) (h1 : ¬ P c) (h2 : ¬ P (c + 1)) : RepP τ c i a :=
  ⟨(hu.f h1 0).trans h.1, fun k hk => (hu.f h1 _).trans (h.2.1 k hk), fun k hk => (congrFun (hu.a h2) k).trans (h.2.2 k hk)⟩
theorem RepP.cg {σ : xSt} {c i : Nat} {a b : Nat → Int32} (h : RepP σ c i a) (he : ∀ k, k < 9 → a k = b k) : RepP σ c i b :=
  ⟨h.1, fun k hk => (h.2.1 k hk).trans (he k (by omega)), fun k hk => (h.2.2 k hk).trans (he _ (by omega))⟩
theorem five {p : Nat → Prop} (h0 : p 0) (h1 : p 1) (h2 : p 2) (h3 : p 3) (h4 : p 4) : ∀ k, k < 5 → p k := by
  intro k hk
  match k, hk with
  | 0, _ => exact h0
  | 1, _ => exact h1
  | 2, _ => exact h2
  | 3, _ => exact h3
  | 4, _ => exact h4
/-- rows told by hand -/
def isR (c n : Nat) : Prop := (c < 138 ∧ xsh c = .inr (4, [some (c + 1), some (c + 2), some (c + 3), none])) ∧ xI (c + 1) n ∧ xI (c + 2) n ∧ xI (c + 3) n
abbrev rC (c b : Nat) : Prop := c ≤ b ∧ b ≤ c + 3
def RepR (σ : xSt) (c m : Nat) (f g e : Nat → Int32) : Prop := σ.1 c 3 = nI m ∧ ∀ r, r < m → σ.2.1 (c + 1) r = f r ∧ σ.2.1 (c + 2) r = g r ∧ σ.2.1 (c + 3) r = e r
theorem RepR.un {P : Nat → Prop} {σ τ : xSt} {c m : Nat} {f g e : Nat → Int32} (h : RepR σ c m f g e) (hu : Un P σ τ) (hP : ∀ b, rC c b → ¬ P b) : RepR τ c m f g e :=
  ⟨(hu.f (hP c (by omega)) 3).trans h.1, fun r hr => ⟨(congrFun (hu.a (hP _ (by omega))) r).trans (h.2 r hr).1, (congrFun (hu.a (hP _ (by omega))) r).trans (h.2 r hr).2.1, (congrFun (hu.a (hP _ (by omega))) r).trans (h.2 r hr).2.2⟩⟩
theorem RepR.cg {σ : xSt} {c m : Nat} {f g e f2 g2 e2 : Nat → Int32} (h : RepR σ c m f g e) (hf : ∀ r, r < m → f r = f2 r ∧ g r = g2 r ∧ e r = e2 r) : RepR σ c m f2 g2 e2 :=
  ⟨h.1, fun r hr => ⟨(h.2 r hr).1.trans (hf r hr).1, (h.2 r hr).2.1.trans (hf r hr).2.1, (h.2 r hr).2.2.trans (hf r hr).2.2⟩⟩
/-- a state's cells -/
def isS (b : Nat) : Prop := b = 1 ∨ b = 27 ∨ b = 53
theorem isS.far {b e : Nat} (h : isS b) (h2 : isS e) (hne : b ≠ e) : b + 26 ≤ e ∨ e + 26 ≤ b := by
  rcases h with rfl | rfl | rfl <;> rcases h2 with rfl | rfl | rfl <;> omega
abbrev sC (b c : Nat) : Prop := b ≤ c ∧ c ≤ b + 25
theorem isS.o {b : Nat} (h : isS b) : b < 138 ∧ xsh b = .inr (5, [none, none, none, some (b + 1), none, some (b + 14), some (b + 18), some (b + 22)]) := by
  rcases h with rfl | rfl | rfl <;> exact ⟨by decide, rfl⟩
theorem isS.q {b : Nat} (h : isS b) : b + 1 < 138 ∧ xsh (b + 1) = .inl (6, 6, [b + 2, b + 4, b + 6, b + 8, b + 10, b + 12]) := by
  rcases h with rfl | rfl | rfl <;> exact ⟨by decide, rfl⟩
theorem isS.p {b i : Nat} (h : isS b) (hi : i < 6) : isP (b + 2 + 2 * i) := by
  rcases h with rfl | rfl | rfl <;> (match i, hi with
    | 0, _ => exact ⟨⟨by decide, rfl⟩, by decide, rfl⟩
    | 1, _ => exact ⟨⟨by decide, rfl⟩, by decide, rfl⟩
    | 2, _ => exact ⟨⟨by decide, rfl⟩, by decide, rfl⟩
    | 3, _ => exact ⟨⟨by decide, rfl⟩, by decide, rfl⟩
    | 4, _ => exact ⟨⟨by decide, rfl⟩, by decide, rfl⟩
    | 5, _ => exact ⟨⟨by decide, rfl⟩, by decide, rfl⟩)
theorem isS.t {b i : Nat} (hi : i < 6) : [b + 2, b + 4, b + 6, b + 8, b + 10, b + 12][i]? = some (b + 2 + 2 * i) := by
  match i, hi with
  | 0, _ => rfl
  | 1, _ => rfl
  | 2, _ => rfl
  | 3, _ => rfl
  | 4, _ => rfl
  | 5, _ => rfl
theorem isS.h {b : Nat} (h : isS b) : isR (b + 14) 6 := by rcases h with rfl | rfl | rfl <;> exact ⟨⟨by decide, rfl⟩, ⟨by decide, rfl⟩, ⟨by decide, rfl⟩, by decide, rfl⟩
theorem isS.l {b : Nat} (h : isS b) : isR (b + 18) 10 := by rcases h with rfl | rfl | rfl <;> exact ⟨⟨by decide, rfl⟩, ⟨by decide, rfl⟩, ⟨by decide, rfl⟩, by decide, rfl⟩
theorem isS.b {b : Nat} (h : isS b) : isR (b + 22) 8 := by rcases h with rfl | rfl | rfl <;> exact ⟨⟨by decide, rfl⟩, ⟨by decide, rfl⟩, ⟨by decide, rfl⟩, by decide, rfl⟩
theorem isP79 : isP 79 := ⟨⟨by decide, rfl⟩, by decide, rfl⟩
/-- the pots of a state -/
def RepT (σ : xSt) (b n : Nat) (G : Nat → Int32) : Prop := σ.1 b 4 = nI n ∧ ∀ i, i < n → RepP σ (b + 2 + 2 * i) i (pV G i)
theorem RepT.un {P : Nat → Prop} {σ τ : xSt} {b n : Nat} {G : Nat → Int32} (h : RepT σ b n G) (hu : Un P σ τ) (h6 : n ≤ 6) (h0 : ¬ P b) (hP : ∀ c, b + 2 ≤ c → c ≤ b + 13 → ¬ P c) : RepT τ b n G :=
  ⟨(hu.f h0 4).trans h.1, fun i hi => (h.2 i hi).un hu (hP _ (by omega) (by omega)) (hP _ (by omega) (by omega))⟩
theorem RepT.cg {σ : xSt} {b n : Nat} {G G2 : Nat → Int32} (h : RepT σ b n G) (he : ∀ k, k < 9 * n → G k = G2 k) : RepT σ b n G2 :=
  ⟨h.1, fun i hi => (h.2 i hi).cg (fun k hk => he _ (by omega))⟩
def RepJ (σ : xSt) (b : Nat) (G : Nat → Int32) (n m p k : Nat) : Prop := σ.1 b 0 = G 55 ∧ σ.1 b 1 = G 56 ∧ σ.1 b 2 = G 57 - 1 ∧ RepT σ b n G ∧ RepR σ (b + 14) m (fun r => G (59 + 3 * r)) (fun r => G (59 + 3 * r + 1)) (fun r => G (59 + 3 * r + 2)) ∧ RepR σ (b + 18) p (fun r => G (78 + 2 * r)) (fun r => G (79 + 2 * r)) (fun _ => 0) ∧ RepR σ (b + 22) k (fun r => G (99 + 2 * r)) (fun r => G (100 + 2 * r)) (fun _ => 0)
theorem RepJ.w {σ : xSt} {b n m p k : Nat} {G : Nat → Int32} (h : RepJ σ b G n m p k) : σ.1 b 0 = G 55 := h.1
theorem RepJ.t {σ : xSt} {b n m p k : Nat} {G : Nat → Int32} (h : RepJ σ b G n m p k) : σ.1 b 1 = G 56 := h.2.1
theorem RepJ.h {σ : xSt} {b n m p k : Nat} {G : Nat → Int32} (h : RepJ σ b G n m p k) : σ.1 b 2 = G 57 - 1 := h.2.2.1
theorem RepJ.P {σ : xSt} {b n m p k : Nat} {G : Nat → Int32} (h : RepJ σ b G n m p k) : RepT σ b n G := h.2.2.2.1
theorem RepJ.H {σ : xSt} {b n m p k : Nat} {G : Nat → Int32} (h : RepJ σ b G n m p k) : RepR σ (b + 14) m (fun r => G (59 + 3 * r)) (fun r => G (59 + 3 * r + 1)) (fun r => G (59 + 3 * r + 2)) := h.2.2.2.2.1
theorem RepJ.L {σ : xSt} {b n m p k : Nat} {G : Nat → Int32} (h : RepJ σ b G n m p k) : RepR σ (b + 18) p (fun r => G (78 + 2 * r)) (fun r => G (79 + 2 * r)) (fun _ => 0) := h.2.2.2.2.2.1
theorem RepJ.B {σ : xSt} {b n m p k : Nat} {G : Nat → Int32} (h : RepJ σ b G n m p k) : RepR σ (b + 22) k (fun r => G (99 + 2 * r)) (fun r => G (100 + 2 * r)) (fun _ => 0) := h.2.2.2.2.2.2
theorem RepJ.un {P : Nat → Prop} {σ τ : xSt} {b n m p k : Nat} {G : Nat → Int32} (h : RepJ σ b G n m p k) (h6 : n ≤ 6) (hu : Un P σ τ) (hP : ∀ c, sC b c → ¬ P c) : RepJ τ b G n m p k :=
  ⟨(hu.f (hP b (by omega)) 0).trans h.w, (hu.f (hP b (by omega)) 1).trans h.t, (hu.f (hP b (by omega)) 2).trans h.h, h.P.un hu h6 (hP b (by omega)) (fun c _ _ => hP c (by omega)), h.H.un hu (fun c _ => hP c (by omega)), h.L.un hu (fun c _ => hP c (by omega)), h.B.un hu (fun c _ => hP c (by omega))⟩
theorem mn9 (x : Int32) : (if 9 < x then 9 else x) = mnI 9 x := by
  unfold mnI
  by_cases h : (9 : Int32) < x
  · rw [if_pos h, if_neg (fun z => Int32.lt_irrefl (Int32.lt_trans h z))]
  · by_cases h2 : x < 9
    · rw [if_neg h, if_pos h2]
    · rw [if_neg h, if_neg h2]; exact Int32.le_antisymm (Int32.not_lt.mp h) (Int32.not_lt.mp h2)
theorem mx0 (x : Int32) : (if x < 0 then 0 else x) = mxI 0 x := by
  unfold mxI
  by_cases h : x < 0
  · rw [if_pos h, if_neg (fun z => Int32.lt_irrefl (Int32.lt_trans h z))]
  · by_cases h2 : (0 : Int32) < x
    · rw [if_neg h, if_pos h2]
    · rw [if_neg h, if_neg h2]; exact Int32.le_antisymm (Int32.not_lt.mp h2) (Int32.not_lt.mp h)
/-- a pot's numbers after an opening -/
def opP (a : Nat → Int32) : Nat → Int32 := upd (upd a 4 (mnI 9 (a 4 + 1))) 2 (mxI 0 (a 2 - 1))
def nwP (kd v sg : Int32) : Nat → Int32 := fun k => if k = 0 then kd else if k = 1 then v else if k = 2 then sg else 0
