/-! the pure state: int fields by cell and slot, int-like arrays by cell and place, long arrays by cell and place -/
abbrev xSt : Type := (Nat → Nat → Int32) × (Nat → Nat → Int32) × (Nat → Nat → Int64)
/-- a method: its name, its bytes, its locals, what it returns -/
abbrev xMD : Type := MethodName × ByteArray × Nat × Option FieldType
/-- a cell's shape: an array (type, length, targets) or an object (kind, targets of its fields) -/
abbrev xSh : Type := (Nat × Nat × List Nat) ⊕ (Nat × List (Option Nat))
def xShL : List xSh := [
  .inr (8, [some 1, some 27, some 53, some 79, none, some 81, some 83, some 96, none, some 98, some 99, some 100, some 102]),
  .inr (5, [none, none, none, some 2, none, some 15, some 19, some 23]),
  .inl (6, 6, [3, 5, 7, 9, 11, 13]),
  .inr (3, [none, none, none, none, none, none, some 4]),
  .inl (0, 4, []),
  .inr (3, [none, none, none, none, none, none, some 6]),
  .inl (0, 4, []),
  .inr (3, [none, none, none, none, none, none, some 8]),
  .inl (0, 4, []),
  .inr (3, [none, none, none, none, none, none, some 10]),
  .inl (0, 4, []),
  .inr (3, [none, none, none, none, none, none, some 12]),
  .inl (0, 4, []),
  .inr (3, [none, none, none, none, none, none, some 14]),
  .inl (0, 4, []),
  .inr (4, [some 16, some 17, some 18, none]),
  .inl (0, 6, []),
  .inl (0, 6, []),
  .inl (0, 6, []),
  .inr (4, [some 20, some 21, some 22, none]),
  .inl (0, 10, []),
  .inl (0, 10, []),
  .inl (0, 10, []),
  .inr (4, [some 24, some 25, some 26, none]),
  .inl (0, 8, []),
  .inl (0, 8, []),
  .inl (0, 8, []),
  .inr (5, [none, none, none, some 28, none, some 41, some 45, some 49]),
  .inl (6, 6, [29, 31, 33, 35, 37, 39]),
  .inr (3, [none, none, none, none, none, none, some 30]),
  .inl (0, 4, []),
  .inr (3, [none, none, none, none, none, none, some 32]),
  .inl (0, 4, []),
  .inr (3, [none, none, none, none, none, none, some 34]),
  .inl (0, 4, []),
  .inr (3, [none, none, none, none, none, none, some 36]),
  .inl (0, 4, []),
  .inr (3, [none, none, none, none, none, none, some 38]),
  .inl (0, 4, []),
  .inr (3, [none, none, none, none, none, none, some 40]),
  .inl (0, 4, []),
  .inr (4, [some 42, some 43, some 44, none]),
  .inl (0, 6, []),
  .inl (0, 6, []),
  .inl (0, 6, []),
  .inr (4, [some 46, some 47, some 48, none]),
  .inl (0, 10, []),
  .inl (0, 10, []),
  .inl (0, 10, []),
  .inr (4, [some 50, some 51, some 52, none]),
  .inl (0, 8, []),
  .inl (0, 8, []),
  .inl (0, 8, []),
  .inr (5, [none, none, none, some 54, none, some 67, some 71, some 75]),
  .inl (6, 6, [55, 57, 59, 61, 63, 65]),
  .inr (3, [none, none, none, none, none, none, some 56]),
  .inl (0, 4, []),
  .inr (3, [none, none, none, none, none, none, some 58]),
  .inl (0, 4, []),
  .inr (3, [none, none, none, none, none, none, some 60]),
  .inl (0, 4, []),
  .inr (3, [none, none, none, none, none, none, some 62]),
  .inl (0, 4, []),
  .inr (3, [none, none, none, none, none, none, some 64]),
  .inl (0, 4, []),
  .inr (3, [none, none, none, none, none, none, some 66]),
  .inl (0, 4, []),
  .inr (4, [some 68, some 69, some 70, none]),
  .inl (0, 6, []),
  .inl (0, 6, []),
  .inl (0, 6, []),
  .inr (4, [some 72, some 73, some 74, none]),
  .inl (0, 10, []),
  .inl (0, 10, []),
  .inl (0, 10, []),
  .inr (4, [some 76, some 77, some 78, none]),
  .inl (0, 8, []),
  .inl (0, 8, []),
  .inl (0, 8, []),
  .inr (3, [none, none, none, none, none, none, some 80]),
  .inl (0, 4, []),
  .inr (7, [some 82, none, none, none]),
  .inl (1, 100, []),
  .inl (5, 6, [84, 86, 88, 90, 92, 94]),
  .inr (1, [some 85, none, none]),
  .inl (0, 100, []),
  .inr (1, [some 87, none, none]),
  .inl (0, 100, []),
  .inr (1, [some 89, none, none]),
  .inl (0, 100, []),
  .inr (1, [some 91, none, none]),
  .inl (0, 100, []),
  .inr (1, [some 93, none, none]),
  .inl (0, 100, []),
  .inr (1, [some 95, none, none]),
  .inl (0, 100, []),
  .inr (1, [some 97, none, none]),
  .inl (0, 100, []),
  .inr (2, [none, none, none]),
  .inl (0, 6, []),
  .inr (0, [some 101, none]),
  .inl (0, 20, []),
  .inl (7, 6, [103, 105, 107, 109, 111, 113]),
  .inr (6, [some 104, none, none]),
  .inl (3, 60, []),
  .inr (6, [some 106, none, none]),
  .inl (3, 60, []),
  .inr (6, [some 108, none, none]),
  .inl (3, 60, []),
  .inr (6, [some 110, none, none]),
  .inl (3, 60, []),
  .inr (6, [some 112, none, none]),
  .inl (3, 60, []),
  .inr (6, [some 114, none, none]),
  .inl (3, 60, []),
  .inr (9, [some 116, some 117, some 118, none, some 119, none, some 120, some 121, none, some 122, none, none, none, none, none, none, some 123, some 124, some 125, some 126, some 127, some 128, some 129, some 130, some 131, some 132, some 133, none, some 134, some 135, some 136, some 137]),
  .inl (0, 115, []),
  .inl (0, 115, []),
  .inl (0, 115, []),
  .inl (0, 100, []),
  .inl (0, 600, []),
  .inl (0, 6, []),
  .inl (0, 100, []),
  .inl (0, 6, []),
  .inl (2, 6, []),
  .inl (2, 3, []),
  .inl (2, 15, []),
  .inl (0, 6, []),
  .inl (4, 256, []),
  .inl (0, 3, []),
  .inl (0, 6, []),
  .inl (0, 7, []),
  .inl (0, 21, []),
  .inl (0, 20, []),
  .inl (0, 6, []),
  .inl (0, 6, []),
  .inl (3, 360, []),
  .inl (3, 60, [])]
def xsh (c : Nat) : xSh := xShL.getD c (.inl (0, 0, []))
def xF (q : Nat → Nat) (f : Nat → Int32) : Nat → List (Option Nat) → List Value
  | _, [] => []
  | k, r :: rs => (match r with | some j => Value.ref (q j) | none => Value.int (f k)) :: xF q f (k + 1) rs
def xAr (q : Nat → Nat) (σ : xSt) (c t : Nat) (tg : List Nat) : (Nat → Int32) ⊕ (Nat → Int64) ⊕ (Nat → UInt32) ⊕ (Nat → UInt64) ⊕ (Nat → Option Nat) :=
  if t = 3 then .inr (.inl (σ.2.2 c)) else if t < 5 then .inl (σ.2.1 c) else .inr (.inr (.inr (.inr (fun i => (tg[i]?).map q))))
def xEe (y : Nat → ClassId) (q : Nat → Nat) (σ : xSt) (c : Nat) : xSh → va_E
  | .inl a => .inl (y a.1, a.2.1, xAr q σ c a.1 a.2.2)
  | .inr o => .inr (o.1, xF q (σ.1 c) 0 o.2)
def xE (y : Nat → ClassId) (q : Nat → Nat) (σ : xSt) (c : Nat) : va_E := xEe y q σ c (xsh c)
def xW (y : Nat → ClassId) (q : Nat → Nat) (σ : xSt) : va_W := (List.range 138).map (fun c => (q c, xE y q σ c))
def xsF (σ : xSt) (c j : Nat) (v : Int32) : xSt := (va_up σ.1 c (upd (σ.1 c) j v), σ.2.1, σ.2.2)
def xsA (σ : xSt) (c : Nat) (g : Nat → Int32) : xSt := (σ.1, va_up σ.2.1 c g, σ.2.2)
def xsJ (σ : xSt) (c : Nat) (g : Nat → Int64) : xSt := (σ.1, σ.2.1, va_up σ.2.2 c g)
theorem xW_len (y : Nat → ClassId) (q : Nat → Nat) (σ : xSt) : (xW y q σ).length = 138 := by simp [xW]
theorem xW_get {y : Nat → ClassId} {q : Nat → Nat} {σ : xSt} {c : Nat} (hc : c < 138) : (xW y q σ)[c]? = some (q c, xE y q σ c) := by
  simp [xW, List.getElem?_map, List.getElem?_range, hc]
theorem xW_set {y : Nat → ClassId} {q : Nat → Nat} {σ σ' : xSt} {c : Nat} {e : va_E} (hc : c < 138) (h1 : xE y q σ' c = e) (h2 : ∀ b, b ≠ c → xE y q σ' b = xE y q σ b) : (xW y q σ).set c (q c, e) = xW y q σ' := by
  apply List.ext_getElem?
  intro i
  by_cases hi : i = c
  · subst hi
    rw [List.getElem?_set_self (by rw [xW_len]; exact hc), xW_get hc, h1]
  · rw [List.getElem?_set_ne (Ne.symm hi)]
    by_cases h : i < 138
    · rw [xW_get h, xW_get h, h2 i hi]
    · rw [List.getElem?_eq_none (by rw [xW_len]; omega), List.getElem?_eq_none (by rw [xW_len]; omega)]
theorem xE_same {y : Nat → ClassId} {q : Nat → Nat} {σ σ' : xSt} {c : Nat} (h1 : σ'.1 c = σ.1 c) (h2 : σ'.2.1 c = σ.2.1 c) (h3 : σ'.2.2 c = σ.2.2 c) : xE y q σ' c = xE y q σ c := by
  unfold xE
  cases xsh c with
  | inl a => simp only [xEe, xAr, h2, h3]
  | inr o => simp only [xEe, h1]
theorem xF_get (q : Nat → Nat) (f : Nat → Int32) : ∀ (rs : List (Option Nat)) (k j : Nat), (xF q f k rs)[j]? = (rs[j]?).map (fun r => match r with | some t => Value.ref (q t) | none => Value.int (f (k + j))) := by
  intro rs
  induction rs with
  | nil => intro k j; simp [xF]
  | cons r rs ih =>
    intro k j
    cases j with
    | zero => simp [xF]
    | succ j =>
      simp only [xF, List.getElem?_cons_succ]
      rw [ih (k + 1) j, show k + 1 + j = k + (j + 1) by omega]
theorem xF_len (q : Nat → Nat) (f : Nat → Int32) : ∀ (rs : List (Option Nat)) (k : Nat), (xF q f k rs).length = rs.length := by
  intro rs
  induction rs with
  | nil => intro k; rfl
  | cons r rs ih => intro k; simp only [xF, List.length_cons, ih]
theorem xF_set (q : Nat → Nat) (f : Nat → Int32) (rs : List (Option Nat)) (j : Nat) (v : Int32) (h : rs[j]? = some none) : (xF q f 0 rs).set j (.int v) = xF q (upd f j v) 0 rs := by
  have hl : j < rs.length := (List.getElem?_eq_some_iff.mp h).1
  apply List.ext_getElem?
  intro i
  by_cases hi : i = j
  · subst hi
    rw [List.getElem?_set_self (by rw [xF_len]; exact hl), xF_get, h]
    simp [upd]
  · rw [List.getElem?_set_ne (Ne.symm hi), xF_get, xF_get]
    congr 1
    funext r
    cases r with
    | some t => rfl
    | none => simp [upd, hi]
/-- values: a reference names a cell by its number -/
def cv (q : Nat → Nat) : Value → Value
  | .ref a => .ref (q a)
  | v => v
theorem cv_cat (q : Nat → Nat) (v : Value) : (cv q v).category = v.category := by cases v <;> rfl
theorem cv_cats (q : Nat → Nat) (st : List Value) : ((st.map (cv q)).map fun v => v.category) = st.map fun v => v.category := by
  rw [List.map_map]
  exact List.map_congr_left (fun v _ => cv_cat q v)
/-! locals by their places -/
def xL (q : Nat → Nat) (ls : Array Slot) (n : Nat) (lv : List (Option Value)) : Prop := ls.size = n ∧ lv_wf ls ∧ ∀ (i : Nat) (v : Value), lv[i]? = some (some v) → ls[i]? = some (.val (cv q v))
def xblank : Option (Option Value) → Bool
  | some (some (.long _)) => true
  | some (some (.double _)) => true
  | _ => false
def xpre (lv : List (Option Value)) : Nat → List (Option Value)
  | 0 => lv
  | j + 1 => bif xblank lv[j]? then lv.set j none else lv
def xs1 (lv : List (Option Value)) (i : Nat) (v : Value) : List (Option Value) := (xpre lv i).set i (some v)
def xs2 (lv : List (Option Value)) (i : Nat) (v : Value) : List (Option Value) := ((xpre lv i).set i (some v)).set (i + 1) none
def xpairs (q : Nat → Nat) (lv : List (Option Value)) : List (Nat × Value) := (List.range lv.length).filterMap (fun i => match lv[i]? with | some (some v) => some (i, cv q v) | _ => none)
theorem xpairs_mem {q : Nat → Nat} {lv : List (Option Value)} {i : Nat} {v : Value} (h : lv[i]? = some (some v)) : (i, cv q v) ∈ xpairs q lv := by
  unfold xpairs
  rw [List.mem_filterMap]
  exact ⟨i, List.mem_range.mpr (List.getElem?_eq_some_iff.mp h).1, by rw [h]⟩
theorem xL_pairs {q : Nat → Nat} {ls : Array Slot} {n : Nat} {lv : List (Option Value)} (h : xL q ls n lv) : lv_has ls n (xpairs q lv) := by
  refine ⟨h.1, h.2.1, fun w hw => ?_⟩
  unfold xpairs at hw
  rw [List.mem_filterMap] at hw
  obtain ⟨i, -, hi⟩ := hw
  cases hg : lv[i]? with
  | none => rw [hg] at hi; cases hi
  | some o =>
    cases o with
    | none => rw [hg] at hi; cases hi
    | some v =>
      rw [hg] at hi
      cases hi
      exact h.2.2 i v hg
theorem xpre_get {lv : List (Option Value)} {i j : Nat} {u : Value} (h : (xpre lv i)[j]? = some (some u)) : lv[j]? = some (some u) ∧ ¬ (j + 1 = i ∧ u.category = 2) := by
  cases i with
  | zero => exact ⟨h, fun z => by omega⟩
  | succ i =>
    simp only [xpre] at h
    cases hb : xblank lv[i]? with
    | true =>
      rw [hb, cond_true] at h
      by_cases hj : j = i
      · subst hj
        by_cases hl : j < lv.length
        · rw [List.getElem?_set_self hl] at h; cases h
        · rw [List.getElem?_eq_none (by simp; omega)] at h; cases h
      · rw [List.getElem?_set_ne (Ne.symm hj)] at h
        exact ⟨h, fun z => hj (by omega)⟩
    | false =>
      rw [hb, cond_false] at h
      refine ⟨h, fun z => ?_⟩
      have hj : j = i := by omega
      subst hj
      rw [h] at hb
      have hc := z.2
      cases u <;> first | (simp [xblank] at hb; done) | (simp [Value.category] at hc; done)
theorem xL_s1 {q : Nat → Nat} {ls' : Array Slot} {n i : Nat} {lv : List (Option Value)} {v : Value} (h : lv_has ls' n ((i, cv q v) :: (xpairs q lv).filter (fun w => !(w.1 == i) && !(w.1 + 1 == i && w.2.category == 2)))) : xL q ls' n (xs1 lv i v) := by
  refine ⟨h.1, h.2.1, fun j u hj => ?_⟩
  unfold xs1 at hj
  by_cases hi : j = i
  · subst hi
    by_cases hl : j < (xpre lv j).length
    · rw [List.getElem?_set_self hl] at hj
      cases hj
      exact h.2.2 (j, cv q v) List.mem_cons_self
    · rw [List.getElem?_eq_none (by simp; omega)] at hj; cases hj
  · rw [List.getElem?_set_ne (Ne.symm hi)] at hj
    obtain ⟨h1, h2⟩ := xpre_get hj
    refine h.2.2 (j, cv q u) (List.mem_cons_of_mem _ (List.mem_filter.mpr ⟨xpairs_mem h1, ?_⟩))
    simp only [cv_cat]
    by_cases hz : j + 1 = i
    · have : ¬ u.category = 2 := fun z => h2 ⟨hz, z⟩
      simp [hi, this]
    · simp [hi, hz]
theorem xL_s2 {q : Nat → Nat} {ls' : Array Slot} {n i : Nat} {lv : List (Option Value)} {v : Value} (h : lv_has ls' n ((i, cv q v) :: (xpairs q lv).filter (fun w => !(w.1 == i) && (!(w.1 == i + 1) && !(w.1 + 1 == i && w.2.category == 2))))) : xL q ls' n (xs2 lv i v) := by
  refine ⟨h.1, h.2.1, fun j u hj => ?_⟩
  unfold xs2 at hj
  by_cases h0 : j = i + 1
  · subst h0
    by_cases hl : i + 1 < ((xpre lv i).set i (some v)).length
    · rw [List.getElem?_set_self hl] at hj; cases hj
    · rw [List.getElem?_eq_none (by simp at hl ⊢; omega)] at hj; cases hj
  · rw [List.getElem?_set_ne (Ne.symm h0)] at hj
    by_cases hi : j = i
    · subst hi
      by_cases hl : j < (xpre lv j).length
      · rw [List.getElem?_set_self hl] at hj
        cases hj
        exact h.2.2 (j, cv q v) List.mem_cons_self
      · rw [List.getElem?_eq_none (by simp; omega)] at hj; cases hj
    · rw [List.getElem?_set_ne (Ne.symm hi)] at hj
      obtain ⟨h1, h2⟩ := xpre_get hj
      refine h.2.2 (j, cv q u) (List.mem_cons_of_mem _ (List.mem_filter.mpr ⟨xpairs_mem h1, ?_⟩))
      simp only [cv_cat]
      by_cases hz : j + 1 = i
      · have : ¬ u.category = 2 := fun z => h2 ⟨hz, z⟩
        simp [hi, h0, this]
      · simp [hi, h0, hz]
