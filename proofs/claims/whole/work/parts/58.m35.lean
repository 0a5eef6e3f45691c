/-! FITS, as JamOath has them: whether any fits, the known facts, those of them that are so -/
abbrev fT : Type := Bool × Int32 × Int32
def isF (f : Nat) (v h : Int32) : Int32 := if (0 < v ↔ h = 1) then one_ f else 0
def nrw (s : fT) (f : Nat) (v h : Int32) : fT := if v = 0 ∨ h < 0 then (s.1 && decide (v = 0) && decide (h < 0), s.2.1, s.2.2) else (s.1 && !(decide (¬ s.2.1 &&& one_ f = 0) && decide (¬ s.2.2 &&& one_ f = isF f v h)), s.2.1 ||| one_ f, s.2.2 ||| isF f v h)
def gfF (S : xSem) (G : Nat → Int32) (k : Nat) : fT := iF (fun r s => nrw s (cN (G (59 + 3 * r + 1))) (voc (clH S G r)) (G (59 + 3 * r + 2))) (true, 0, 0) k
theorem gfF_succ (S : xSem) (G : Nat → Int32) (k : Nat) : gfF S G (k + 1) = nrw (gfF S G k) (cN (G (59 + 3 * k + 1))) (voc (clH S G k)) (G (59 + 3 * k + 2)) := rfl
def szF (s : fT) : Int32 := if s.1 = true then 1 <<< ((8 - jBC s.2.1) &&& 31) else 0
def lfJ (s : fT) (f : Nat) (v : Int32) : Int32 := if v = 0 ∨ ¬ bit s.2.1 f = 0 then szF s else szF s / 2
def nj2 (s : fT) (S : xSem) (G : Nat → Int32) (i f : Nat) (b : Int32 × Int32) : Int32 × Int32 := if lfJ s f (voc (Clr S i (pV G i) f)) < b.2 then (nI (10 * i + f), lfJ s f (voc (Clr S i (pV G i) f))) else b
def nj1 (s : fT) (S : xSem) (G : Nat → Int32) (i : Nat) (b : Int32 × Int32) (k : Nat) : Int32 × Int32 := iF (fun f b => nj2 s S G i f b) b k
def njA (s : fT) (S : xSem) (G : Nat → Int32) (n : Nat) : Int32 × Int32 := iF (fun i b => nj1 s S G i b 8) (-5, szF s + 1) n
theorem nj1_0 (s : fT) (S : xSem) (G : Nat → Int32) (i : Nat) (b : Int32 × Int32) : nj1 s S G i b 0 = b := rfl
theorem nj1_succ (s : fT) (S : xSem) (G : Nat → Int32) (i : Nat) (b : Int32 × Int32) (k : Nat) : nj1 s S G i b (k + 1) = nj2 s S G i k (nj1 s S G i b k) := rfl
theorem njA_succ (s : fT) (S : xSem) (G : Nat → Int32) (n : Nat) : njA s S G (n + 1) = nj1 s S G n (njA s S G n) 8 := by simp only [njA, iF_succ]
def nxJ (s : fT) (S : xSem) (G : Nat → Int32) (n : Nat) : Int32 := if s.1 = true then (njA s S G n).1 else -5
def tofJ (s : fT) (S : xSem) (G : Nat → Int32) (n : Nat) (w : Int32) : Int32 := if w = 3 then szF s else if w = 4 then (if s.1 = true then s.2.2 else -5) else if w = 5 then (if s.1 = true then s.2.2 else 0) else if w = 6 then (if s.1 = true then s.2.1 &&& (s.2.2 ^^^ (-1)) else 255) else if w = 7 then nxJ s S G n else -10001
def toldJ (S : xSem) (G : Nat → Int32) (n m : Nat) (w : Int32) : Int32 := if 10 ≤ w ∧ w < 18 then iS (fnd1 S G (cN (w - 10))) n else if w = 0 then G 56 else if w = 1 then kpS S else if w = 2 then G 55 else tofJ (gfF S G m) S G n w
def oddJ (s : fT) (f pt : Int32) : Int64 := if rng f 0 7 ∧ rng pt 0 1 then (if s.1 = true then (if pt = 1 then (if bit s.2.1 (cN f) = 0 then 2 else 1) else (if ¬ bit s.2.1 (cN f) = 0 ∧ bit s.2.2 (cN f) = 0 then 0 else 1)) else -9223372036854775808) else -9223372036854775808
def RepF (σ : xSt) (s : fT) : Prop := σ.1 98 0 = bI s.1 ∧ σ.1 98 1 = s.2.1 ∧ σ.1 98 2 = s.2.2
abbrev fC (c : Nat) : Prop := c = 98
theorem JK.f {σ τ : xSt} (h : Un fC σ τ) : JK σ τ := h.mono (fun c hc => Or.inr (Or.inl hc))
/-- of the heard rows: pots that are there, facts -/
def HRn (n : Nat) (G : Nat → Int32) (m : Nat) : Prop := ∀ r, r < m → (∃ p, p < n ∧ G (59 + 3 * r) = nI p) ∧ ∃ f, f < 8 ∧ G (59 + 3 * r + 1) = nI f
theorem HRn.o {n : Nat} {G : Nat → Int32} {m : Nat} (h : HRn n G m) (h6 : n ≤ 6) : HRo G m := fun r hr => ⟨let ⟨p, hp, e⟩ := (h r hr).1; ⟨p, by omega, e⟩, (h r hr).2⟩

theorem sX2_startAnew {d : Nat} (hd : 0 ≤ d) {σ : xSt} {Post : Option Value → xSt → Prop}  (h : ∀ τ, Un fC σ τ → RepF τ (true, 0, 0) → Post none τ) : xM kX2_startAnew d [.ref 98] σ Post := by
  refine xM_start (lv := [some (.ref 98)]) rfl ?_
  refine xe_aload_n dX2_startAnew_0 rfl ?_
  refine xe_iconst (v := 1) dX2_startAnew_1 rfl ?_
  refine xe_putf dX2_startAnew_2 flX2_9 (by decide) rfl rfl (by first | rfl | decide | assumption | exact bI_nar _ | exact xb_narrow rfl | exact xb_narrow (by assumption)) rfl ?_
  refine xe_aload_n dX2_startAnew_5 rfl ?_
  refine xe_iconst (v := 0) dX2_startAnew_6 rfl ?_
  refine xe_putf dX2_startAnew_7 flX2_15 (by decide) rfl rfl rfl rfl ?_
  refine xe_aload_n dX2_startAnew_10 rfl ?_
  refine xe_iconst (v := 0) dX2_startAnew_11 rfl ?_
  refine xe_putf dX2_startAnew_12 flX2_19 (by decide) rfl rfl rfl rfl ?_
  refine xe_vret dX2_startAnew_15 rfl ?_
  refine h _ (((Un.F (P := fC) rfl).tr (Un.F rfl)).tr (Un.F rfl)) ⟨?_, ?_, ?_⟩
  · rw [xsF_ne (by omega), xsF_ne (by omega), xsF_get]; rfl
  · rw [xsF_ne (by omega), xsF_get]
  · rw [xsF_get]

theorem lX2_narrow68 {d : Nat} {σ : xSt} {Post : Option Value → xSt → Prop} (a : Bool) (kn so is : Int32) (f : Nat) (v hh : Int32) (e0 : σ.1 98 0 = bI a) (e1 : σ.1 98 1 = kn) (e2 : σ.1 98 2 = so) (h : ∀ τ, Un fC σ τ → RepF τ (a && !(decide (¬ kn &&& one_ f = 0) && decide (¬ so &&& one_ f = is)), kn ||| one_ f, so ||| is) → Post none τ) : xEv kX2_narrow d 68 [some (.ref 98), some (.int (nI f)), some (.int v), some (.int hh), some (.int (one_ f)), some (.int is)] [] σ Post := by
  refine xe_aload_n dX2_narrow_68 rfl ?_
  refine xe_getf dX2_narrow_69 flX2_15 (by decide) rfl rfl ?_
  rw [e1]
  refine xe_iload dX2_narrow_72 rfl ?_
  refine xe_iand dX2_narrow_74 ?_
  refine xe_if_eq (tgt := 95) dX2_narrow_75 (by decide) (fun h75 => ?_) (fun h75 => ?_)
  · refine xe_aload_n dX2_narrow_95 rfl ?_
    refine xe_dup dX2_narrow_96 rfl ?_
    refine xe_getf dX2_narrow_97 flX2_15 (by decide) rfl rfl ?_
    first | rw [e1] | rw [xsF_ne (by omega), e1]
    refine xe_iload dX2_narrow_100 rfl ?_
    refine xe_ior dX2_narrow_102 ?_
    refine xe_putf dX2_narrow_103 flX2_15 (by decide) rfl rfl rfl rfl ?_
    refine xe_aload_n dX2_narrow_106 rfl ?_
    refine xe_dup dX2_narrow_107 rfl ?_
    refine xe_getf dX2_narrow_108 flX2_19 (by decide) rfl rfl ?_
    first | rw [xsF_ne (by omega), e2] | rw [xsF_ne (by omega), xsF_ne (by omega), e2]
    refine xe_iload dX2_narrow_111 rfl ?_
    refine xe_ior dX2_narrow_113 ?_
    refine xe_putf dX2_narrow_114 flX2_19 (by decide) rfl rfl rfl rfl ?_
    refine xe_vret dX2_narrow_117 rfl ?_
    first
    | (rw [decide_eq_false (p := ¬ kn &&& one_ f = 0) (fun z => z h75)] at h; exact h _ ((Un.F (P := fC) rfl).tr (Un.F rfl)) ⟨(by rw [xsF_ne (by omega), xsF_ne (by omega), e0]; cases a <;> rfl), (by rw [xsF_ne (by omega), xsF_get]), xsF_get⟩)
    | (rw [decide_eq_false (p := ¬ so &&& one_ f = is) (fun z => z h87), Bool.and_false] at h; exact h _ ((Un.F (P := fC) rfl).tr (Un.F rfl)) ⟨(by rw [xsF_ne (by omega), xsF_ne (by omega), e0]; cases a <;> rfl), (by rw [xsF_ne (by omega), xsF_get]), xsF_get⟩)
    | (rw [decide_eq_true (p := ¬ kn &&& one_ f = 0) h75, decide_eq_true (p := ¬ so &&& one_ f = is) h87] at h; exact h _ (((Un.F (P := fC) rfl).tr (Un.F rfl)).tr (Un.F rfl)) ⟨(by rw [xsF_ne (by omega), xsF_ne (by omega), xsF_get]; cases a <;> rfl), (by rw [xsF_ne (by omega), xsF_get]), xsF_get⟩)
  · refine xe_aload_n dX2_narrow_78 rfl ?_
    refine xe_getf dX2_narrow_79 flX2_19 (by decide) rfl rfl ?_
    rw [e2]
    refine xe_iload dX2_narrow_82 rfl ?_
    refine xe_iand dX2_narrow_84 ?_
    refine xe_iload dX2_narrow_85 rfl ?_
    refine xe_icmp_eq (tgt := 95) dX2_narrow_87 (by decide) (fun h87 => ?_) (fun h87 => ?_)
    · refine xe_aload_n dX2_narrow_95 rfl ?_
      refine xe_dup dX2_narrow_96 rfl ?_
      refine xe_getf dX2_narrow_97 flX2_15 (by decide) rfl rfl ?_
      first | rw [e1] | rw [xsF_ne (by omega), e1]
      refine xe_iload dX2_narrow_100 rfl ?_
      refine xe_ior dX2_narrow_102 ?_
      refine xe_putf dX2_narrow_103 flX2_15 (by decide) rfl rfl rfl rfl ?_
      refine xe_aload_n dX2_narrow_106 rfl ?_
      refine xe_dup dX2_narrow_107 rfl ?_
      refine xe_getf dX2_narrow_108 flX2_19 (by decide) rfl rfl ?_
      first | rw [xsF_ne (by omega), e2] | rw [xsF_ne (by omega), xsF_ne (by omega), e2]
      refine xe_iload dX2_narrow_111 rfl ?_
      refine xe_ior dX2_narrow_113 ?_
      refine xe_putf dX2_narrow_114 flX2_19 (by decide) rfl rfl rfl rfl ?_
      refine xe_vret dX2_narrow_117 rfl ?_
      first
      | (rw [decide_eq_false (p := ¬ kn &&& one_ f = 0) (fun z => z h75)] at h; exact h _ ((Un.F (P := fC) rfl).tr (Un.F rfl)) ⟨(by rw [xsF_ne (by omega), xsF_ne (by omega), e0]; cases a <;> rfl), (by rw [xsF_ne (by omega), xsF_get]), xsF_get⟩)
      | (rw [decide_eq_false (p := ¬ so &&& one_ f = is) (fun z => z h87), Bool.and_false] at h; exact h _ ((Un.F (P := fC) rfl).tr (Un.F rfl)) ⟨(by rw [xsF_ne (by omega), xsF_ne (by omega), e0]; cases a <;> rfl), (by rw [xsF_ne (by omega), xsF_get]), xsF_get⟩)
      | (rw [decide_eq_true (p := ¬ kn &&& one_ f = 0) h75, decide_eq_true (p := ¬ so &&& one_ f = is) h87] at h; exact h _ (((Un.F (P := fC) rfl).tr (Un.F rfl)).tr (Un.F rfl)) ⟨(by rw [xsF_ne (by omega), xsF_ne (by omega), xsF_get]; cases a <;> rfl), (by rw [xsF_ne (by omega), xsF_get]), xsF_get⟩)
    · refine xe_aload_n dX2_narrow_90 rfl ?_
      refine xe_iconst (v := 0) dX2_narrow_91 rfl ?_
      refine xe_putf dX2_narrow_92 flX2_9 (by decide) rfl rfl (by first | rfl | decide | assumption | exact bI_nar _ | exact xb_narrow rfl | exact xb_narrow (by assumption)) rfl ?_
      refine xe_aload_n dX2_narrow_95 rfl ?_
      refine xe_dup dX2_narrow_96 rfl ?_
      refine xe_getf dX2_narrow_97 flX2_15 (by decide) rfl rfl ?_
      first | rw [e1] | rw [xsF_ne (by omega), e1]
      refine xe_iload dX2_narrow_100 rfl ?_
      refine xe_ior dX2_narrow_102 ?_
      refine xe_putf dX2_narrow_103 flX2_15 (by decide) rfl rfl rfl rfl ?_
      refine xe_aload_n dX2_narrow_106 rfl ?_
      refine xe_dup dX2_narrow_107 rfl ?_
      refine xe_getf dX2_narrow_108 flX2_19 (by decide) rfl rfl ?_
      first | rw [xsF_ne (by omega), e2] | rw [xsF_ne (by omega), xsF_ne (by omega), e2]
      refine xe_iload dX2_narrow_111 rfl ?_
      refine xe_ior dX2_narrow_113 ?_
      refine xe_putf dX2_narrow_114 flX2_19 (by decide) rfl rfl rfl rfl ?_
      refine xe_vret dX2_narrow_117 rfl ?_
      first
      | (rw [decide_eq_false (p := ¬ kn &&& one_ f = 0) (fun z => z h75)] at h; exact h _ ((Un.F (P := fC) rfl).tr (Un.F rfl)) ⟨(by rw [xsF_ne (by omega), xsF_ne (by omega), e0]; cases a <;> rfl), (by rw [xsF_ne (by omega), xsF_get]), xsF_get⟩)
      | (rw [decide_eq_false (p := ¬ so &&& one_ f = is) (fun z => z h87), Bool.and_false] at h; exact h _ ((Un.F (P := fC) rfl).tr (Un.F rfl)) ⟨(by rw [xsF_ne (by omega), xsF_ne (by omega), e0]; cases a <;> rfl), (by rw [xsF_ne (by omega), xsF_get]), xsF_get⟩)
      | (rw [decide_eq_true (p := ¬ kn &&& one_ f = 0) h75, decide_eq_true (p := ¬ so &&& one_ f = is) h87] at h; exact h _ (((Un.F (P := fC) rfl).tr (Un.F rfl)).tr (Un.F rfl)) ⟨(by rw [xsF_ne (by omega), xsF_ne (by omega), xsF_get]; cases a <;> rfl), (by rw [xsF_ne (by omega), xsF_get]), xsF_get⟩)

theorem sX2_narrow {d : Nat} (hd : 0 ≤ d) {σ : xSt} {Post : Option Value → xSt → Prop} (s : fT) (f : Nat) (v hh : Int32) (hs : RepF σ s) (h : ∀ τ, Un fC σ τ → RepF τ (nrw s f v hh) → Post none τ) : xM kX2_narrow d [.ref 98, .int (nI f), .int v, .int hh] σ Post := by
  refine xM_start (lv := [some (.ref 98), some (.int (nI f)), some (.int v), some (.int hh), none, none]) rfl ?_
  obtain ⟨e0, e1, e2⟩ := hs
  refine xe_iload_n dX2_narrow_0 rfl ?_
  refine xe_if_eq (tgt := 8) dX2_narrow_1 (by decide) (fun h1 => ?_) (fun h1 => ?_)
  · refine xe_aload_n dX2_narrow_8 rfl ?_
    refine xe_aload_n dX2_narrow_9 rfl ?_
    refine xe_getf dX2_narrow_10 flX2_9 (by decide) rfl rfl ?_
    refine xe_if_eq (tgt := 28) dX2_narrow_13 (by decide) (fun h13 => ?_) (fun h13 => ?_)
    · refine xe_iconst (v := 0) dX2_narrow_28 rfl ?_
      refine xe_putf dX2_narrow_29 flX2_9 (by decide) rfl rfl (by first | rfl | decide | assumption | exact bI_nar _ | exact xb_narrow rfl | exact xb_narrow (by assumption)) rfl ?_
      refine xe_vret dX2_narrow_32 rfl ?_
      have c : v = 0 ∨ hh < 0 := by first | exact Or.inl h1 | exact Or.inr (Int32.not_le.mp h5)
      rw [nrw, if_pos c] at h
      refine h _ (Un.F rfl) ⟨?_, ?_, ?_⟩
      · rw [xsF_get]
        first
        | (rw [show s.1 = false from bI_eq0.mp (e0.symm.trans h13)]; rfl)
        | (rw [decide_eq_false (show ¬ v = 0 from h17), Bool.and_false, Bool.false_and]; rfl)
        | (rw [decide_eq_false (show ¬ hh < 0 from Int32.not_lt.mpr h21), Bool.and_false]; rfl)
        | (rw [show s.1 = true from bI_ne0.mp (fun z => h13 (e0.trans z)), decide_eq_true (show v = 0 from h17), decide_eq_true (show hh < 0 from Int32.not_le.mp h21)]; rfl)
      · rw [xsF_ne (by omega)]; exact e1
      · rw [xsF_ne (by omega)]; exact e2
    · refine xe_iload_n dX2_narrow_16 rfl ?_
      refine xe_if_ne (tgt := 28) dX2_narrow_17 (by decide) (fun h17 => ?_) (fun h17 => ?_)
      · refine xe_iconst (v := 0) dX2_narrow_28 rfl ?_
        refine xe_putf dX2_narrow_29 flX2_9 (by decide) rfl rfl (by first | rfl | decide | assumption | exact bI_nar _ | exact xb_narrow rfl | exact xb_narrow (by assumption)) rfl ?_
        refine xe_vret dX2_narrow_32 rfl ?_
        have c : v = 0 ∨ hh < 0 := by first | exact Or.inl h1 | exact Or.inr (Int32.not_le.mp h5)
        rw [nrw, if_pos c] at h
        refine h _ (Un.F rfl) ⟨?_, ?_, ?_⟩
        · rw [xsF_get]
          first
          | (rw [show s.1 = false from bI_eq0.mp (e0.symm.trans h13)]; rfl)
          | (rw [decide_eq_false (show ¬ v = 0 from h17), Bool.and_false, Bool.false_and]; rfl)
          | (rw [decide_eq_false (show ¬ hh < 0 from Int32.not_lt.mpr h21), Bool.and_false]; rfl)
          | (rw [show s.1 = true from bI_ne0.mp (fun z => h13 (e0.trans z)), decide_eq_true (show v = 0 from h17), decide_eq_true (show hh < 0 from Int32.not_le.mp h21)]; rfl)
        · rw [xsF_ne (by omega)]; exact e1
        · rw [xsF_ne (by omega)]; exact e2
      · refine xe_iload_n dX2_narrow_20 rfl ?_
        refine xe_if_ge (tgt := 28) dX2_narrow_21 (by decide) (fun h21 => ?_) (fun h21 => ?_)
        · refine xe_iconst (v := 0) dX2_narrow_28 rfl ?_
          refine xe_putf dX2_narrow_29 flX2_9 (by decide) rfl rfl (by first | rfl | decide | assumption | exact bI_nar _ | exact xb_narrow rfl | exact xb_narrow (by assumption)) rfl ?_
          refine xe_vret dX2_narrow_32 rfl ?_
          have c : v = 0 ∨ hh < 0 := by first | exact Or.inl h1 | exact Or.inr (Int32.not_le.mp h5)
          rw [nrw, if_pos c] at h
          refine h _ (Un.F rfl) ⟨?_, ?_, ?_⟩
          · rw [xsF_get]
            first
            | (rw [show s.1 = false from bI_eq0.mp (e0.symm.trans h13)]; rfl)
            | (rw [decide_eq_false (show ¬ v = 0 from h17), Bool.and_false, Bool.false_and]; rfl)
            | (rw [decide_eq_false (show ¬ hh < 0 from Int32.not_lt.mpr h21), Bool.and_false]; rfl)
            | (rw [show s.1 = true from bI_ne0.mp (fun z => h13 (e0.trans z)), decide_eq_true (show v = 0 from h17), decide_eq_true (show hh < 0 from Int32.not_le.mp h21)]; rfl)
          · rw [xsF_ne (by omega)]; exact e1
          · rw [xsF_ne (by omega)]; exact e2
        · refine xe_iconst (v := 1) dX2_narrow_24 rfl ?_
          refine xe_goto (tgt := 29) dX2_narrow_25 (by decide) ?_
          refine xe_putf dX2_narrow_29 flX2_9 (by decide) rfl rfl (by first | rfl | decide | assumption | exact bI_nar _ | exact xb_narrow rfl | exact xb_narrow (by assumption)) rfl ?_
          refine xe_vret dX2_narrow_32 rfl ?_
          have c : v = 0 ∨ hh < 0 := by first | exact Or.inl h1 | exact Or.inr (Int32.not_le.mp h5)
          rw [nrw, if_pos c] at h
          refine h _ (Un.F rfl) ⟨?_, ?_, ?_⟩
          · rw [xsF_get]
            first
            | (rw [show s.1 = false from bI_eq0.mp (e0.symm.trans h13)]; rfl)
            | (rw [decide_eq_false (show ¬ v = 0 from h17), Bool.and_false, Bool.false_and]; rfl)
            | (rw [decide_eq_false (show ¬ hh < 0 from Int32.not_lt.mpr h21), Bool.and_false]; rfl)
            | (rw [show s.1 = true from bI_ne0.mp (fun z => h13 (e0.trans z)), decide_eq_true (show v = 0 from h17), decide_eq_true (show hh < 0 from Int32.not_le.mp h21)]; rfl)
          · rw [xsF_ne (by omega)]; exact e1
          · rw [xsF_ne (by omega)]; exact e2
  · refine xe_iload_n dX2_narrow_4 rfl ?_
    refine xe_if_ge (tgt := 33) dX2_narrow_5 (by decide) (fun h5 => ?_) (fun h5 => ?_)
    · refine xe_iconst (v := 1) dX2_narrow_33 rfl ?_
      refine xe_iload_n dX2_narrow_34 rfl ?_
      refine xe_ishl dX2_narrow_35 ?_
      refine xe_istore (lv2 := [_, _, _, _, _, _]) dX2_narrow_36 (by decide) rfl ?_
      refine xe_iload_n dX2_narrow_38 rfl ?_
      refine xe_if_le (tgt := 46) dX2_narrow_39 (by decide) (fun h39 => ?_) (fun h39 => ?_)
      · refine xe_iconst (v := 0) dX2_narrow_46 rfl ?_
        refine xe_iload_n dX2_narrow_47 rfl ?_
        refine xe_iconst (v := 1) dX2_narrow_48 rfl ?_
        refine xe_icmp_ne (tgt := 56) dX2_narrow_49 (by decide) (fun h49 => ?_) (fun h49 => ?_)
        · refine xe_iconst (v := 0) dX2_narrow_56 rfl ?_
          refine xe_icmp_ne (tgt := 65) dX2_narrow_57 (by decide) (fun h57 => ?_) (fun h57 => ?_)
          · first
            | exact absurd h57 (by decide)
            | skip
              refine xe_iconst (v := 0) dX2_narrow_65 rfl ?_
              refine xe_top (x2 := isF f v hh) ?_ ?_
              · first
                | exact (if_pos (c := (0 < v ↔ hh = 1)) ⟨fun _ => h49, fun _ => Int32.not_le.mp h39⟩).symm
                | exact (if_neg (c := (0 < v ↔ hh = 1)) (fun z => h49 (z.mp (Int32.not_le.mp h39)))).symm
                | exact (if_neg (c := (0 < v ↔ hh = 1)) (fun z => absurd (z.mpr h49) (Int32.not_lt.mpr h39))).symm
                | exact (if_pos (c := (0 < v ↔ hh = 1)) ⟨fun q => absurd q (Int32.not_lt.mpr h39), fun q => absurd q h49⟩).symm
              refine xe_istore (lv2 := [_, _, _, _, _, _]) dX2_narrow_66 (by decide) rfl ?_
              rw [nrw, if_neg (fun z => z.elim h1 (Int32.not_lt.mpr h5))] at h
              exact lX2_narrow68 (d := d) s.1 s.2.1 s.2.2 (isF f v hh) f v hh e0 e1 e2 h
          · first
            | exact absurd h57 (by decide)
            | skip
              refine xe_iload dX2_narrow_60 rfl ?_
              refine xe_goto (tgt := 66) dX2_narrow_62 (by decide) ?_
              refine xe_top (x2 := isF f v hh) ?_ ?_
              · first
                | exact (if_pos (c := (0 < v ↔ hh = 1)) ⟨fun _ => h49, fun _ => Int32.not_le.mp h39⟩).symm
                | exact (if_neg (c := (0 < v ↔ hh = 1)) (fun z => h49 (z.mp (Int32.not_le.mp h39)))).symm
                | exact (if_neg (c := (0 < v ↔ hh = 1)) (fun z => absurd (z.mpr h49) (Int32.not_lt.mpr h39))).symm
                | exact (if_pos (c := (0 < v ↔ hh = 1)) ⟨fun q => absurd q (Int32.not_lt.mpr h39), fun q => absurd q h49⟩).symm
              refine xe_istore (lv2 := [_, _, _, _, _, _]) dX2_narrow_66 (by decide) rfl ?_
              rw [nrw, if_neg (fun z => z.elim h1 (Int32.not_lt.mpr h5))] at h
              exact lX2_narrow68 (d := d) s.1 s.2.1 s.2.2 (isF f v hh) f v hh e0 e1 e2 h
        · refine xe_iconst (v := 1) dX2_narrow_52 rfl ?_
          refine xe_goto (tgt := 57) dX2_narrow_53 (by decide) ?_
          refine xe_icmp_ne (tgt := 65) dX2_narrow_57 (by decide) (fun h57 => ?_) (fun h57 => ?_)
          · first
            | exact absurd h57 (by decide)
            | skip
              refine xe_iconst (v := 0) dX2_narrow_65 rfl ?_
              refine xe_top (x2 := isF f v hh) ?_ ?_
              · first
                | exact (if_pos (c := (0 < v ↔ hh = 1)) ⟨fun _ => h49, fun _ => Int32.not_le.mp h39⟩).symm
                | exact (if_neg (c := (0 < v ↔ hh = 1)) (fun z => h49 (z.mp (Int32.not_le.mp h39)))).symm
                | exact (if_neg (c := (0 < v ↔ hh = 1)) (fun z => absurd (z.mpr h49) (Int32.not_lt.mpr h39))).symm
                | exact (if_pos (c := (0 < v ↔ hh = 1)) ⟨fun q => absurd q (Int32.not_lt.mpr h39), fun q => absurd q h49⟩).symm
              refine xe_istore (lv2 := [_, _, _, _, _, _]) dX2_narrow_66 (by decide) rfl ?_
              rw [nrw, if_neg (fun z => z.elim h1 (Int32.not_lt.mpr h5))] at h
              exact lX2_narrow68 (d := d) s.1 s.2.1 s.2.2 (isF f v hh) f v hh e0 e1 e2 h
          · first
            | exact absurd h57 (by decide)
            | skip
              refine xe_iload dX2_narrow_60 rfl ?_
              refine xe_goto (tgt := 66) dX2_narrow_62 (by decide) ?_
              refine xe_top (x2 := isF f v hh) ?_ ?_
              · first
                | exact (if_pos (c := (0 < v ↔ hh = 1)) ⟨fun _ => h49, fun _ => Int32.not_le.mp h39⟩).symm
                | exact (if_neg (c := (0 < v ↔ hh = 1)) (fun z => h49 (z.mp (Int32.not_le.mp h39)))).symm
                | exact (if_neg (c := (0 < v ↔ hh = 1)) (fun z => absurd (z.mpr h49) (Int32.not_lt.mpr h39))).symm
                | exact (if_pos (c := (0 < v ↔ hh = 1)) ⟨fun q => absurd q (Int32.not_lt.mpr h39), fun q => absurd q h49⟩).symm
              refine xe_istore (lv2 := [_, _, _, _, _, _]) dX2_narrow_66 (by decide) rfl ?_
              rw [nrw, if_neg (fun z => z.elim h1 (Int32.not_lt.mpr h5))] at h
              exact lX2_narrow68 (d := d) s.1 s.2.1 s.2.2 (isF f v hh) f v hh e0 e1 e2 h
      · refine xe_iconst (v := 1) dX2_narrow_42 rfl ?_
        refine xe_goto (tgt := 47) dX2_narrow_43 (by decide) ?_
        refine xe_iload_n dX2_narrow_47 rfl ?_
        refine xe_iconst (v := 1) dX2_narrow_48 rfl ?_
        refine xe_icmp_ne (tgt := 56) dX2_narrow_49 (by decide) (fun h49 => ?_) (fun h49 => ?_)
        · refine xe_iconst (v := 0) dX2_narrow_56 rfl ?_
          refine xe_icmp_ne (tgt := 65) dX2_narrow_57 (by decide) (fun h57 => ?_) (fun h57 => ?_)
          · first
            | exact absurd h57 (by decide)
            | skip
              refine xe_iconst (v := 0) dX2_narrow_65 rfl ?_
              refine xe_top (x2 := isF f v hh) ?_ ?_
              · first
                | exact (if_pos (c := (0 < v ↔ hh = 1)) ⟨fun _ => h49, fun _ => Int32.not_le.mp h39⟩).symm
                | exact (if_neg (c := (0 < v ↔ hh = 1)) (fun z => h49 (z.mp (Int32.not_le.mp h39)))).symm
                | exact (if_neg (c := (0 < v ↔ hh = 1)) (fun z => absurd (z.mpr h49) (Int32.not_lt.mpr h39))).symm
                | exact (if_pos (c := (0 < v ↔ hh = 1)) ⟨fun q => absurd q (Int32.not_lt.mpr h39), fun q => absurd q h49⟩).symm
              refine xe_istore (lv2 := [_, _, _, _, _, _]) dX2_narrow_66 (by decide) rfl ?_
              rw [nrw, if_neg (fun z => z.elim h1 (Int32.not_lt.mpr h5))] at h
              exact lX2_narrow68 (d := d) s.1 s.2.1 s.2.2 (isF f v hh) f v hh e0 e1 e2 h
          · first
            | exact absurd h57 (by decide)
            | skip
              refine xe_iload dX2_narrow_60 rfl ?_
              refine xe_goto (tgt := 66) dX2_narrow_62 (by decide) ?_
              refine xe_top (x2 := isF f v hh) ?_ ?_
              · first
                | exact (if_pos (c := (0 < v ↔ hh = 1)) ⟨fun _ => h49, fun _ => Int32.not_le.mp h39⟩).symm
                | exact (if_neg (c := (0 < v ↔ hh = 1)) (fun z => h49 (z.mp (Int32.not_le.mp h39)))).symm
                | exact (if_neg (c := (0 < v ↔ hh = 1)) (fun z => absurd (z.mpr h49) (Int32.not_lt.mpr h39))).symm
                | exact (if_pos (c := (0 < v ↔ hh = 1)) ⟨fun q => absurd q (Int32.not_lt.mpr h39), fun q => absurd q h49⟩).symm
              refine xe_istore (lv2 := [_, _, _, _, _, _]) dX2_narrow_66 (by decide) rfl ?_
              rw [nrw, if_neg (fun z => z.elim h1 (Int32.not_lt.mpr h5))] at h
              exact lX2_narrow68 (d := d) s.1 s.2.1 s.2.2 (isF f v hh) f v hh e0 e1 e2 h
        · refine xe_iconst (v := 1) dX2_narrow_52 rfl ?_
          refine xe_goto (tgt := 57) dX2_narrow_53 (by decide) ?_
          refine xe_icmp_ne (tgt := 65) dX2_narrow_57 (by decide) (fun h57 => ?_) (fun h57 => ?_)
          · first
            | exact absurd h57 (by decide)
            | skip
              refine xe_iconst (v := 0) dX2_narrow_65 rfl ?_
              refine xe_top (x2 := isF f v hh) ?_ ?_
              · first
                | exact (if_pos (c := (0 < v ↔ hh = 1)) ⟨fun _ => h49, fun _ => Int32.not_le.mp h39⟩).symm
                | exact (if_neg (c := (0 < v ↔ hh = 1)) (fun z => h49 (z.mp (Int32.not_le.mp h39)))).symm
                | exact (if_neg (c := (0 < v ↔ hh = 1)) (fun z => absurd (z.mpr h49) (Int32.not_lt.mpr h39))).symm
                | exact (if_pos (c := (0 < v ↔ hh = 1)) ⟨fun q => absurd q (Int32.not_lt.mpr h39), fun q => absurd q h49⟩).symm
              refine xe_istore (lv2 := [_, _, _, _, _, _]) dX2_narrow_66 (by decide) rfl ?_
              rw [nrw, if_neg (fun z => z.elim h1 (Int32.not_lt.mpr h5))] at h
              exact lX2_narrow68 (d := d) s.1 s.2.1 s.2.2 (isF f v hh) f v hh e0 e1 e2 h
          · first
            | exact absurd h57 (by decide)
            | skip
              refine xe_iload dX2_narrow_60 rfl ?_
              refine xe_goto (tgt := 66) dX2_narrow_62 (by decide) ?_
              refine xe_top (x2 := isF f v hh) ?_ ?_
              · first
                | exact (if_pos (c := (0 < v ↔ hh = 1)) ⟨fun _ => h49, fun _ => Int32.not_le.mp h39⟩).symm
                | exact (if_neg (c := (0 < v ↔ hh = 1)) (fun z => h49 (z.mp (Int32.not_le.mp h39)))).symm
                | exact (if_neg (c := (0 < v ↔ hh = 1)) (fun z => absurd (z.mpr h49) (Int32.not_lt.mpr h39))).symm
                | exact (if_pos (c := (0 < v ↔ hh = 1)) ⟨fun q => absurd q (Int32.not_lt.mpr h39), fun q => absurd q h49⟩).symm
              refine xe_istore (lv2 := [_, _, _, _, _, _]) dX2_narrow_66 (by decide) rfl ?_
              rw [nrw, if_neg (fun z => z.elim h1 (Int32.not_lt.mpr h5))] at h
              exact lX2_narrow68 (d := d) s.1 s.2.1 s.2.2 (isF f v hh) f v hh e0 e1 e2 h
    · refine xe_aload_n dX2_narrow_8 rfl ?_
      refine xe_aload_n dX2_narrow_9 rfl ?_
      refine xe_getf dX2_narrow_10 flX2_9 (by decide) rfl rfl ?_
      refine xe_if_eq (tgt := 28) dX2_narrow_13 (by decide) (fun h13 => ?_) (fun h13 => ?_)
      · refine xe_iconst (v := 0) dX2_narrow_28 rfl ?_
        refine xe_putf dX2_narrow_29 flX2_9 (by decide) rfl rfl (by first | rfl | decide | assumption | exact bI_nar _ | exact xb_narrow rfl | exact xb_narrow (by assumption)) rfl ?_
        refine xe_vret dX2_narrow_32 rfl ?_
        have c : v = 0 ∨ hh < 0 := by first | exact Or.inl h1 | exact Or.inr (Int32.not_le.mp h5)
        rw [nrw, if_pos c] at h
        refine h _ (Un.F rfl) ⟨?_, ?_, ?_⟩
        · rw [xsF_get]
          first
          | (rw [show s.1 = false from bI_eq0.mp (e0.symm.trans h13)]; rfl)
          | (rw [decide_eq_false (show ¬ v = 0 from h17), Bool.and_false, Bool.false_and]; rfl)
          | (rw [decide_eq_false (show ¬ hh < 0 from Int32.not_lt.mpr h21), Bool.and_false]; rfl)
          | (rw [show s.1 = true from bI_ne0.mp (fun z => h13 (e0.trans z)), decide_eq_true (show v = 0 from h17), decide_eq_true (show hh < 0 from Int32.not_le.mp h21)]; rfl)
        · rw [xsF_ne (by omega)]; exact e1
        · rw [xsF_ne (by omega)]; exact e2
      · refine xe_iload_n dX2_narrow_16 rfl ?_
        refine xe_if_ne (tgt := 28) dX2_narrow_17 (by decide) (fun h17 => ?_) (fun h17 => ?_)
        · refine xe_iconst (v := 0) dX2_narrow_28 rfl ?_
          refine xe_putf dX2_narrow_29 flX2_9 (by decide) rfl rfl (by first | rfl | decide | assumption | exact bI_nar _ | exact xb_narrow rfl | exact xb_narrow (by assumption)) rfl ?_
          refine xe_vret dX2_narrow_32 rfl ?_
          have c : v = 0 ∨ hh < 0 := by first | exact Or.inl h1 | exact Or.inr (Int32.not_le.mp h5)
          rw [nrw, if_pos c] at h
          refine h _ (Un.F rfl) ⟨?_, ?_, ?_⟩
          · rw [xsF_get]
            first
            | (rw [show s.1 = false from bI_eq0.mp (e0.symm.trans h13)]; rfl)
            | (rw [decide_eq_false (show ¬ v = 0 from h17), Bool.and_false, Bool.false_and]; rfl)
            | (rw [decide_eq_false (show ¬ hh < 0 from Int32.not_lt.mpr h21), Bool.and_false]; rfl)
            | (rw [show s.1 = true from bI_ne0.mp (fun z => h13 (e0.trans z)), decide_eq_true (show v = 0 from h17), decide_eq_true (show hh < 0 from Int32.not_le.mp h21)]; rfl)
          · rw [xsF_ne (by omega)]; exact e1
          · rw [xsF_ne (by omega)]; exact e2
        · refine xe_iload_n dX2_narrow_20 rfl ?_
          refine xe_if_ge (tgt := 28) dX2_narrow_21 (by decide) (fun h21 => ?_) (fun h21 => ?_)
          · refine xe_iconst (v := 0) dX2_narrow_28 rfl ?_
            refine xe_putf dX2_narrow_29 flX2_9 (by decide) rfl rfl (by first | rfl | decide | assumption | exact bI_nar _ | exact xb_narrow rfl | exact xb_narrow (by assumption)) rfl ?_
            refine xe_vret dX2_narrow_32 rfl ?_
            have c : v = 0 ∨ hh < 0 := by first | exact Or.inl h1 | exact Or.inr (Int32.not_le.mp h5)
            rw [nrw, if_pos c] at h
            refine h _ (Un.F rfl) ⟨?_, ?_, ?_⟩
            · rw [xsF_get]
              first
              | (rw [show s.1 = false from bI_eq0.mp (e0.symm.trans h13)]; rfl)
              | (rw [decide_eq_false (show ¬ v = 0 from h17), Bool.and_false, Bool.false_and]; rfl)
              | (rw [decide_eq_false (show ¬ hh < 0 from Int32.not_lt.mpr h21), Bool.and_false]; rfl)
              | (rw [show s.1 = true from bI_ne0.mp (fun z => h13 (e0.trans z)), decide_eq_true (show v = 0 from h17), decide_eq_true (show hh < 0 from Int32.not_le.mp h21)]; rfl)
            · rw [xsF_ne (by omega)]; exact e1
            · rw [xsF_ne (by omega)]; exact e2
          · refine xe_iconst (v := 1) dX2_narrow_24 rfl ?_
            refine xe_goto (tgt := 29) dX2_narrow_25 (by decide) ?_
            refine xe_putf dX2_narrow_29 flX2_9 (by decide) rfl rfl (by first | rfl | decide | assumption | exact bI_nar _ | exact xb_narrow rfl | exact xb_narrow (by assumption)) rfl ?_
            refine xe_vret dX2_narrow_32 rfl ?_
            have c : v = 0 ∨ hh < 0 := by first | exact Or.inl h1 | exact Or.inr (Int32.not_le.mp h5)
            rw [nrw, if_pos c] at h
            refine h _ (Un.F rfl) ⟨?_, ?_, ?_⟩
            · rw [xsF_get]
              first
              | (rw [show s.1 = false from bI_eq0.mp (e0.symm.trans h13)]; rfl)
              | (rw [decide_eq_false (show ¬ v = 0 from h17), Bool.and_false, Bool.false_and]; rfl)
              | (rw [decide_eq_false (show ¬ hh < 0 from Int32.not_lt.mpr h21), Bool.and_false]; rfl)
              | (rw [show s.1 = true from bI_ne0.mp (fun z => h13 (e0.trans z)), decide_eq_true (show v = 0 from h17), decide_eq_true (show hh < 0 from Int32.not_le.mp h21)]; rfl)
            · rw [xsF_ne (by omega)]; exact e1
            · rw [xsF_ne (by omega)]; exact e2

theorem sX2_size {d : Nat} (hd : 1 ≤ d) {σ : xSt} {Post : Option Value → xSt → Prop} (s : fT) (hs : RepF σ s) (h : Post (some (.int (szF s))) σ) : xM kX2_size d [.ref 98] σ Post := by
  obtain ⟨d, rfl⟩ : ∃ e, d = e + 1 := ⟨d - 1, by omega⟩
  refine xM_start (lv := [some (.ref 98)]) rfl ?_
  refine xe_aload_n dX2_size_0 rfl ?_
  refine xe_getf dX2_size_1 flX2_9 (by decide) rfl rfl ?_
  refine xe_if_eq (tgt := 22) dX2_size_4 (by decide) (fun h4 => ?_) (fun h4 => ?_)
  · refine xe_iconst (v := 0) dX2_size_22 rfl ?_
    refine xe_iret dX2_size_23 rfl rfl ?_
    first | (rw [szF, if_neg (by rw [bI_eq0.mp (hs.1.symm.trans h4)]; decide)] at h; exact h) | (rw [szF, if_pos (bI_ne0.mp (fun z => h4 (hs.1.trans z)))] at h; exact h)
  · refine xe_iconst (v := 1) dX2_size_7 rfl ?_
    refine xe_bipush (v := 8) dX2_size_8 rfl ?_
    refine xe_aload_n dX2_size_10 rfl ?_
    refine xe_getf dX2_size_11 flX2_15 (by decide) rfl rfl ?_
    rw [hs.2.1]
    refine xe_calls (k2 := kJ6_bitCount_0f7a4) (vs := [_]) dX2_size_14 okJ6_bitCount_0f7a4 mlX2_22 stJ6_bitCount_0f7a4 rfl rfl (Nat.le_of_ble_eq_true rfl) (Nat.le_of_ble_eq_true rfl) (sJ6_bitCount_0f7a4 (by omega) _ ?_)
    refine xe_isub dX2_size_17 ?_
    refine xe_ishl dX2_size_18 ?_
    refine xe_goto (tgt := 23) dX2_size_19 (by decide) ?_
    refine xe_iret dX2_size_23 rfl rfl ?_
    first | (rw [szF, if_neg (by rw [bI_eq0.mp (hs.1.symm.trans h4)]; decide)] at h; exact h) | (rw [szF, if_pos (bI_ne0.mp (fun z => h4 (hs.1.trans z)))] at h; exact h)

theorem sX2_leftBy {d : Nat} (hd : 2 ≤ d) {σ : xSt} {Post : Option Value → xSt → Prop} (s : fT) (f : Nat) (v : Int32) (hs : RepF σ s) (h : Post (some (.int (lfJ s f v))) σ) : xM kX2_leftBy d [.ref 98, .int (nI f), .int v] σ Post := by
  obtain ⟨d, rfl⟩ : ∃ e, d = e + 1 := ⟨d - 1, by omega⟩
  refine xM_start (lv := [some (.ref 98), some (.int (nI f)), some (.int v), none]) rfl ?_
  refine xe_iload_n dX2_leftBy_0 rfl ?_
  refine xe_if_eq (tgt := 19) dX2_leftBy_1 (by decide) (fun h1 => ?_) (fun h1 => ?_)
  · refine xe_iconst (v := 0) dX2_leftBy_19 rfl ?_
    refine xe_istore_n (lv2 := [_, _, _, _]) dX2_leftBy_20 (by decide) rfl ?_
    refine xe_iload_n dX2_leftBy_21 rfl ?_
    refine xe_if_eq (tgt := 34) dX2_leftBy_22 (by decide) (fun h22 => ?_) (fun h22 => ?_)
    · first
      | exact absurd h22 (by decide)
      | skip
        refine xe_aload_n dX2_leftBy_34 rfl ?_
        refine xe_callv (k2 := kX2_size) (vs := []) dX2_leftBy_35 okX2_size mlX2_32 imX2_size slX2_size (Or.inl ⟨2, _, _, by decide, rfl, rfl, rfl⟩) rfl rfl (Nat.le_of_ble_eq_true rfl) (Nat.le_of_ble_eq_true rfl) (sX2_size (by omega) s hs ?_)
        refine xe_iret dX2_leftBy_38 rfl rfl ?_
        first | (rw [lfJ, if_pos (Or.inl h1)] at h; exact h) | (rw [lfJ, if_pos (Or.inr h12)] at h; exact h) | (rw [lfJ, if_neg (fun z => z.elim h1 (fun q => q h12))] at h; exact h)
    · first
      | exact absurd h22 (by decide)
      | skip
        refine xe_aload_n dX2_leftBy_25 rfl ?_
        refine xe_callv (k2 := kX2_size) (vs := []) dX2_leftBy_26 okX2_size mlX2_32 imX2_size slX2_size (Or.inl ⟨2, _, _, by decide, rfl, rfl, rfl⟩) rfl rfl (Nat.le_of_ble_eq_true rfl) (Nat.le_of_ble_eq_true rfl) (sX2_size (by omega) s hs ?_)
        refine xe_iconst (v := 2) dX2_leftBy_29 rfl ?_
        refine xe_idiv dX2_leftBy_30 (by decide) ?_
        refine xe_goto (tgt := 38) dX2_leftBy_31 (by decide) ?_
        refine xe_iret dX2_leftBy_38 rfl rfl ?_
        first | (rw [lfJ, if_pos (Or.inl h1)] at h; exact h) | (rw [lfJ, if_pos (Or.inr h12)] at h; exact h) | (rw [lfJ, if_neg (fun z => z.elim h1 (fun q => q h12))] at h; exact h)
  · refine xe_aload_n dX2_leftBy_4 rfl ?_
    refine xe_getf dX2_leftBy_5 flX2_15 (by decide) rfl rfl ?_
    refine xe_iload_n dX2_leftBy_8 rfl ?_
    rw [hs.2.1]
    refine xe_callIsIn (k2 := kX8_isIn) (vs := [_, _]) rfl dX2_leftBy_9 okX8_isIn rfl stX8_isIn rfl rfl (Nat.le_of_ble_eq_true rfl) (Nat.le_of_ble_eq_true rfl) (sX8_isIn (by omega) s.2.1 f ?_)
    refine xe_if_ne (tgt := 19) dX2_leftBy_12 (by decide) (fun h12 => ?_) (fun h12 => ?_)
    · refine xe_iconst (v := 0) dX2_leftBy_19 rfl ?_
      refine xe_istore_n (lv2 := [_, _, _, _]) dX2_leftBy_20 (by decide) rfl ?_
      refine xe_iload_n dX2_leftBy_21 rfl ?_
      refine xe_if_eq (tgt := 34) dX2_leftBy_22 (by decide) (fun h22 => ?_) (fun h22 => ?_)
      · first
        | exact absurd h22 (by decide)
        | skip
          refine xe_aload_n dX2_leftBy_34 rfl ?_
          refine xe_callv (k2 := kX2_size) (vs := []) dX2_leftBy_35 okX2_size mlX2_32 imX2_size slX2_size (Or.inl ⟨2, _, _, by decide, rfl, rfl, rfl⟩) rfl rfl (Nat.le_of_ble_eq_true rfl) (Nat.le_of_ble_eq_true rfl) (sX2_size (by omega) s hs ?_)
          refine xe_iret dX2_leftBy_38 rfl rfl ?_
          first | (rw [lfJ, if_pos (Or.inl h1)] at h; exact h) | (rw [lfJ, if_pos (Or.inr h12)] at h; exact h) | (rw [lfJ, if_neg (fun z => z.elim h1 (fun q => q h12))] at h; exact h)
      · first
        | exact absurd h22 (by decide)
        | skip
          refine xe_aload_n dX2_leftBy_25 rfl ?_
          refine xe_callv (k2 := kX2_size) (vs := []) dX2_leftBy_26 okX2_size mlX2_32 imX2_size slX2_size (Or.inl ⟨2, _, _, by decide, rfl, rfl, rfl⟩) rfl rfl (Nat.le_of_ble_eq_true rfl) (Nat.le_of_ble_eq_true rfl) (sX2_size (by omega) s hs ?_)
          refine xe_iconst (v := 2) dX2_leftBy_29 rfl ?_
          refine xe_idiv dX2_leftBy_30 (by decide) ?_
          refine xe_goto (tgt := 38) dX2_leftBy_31 (by decide) ?_
          refine xe_iret dX2_leftBy_38 rfl rfl ?_
          first | (rw [lfJ, if_pos (Or.inl h1)] at h; exact h) | (rw [lfJ, if_pos (Or.inr h12)] at h; exact h) | (rw [lfJ, if_neg (fun z => z.elim h1 (fun q => q h12))] at h; exact h)
    · refine xe_iconst (v := 1) dX2_leftBy_15 rfl ?_
      refine xe_goto (tgt := 20) dX2_leftBy_16 (by decide) ?_
      refine xe_istore_n (lv2 := [_, _, _, _]) dX2_leftBy_20 (by decide) rfl ?_
      refine xe_iload_n dX2_leftBy_21 rfl ?_
      refine xe_if_eq (tgt := 34) dX2_leftBy_22 (by decide) (fun h22 => ?_) (fun h22 => ?_)
      · first
        | exact absurd h22 (by decide)
        | skip
          refine xe_aload_n dX2_leftBy_34 rfl ?_
          refine xe_callv (k2 := kX2_size) (vs := []) dX2_leftBy_35 okX2_size mlX2_32 imX2_size slX2_size (Or.inl ⟨2, _, _, by decide, rfl, rfl, rfl⟩) rfl rfl (Nat.le_of_ble_eq_true rfl) (Nat.le_of_ble_eq_true rfl) (sX2_size (by omega) s hs ?_)
          refine xe_iret dX2_leftBy_38 rfl rfl ?_
          first | (rw [lfJ, if_pos (Or.inl h1)] at h; exact h) | (rw [lfJ, if_pos (Or.inr h12)] at h; exact h) | (rw [lfJ, if_neg (fun z => z.elim h1 (fun q => q h12))] at h; exact h)
      · first
        | exact absurd h22 (by decide)
        | skip
          refine xe_aload_n dX2_leftBy_25 rfl ?_
          refine xe_callv (k2 := kX2_size) (vs := []) dX2_leftBy_26 okX2_size mlX2_32 imX2_size slX2_size (Or.inl ⟨2, _, _, by decide, rfl, rfl, rfl⟩) rfl rfl (Nat.le_of_ble_eq_true rfl) (Nat.le_of_ble_eq_true rfl) (sX2_size (by omega) s hs ?_)
          refine xe_iconst (v := 2) dX2_leftBy_29 rfl ?_
          refine xe_idiv dX2_leftBy_30 (by decide) ?_
          refine xe_goto (tgt := 38) dX2_leftBy_31 (by decide) ?_
          refine xe_iret dX2_leftBy_38 rfl rfl ?_
          first | (rw [lfJ, if_pos (Or.inl h1)] at h; exact h) | (rw [lfJ, if_pos (Or.inr h12)] at h; exact h) | (rw [lfJ, if_neg (fun z => z.elim h1 (fun q => q h12))] at h; exact h)

theorem lX8_gatherFits {d : Nat} {σ : xSt} {Post : Option Value → xSt → Prop} (hd : 3 ≤ d) {n m p k : Nat} (G : Nat → Int32) (S : xSem) (hJ : RepJ σ 1 G n m p k) (hc : CO G n m p k) (hS : JSem σ S) (hh : HRn n G m) (h : ∀ τ, JK σ τ → RepF τ (gfF S G m) → Post none τ) : ∀ (q j : Nat) (τ : xSt) (v3 v4 : Option Value), m + 1 ≤ j + q → j ≤ m → JK σ τ → RepF τ (gfF S G j) → xEv kX8_gatherFits (d + 1) 17 [some (.ref 0), some (.ref 15), some (.int (nI j)), v3, v4] [] τ Post := by
  intro q
  induction q with
  | zero => intro j τ v3 v4 hq hj hk hF; omega
  | succ q ih =>
    intro j τ v3 v4 hq hj hk hF
    have hn6 : n ≤ 6 := hc.2.1
    have hm6 : m ≤ 6 := hc.2.2.2.1
    have hJ2 := hJ.jk hn6 hk
    have hS2 := hS.jk hk
    refine xe_iload_n dX8_gatherFits_17 rfl ?_
    refine xe_aload_n dX8_gatherFits_18 rfl ?_
    refine xe_getf dX8_gatherFits_19 flX8_282 (by decide) rfl rfl ?_
    refine xe_top (x2 := nI m) hJ2.H.1 ?_
    refine xe_icmp_ge (tgt := 82) dX8_gatherFits_22 (by decide) (fun h22 => ?_) (fun h22 => ?_)
    · refine xe_vret dX8_gatherFits_82 rfl ?_
      obtain rfl : j = m := by have := nLe (by omega) (by omega) h22; omega
      exact h τ hk hF
    · have hlt := nNle (by omega) (by omega) h22
      obtain ⟨r1, r2, r3⟩ := hJ2.H.2 j hlt
      obtain ⟨⟨pt, hpt, ept⟩, f, hf, ef⟩ := hh j hlt
      refine xe_aload_n dX8_gatherFits_25 rfl ?_
      refine xe_getr dX8_gatherFits_26 flX8_12 (by decide) rfl rfl ?_
      refine xe_aload_n dX8_gatherFits_29 rfl ?_
      refine xe_getr dX8_gatherFits_30 flX8_284 (by decide) rfl rfl ?_
      refine xe_iload_n dX8_gatherFits_33 rfl ?_
      refine xn_iaload (j := j) dX8_gatherFits_34 (by decide) rfl (by first | with_reducible rfl | (simp only [xl, pk_mul, nI_add, nI_1]; done) | (simp only [xl, pk_mul, nI_add, nI_1]; rfl)) (by omega) (by first | decide | omega) ?_
      refine xe_top (x2 := nI pt) (r1.trans ept) ?_
      refine xe_callv (k2 := kX5_potAt) (vs := [_]) dX8_gatherFits_35 okX5_potAt mlX8_90 imX5_potAt slX5_potAt (Or.inl ⟨5, _, _, by decide, rfl, rfl, rfl⟩) rfl rfl (Nat.le_of_ble_eq_true rfl) (Nat.le_of_ble_eq_true rfl) (sX5_potAt (by omega) n _ isS1 hJ2.P.1 hn6 ⟨fun i hi ei => ?_, fun hx => ?_⟩)
      · skip
        obtain rfl : pt = i := nEq (by omega) (by omega) ei
        have hp := isS1.p (i := pt) (by omega)
        have hr := hJ2.P.2 pt hi
        refine xe_astore_n (lv2 := [_, _, _, _, _]) dX8_gatherFits_38 (by decide) rfl ?_
        refine xe_aload_n dX8_gatherFits_39 rfl ?_
        refine xe_ifnull dX8_gatherFits_40 ?_
        refine xe_aload_n dX8_gatherFits_43 rfl ?_
        refine xe_getr dX8_gatherFits_44 flX8_287 (by decide) rfl rfl ?_
        refine xe_iload_n dX8_gatherFits_47 rfl ?_
        refine xn_iaload (j := j) dX8_gatherFits_48 (by decide) rfl (by first | with_reducible rfl | (simp only [xl, pk_mul, nI_add, nI_1]; done) | (simp only [xl, pk_mul, nI_add, nI_1]; rfl)) (by omega) (by first | decide | omega) ?_
        refine xe_top (x2 := nI f) (r2.trans ef) ?_
        refine xe_istore (lv2 := [_, _, _, _, _]) dX8_gatherFits_49 (by decide) rfl ?_
        refine xe_aload_n dX8_gatherFits_51 rfl ?_
        refine xe_getr dX8_gatherFits_52 flX8_60 (by decide) rfl rfl ?_
        refine xe_iload dX8_gatherFits_55 rfl ?_
        refine xe_aload_n dX8_gatherFits_57 rfl ?_
        refine xe_aload_n dX8_gatherFits_58 rfl ?_
        refine xe_iload dX8_gatherFits_59 rfl ?_
        refine xe_callv (k2 := kX8_clearOf) (vs := [_, _]) dX8_gatherFits_61 okX8_clearOf mlX8_105 imX8_clearOf slX8_clearOf (Or.inl ⟨8, _, _, by decide, rfl, rfl, rfl⟩) rfl rfl (Nat.le_of_ble_eq_true rfl) (Nat.le_of_ble_eq_true rfl) (sX8_clearOf (by omega) S _ hS2 hp hf hr ?_)
        refine xe_calls (k2 := kX8_voiceOf) (vs := [_]) dX8_gatherFits_64 okX8_voiceOf mlX8_190 stX8_voiceOf rfl rfl (Nat.le_of_ble_eq_true rfl) (Nat.le_of_ble_eq_true rfl) (sX8_voiceOf (by omega) _ ?_)
        refine xe_aload_n dX8_gatherFits_67 rfl ?_
        refine xe_getr dX8_gatherFits_68 flX8_290 (by decide) rfl rfl ?_
        refine xe_iload_n dX8_gatherFits_71 rfl ?_
        refine xn_iaload (j := j) dX8_gatherFits_72 (by decide) rfl (by first | with_reducible rfl | (simp only [xl, pk_mul, nI_add, nI_1]; done) | (simp only [xl, pk_mul, nI_add, nI_1]; rfl)) (by omega) (by first | decide | omega) ?_
        refine xe_top (x2 := G (59 + 3 * j + 2)) r3 ?_
        refine xe_callv (k2 := kX2_narrow) (vs := [_, _, _]) dX8_gatherFits_73 okX2_narrow mlX8_293 imX2_narrow slX2_narrow (Or.inl ⟨2, _, _, by decide, rfl, rfl, rfl⟩) rfl rfl (Nat.le_of_ble_eq_true rfl) (Nat.le_of_ble_eq_true rfl) (sX2_narrow (by omega) (gfF S G j) f _ _ hF (fun υ hu hF2 => ?_))
        refine xn_inc (j := j) (lv2 := [_, _, _, _, _]) dX8_gatherFits_76 (by decide) rfl rfl ?_
        refine xe_goto (tgt := 17) dX8_gatherFits_79 (by decide) ?_
        refine ih (j + 1) υ _ _ (by omega) (by omega) (hk.tr (JK.f hu)) ?_
        rw [gfF_succ, clH, ept, ef, cN_nI (n := pt) (by omega), cN_nI (n := f) (by omega)]
        exact hF2
      · skip
        exact absurd (show pOk (nI n) (nI pt) from ⟨nI_pos' (by omega), nI_lt hpt (by omega)⟩) hx

theorem sX8_gatherFits {d : Nat} (hd : 4 ≤ d) {σ : xSt} {Post : Option Value → xSt → Prop} {n m p k : Nat} (G : Nat → Int32) (S : xSem) (hJ : RepJ σ 1 G n m p k) (hc : CO G n m p k) (hS : JSem σ S) (hh : HRn n G m) (h : ∀ τ, JK σ τ → RepF τ (gfF S G m) → Post none τ) : xM kX8_gatherFits d [.ref 0] σ Post := by
  obtain ⟨d, rfl⟩ : ∃ e, d = e + 1 := ⟨d - 1, by omega⟩
  refine xM_start (lv := [some (.ref 0), none, none, none, none]) rfl ?_
  refine xe_aload_n dX8_gatherFits_0 rfl ?_
  refine xe_getr dX8_gatherFits_1 flX8_60 (by decide) rfl rfl ?_
  refine xe_callv (k2 := kX2_startAnew) (vs := []) dX8_gatherFits_4 okX2_startAnew mlX8_279 imX2_startAnew slX2_startAnew (Or.inl ⟨2, _, _, by decide, rfl, rfl, rfl⟩) rfl rfl (Nat.le_of_ble_eq_true rfl) (Nat.le_of_ble_eq_true rfl) (sX2_startAnew (by omega) (fun τ hu hF => ?_))
  refine xe_aload_n dX8_gatherFits_7 rfl ?_
  refine xe_getr dX8_gatherFits_8 flX8_12 (by decide) rfl rfl ?_
  refine xe_getr dX8_gatherFits_11 flX8_255 (by decide) rfl rfl ?_
  refine xe_astore_n (lv2 := [_, _, _, _, _]) dX8_gatherFits_14 (by decide) rfl ?_
  refine xe_iconst (v := 0) dX8_gatherFits_15 rfl ?_
  refine xe_istore_n (lv2 := [_, _, _, _, _]) dX8_gatherFits_16 (by decide) rfl ?_
  exact lX8_gatherFits (d := d) (by omega) G S hJ hc hS hh h (m + 1) 0 τ _ _ (by omega) (by omega) (JK.f hu) hF

theorem lX8_nextToAsk42 {d : Nat} {σ : xSt} {Post : Option Value → xSt → Prop} (hd : 3 ≤ d) {n m p k i : Nat} (G : Nat → Int32) (S : xSem) (s : fT) (hi : i < n) (hJ : RepJ σ 1 G n m p k) (hc : CO G n m p k) (hS : JSem σ S) (hF : RepF σ s) (b : Int32 × Int32) (h : ∀ v5, xEv kX8_nextToAsk (d + 1) 101 [some (.ref 0), some (.int (nj1 s S G i b 8).1), some (.int (nj1 s S G i b 8).2), some (.int (nI i)), some (.int (nI 8)), v5] [] σ Post) : ∀ (q j : Nat) (v5 : Option Value) (c : Int32 × Int32), 9 ≤ j + q → j ≤ 8 → c = nj1 s S G i b j → xEv kX8_nextToAsk (d + 1) 42 [some (.ref 0), some (.int (c).1), some (.int (c).2), some (.int (nI i)), some (.int (nI j)), v5] [] σ Post := by
  intro q
  induction q with
  | zero => intro j v5 c hq hj hb; omega
  | succ q ih =>
    intro j v5 c hq hj hb
    have hi6 : i < 6 := by have := hc.2.1; omega
    refine xe_iload dX8_nextToAsk_42 rfl ?_
    refine xe_bipush (v := 8) dX8_nextToAsk_44 rfl ?_
    refine xe_icmp_ge (tgt := 101) dX8_nextToAsk_46 (by decide) (fun h46 => ?_) (fun h46 => ?_)
    · obtain rfl : j = 8 := by have := nLe (a := 8) (by omega) (by omega) h46; omega
      rw [hb]
      exact h _
    · have hlt : j < 8 := nNle (a := 8) (by omega) (by omega) h46
      refine xe_aload_n dX8_nextToAsk_49 rfl ?_
      refine xe_getr dX8_nextToAsk_50 flX8_60 (by decide) rfl rfl ?_
      refine xe_iload dX8_nextToAsk_53 rfl ?_
      refine xe_aload_n dX8_nextToAsk_55 rfl ?_
      refine xe_aload_n dX8_nextToAsk_56 rfl ?_
      refine xe_getr dX8_nextToAsk_57 flX8_12 (by decide) rfl rfl ?_
      refine xe_getr dX8_nextToAsk_60 flX8_211 (by decide) rfl rfl ?_
      refine xe_iload_n dX8_nextToAsk_63 rfl ?_
      refine xn_aaload dX8_nextToAsk_64 (by decide) rfl (by decide) (by first | with_reducible rfl | (simp only [xl, pk_mul, nI_add, nI_1]; done) | (simp only [xl, pk_mul, nI_add, nI_1]; rfl)) (by omega) (by decide) (isS.t hi6) ?_
      refine xe_iload dX8_nextToAsk_65 rfl ?_
      refine xe_callv (k2 := kX8_clearOf) (vs := [_, _]) dX8_nextToAsk_67 okX8_clearOf mlX8_105 imX8_clearOf slX8_clearOf (Or.inl ⟨8, _, _, by decide, rfl, rfl, rfl⟩) rfl rfl (Nat.le_of_ble_eq_true rfl) (Nat.le_of_ble_eq_true rfl) (sX8_clearOf (by omega) S _ hS (isS1.p hi6) hlt (hJ.P.2 i hi) ?_)
      refine xe_calls (k2 := kX8_voiceOf) (vs := [_]) dX8_nextToAsk_70 okX8_voiceOf mlX8_190 stX8_voiceOf rfl rfl (Nat.le_of_ble_eq_true rfl) (Nat.le_of_ble_eq_true rfl) (sX8_voiceOf (by omega) _ ?_)
      refine xe_callv (k2 := kX2_leftBy) (vs := [_, _]) dX8_nextToAsk_73 okX2_leftBy mlX8_297 imX2_leftBy slX2_leftBy (Or.inl ⟨2, _, _, by decide, rfl, rfl, rfl⟩) rfl rfl (Nat.le_of_ble_eq_true rfl) (Nat.le_of_ble_eq_true rfl) (sX2_leftBy (by omega) s j _ hF ?_)
      refine xe_istore (lv2 := [_, _, _, _, _, _]) dX8_nextToAsk_76 (by decide) rfl ?_
      refine xe_iload dX8_nextToAsk_78 rfl ?_
      refine xe_iload_n dX8_nextToAsk_80 rfl ?_
      refine xe_icmp_ge (tgt := 95) dX8_nextToAsk_81 (by decide) (fun h81 => ?_) (fun h81 => ?_)
      · refine xn_inc (j := j) (lv2 := [_, _, _, _, _, _]) dX8_nextToAsk_95 (by decide) rfl rfl ?_
        refine xe_goto (tgt := 42) dX8_nextToAsk_98 (by decide) ?_
        first
        | exact ih (j + 1) _ c (by omega) (by omega) (by rw [nj1_succ, ← hb, nj2, if_neg (c := lfJ s j (voc (Clr S i (pV G i) j)) < c.2) (Int32.not_lt.mpr h81)])
        | exact ih (j + 1) _ (nI (10 * i + j), lfJ s j (voc (Clr S i (pV G i) j))) (by omega) (by omega) (by rw [nj1_succ, ← hb, nj2, if_pos (c := lfJ s j (voc (Clr S i (pV G i) j)) < c.2) (Int32.not_le.mp h81)])
      · refine xe_iload dX8_nextToAsk_84 rfl ?_
        refine xe_istore_n (lv2 := [_, _, _, _, _, _]) dX8_nextToAsk_86 (by decide) rfl ?_
        refine xe_bipush (v := 10) dX8_nextToAsk_87 rfl ?_
        refine xe_iload_n dX8_nextToAsk_89 rfl ?_
        refine xe_imul dX8_nextToAsk_90 ?_
        refine xe_iload dX8_nextToAsk_91 rfl ?_
        refine xe_iadd dX8_nextToAsk_93 ?_
        refine xe_top (x2 := nI (10 * i + j)) (by simp only [xl, pk_mul, nI_add]) ?_
        refine xe_istore_n (lv2 := [_, _, _, _, _, _]) dX8_nextToAsk_94 (by decide) rfl ?_
        refine xn_inc (j := j) (lv2 := [_, _, _, _, _, _]) dX8_nextToAsk_95 (by decide) rfl rfl ?_
        refine xe_goto (tgt := 42) dX8_nextToAsk_98 (by decide) ?_
        first
        | exact ih (j + 1) _ c (by omega) (by omega) (by rw [nj1_succ, ← hb, nj2, if_neg (c := lfJ s j (voc (Clr S i (pV G i) j)) < c.2) (Int32.not_lt.mpr h81)])
        | exact ih (j + 1) _ (nI (10 * i + j), lfJ s j (voc (Clr S i (pV G i) j))) (by omega) (by omega) (by rw [nj1_succ, ← hb, nj2, if_pos (c := lfJ s j (voc (Clr S i (pV G i) j)) < c.2) (Int32.not_le.mp h81)])

theorem lX8_nextToAsk28 {d : Nat} {σ : xSt} {Post : Option Value → xSt → Prop} (hd : 3 ≤ d) {n m p k : Nat} (G : Nat → Int32) (S : xSem) (s : fT) (hJ : RepJ σ 1 G n m p k) (hc : CO G n m p k) (hS : JSem σ S) (hF : RepF σ s) (h : Post (some (.int (njA s S G n).1)) σ) : ∀ (q j : Nat) (v4 v5 : Option Value), n + 1 ≤ j + q → j ≤ n → xEv kX8_nextToAsk (d + 1) 28 [some (.ref 0), some (.int (njA s S G j).1), some (.int (njA s S G j).2), some (.int (nI j)), v4, v5] [] σ Post := by
  intro q
  induction q with
  | zero => intro j v4 v5 hq hj; omega
  | succ q ih =>
    intro j v4 v5 hq hj
    have hn6 : n ≤ 6 := hc.2.1
    refine xe_iload_n dX8_nextToAsk_28 rfl ?_
    refine xe_aload_n dX8_nextToAsk_29 rfl ?_
    refine xe_getr dX8_nextToAsk_30 flX8_12 (by decide) rfl rfl ?_
    refine xe_getf dX8_nextToAsk_33 flX8_208 (by decide) rfl rfl ?_
    rw [hJ.P.1]
    refine xe_icmp_ge (tgt := 107) dX8_nextToAsk_36 (by decide) (fun h36 => ?_) (fun h36 => ?_)
    · refine xe_iload_n dX8_nextToAsk_107 rfl ?_
      refine xe_iret dX8_nextToAsk_108 rfl rfl ?_
      obtain rfl : j = n := by have := nLe (by omega) (by omega) h36; omega
      exact h
    · have hlt := nNle (by omega) (by omega) h36
      refine xe_iconst (v := 0) dX8_nextToAsk_39 rfl ?_
      refine xe_istore (lv2 := [_, _, _, _, _, _]) dX8_nextToAsk_40 (by decide) rfl ?_
      refine lX8_nextToAsk42 (d := d) hd G S s hlt hJ hc hS hF (njA s S G j) (fun v5 => ?_) 9 0 _ (njA s S G j) (by omega) (by omega) (nj1_0 s S G j _).symm
      rw [← njA_succ]
      refine xn_inc (j := j) (lv2 := [_, _, _, _, _, _]) dX8_nextToAsk_101 (by decide) rfl rfl ?_
      refine xe_goto (tgt := 28) dX8_nextToAsk_104 (by decide) ?_
      exact ih (j + 1) _ _ (by omega) (by omega)

theorem sX8_nextToAsk {d : Nat} (hd : 4 ≤ d) {σ : xSt} {Post : Option Value → xSt → Prop} {n m p k : Nat} (G : Nat → Int32) (S : xSem) (s : fT) (hJ : RepJ σ 1 G n m p k) (hc : CO G n m p k) (hS : JSem σ S) (hF : RepF σ s) (h : Post (some (.int (nxJ s S G n))) σ) : xM kX8_nextToAsk d [.ref 0] σ Post := by
  obtain ⟨d, rfl⟩ : ∃ e, d = e + 1 := ⟨d - 1, by omega⟩
  refine xM_start (lv := [some (.ref 0), none, none, none, none, none]) rfl ?_
  refine xe_aload_n dX8_nextToAsk_0 rfl ?_
  refine xe_getr dX8_nextToAsk_1 flX8_60 (by decide) rfl rfl ?_
  refine xe_getf dX8_nextToAsk_4 flX8_162 (by decide) rfl rfl ?_
  refine xe_if_ne (tgt := 13) dX8_nextToAsk_7 (by decide) (fun h7 => ?_) (fun h7 => ?_)
  · refine xe_bipush (v := -5) dX8_nextToAsk_13 rfl ?_
    refine xe_istore_n (lv2 := [_, _, _, _, _, _]) dX8_nextToAsk_15 (by decide) rfl ?_
    refine xe_aload_n dX8_nextToAsk_16 rfl ?_
    refine xe_getr dX8_nextToAsk_17 flX8_60 (by decide) rfl rfl ?_
    refine xe_callv (k2 := kX2_size) (vs := []) dX8_nextToAsk_20 okX2_size mlX8_158 imX2_size slX2_size (Or.inl ⟨2, _, _, by decide, rfl, rfl, rfl⟩) rfl rfl (Nat.le_of_ble_eq_true rfl) (Nat.le_of_ble_eq_true rfl) (sX2_size (by omega) s hF ?_)
    refine xe_iconst (v := 1) dX8_nextToAsk_23 rfl ?_
    refine xe_iadd dX8_nextToAsk_24 ?_
    refine xe_istore_n (lv2 := [_, _, _, _, _, _]) dX8_nextToAsk_25 (by decide) rfl ?_
    refine xe_iconst (v := 0) dX8_nextToAsk_26 rfl ?_
    refine xe_istore_n (lv2 := [_, _, _, _, _, _]) dX8_nextToAsk_27 (by decide) rfl ?_
    rw [nxJ, if_pos (bI_ne0.mp (fun z => h7 (hF.1.trans z)))] at h
    exact lX8_nextToAsk28 (d := d) (by omega) G S s hJ hc hS hF h (n + 1) 0 _ _ (by omega) (by omega)
  · refine xe_bipush (v := -5) dX8_nextToAsk_10 rfl ?_
    refine xe_iret dX8_nextToAsk_12 rfl rfl ?_
    rw [nxJ, if_neg (by rw [bI_eq0.mp (hF.1.symm.trans h7)]; decide)] at h
    exact h

theorem sX8_toldOfFits {d : Nat} (hd : 5 ≤ d) {σ : xSt} {Post : Option Value → xSt → Prop} {n m p k : Nat} (G : Nat → Int32) (S : xSem) (w : Int32) (hJ : RepJ σ 1 G n m p k) (hc : CO G n m p k) (hS : JSem σ S) (hh : HRn n G m) (h : ∀ τ, JK σ τ → Post (some (.int (tofJ (gfF S G m) S G n w))) τ) : xM kX8_toldOfFits d [.ref 0, .int w] σ Post := by
  obtain ⟨d, rfl⟩ : ∃ e, d = e + 1 := ⟨d - 1, by omega⟩
  refine xM_start (lv := [some (.ref 0), some (.int w)]) rfl ?_
  have hn6 : n ≤ 6 := hc.2.1
  refine xe_aload_n dX8_toldOfFits_0 rfl ?_
  refine xe_callv (k2 := kX8_gatherFits) (vs := []) dX8_toldOfFits_1 okX8_gatherFits mlX8_155 imX8_gatherFits slX8_gatherFits (Or.inl ⟨8, _, _, by decide, rfl, rfl, rfl⟩) rfl rfl (Nat.le_of_ble_eq_true rfl) (Nat.le_of_ble_eq_true rfl) (sX8_gatherFits (by omega) G S hJ hc hS hh (fun τ hk hF => ?_))
  refine xe_iload_n dX8_toldOfFits_4 rfl ?_
  refine xn_tsw (tgs := [40, 48, 71, 93, 127]) (td := 132) dX8_toldOfFits_5 rfl rfl rfl (fun i5 t5 hg5 hx5 => ?_) (fun hx5 => ?_)
  · match i5, hg5, hx5 with
    | 0, hg5, hx5 =>
      cases hg5
      have cw : w = 3 := Int32.toInt_inj.mp (by rw [hx5]; rfl)
      subst cw
      refine xe_aload_n dX8_toldOfFits_40 rfl ?_
      refine xe_getr dX8_toldOfFits_41 flX8_60 (by decide) rfl rfl ?_
      refine xe_callv (k2 := kX2_size) (vs := []) dX8_toldOfFits_44 okX2_size mlX8_158 imX2_size slX2_size (Or.inl ⟨2, _, _, by decide, rfl, rfl, rfl⟩) rfl rfl (Nat.le_of_ble_eq_true rfl) (Nat.le_of_ble_eq_true rfl) (sX2_size (by omega) _ hF ?_)
      refine xe_iret dX8_toldOfFits_47 rfl rfl ?_
      exact h τ hk
    | 1, hg5, hx5 =>
      cases hg5
      have cw : w = 4 := Int32.toInt_inj.mp (by rw [hx5]; rfl)
      subst cw
      refine xe_aload_n dX8_toldOfFits_48 rfl ?_
      refine xe_getr dX8_toldOfFits_49 flX8_60 (by decide) rfl rfl ?_
      refine xe_getf dX8_toldOfFits_52 flX8_162 (by decide) rfl rfl ?_
      refine xe_if_eq (tgt := 68) dX8_toldOfFits_55 (by decide) (fun h55 => ?_) (fun h55 => ?_)
      · refine xe_bipush (v := -5) dX8_toldOfFits_68 rfl ?_
        refine xe_iret dX8_toldOfFits_70 rfl rfl ?_
        have e := h τ hk
        rw [show tofJ (gfF S G m) S G n 4 = (if (gfF S G m).1 = true then (gfF S G m).2.2 else -5) from rfl] at e
        first | (rw [if_pos (bI_ne0.mp (fun z => h55 (hF.1.trans z)))] at e; rw [hF.2.2]; exact e) | (rw [if_neg (by rw [bI_eq0.mp (hF.1.symm.trans h55)]; decide)] at e; exact e)
      · refine xe_aload_n dX8_toldOfFits_58 rfl ?_
        refine xe_getr dX8_toldOfFits_59 flX8_60 (by decide) rfl rfl ?_
        refine xe_getf dX8_toldOfFits_62 flX8_165 (by decide) rfl rfl ?_
        refine xe_goto (tgt := 70) dX8_toldOfFits_65 (by decide) ?_
        refine xe_iret dX8_toldOfFits_70 rfl rfl ?_
        have e := h τ hk
        rw [show tofJ (gfF S G m) S G n 4 = (if (gfF S G m).1 = true then (gfF S G m).2.2 else -5) from rfl] at e
        first | (rw [if_pos (bI_ne0.mp (fun z => h55 (hF.1.trans z)))] at e; rw [hF.2.2]; exact e) | (rw [if_neg (by rw [bI_eq0.mp (hF.1.symm.trans h55)]; decide)] at e; exact e)
    | 2, hg5, hx5 =>
      cases hg5
      have cw : w = 5 := Int32.toInt_inj.mp (by rw [hx5]; rfl)
      subst cw
      refine xe_aload_n dX8_toldOfFits_71 rfl ?_
      refine xe_getr dX8_toldOfFits_72 flX8_60 (by decide) rfl rfl ?_
      refine xe_getf dX8_toldOfFits_75 flX8_162 (by decide) rfl rfl ?_
      refine xe_if_eq (tgt := 91) dX8_toldOfFits_78 (by decide) (fun h78 => ?_) (fun h78 => ?_)
      · refine xe_iconst (v := 0) dX8_toldOfFits_91 rfl ?_
        refine xe_iret dX8_toldOfFits_92 rfl rfl ?_
        have e := h τ hk
        rw [show tofJ (gfF S G m) S G n 5 = (if (gfF S G m).1 = true then (gfF S G m).2.2 else 0) from rfl] at e
        first | (rw [if_pos (bI_ne0.mp (fun z => h78 (hF.1.trans z)))] at e; rw [hF.2.2]; exact e) | (rw [if_neg (by rw [bI_eq0.mp (hF.1.symm.trans h78)]; decide)] at e; exact e)
      · refine xe_aload_n dX8_toldOfFits_81 rfl ?_
        refine xe_getr dX8_toldOfFits_82 flX8_60 (by decide) rfl rfl ?_
        refine xe_getf dX8_toldOfFits_85 flX8_165 (by decide) rfl rfl ?_
        refine xe_goto (tgt := 92) dX8_toldOfFits_88 (by decide) ?_
        refine xe_iret dX8_toldOfFits_92 rfl rfl ?_
        have e := h τ hk
        rw [show tofJ (gfF S G m) S G n 5 = (if (gfF S G m).1 = true then (gfF S G m).2.2 else 0) from rfl] at e
        first | (rw [if_pos (bI_ne0.mp (fun z => h78 (hF.1.trans z)))] at e; rw [hF.2.2]; exact e) | (rw [if_neg (by rw [bI_eq0.mp (hF.1.symm.trans h78)]; decide)] at e; exact e)
    | 3, hg5, hx5 =>
      cases hg5
      have cw : w = 6 := Int32.toInt_inj.mp (by rw [hx5]; rfl)
      subst cw
      refine xe_aload_n dX8_toldOfFits_93 rfl ?_
      refine xe_getr dX8_toldOfFits_94 flX8_60 (by decide) rfl rfl ?_
      refine xe_getf dX8_toldOfFits_97 flX8_162 (by decide) rfl rfl ?_
      refine xe_if_eq (tgt := 123) dX8_toldOfFits_100 (by decide) (fun h100 => ?_) (fun h100 => ?_)
      · refine xe_sipush (v := 255) dX8_toldOfFits_123 rfl ?_
        refine xe_iret dX8_toldOfFits_126 rfl rfl ?_
        have e := h τ hk
        rw [show tofJ (gfF S G m) S G n 6 = (if (gfF S G m).1 = true then (gfF S G m).2.1 &&& ((gfF S G m).2.2 ^^^ (-1)) else 255) from rfl] at e
        first | (rw [if_pos (bI_ne0.mp (fun z => h100 (hF.1.trans z)))] at e; rw [hF.2.1, hF.2.2]; exact e) | (rw [if_neg (by rw [bI_eq0.mp (hF.1.symm.trans h100)]; decide)] at e; exact e)
      · refine xe_aload_n dX8_toldOfFits_103 rfl ?_
        refine xe_getr dX8_toldOfFits_104 flX8_60 (by decide) rfl rfl ?_
        refine xe_getf dX8_toldOfFits_107 flX8_168 (by decide) rfl rfl ?_
        refine xe_aload_n dX8_toldOfFits_110 rfl ?_
        refine xe_getr dX8_toldOfFits_111 flX8_60 (by decide) rfl rfl ?_
        refine xe_getf dX8_toldOfFits_114 flX8_165 (by decide) rfl rfl ?_
        refine xe_iconst (v := -1) dX8_toldOfFits_117 rfl ?_
        refine xe_ixor dX8_toldOfFits_118 ?_
        refine xe_iand dX8_toldOfFits_119 ?_
        refine xe_goto (tgt := 126) dX8_toldOfFits_120 (by decide) ?_
        refine xe_iret dX8_toldOfFits_126 rfl rfl ?_
        have e := h τ hk
        rw [show tofJ (gfF S G m) S G n 6 = (if (gfF S G m).1 = true then (gfF S G m).2.1 &&& ((gfF S G m).2.2 ^^^ (-1)) else 255) from rfl] at e
        first | (rw [if_pos (bI_ne0.mp (fun z => h100 (hF.1.trans z)))] at e; rw [hF.2.1, hF.2.2]; exact e) | (rw [if_neg (by rw [bI_eq0.mp (hF.1.symm.trans h100)]; decide)] at e; exact e)
    | 4, hg5, hx5 =>
      cases hg5
      have cw : w = 7 := Int32.toInt_inj.mp (by rw [hx5]; rfl)
      subst cw
      refine xe_aload_n dX8_toldOfFits_127 rfl ?_
      refine xe_callv (k2 := kX8_nextToAsk) (vs := []) dX8_toldOfFits_128 okX8_nextToAsk mlX8_171 imX8_nextToAsk slX8_nextToAsk (Or.inl ⟨8, _, _, by decide, rfl, rfl, rfl⟩) rfl rfl (Nat.le_of_ble_eq_true rfl) (Nat.le_of_ble_eq_true rfl) (sX8_nextToAsk (by omega) G S _ (hJ.jk hn6 hk) hc (hS.jk hk) hF ?_)
      refine xe_iret dX8_toldOfFits_131 rfl rfl ?_
      exact h τ hk
    | i5 + 5, hg5, hx5 => simp at hg5
  · skip
    have cw : ∀ v : Int32, 3 ≤ v.toInt → v.toInt ≤ 7 → ¬ w = v := fun v q1 q2 z => by rw [z] at hx5; omega
    refine xe_sipush (v := -10001) dX8_toldOfFits_132 rfl ?_
    refine xe_iret dX8_toldOfFits_135 rfl rfl ?_
    have e := h τ hk
    rw [tofJ, if_neg (cw 3 (by decide) (by decide)), if_neg (cw 4 (by decide) (by decide)), if_neg (cw 5 (by decide) (by decide)), if_neg (cw 6 (by decide) (by decide)), if_neg (cw 7 (by decide) (by decide))] at e
    exact e

theorem sX8_told {d : Nat} (hd : 6 ≤ d) {σ : xSt} {Post : Option Value → xSt → Prop} {n m p k : Nat} (G : Nat → Int32) (S : xSem) (w : Int32) (hJ : RepJ σ 1 G n m p k) (hc : CO G n m p k) (hS : JSem σ S) (hh : HRn n G m) (h : ∀ τ, JK σ τ → Post (some (.int (toldJ S G n m w))) τ) : xM kX8_told d [.ref 0, .int w] σ Post := by
  obtain ⟨d, rfl⟩ : ∃ e, d = e + 1 := ⟨d - 1, by omega⟩
  refine xM_start (lv := [some (.ref 0), some (.int w)]) rfl ?_
  obtain ⟨cc, l, hH, hkp⟩ := hS.keep
  refine xe_iload_n dX8_told_0 rfl ?_
  refine xe_bipush (v := 10) dX8_told_1 rfl ?_
  refine xe_icmp_lt (tgt := 21) dX8_told_3 (by decide) (fun h3 => ?_) (fun h3 => ?_)
  · have cw0 : ¬ (10 ≤ w ∧ w < 18) := by first | exact fun z => absurd h3 (Int32.not_lt.mpr z.1) | exact fun z => absurd h9 (Int32.not_le.mpr z.2)
    refine xe_iload_n dX8_told_21 rfl ?_
    refine xn_tsw (tgs := [48, 56, 64]) (td := 72) dX8_told_22 rfl rfl rfl (fun i22 t22 hg22 hx22 => ?_) (fun hx22 => ?_)
    · match i22, hg22, hx22 with
      | 0, hg22, hx22 =>
        cases hg22
        have cw : w = 0 := Int32.toInt_inj.mp (by rw [hx22]; rfl)
        subst cw
        refine xe_aload_n dX8_told_48 rfl ?_
        refine xe_getr dX8_told_49 flX8_12 (by decide) rfl rfl ?_
        refine xe_getf dX8_told_52 flX8_143 (by decide) rfl rfl ?_
        refine xe_iret dX8_told_55 rfl rfl ?_
        have e := h σ Un.rf
        rw [toldJ, if_neg cw0] at e
        rw [hJ.t]; exact e
      | 1, hg22, hx22 =>
        cases hg22
        have cw : w = 1 := Int32.toInt_inj.mp (by rw [hx22]; rfl)
        subst cw
        refine xe_aload_n dX8_told_56 rfl ?_
        refine xe_callv (k2 := kX8_holding) (vs := []) dX8_told_57 okX8_holding mlX8_146 imX8_holding slX8_holding (Or.inl ⟨8, _, _, by decide, rfl, rfl, rfl⟩) rfl rfl (Nat.le_of_ble_eq_true rfl) (Nat.le_of_ble_eq_true rfl) (sX8_holding (by omega) hH ?_)
        refine xe_getf dX8_told_60 flX8_149 hH.1.1.1 hH.1.1.2 rfl ?_
        refine xe_iret dX8_told_63 rfl rfl ?_
        have e := h σ Un.rf
        rw [toldJ, if_neg cw0] at e
        rw [hkp]; exact e
      | 2, hg22, hx22 =>
        cases hg22
        have cw : w = 2 := Int32.toInt_inj.mp (by rw [hx22]; rfl)
        subst cw
        refine xe_aload_n dX8_told_64 rfl ?_
        refine xe_getr dX8_told_65 flX8_12 (by decide) rfl rfl ?_
        refine xe_getf dX8_told_68 flX8_114 (by decide) rfl rfl ?_
        refine xe_iret dX8_told_71 rfl rfl ?_
        have e := h σ Un.rf
        rw [toldJ, if_neg cw0] at e
        rw [hJ.w]; exact e
      | i22 + 3, hg22, hx22 => simp at hg22
    · skip
      have cw : ∀ v : Int32, 0 ≤ v.toInt → v.toInt ≤ 2 → ¬ w = v := fun v q1 q2 z => by rw [z] at hx22; omega
      refine xe_aload_n dX8_told_72 rfl ?_
      refine xe_iload_n dX8_told_73 rfl ?_
      refine xe_callv (k2 := kX8_toldOfFits) (vs := [_]) dX8_told_74 okX8_toldOfFits mlX8_152 imX8_toldOfFits slX8_toldOfFits (Or.inl ⟨8, _, _, by decide, rfl, rfl, rfl⟩) rfl rfl (Nat.le_of_ble_eq_true rfl) (Nat.le_of_ble_eq_true rfl) (sX8_toldOfFits (by omega) G S w hJ hc hS hh (fun τ hk => ?_))
      refine xe_iret dX8_told_77 rfl rfl ?_
      have e := h τ hk
      rw [toldJ, if_neg cw0, if_neg (cw 0 (by decide) (by decide)), if_neg (cw 1 (by decide) (by decide)), if_neg (cw 2 (by decide) (by decide))] at e
      exact e
  · refine xe_iload_n dX8_told_6 rfl ?_
    refine xe_bipush (v := 18) dX8_told_7 rfl ?_
    refine xe_icmp_ge (tgt := 21) dX8_told_9 (by decide) (fun h9 => ?_) (fun h9 => ?_)
    · have cw0 : ¬ (10 ≤ w ∧ w < 18) := by first | exact fun z => absurd h3 (Int32.not_lt.mpr z.1) | exact fun z => absurd h9 (Int32.not_le.mpr z.2)
      refine xe_iload_n dX8_told_21 rfl ?_
      refine xn_tsw (tgs := [48, 56, 64]) (td := 72) dX8_told_22 rfl rfl rfl (fun i22 t22 hg22 hx22 => ?_) (fun hx22 => ?_)
      · match i22, hg22, hx22 with
        | 0, hg22, hx22 =>
          cases hg22
          have cw : w = 0 := Int32.toInt_inj.mp (by rw [hx22]; rfl)
          subst cw
          refine xe_aload_n dX8_told_48 rfl ?_
          refine xe_getr dX8_told_49 flX8_12 (by decide) rfl rfl ?_
          refine xe_getf dX8_told_52 flX8_143 (by decide) rfl rfl ?_
          refine xe_iret dX8_told_55 rfl rfl ?_
          have e := h σ Un.rf
          rw [toldJ, if_neg cw0] at e
          rw [hJ.t]; exact e
        | 1, hg22, hx22 =>
          cases hg22
          have cw : w = 1 := Int32.toInt_inj.mp (by rw [hx22]; rfl)
          subst cw
          refine xe_aload_n dX8_told_56 rfl ?_
          refine xe_callv (k2 := kX8_holding) (vs := []) dX8_told_57 okX8_holding mlX8_146 imX8_holding slX8_holding (Or.inl ⟨8, _, _, by decide, rfl, rfl, rfl⟩) rfl rfl (Nat.le_of_ble_eq_true rfl) (Nat.le_of_ble_eq_true rfl) (sX8_holding (by omega) hH ?_)
          refine xe_getf dX8_told_60 flX8_149 hH.1.1.1 hH.1.1.2 rfl ?_
          refine xe_iret dX8_told_63 rfl rfl ?_
          have e := h σ Un.rf
          rw [toldJ, if_neg cw0] at e
          rw [hkp]; exact e
        | 2, hg22, hx22 =>
          cases hg22
          have cw : w = 2 := Int32.toInt_inj.mp (by rw [hx22]; rfl)
          subst cw
          refine xe_aload_n dX8_told_64 rfl ?_
          refine xe_getr dX8_told_65 flX8_12 (by decide) rfl rfl ?_
          refine xe_getf dX8_told_68 flX8_114 (by decide) rfl rfl ?_
          refine xe_iret dX8_told_71 rfl rfl ?_
          have e := h σ Un.rf
          rw [toldJ, if_neg cw0] at e
          rw [hJ.w]; exact e
        | i22 + 3, hg22, hx22 => simp at hg22
      · skip
        have cw : ∀ v : Int32, 0 ≤ v.toInt → v.toInt ≤ 2 → ¬ w = v := fun v q1 q2 z => by rw [z] at hx22; omega
        refine xe_aload_n dX8_told_72 rfl ?_
        refine xe_iload_n dX8_told_73 rfl ?_
        refine xe_callv (k2 := kX8_toldOfFits) (vs := [_]) dX8_told_74 okX8_toldOfFits mlX8_152 imX8_toldOfFits slX8_toldOfFits (Or.inl ⟨8, _, _, by decide, rfl, rfl, rfl⟩) rfl rfl (Nat.le_of_ble_eq_true rfl) (Nat.le_of_ble_eq_true rfl) (sX8_toldOfFits (by omega) G S w hJ hc hS hh (fun τ hk => ?_))
        refine xe_iret dX8_told_77 rfl rfl ?_
        have e := h τ hk
        rw [toldJ, if_neg cw0, if_neg (cw 0 (by decide) (by decide)), if_neg (cw 1 (by decide) (by decide)), if_neg (cw 2 (by decide) (by decide))] at e
        exact e
    · obtain ⟨u0, hu0, rfl⟩ := nI_of (x := w) (Int32.not_lt.mpr (Int32.le_trans (by decide) (Int32.not_lt.mp h3)))
      have q1 := nNlt (b := 10) hu0 (by omega) h3
      have q2 := nNle (a := 18) (by omega) hu0 h9
      obtain ⟨u, rfl⟩ : ∃ u, u0 = 10 + u := ⟨u0 - 10, by omega⟩
      have eu : nI (10 + u) - 10 = nI u := by rw [show (10 : Int32) = nI 10 from rfl, pk_sub (by omega)]; congr 1; omega
      refine xe_aload_n dX8_told_12 rfl ?_
      refine xe_iload_n dX8_told_13 rfl ?_
      refine xe_bipush (v := 10) dX8_told_14 rfl ?_
      refine xe_isub dX8_told_16 ?_
      refine xe_top (x2 := nI u) eu ?_
      refine xe_callv (k2 := kX8_found) (vs := [_]) dX8_told_17 okX8_found mlX8_140 imX8_found slX8_found (Or.inl ⟨8, _, _, by decide, rfl, rfl, rfl⟩) rfl rfl (Nat.le_of_ble_eq_true rfl) (Nat.le_of_ble_eq_true rfl) (sX8_found (by omega) (f := u) G S hJ hc hS (by omega) ?_)
      refine xe_iret dX8_told_20 rfl rfl ?_
      have e := h σ Un.rf
      rw [toldJ, if_pos (show (10 : Int32) ≤ nI (10 + u) ∧ nI (10 + u) < 18 from ⟨Int32.not_lt.mp h3, Int32.not_le.mp h9⟩), eu, cN_nI (by omega)] at e
      exact e

theorem sX8_odds {d : Nat} (hd : 5 ≤ d) {σ : xSt} {Post : Option Value → xSt → Prop} {n m p k : Nat} (G : Nat → Int32) (S : xSem) (f pt : Int32) (hJ : RepJ σ 1 G n m p k) (hc : CO G n m p k) (hS : JSem σ S) (hh : HRn n G m) (h : ∀ τ, JK σ τ → Post (some (.long (oddJ (gfF S G m) f pt))) τ) : xM kX8_odds d [.ref 0, .int f, .int pt] σ Post := by
  obtain ⟨d, rfl⟩ : ∃ e, d = e + 1 := ⟨d - 1, by omega⟩
  refine xM_start (lv := [some (.ref 0), some (.int f), some (.int pt), none]) rfl ?_
  have hn6 : n ≤ 6 := hc.2.1
  refine xe_iload_n dX8_odds_0 rfl ?_
  refine xe_calls (k2 := kX8_isFact) (vs := [_]) dX8_odds_1 okX8_isFact mlX8_102 stX8_isFact rfl rfl (Nat.le_of_ble_eq_true rfl) (Nat.le_of_ble_eq_true rfl) (sX8_isFact (by omega) f ?_)
  refine xe_if_eq (tgt := 16) dX8_odds_4 (by decide) (fun h4 => ?_) (fun h4 => ?_)
  · refine xe_ldc2 dX8_odds_16 cnX8_272 ?_
    refine xe_lret dX8_odds_19 rfl ?_
    have c0 : ¬ (rng f 0 7 ∧ rng pt 0 1) := by first | exact fun z => (xb_eq0 rfl).mp h4 z.1 | exact fun z => (rng01 z.2).elim h8 h13
    have e := h σ Un.rf
    rw [oddJ, if_neg c0] at e
    exact e
  · refine xe_iload_n dX8_odds_7 rfl ?_
    refine xe_if_eq (tgt := 20) dX8_odds_8 (by decide) (fun h8 => ?_) (fun h8 => ?_)
    · have cp : rng pt 0 1 := by first | (rw [h8]; decide) | (rw [h13]; decide)
      have cf : rng f 0 7 := (xb_ne0 rfl).mp h4
      obtain ⟨u, hu, rfl⟩ := rng_nat (m := 7) (by omega) cf
      have eu : cN (nI u) = u := cN_nI (by omega)
      refine xe_aload_n dX8_odds_20 rfl ?_
      refine xe_callv (k2 := kX8_gatherFits) (vs := []) dX8_odds_21 okX8_gatherFits mlX8_155 imX8_gatherFits slX8_gatherFits (Or.inl ⟨8, _, _, by decide, rfl, rfl, rfl⟩) rfl rfl (Nat.le_of_ble_eq_true rfl) (Nat.le_of_ble_eq_true rfl) (sX8_gatherFits (by omega) G S hJ hc hS hh (fun τ hk hF => ?_))
      have e := h τ hk
      rw [oddJ, if_pos ⟨cf, cp⟩, eu] at e
      refine xe_aload_n dX8_odds_24 rfl ?_
      refine xe_getr dX8_odds_25 flX8_60 (by decide) rfl rfl ?_
      refine xe_getf dX8_odds_28 flX8_162 (by decide) rfl rfl ?_
      refine xe_if_ne (tgt := 38) dX8_odds_31 (by decide) (fun h31 => ?_) (fun h31 => ?_)
      · rw [if_pos (bI_ne0.mp (fun z => h31 (hF.1.trans z)))] at e
        refine xe_aload_n dX8_odds_38 rfl ?_
        refine xe_getr dX8_odds_39 flX8_60 (by decide) rfl rfl ?_
        refine xe_getf dX8_odds_42 flX8_168 (by decide) rfl rfl ?_
        rw [hF.2.1]
        refine xe_iload_n dX8_odds_45 rfl ?_
        refine xe_calls (k2 := kX8_isIn) (vs := [_, _]) dX8_odds_46 okX8_isIn mlX8_193 stX8_isIn rfl rfl (Nat.le_of_ble_eq_true rfl) (Nat.le_of_ble_eq_true rfl) (sX8_isIn (by omega) _ u ?_)
        refine xe_istore_n (lv2 := [_, _, _, _]) dX8_odds_49 (by decide) rfl ?_
        refine xe_iload_n dX8_odds_50 rfl ?_
        refine xe_iconst (v := 1) dX8_odds_51 rfl ?_
        refine xe_icmp_ne (tgt := 67) dX8_odds_52 (by decide) (fun h52 => ?_) (fun h52 => ?_)
        · refine xe_iload_n dX8_odds_67 rfl ?_
          refine xe_if_eq (tgt := 89) dX8_odds_68 (by decide) (fun h68 => ?_) (fun h68 => ?_)
          · refine xe_lconst (v := 1) dX8_odds_89 rfl ?_
            refine xe_lret dX8_odds_90 rfl ?_
            rw [if_neg h52] at e
            first | (rw [if_neg (c := ¬ bit (gfF S G m).2.1 u = 0 ∧ bit (gfF S G m).2.2 u = 0) (fun z => z.1 h68)] at e; exact e) | (rw [if_neg (c := ¬ bit (gfF S G m).2.1 u = 0 ∧ bit (gfF S G m).2.2 u = 0) (fun z => h82 z.2)] at e; exact e) | (rw [if_pos (c := ¬ bit (gfF S G m).2.1 u = 0 ∧ bit (gfF S G m).2.2 u = 0) ⟨h68, h82⟩] at e; exact e)
          · refine xe_aload_n dX8_odds_71 rfl ?_
            refine xe_getr dX8_odds_72 flX8_60 (by decide) rfl rfl ?_
            refine xe_getf dX8_odds_75 flX8_165 (by decide) rfl rfl ?_
            rw [hF.2.2]
            refine xe_iload_n dX8_odds_78 rfl ?_
            refine xe_calls (k2 := kX8_isIn) (vs := [_, _]) dX8_odds_79 okX8_isIn mlX8_193 stX8_isIn rfl rfl (Nat.le_of_ble_eq_true rfl) (Nat.le_of_ble_eq_true rfl) (sX8_isIn (by omega) _ u ?_)
            refine xe_if_ne (tgt := 89) dX8_odds_82 (by decide) (fun h82 => ?_) (fun h82 => ?_)
            · refine xe_lconst (v := 1) dX8_odds_89 rfl ?_
              refine xe_lret dX8_odds_90 rfl ?_
              rw [if_neg h52] at e
              first | (rw [if_neg (c := ¬ bit (gfF S G m).2.1 u = 0 ∧ bit (gfF S G m).2.2 u = 0) (fun z => z.1 h68)] at e; exact e) | (rw [if_neg (c := ¬ bit (gfF S G m).2.1 u = 0 ∧ bit (gfF S G m).2.2 u = 0) (fun z => h82 z.2)] at e; exact e) | (rw [if_pos (c := ¬ bit (gfF S G m).2.1 u = 0 ∧ bit (gfF S G m).2.2 u = 0) ⟨h68, h82⟩] at e; exact e)
            · refine xe_lconst (v := 0) dX8_odds_85 rfl ?_
              refine xe_goto (tgt := 90) dX8_odds_86 (by decide) ?_
              refine xe_lret dX8_odds_90 rfl ?_
              rw [if_neg h52] at e
              first | (rw [if_neg (c := ¬ bit (gfF S G m).2.1 u = 0 ∧ bit (gfF S G m).2.2 u = 0) (fun z => z.1 h68)] at e; exact e) | (rw [if_neg (c := ¬ bit (gfF S G m).2.1 u = 0 ∧ bit (gfF S G m).2.2 u = 0) (fun z => h82 z.2)] at e; exact e) | (rw [if_pos (c := ¬ bit (gfF S G m).2.1 u = 0 ∧ bit (gfF S G m).2.2 u = 0) ⟨h68, h82⟩] at e; exact e)
        · refine xe_iload_n dX8_odds_55 rfl ?_
          refine xe_if_eq (tgt := 63) dX8_odds_56 (by decide) (fun h56 => ?_) (fun h56 => ?_)
          · refine xe_ldc2 dX8_odds_63 cnX8_274 ?_
            refine xe_lret dX8_odds_66 rfl ?_
            rw [if_pos h52] at e
            first | (rw [if_pos h56] at e; exact e) | (rw [if_neg h56] at e; exact e)
          · refine xe_lconst (v := 1) dX8_odds_59 rfl ?_
            refine xe_goto (tgt := 66) dX8_odds_60 (by decide) ?_
            refine xe_lret dX8_odds_66 rfl ?_
            rw [if_pos h52] at e
            first | (rw [if_pos h56] at e; exact e) | (rw [if_neg h56] at e; exact e)
      · refine xe_ldc2 dX8_odds_34 cnX8_272 ?_
        refine xe_lret dX8_odds_37 rfl ?_
        rw [if_neg (by rw [bI_eq0.mp (hF.1.symm.trans h31)]; decide)] at e
        exact e
    · refine xe_iload_n dX8_odds_11 rfl ?_
      refine xe_iconst (v := 1) dX8_odds_12 rfl ?_
      refine xe_icmp_eq (tgt := 20) dX8_odds_13 (by decide) (fun h13 => ?_) (fun h13 => ?_)
      · have cp : rng pt 0 1 := by first | (rw [h8]; decide) | (rw [h13]; decide)
        have cf : rng f 0 7 := (xb_ne0 rfl).mp h4
        obtain ⟨u, hu, rfl⟩ := rng_nat (m := 7) (by omega) cf
        have eu : cN (nI u) = u := cN_nI (by omega)
        refine xe_aload_n dX8_odds_20 rfl ?_
        refine xe_callv (k2 := kX8_gatherFits) (vs := []) dX8_odds_21 okX8_gatherFits mlX8_155 imX8_gatherFits slX8_gatherFits (Or.inl ⟨8, _, _, by decide, rfl, rfl, rfl⟩) rfl rfl (Nat.le_of_ble_eq_true rfl) (Nat.le_of_ble_eq_true rfl) (sX8_gatherFits (by omega) G S hJ hc hS hh (fun τ hk hF => ?_))
        have e := h τ hk
        rw [oddJ, if_pos ⟨cf, cp⟩, eu] at e
        refine xe_aload_n dX8_odds_24 rfl ?_
        refine xe_getr dX8_odds_25 flX8_60 (by decide) rfl rfl ?_
        refine xe_getf dX8_odds_28 flX8_162 (by decide) rfl rfl ?_
        refine xe_if_ne (tgt := 38) dX8_odds_31 (by decide) (fun h31 => ?_) (fun h31 => ?_)
        · rw [if_pos (bI_ne0.mp (fun z => h31 (hF.1.trans z)))] at e
          refine xe_aload_n dX8_odds_38 rfl ?_
          refine xe_getr dX8_odds_39 flX8_60 (by decide) rfl rfl ?_
          refine xe_getf dX8_odds_42 flX8_168 (by decide) rfl rfl ?_
          rw [hF.2.1]
          refine xe_iload_n dX8_odds_45 rfl ?_
          refine xe_calls (k2 := kX8_isIn) (vs := [_, _]) dX8_odds_46 okX8_isIn mlX8_193 stX8_isIn rfl rfl (Nat.le_of_ble_eq_true rfl) (Nat.le_of_ble_eq_true rfl) (sX8_isIn (by omega) _ u ?_)
          refine xe_istore_n (lv2 := [_, _, _, _]) dX8_odds_49 (by decide) rfl ?_
          refine xe_iload_n dX8_odds_50 rfl ?_
          refine xe_iconst (v := 1) dX8_odds_51 rfl ?_
          refine xe_icmp_ne (tgt := 67) dX8_odds_52 (by decide) (fun h52 => ?_) (fun h52 => ?_)
          · refine xe_iload_n dX8_odds_67 rfl ?_
            refine xe_if_eq (tgt := 89) dX8_odds_68 (by decide) (fun h68 => ?_) (fun h68 => ?_)
            · refine xe_lconst (v := 1) dX8_odds_89 rfl ?_
              refine xe_lret dX8_odds_90 rfl ?_
              rw [if_neg h52] at e
              first | (rw [if_neg (c := ¬ bit (gfF S G m).2.1 u = 0 ∧ bit (gfF S G m).2.2 u = 0) (fun z => z.1 h68)] at e; exact e) | (rw [if_neg (c := ¬ bit (gfF S G m).2.1 u = 0 ∧ bit (gfF S G m).2.2 u = 0) (fun z => h82 z.2)] at e; exact e) | (rw [if_pos (c := ¬ bit (gfF S G m).2.1 u = 0 ∧ bit (gfF S G m).2.2 u = 0) ⟨h68, h82⟩] at e; exact e)
            · refine xe_aload_n dX8_odds_71 rfl ?_
              refine xe_getr dX8_odds_72 flX8_60 (by decide) rfl rfl ?_
              refine xe_getf dX8_odds_75 flX8_165 (by decide) rfl rfl ?_
              rw [hF.2.2]
              refine xe_iload_n dX8_odds_78 rfl ?_
              refine xe_calls (k2 := kX8_isIn) (vs := [_, _]) dX8_odds_79 okX8_isIn mlX8_193 stX8_isIn rfl rfl (Nat.le_of_ble_eq_true rfl) (Nat.le_of_ble_eq_true rfl) (sX8_isIn (by omega) _ u ?_)
              refine xe_if_ne (tgt := 89) dX8_odds_82 (by decide) (fun h82 => ?_) (fun h82 => ?_)
              · refine xe_lconst (v := 1) dX8_odds_89 rfl ?_
                refine xe_lret dX8_odds_90 rfl ?_
                rw [if_neg h52] at e
                first | (rw [if_neg (c := ¬ bit (gfF S G m).2.1 u = 0 ∧ bit (gfF S G m).2.2 u = 0) (fun z => z.1 h68)] at e; exact e) | (rw [if_neg (c := ¬ bit (gfF S G m).2.1 u = 0 ∧ bit (gfF S G m).2.2 u = 0) (fun z => h82 z.2)] at e; exact e) | (rw [if_pos (c := ¬ bit (gfF S G m).2.1 u = 0 ∧ bit (gfF S G m).2.2 u = 0) ⟨h68, h82⟩] at e; exact e)
              · refine xe_lconst (v := 0) dX8_odds_85 rfl ?_
                refine xe_goto (tgt := 90) dX8_odds_86 (by decide) ?_
                refine xe_lret dX8_odds_90 rfl ?_
                rw [if_neg h52] at e
                first | (rw [if_neg (c := ¬ bit (gfF S G m).2.1 u = 0 ∧ bit (gfF S G m).2.2 u = 0) (fun z => z.1 h68)] at e; exact e) | (rw [if_neg (c := ¬ bit (gfF S G m).2.1 u = 0 ∧ bit (gfF S G m).2.2 u = 0) (fun z => h82 z.2)] at e; exact e) | (rw [if_pos (c := ¬ bit (gfF S G m).2.1 u = 0 ∧ bit (gfF S G m).2.2 u = 0) ⟨h68, h82⟩] at e; exact e)
          · refine xe_iload_n dX8_odds_55 rfl ?_
            refine xe_if_eq (tgt := 63) dX8_odds_56 (by decide) (fun h56 => ?_) (fun h56 => ?_)
            · refine xe_ldc2 dX8_odds_63 cnX8_274 ?_
              refine xe_lret dX8_odds_66 rfl ?_
              rw [if_pos h52] at e
              first | (rw [if_pos h56] at e; exact e) | (rw [if_neg h56] at e; exact e)
            · refine xe_lconst (v := 1) dX8_odds_59 rfl ?_
              refine xe_goto (tgt := 66) dX8_odds_60 (by decide) ?_
              refine xe_lret dX8_odds_66 rfl ?_
              rw [if_pos h52] at e
              first | (rw [if_pos h56] at e; exact e) | (rw [if_neg h56] at e; exact e)
        · refine xe_ldc2 dX8_odds_34 cnX8_272 ?_
          refine xe_lret dX8_odds_37 rfl ?_
          rw [if_neg (by rw [bI_eq0.mp (hF.1.symm.trans h31)]; decide)] at e
          exact e
      · refine xe_ldc2 dX8_odds_16 cnX8_272 ?_
        refine xe_lret dX8_odds_19 rfl ?_
        have c0 : ¬ (rng f 0 7 ∧ rng pt 0 1) := by first | exact fun z => (xb_eq0 rfl).mp h4 z.1 | exact fun z => (rng01 z.2).elim h8 h13
        have e := h σ Un.rf
        rw [oddJ, if_neg c0] at e
        exact e
