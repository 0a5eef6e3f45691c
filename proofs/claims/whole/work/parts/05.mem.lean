theorem x_acN : Cond.native arraycopyName ∈ xtb := xtb_in (by decide +kernel) rfl
theorem x_acS : Cond.static arraycopyName ∈ xtb := xtb_in (by decide +kernel) rfl
theorem x_acI : Cond.initialized "java/lang/System" ∈ xtb := xtb_in (by decide +kernel) rfl
theorem x_acL : (([] : List Value).map fun v => v.category).sum + (nativeFrameWords "java/lang/System" "arraycopy" 5 + 11) ≤ 64 := by decide +kernel
/-- a field by its link: own class's entry idx names slot sl of kind ci, of a type, final or not -/
def xFl (own : String) (idx ci sl : Nat) (ty : FieldType) (fin : Bool) : Prop := ∃ (r : vw_C) (ty0 : Nat → FieldType), vwCl[ci]? = some r ∧ sl < r.2.2 ∧ Cond.fieldLink own idx (r.2.1 sl).1 (r.2.1 sl).2.1 (r.2.1 sl).2.2.1 ∈ xtb ∧ (∀ w ∈ u_ws r.1 r.2.1 r.2.2, w ∈ xtb) ∧ (∀ k, k < r.2.2 → parseFieldDescriptor (r.2.1 k).2.2.1 = some (ty0 k)) ∧ (∀ a, a < r.2.2 → ∀ b, b < r.2.2 → a ≠ b → (r.2.1 a).2.1 ≠ (r.2.1 b).2.1) ∧ ty0 sl = ty ∧ (r.2.1 sl).2.2.2 = fin
theorem xE_o {y : Nat → ClassId} {q : Nat → Nat} {σ : xSt} {c ci : Nat} {rs : List (Option Nat)} (hs : xsh c = .inr (ci, rs)) : xE y q σ c = .inr (ci, xF q (σ.1 c) 0 rs) := by unfold xE; rw [hs]; rfl
theorem xE_a {y : Nat → ClassId} {q : Nat → Nat} {σ : xSt} {c t n : Nat} {tg : List Nat} (hs : xsh c = .inl (t, n, tg)) : xE y q σ c = .inl (y t, n, xAr q σ c t tg) := by unfold xE; rw [hs]; rfl
theorem xAr_i {q : Nat → Nat} {σ : xSt} {c t : Nat} {tg : List Nat} (h3 : ¬ t = 3) (h5 : t < 5) : xAr q σ c t tg = .inl (σ.2.1 c) := by unfold xAr; rw [if_neg h3, if_pos h5]
theorem xAr_q {q : Nat → Nat} {σ : xSt} {c t : Nat} {tg : List Nat} (h5 : ¬ t < 5) : xAr q σ c t tg = .inr (.inr (.inr (.inr (fun i => (tg[i]?).map q)))) := by unfold xAr; rw [if_neg (by omega), if_neg h5]
theorem xWo {y : Nat → ClassId} {q : Nat → Nat} {σ : xSt} {c ci : Nat} {rs : List (Option Nat)} (hc : c < 138) (hs : xsh c = .inr (ci, rs)) : (xW y q σ)[c]? = some (q c, .inr (ci, xF q (σ.1 c) 0 rs)) := by rw [xW_get hc, xE_o hs]
theorem xWi {y : Nat → ClassId} {q : Nat → Nat} {σ : xSt} {c t n : Nat} {tg : List Nat} (hc : c < 138) (hs : xsh c = .inl (t, n, tg)) (h3 : ¬ t = 3) (h5 : t < 5) : (xW y q σ)[c]? = some (q c, .inl (y t, n, .inl (σ.2.1 c))) := by rw [xW_get hc, xE_a hs, xAr_i h3 h5]
theorem xWl {y : Nat → ClassId} {q : Nat → Nat} {σ : xSt} {c n : Nat} {tg : List Nat} (hc : c < 138) (hs : xsh c = .inl (3, n, tg)) : (xW y q σ)[c]? = some (q c, .inl (y 3, n, .inr (.inl (σ.2.2 c)))) := by rw [xW_get hc, xE_a hs]; rfl
theorem xWq {y : Nat → ClassId} {q : Nat → Nat} {σ : xSt} {c t n : Nat} {tg : List Nat} (hc : c < 138) (hs : xsh c = .inl (t, n, tg)) (h5 : ¬ t < 5) : (xW y q σ)[c]? = some (q c, .inl (y t, n, .inr (.inr (.inr (.inr (fun i => (tg[i]?).map q)))))) := by rw [xW_get hc, xE_a hs, xAr_q h5]
theorem xset_F {y : Nat → ClassId} {q : Nat → Nat} {σ : xSt} {c ci sl : Nat} {rs : List (Option Nat)} {v : Int32} (hc : c < 138) (hs : xsh c = .inr (ci, rs)) (hr : rs[sl]? = some none) : (xW y q σ).set c (q c, .inr (ci, (xF q (σ.1 c) 0 rs).set sl (.int v))) = xW y q (xsF σ c sl v) := by
  refine xW_set hc ?_ (fun b hb => xE_same (va_up_ne _ _ hb) rfl rfl)
  rw [xE_o hs, xF_set _ _ _ _ _ hr]
  simp only [xsF, va_up_self]
theorem xset_A {y : Nat → ClassId} {q : Nat → Nat} {σ : xSt} {c t n : Nat} {tg : List Nat} {g : Nat → Int32} (hc : c < 138) (hs : xsh c = .inl (t, n, tg)) (h3 : ¬ t = 3) (h5 : t < 5) : (xW y q σ).set c (q c, .inl (y t, n, .inl g)) = xW y q (xsA σ c g) := by
  refine xW_set hc ?_ (fun b hb => xE_same rfl (va_up_ne _ _ hb) rfl)
  rw [xE_a hs, xAr_i h3 h5]
  simp only [xsA, va_up_self]
theorem xset_J {y : Nat → ClassId} {q : Nat → Nat} {σ : xSt} {c n : Nat} {tg : List Nat} {g : Nat → Int64} (hc : c < 138) (hs : xsh c = .inl (3, n, tg)) : (xW y q σ).set c (q c, .inl (y 3, n, .inr (.inl g))) = xW y q (xsJ σ c g) := by
  refine xW_set hc ?_ (fun b hb => xE_same rfl rfl (va_up_ne _ _ hb))
  rw [xE_a hs]
  show Sum.inl (y 3, n, Sum.inr (Sum.inl (va_up σ.2.2 c g c))) = _
  rw [va_up_self]
section XMEM
variable {k : xMD} {d pc : Nat} {lv : List (Option Value)} {st : List Value} {σ : xSt} {Post : Option Value → xSt → Prop}
theorem xe_getf {c0 ci sl idx : Nat} {rs : List (Option Nat)} {ty : FieldType} {fin : Bool} (hd : decode k.2.1 pc = .ok (.getfield idx, 3)) (hf : xFl k.1.cls idx ci sl ty fin) (hc : c0 < 138) (hs : xsh c0 = .inr (ci, rs)) (hr : rs[sl]? = some none) (h : xEv k d (pc + 3) lv (.int (σ.1 c0 sl) :: st) σ Post) : xEv k d pc lv (.ref c0 :: st) σ Post := by
  intro p l e s m args below meth c D y q A H locs ls hC hX hA hP hD hS hL
  obtain ⟨⟨C, T, N⟩, ty0, h1, h2, h3, h4, -⟩ := hf
  refine va_get (C := C) (T := T) (N := N) hC.1 hC.2.1 hC.2.2.2.2.2.1 h4 hC.2.2.2.2.1 hX.1 hP c0 (xWo hc hs) h1 sl h2 (hC.2.2.2.2.2.1 _ h3) (fun _ z => z) (v := .int (σ.1 c0 sl)) ?_ hd (h p l e s m args below meth c D y q A H locs ls hC hX hA hP hD hS hL)
  rw [xF_get, hr, Nat.zero_add]; rfl
theorem xe_getr {c0 ci sl idx t : Nat} {rs : List (Option Nat)} {ty : FieldType} {fin : Bool} (hd : decode k.2.1 pc = .ok (.getfield idx, 3)) (hf : xFl k.1.cls idx ci sl ty fin) (hc : c0 < 138) (hs : xsh c0 = .inr (ci, rs)) (hr : rs[sl]? = some (some t)) (h : xEv k d (pc + 3) lv (.ref t :: st) σ Post) : xEv k d pc lv (.ref c0 :: st) σ Post := by
  intro p l e s m args below meth c D y q A H locs ls hC hX hA hP hD hS hL
  obtain ⟨⟨C, T, N⟩, ty0, h1, h2, h3, h4, -⟩ := hf
  refine va_get (C := C) (T := T) (N := N) hC.1 hC.2.1 hC.2.2.2.2.2.1 h4 hC.2.2.2.2.1 hX.1 hP c0 (xWo hc hs) h1 sl h2 (hC.2.2.2.2.2.1 _ h3) (fun _ z => z) (v := .ref (q t)) ?_ hd (h p l e s m args below meth c D y q A H locs ls hC hX hA hP hD hS hL)
  rw [xF_get, hr]; rfl
theorem xe_putf {c0 ci sl idx : Nat} {rs : List (Option Nat)} {ty : FieldType} {v : Int32} (hd : decode k.2.1 pc = .ok (.putfield idx, 3)) (hf : xFl k.1.cls idx ci sl ty false) (hc : c0 < 138) (hs : xsh c0 = .inr (ci, rs)) (hr : rs[sl]? = some none) (hn : narrow ty (.int v) = .int v) (hft : fits ty (.int v) = true) (h : xEv k d (pc + 3) lv st (xsF σ c0 sl v) Post) : xEv k d pc lv (.int v :: .ref c0 :: st) σ Post := by
  intro p l e s m args below meth c D y q A H locs ls hC hX hA hP hD hS hL
  obtain ⟨⟨C, T, N⟩, ty0, h1, h2, h3, h4, h5, h6, h7, h8⟩ := hf
  subst h7
  refine va_put (C := C) (T := T) (N := N) (v := .int v) hC.1 hC.2.1 hC.2.2.2.2.2.1 h4 ty0 h5 h6 hC.2.2.2.2.1 hX.1 hP hD hS c0 (xWo hc hs) h1 sl h2 (hC.2.2.2.2.2.1 _ h3) (fun _ z => z) h8 (h5 sl h2) hn hft (by rw [xF_len]; exact (List.getElem?_eq_some_iff.mp hr).1) hd (fun H2 locs2 hP2 hD2 hS2 => ?_)
  rw [xset_F hc hs hr] at hP2 hD2
  exact h p l e s m args below meth c D y q A H2 locs2 ls hC hX hA hP2 hD2 hS2 hL
theorem xe_iaload {c0 n : Nat} {tg : List Nat} {i : Int32} (hd : decode k.2.1 pc = .ok (.iaload, 1)) (hc : c0 < 138) (hs : xsh c0 = .inl (0, n, tg)) (hi : vp_in i n) (h : xEv k d (pc + 1) lv (.int (σ.2.1 c0 i.toNatClampNeg) :: st) σ Post) : xEv k d pc lv (.int i :: .ref c0 :: st) σ Post := by
  intro p l e s m args below meth c D y q A H locs ls hC hX hA hP hD hS hL
  exact va_iald hC.1 hC.2.1 hX.1 hP c0 0 (xWi hc hs (by decide) (by decide)) rfl hi hd (h p l e s m args below meth c D y q A H locs ls hC hX hA hP hD hS hL)
theorem xe_baload {c0 n : Nat} {tg : List Nat} {i : Int32} (hd : decode k.2.1 pc = .ok (.baload, 1)) (hc : c0 < 138) (hs : xsh c0 = .inl (1, n, tg)) (hi : vp_in i n) (h : xEv k d (pc + 1) lv (.int (σ.2.1 c0 i.toNatClampNeg) :: st) σ Post) : xEv k d pc lv (.int i :: .ref c0 :: st) σ Post := by
  intro p l e s m args below meth c D y q A H locs ls hC hX hA hP hD hS hL
  exact va_bald hC.1 hC.2.1 hX.1 hP c0 1 (xWi hc hs (by decide) (by decide)) rfl hi hd (h p l e s m args below meth c D y q A H locs ls hC hX hA hP hD hS hL)
theorem xe_caload {c0 n : Nat} {tg : List Nat} {i : Int32} (hd : decode k.2.1 pc = .ok (.caload, 1)) (hc : c0 < 138) (hs : xsh c0 = .inl (2, n, tg)) (hi : vp_in i n) (h : xEv k d (pc + 1) lv (.int (σ.2.1 c0 i.toNatClampNeg) :: st) σ Post) : xEv k d pc lv (.int i :: .ref c0 :: st) σ Post := by
  intro p l e s m args below meth c D y q A H locs ls hC hX hA hP hD hS hL
  exact va_cald hC.1 hC.2.1 hX.1 hP c0 2 (xWi hc hs (by decide) (by decide)) rfl hi hd (h p l e s m args below meth c D y q A H locs ls hC hX hA hP hD hS hL)
theorem xe_zaload {c0 n : Nat} {tg : List Nat} {i : Int32} (hd : decode k.2.1 pc = .ok (.baload, 1)) (hc : c0 < 138) (hs : xsh c0 = .inl (4, n, tg)) (hi : vp_in i n) (h : xEv k d (pc + 1) lv (.int (σ.2.1 c0 i.toNatClampNeg) :: st) σ Post) : xEv k d pc lv (.int i :: .ref c0 :: st) σ Post := by
  intro p l e s m args below meth c D y q A H locs ls hC hX hA hP hD hS hL
  exact va_zald hC.1 hC.2.1 hX.1 hP c0 4 (xWi hc hs (by decide) (by decide)) rfl hi hd (h p l e s m args below meth c D y q A H locs ls hC hX hA hP hD hS hL)
theorem xe_laload {c0 n : Nat} {tg : List Nat} {i : Int32} (hd : decode k.2.1 pc = .ok (.laload, 1)) (hc : c0 < 138) (hs : xsh c0 = .inl (3, n, tg)) (hi : vp_in i n) (h : xEv k d (pc + 1) lv (.long (σ.2.2 c0 i.toNatClampNeg) :: st) σ Post) : xEv k d pc lv (.int i :: .ref c0 :: st) σ Post := by
  intro p l e s m args below meth c D y q A H locs ls hC hX hA hP hD hS hL
  exact va_lald hC.1 hC.2.1 hX.1 hP c0 3 (xWl hc hs) rfl hi hd (h p l e s m args below meth c D y q A H locs ls hC hX hA hP hD hS hL)
theorem xe_aaload {c0 t n tc : Nat} {tg : List Nat} {i : Int32} (hd : decode k.2.1 pc = .ok (.aaload, 1)) (hc : c0 < 138) (hs : xsh c0 = .inl (t, n, tg)) (ht : t = 5 ∨ t = 6 ∨ t = 7) (hi : vp_in i n) (hg : tg[i.toNatClampNeg]? = some tc) (h : xEv k d (pc + 1) lv (.ref tc :: st) σ Post) : xEv k d pc lv (.int i :: .ref c0 :: st) σ Post := by
  intro p l e s m args below meth c D y q A H locs ls hC hX hA hP hD hS hL
  have hh := (h p l e s m args below meth c D y q A H locs ls hC hX hA hP hD hS hL)
  have e : cv q (.ref tc) = va_rf ((fun i : Nat => (tg[i]?).map q) i.toNatClampNeg) := by simp only [hg]; rfl
  simp only [List.map_cons] at hh ⊢
  rw [e] at hh
  rcases ht with rfl | rfl | rfl
  · exact va_aldq hC.1 hC.2.1 hX.1 hP c0 5 (xWq hc hs (by decide)) rfl hi hd hh
  · exact va_aldq hC.1 hC.2.1 hX.1 hP c0 6 (xWq hc hs (by decide)) rfl hi hd hh
  · exact va_aldq hC.1 hC.2.1 hX.1 hP c0 7 (xWq hc hs (by decide)) rfl hi hd hh
theorem xe_iastore {c0 n : Nat} {tg : List Nat} {i x : Int32} (hd : decode k.2.1 pc = .ok (.iastore, 1)) (hc : c0 < 138) (hs : xsh c0 = .inl (0, n, tg)) (hi : vp_in i n) (h : xEv k d (pc + 1) lv st (xsA σ c0 (upd (σ.2.1 c0) i.toNatClampNeg x)) Post) : xEv k d pc lv (.int x :: .int i :: .ref c0 :: st) σ Post := by
  intro p l e s m args below meth c D y q A H locs ls hC hX hA hP hD hS hL
  refine va_iast hC.1 hC.2.1 hX.1 hP hD hS c0 0 (xWi hc hs (by decide) (by decide)) rfl hi hd (fun H2 locs2 hP2 hD2 hS2 => ?_)
  rw [xset_A hc hs (by decide) (by decide)] at hP2 hD2
  exact h p l e s m args below meth c D y q A H2 locs2 ls hC hX hA hP2 hD2 hS2 hL
theorem xe_bastore {c0 n : Nat} {tg : List Nat} {i x : Int32} (hd : decode k.2.1 pc = .ok (.bastore, 1)) (hc : c0 < 138) (hs : xsh c0 = .inl (1, n, tg)) (hi : vp_in i n) (h : xEv k d (pc + 1) lv st (xsA σ c0 (upd (σ.2.1 c0) i.toNatClampNeg (vp_nar .byte x))) Post) : xEv k d pc lv (.int x :: .int i :: .ref c0 :: st) σ Post := by
  intro p l e s m args below meth c D y q A H locs ls hC hX hA hP hD hS hL
  refine va_bast hC.1 hC.2.1 hX.1 hP hD hS c0 1 (xWi hc hs (by decide) (by decide)) rfl hi hd (fun H2 locs2 hP2 hD2 hS2 => ?_)
  rw [xset_A hc hs (by decide) (by decide)] at hP2 hD2
  exact h p l e s m args below meth c D y q A H2 locs2 ls hC hX hA hP2 hD2 hS2 hL
theorem xe_zastore {c0 n : Nat} {tg : List Nat} {i x : Int32} (hd : decode k.2.1 pc = .ok (.bastore, 1)) (hc : c0 < 138) (hs : xsh c0 = .inl (4, n, tg)) (hi : vp_in i n) (h : xEv k d (pc + 1) lv st (xsA σ c0 (upd (σ.2.1 c0) i.toNatClampNeg (vp_nar .boolean x))) Post) : xEv k d pc lv (.int x :: .int i :: .ref c0 :: st) σ Post := by
  intro p l e s m args below meth c D y q A H locs ls hC hX hA hP hD hS hL
  refine va_zast hC.1 hC.2.1 hX.1 hP hD hS c0 4 (xWi hc hs (by decide) (by decide)) rfl hi hd (fun H2 locs2 hP2 hD2 hS2 => ?_)
  rw [xset_A hc hs (by decide) (by decide)] at hP2 hD2
  exact h p l e s m args below meth c D y q A H2 locs2 ls hC hX hA hP2 hD2 hS2 hL
theorem xe_lastore {c0 n : Nat} {tg : List Nat} {i : Int32} {x : Int64} (hd : decode k.2.1 pc = .ok (.lastore, 1)) (hc : c0 < 138) (hs : xsh c0 = .inl (3, n, tg)) (hi : vp_in i n) (h : xEv k d (pc + 1) lv st (xsJ σ c0 (vp_updL (σ.2.2 c0) i.toNatClampNeg x)) Post) : xEv k d pc lv (.long x :: .int i :: .ref c0 :: st) σ Post := by
  intro p l e s m args below meth c D y q A H locs ls hC hX hA hP hD hS hL
  refine va_last hC.1 hC.2.1 hX.1 hP hD hS c0 3 (xWl hc hs) rfl hi hd (fun H2 locs2 hP2 hD2 hS2 => ?_)
  rw [xset_J hc hs] at hP2 hD2
  exact h p l e s m args below meth c D y q A H2 locs2 ls hC hX hA hP2 hD2 hS2 hL
theorem xe_alen {c0 t n : Nat} {tg : List Nat} (hd : decode k.2.1 pc = .ok (.arraylength, 1)) (hc : c0 < 138) (hs : xsh c0 = .inl (t, n, tg)) (ht : t < 8) (h : xEv k d (pc + 1) lv (.int (nI n) :: st) σ Post) : xEv k d pc lv (.ref c0 :: st) σ Post := by
  intro p l e s m args below meth c D y q A H locs ls hC hX hA hP hD hS hL
  obtain ⟨ty, hty⟩ : ∃ ty, (xty y)[t]? = some (y t, ty) := by
    rcases (show t = 0 ∨ t = 1 ∨ t = 2 ∨ t = 3 ∨ t = 4 ∨ t = 5 ∨ t = 6 ∨ t = 7 by omega) with rfl | rfl | rfl | rfl | rfl | rfl | rfl | rfl <;> exact ⟨_, rfl⟩
  exact va_alen (x := (n, xAr q σ c0 t tg)) hC.1 hC.2.1 hX.1 hP c0 t (by rw [xW_get hc, xE_a hs]) hty rfl hd (h p l e s m args below meth c D y q A H locs ls hC hX hA hP hD hS hL)
theorem xe_above {idx : Nat} (hd : decode k.2.1 pc = .ok (.getstatic idx, 3)) (hf : Cond.fieldLink k.1.cls idx RX8 "ABOVE" "[I" ∈ xtb) (h : xEv k d (pc + 3) lv (.ref 200 :: st) σ Post) : xEv k d pc lv st σ Post := by
  intro p l e s m args below meth c D y q A H locs ls hC hX hA hP hD hS hL
  exact va_gets (v := .ref (q 200)) hC.1 hC.2.1 hX.2.1.1 hS hC.2.2.2.2.1 (hC.2.2.2.2.2.1 _ hf) (fun _ z => z) hd (h p l e s m args below meth c D y q A H locs ls hC hX hA hP hD hS hL)
theorem xe_aboveN (hk : k.1.cls = RX0) (hd : decode k.2.1 pc = .ok (.getstatic 28, 3)) (h : xEv k d (pc + 3) lv (.ref 200 :: st) σ Post) : xEv k d pc lv st σ Post := by
  intro p l e s m args below meth c D y q A H locs ls hC hX hA hP hD hS hL
  exact va_getsN (v := .ref (q 200)) (own := RX0) (ref := RX8) (host := RX8) hC.1 hC.2.1 hX.2.1.1 hS (hk ▸ hC.2.2.2.2.1) (va_Nw.use rfl hX.2.2.2.2.2) (fun _ z => z) hd (h p l e s m args below meth c D y q A H locs ls hC hX hA hP hD hS hL)
theorem xe_bodies {idx : Nat} (hd : decode k.2.1 pc = .ok (.getstatic idx, 3)) (hf : Cond.fieldLink k.1.cls idx RX0 "BODIES" "[I" ∈ xtb) (h : xEv k d (pc + 3) lv (.ref 201 :: st) σ Post) : xEv k d pc lv st σ Post := by
  intro p l e s m args below meth c D y q A H locs ls hC hX hA hP hD hS hL
  exact va_gets (v := .ref (q 201)) hC.1 hC.2.1 hX.2.1.2.2.1 hS hC.2.2.2.2.1 (hC.2.2.2.2.2.1 _ hf) (fun _ z => z) hd (h p l e s m args below meth c D y q A H locs ls hC hX hA hP hD hS hL)
theorem xe_compact {idx : Nat} (hd : decode k.2.1 pc = .ok (.getstatic idx, 3)) (hf : Cond.fieldLink k.1.cls idx RJ0 "COMPACT_STRINGS" "Z" ∈ xtb) (h : xEv k d (pc + 3) lv (.int 1 :: st) σ Post) : xEv k d pc lv st σ Post := by
  intro p l e s m args below meth c D y q A H locs ls hC hX hA hP hD hS hL
  exact va_gets (v := .int 1) hC.1 hC.2.1 hX.2.1.2.2.2.2.1.1 hS hC.2.2.2.2.1 (hC.2.2.2.2.2.1 _ hf) (fun _ z => z) hd (h p l e s m args below meth c D y q A H locs ls hC hX hA hP hD hS hL)
theorem xe_sioobe {idx : Nat} (hd : decode k.2.1 pc = .ok (.getstatic idx, 3)) (hf : Cond.fieldLink k.1.cls idx RJ3 "SIOOBE_FORMATTER" "Ljava/util/function/BiFunction;" ∈ xtb) (h0 : xEv k d (pc + 3) lv (.null :: st) σ Post) (h : xEv k d (pc + 3) lv (.ref 202 :: st) σ Post) : xEv k d pc lv st σ Post := by
  intro p l e s m args below meth c D y q A H locs ls hC hX hA hP hD hS hL
  rcases hX.2.1.2.2.2.2.1.2 with hz | hz
  · exact va_gets (v := .null) hC.1 hC.2.1 hz hS hC.2.2.2.2.1 (hC.2.2.2.2.2.1 _ hf) (fun _ z => z) hd (h0 p l e s m args below meth c D y q A H locs ls hC hX hA hP hD hS hL)
  · exact va_gets (v := .ref (q 202)) hC.1 hC.2.1 hz hS hC.2.2.2.2.1 (hC.2.2.2.2.2.1 _ hf) (fun _ z => z) hd (h p l e s m args below meth c D y q A H locs ls hC hX hA hP hD hS hL)
theorem xe_ldAbove {i : Int32} (hd : decode k.2.1 pc = .ok (.iaload, 1)) (hi : vp_in i 7) (h : xEv k d (pc + 1) lv (.int (xABOVE i.toNatClampNeg) :: st) σ Post) : xEv k d pc lv (.int i :: .ref 200 :: st) σ Post := by
  intro p l e s m args below meth c D y q A H locs ls hC hX hA hP hD hS hL
  exact va_ti hC.1 hC.2.1 hX.2.1.2.1 hS hi rfl hd (h p l e s m args below meth c D y q A H locs ls hC hX hA hP hD hS hL)
theorem xe_ldBodies {i : Int32} (hd : decode k.2.1 pc = .ok (.iaload, 1)) (hi : vp_in i 21) (h : xEv k d (pc + 1) lv (.int (xBODIES i.toNatClampNeg) :: st) σ Post) : xEv k d pc lv (.int i :: .ref 201 :: st) σ Post := by
  intro p l e s m args below meth c D y q A H locs ls hC hX hA hP hD hS hL
  exact va_ti hC.1 hC.2.1 hX.2.1.2.2.2.1 hS hi rfl hd (h p l e s m args below meth c D y q A H locs ls hC hX hA hP hD hS hL)
theorem xe_text0 (hk : k.1.cls = RX7) (hd : decode k.2.1 pc = .ok (.ldc 45, 2)) (h : xEv k d (pc + 2) lv (.ref 210 :: st) σ Post) : xEv k d pc lv st σ Post := by
  intro p l e s m args below meth c D y q A H locs ls hC hX hA hP hD hS hL
  exact va_ldcS (own := RX7) hC.1 hC.2.1 (hk ▸ hC.2.2.2.2.1) hX.2.2.1.1 hd (h p l e s m args below meth c D y q A H locs ls hC hX hA hP hD hS hL)
theorem xe_text1 (hk : k.1.cls = RX7) (hd : decode k.2.1 pc = .ok (.ldc 47, 2)) (h : xEv k d (pc + 2) lv (.ref 211 :: st) σ Post) : xEv k d pc lv st σ Post := by
  intro p l e s m args below meth c D y q A H locs ls hC hX hA hP hD hS hL
  exact va_ldcS (own := RX7) hC.1 hC.2.1 (hk ▸ hC.2.2.2.2.1) hX.2.2.1.2.1 hd (h p l e s m args below meth c D y q A H locs ls hC hX hA hP hD hS hL)
theorem xe_text2 (hk : k.1.cls = RX7) (hd : decode k.2.1 pc = .ok (.ldc 49, 2)) (h : xEv k d (pc + 2) lv (.ref 212 :: st) σ Post) : xEv k d pc lv st σ Post := by
  intro p l e s m args below meth c D y q A H locs ls hC hX hA hP hD hS hL
  exact va_ldcS (own := RX7) hC.1 hC.2.1 (hk ▸ hC.2.2.2.2.1) hX.2.2.1.2.2.1 hd (h p l e s m args below meth c D y q A H locs ls hC hX hA hP hD hS hL)
theorem xe_text3 (hk : k.1.cls = RX7) (hd : decode k.2.1 pc = .ok (.ldc 80, 2)) (h : xEv k d (pc + 2) lv (.ref 213 :: st) σ Post) : xEv k d pc lv st σ Post := by
  intro p l e s m args below meth c D y q A H locs ls hC hX hA hP hD hS hL
  exact va_ldcS (own := RX7) hC.1 hC.2.1 (hk ▸ hC.2.2.2.2.1) hX.2.2.1.2.2.2.1 hd (h p l e s m args below meth c D y q A H locs ls hC hX hA hP hD hS hL)
theorem xe_text4 (hk : k.1.cls = RX7) (hd : decode k.2.1 pc = .ok (.ldc 86, 2)) (h : xEv k d (pc + 2) lv (.ref 214 :: st) σ Post) : xEv k d pc lv st σ Post := by
  intro p l e s m args below meth c D y q A H locs ls hC hX hA hP hD hS hL
  exact va_ldcS (own := RX7) hC.1 hC.2.1 (hk ▸ hC.2.2.2.2.1) hX.2.2.1.2.2.2.2 hd (h p l e s m args below meth c D y q A H locs ls hC hX hA hP hD hS hL)
theorem xe_strValue {i idx : Nat} (hd : decode k.2.1 pc = .ok (.getfield idx, 3)) (hf : Cond.fieldLink k.1.cls idx RJ0 "value" "[B" ∈ xtb) (hi : i < 5) (h : xEv k d (pc + 3) lv (.ref (220 + i) :: st) σ Post) : xEv k d pc lv (.ref (210 + i) :: st) σ Post := by
  intro p l e s m args below meth c D y q A H locs ls hC hX hA hP hD hS hL
  exact vk_getf (v := .ref (q (220 + i))) hC.1 hC.2.1 (hX.2.1.2.2.2.2.2.1 i hi).2.2.1 hS hC.2.2.2.2.1 (hC.2.2.2.2.2.1 _ hf) (fun _ z => z) hd (h p l e s m args below meth c D y q A H locs ls hC hX hA hP hD hS hL)
theorem xe_strCoder {i idx : Nat} (hd : decode k.2.1 pc = .ok (.getfield idx, 3)) (hf : Cond.fieldLink k.1.cls idx RJ0 "coder" "B" ∈ xtb) (hi : i < 5) (h : xEv k d (pc + 3) lv (.int 0 :: st) σ Post) : xEv k d pc lv (.ref (210 + i) :: st) σ Post := by
  intro p l e s m args below meth c D y q A H locs ls hC hX hA hP hD hS hL
  exact vk_getf (v := .int 0) hC.1 hC.2.1 (hX.2.1.2.2.2.2.2.1 i hi).2.1 hS hC.2.2.2.2.1 (hC.2.2.2.2.2.1 _ hf) (fun _ z => z) hd (h p l e s m args below meth c D y q A H locs ls hC hX hA hP hD hS hL)
theorem xe_strLen {i : Nat} (hd : decode k.2.1 pc = .ok (.arraylength, 1)) (hi : i < 5) (h : xEv k d (pc + 1) lv (.int (nI (xlen.getD i 0)) :: st) σ Post) : xEv k d pc lv (.ref (220 + i) :: st) σ Post := by
  intro p l e s m args below meth c D y q A H locs ls hC hX hA hP hD hS hL
  exact va_tlen hC.1 hC.2.1 (hX.2.1.2.2.2.2.2.1 i hi).2.2.2 hS rfl hd (h p l e s m args below meth c D y q A H locs ls hC hX hA hP hD hS hL)
theorem xe_strByte {i : Nat} {j : Int32} (hd : decode k.2.1 pc = .ok (.baload, 1)) (hi : i < 5) (hj : vp_in j (xlen.getD i 0)) (h : xEv k d (pc + 1) lv (.int ((xbyt.getD i []).getD j.toNatClampNeg 0) :: st) σ Post) : xEv k d pc lv (.int j :: .ref (220 + i) :: st) σ Post := by
  intro p l e s m args below meth c D y q A H locs ls hC hX hA hP hD hS hL
  exact va_tb hC.1 hC.2.1 (hX.2.1.2.2.2.2.2.1 i hi).2.2.2 hS hj rfl hd (h p l e s m args below meth c D y q A H locs ls hC hX hA hP hD hS hL)
theorem xe_copyi {c0 c1 n0 n1 idx : Nat} {t0 t1 : List Nat} {sp dp n : Int32} (hd : decode k.2.1 pc = .ok (.invokestatic idx, 3)) (hf : Cond.methodLink k.1.cls idx arraycopyName ∈ xtb) (hdd : 1 ≤ d) (hc0 : c0 < 138) (hs0 : xsh c0 = .inl (0, n0, t0)) (hc1 : c1 < 138) (hs1 : xsh c1 = .inl (0, n1, t1)) (h1 : ¬ sp < 0) (h2 : ¬ dp < 0) (h3 : ¬ n < 0) (h4 : sp.toNatClampNeg + n.toNatClampNeg ≤ n0) (h5 : dp.toNatClampNeg + n.toNatClampNeg ≤ n1) (hst : st = []) (h : xEv k d (pc + 3) lv st (xsA σ c1 (va_cpy (σ.2.1 c0) (σ.2.1 c1) sp.toNatClampNeg dp.toNatClampNeg n.toNatClampNeg)) Post) : xEv k d pc lv (.int n :: .int dp :: .ref c1 :: .int sp :: .ref c0 :: st) σ Post := by
  intro p l e s m args below meth c D y q A H locs ls hC hX hA hP hD hS hL
  subst hst
  refine va_copyi hC.1 hC.2.1 (hC.2.2.2.1.trans hL.1.symm) hC.2.2.2.2.1 (hC.2.2.2.2.2.1 _ hf) (hC.2.2.2.2.2.1 _ x_acN) (hC.2.2.2.2.2.1 _ x_acS) (hC.2.2.2.2.2.1 _ x_acI) hX.1 hP hD hS c0 c1 0 0 (xWi hc0 hs0 (by decide) (by decide)) (xWi hc1 hs1 (by decide) (by decide)) rfl rfl rfl h1 h2 h3 h4 h5 (fun _ _ => rfl) hdd (Nat.le_trans x_acL (by show 64 ≤ 64 * d; omega)) hd (fun H2 locs2 hP2 hD2 hS2 => ?_)
  rw [xset_A hc1 hs1 (by decide) (by decide)] at hP2 hD2
  exact h p l e s m args below meth c D y q A H2 locs2 ls hC hX hA hP2 hD2 hS2 hL
theorem xe_copyl {c0 c1 n0 n1 idx : Nat} {t0 t1 : List Nat} {sp dp n : Int32} (hd : decode k.2.1 pc = .ok (.invokestatic idx, 3)) (hf : Cond.methodLink k.1.cls idx arraycopyName ∈ xtb) (hdd : 1 ≤ d) (hc0 : c0 < 138) (hs0 : xsh c0 = .inl (3, n0, t0)) (hc1 : c1 < 138) (hs1 : xsh c1 = .inl (3, n1, t1)) (h1 : ¬ sp < 0) (h2 : ¬ dp < 0) (h3 : ¬ n < 0) (h4 : sp.toNatClampNeg + n.toNatClampNeg ≤ n0) (h5 : dp.toNatClampNeg + n.toNatClampNeg ≤ n1) (hst : st = []) (h : xEv k d (pc + 3) lv st (xsJ σ c1 (va_cpy (σ.2.2 c0) (σ.2.2 c1) sp.toNatClampNeg dp.toNatClampNeg n.toNatClampNeg)) Post) : xEv k d pc lv (.int n :: .int dp :: .ref c1 :: .int sp :: .ref c0 :: st) σ Post := by
  intro p l e s m args below meth c D y q A H locs ls hC hX hA hP hD hS hL
  subst hst
  refine va_copyl hC.1 hC.2.1 (hC.2.2.2.1.trans hL.1.symm) hC.2.2.2.2.1 (hC.2.2.2.2.2.1 _ hf) (hC.2.2.2.2.2.1 _ x_acN) (hC.2.2.2.2.2.1 _ x_acS) (hC.2.2.2.2.2.1 _ x_acI) hX.1 hP hD hS c0 c1 3 3 (xWl hc0 hs0) (xWl hc1 hs1) rfl rfl rfl h1 h2 h3 h4 h5 (fun _ _ => rfl) hdd (Nat.le_trans x_acL (by show 64 ≤ 64 * d; omega)) hd (fun H2 locs2 hP2 hD2 hS2 => ?_)
  rw [xset_J hc1 hs1] at hP2 hD2
  exact h p l e s m args below meth c D y q A H2 locs2 ls hC hX hA hP2 hD2 hS2 hL
theorem xe_iret {v : Int32} {ty : FieldType} (hd : decode k.2.1 pc = .ok (.ireturn, 1)) (hr : k.2.2.2 = some ty) (hn : narrow ty (.int v) = .int v) (h : Post (some (.int v)) σ) : xEv k d pc lv [.int v] σ Post := by
  intro p l e s m args below meth c D y q A H locs ls hC hX hA hP hD hS hL
  exact W.zret hC.1 hC.2.1 (hC.2.2.1.trans hr) hn (fun t ht hW => ⟨⟨some (.int v), σ, rfl, h, by rw [ht]; exact hP, hD⟩, hS.F ht⟩) hS.2.2 hd hC.2.2.2.2.2.2
theorem xe_lret {v : Int64} (hd : decode k.2.1 pc = .ok (.lreturn, 1)) (hr : k.2.2.2 = some .long) (h : Post (some (.long v)) σ) : xEv k d pc lv [.long v] σ Post := by
  intro p l e s m args below meth c D y q A H locs ls hC hX hA hP hD hS hL
  exact W.lret hC.1 hC.2.1 (hC.2.2.1.trans hr) (fun t ht hW => ⟨⟨some (.long v), σ, rfl, h, by rw [ht]; exact hP, hD⟩, hS.F ht⟩) hS.2.2 hd hC.2.2.2.2.2.2
theorem xe_vret (hd : decode k.2.1 pc = .ok (.return_, 1)) (hr : k.2.2.2 = none) (h : Post none σ) : xEv k d pc lv [] σ Post := by
  intro p l e s m args below meth c D y q A H locs ls hC hX hA hP hD hS hL
  exact W.vret hC.1 hC.2.1 (hC.2.2.1.trans hr) (fun t ht hW => ⟨⟨none, σ, rfl, h, by rw [ht]; exact hP, hD⟩, hS.F ht⟩) hS.2.2 hd hC.2.2.2.2.2.2
theorem xe_aret {v : Nat} {n : String} (hd : decode k.2.1 pc = .ok (.areturn, 1)) (hr : k.2.2.2 = some (.object n)) (h : Post (some (.ref v)) σ) : xEv k d pc lv [.ref v] σ Post := by
  intro p l e s m args below meth c D y q A H locs ls hC hX hA hP hD hS hL
  exact W.aret hC.1 hC.2.1 (hC.2.2.1.trans hr) (Or.inl ⟨n, rfl⟩) (Or.inr ⟨q v, rfl⟩) (fun t ht hW => ⟨⟨some (.ref v), σ, rfl, h, by rw [ht]; exact hP, hD⟩, hS.F ht⟩) hS.2.2 hd hC.2.2.2.2.2.2
theorem xe_aretN {n : String} (hd : decode k.2.1 pc = .ok (.areturn, 1)) (hr : k.2.2.2 = some (.object n)) (h : Post (some .null) σ) : xEv k d pc lv [.null] σ Post := by
  intro p l e s m args below meth c D y q A H locs ls hC hX hA hP hD hS hL
  exact W.aret hC.1 hC.2.1 (hC.2.2.1.trans hr) (Or.inl ⟨n, rfl⟩) (Or.inl rfl) (fun t ht hW => ⟨⟨some .null, σ, rfl, h, by rw [ht]; exact hP, hD⟩, hS.F ht⟩) hS.2.2 hd hC.2.2.2.2.2.2
end XMEM
