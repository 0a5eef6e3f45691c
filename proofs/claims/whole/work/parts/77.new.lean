/-! CONSTRUCTORS: the cells that stand so far, as a list; new ones come at its end -/
abbrev nrm (d MC MS : Nat) : Room := { frames := d, cells := MC, slots := MS, locals := 64 * d }
/-- words that are not among the tables' steady ones -/
def nNs (U : State) : Prop := (va_Nw (.methodLinkNest RX5 45 yX3_init RX8) U ∧ va_Nw (.methodLinkNest RX8 26 yX3_init RX8) U ∧ va_Nw (.methodLinkNest RX8 37 yX7_init RX8) U ∧ va_Nw (.methodLinkNest RX8 48 yX1_init RX8) U ∧ va_Nw (.methodLinkNest RX8 59 yX2_init RX8) U ∧ va_Nw (.methodLinkNest RX8 70 yX0_init RX8) U ∧ va_Nw (.methodLinkNest RX8 81 yX6_init RX8) U) ∧ va_AO RX3 U ∧ va_AO RX1 U ∧ va_AO RX6 U
theorem nNs_warm {s U : State} (hW : s.WarmedH U.vm) (h : nNs s) : nNs U := ⟨⟨h.1.1.warmM hW, h.1.2.1.warmM hW, h.1.2.2.1.warmM hW, h.1.2.2.2.1.warmM hW, h.1.2.2.2.2.1.warmM hW, h.1.2.2.2.2.2.1.warmM hW, h.1.2.2.2.2.2.2.warmM hW⟩, h.2.1.moved hW.alike, h.2.2.1.moved hW.alike, h.2.2.2.moved hW.alike⟩
theorem nNs_same {s U : State} (hv : s.vm = U.vm) (h : nNs s) : nNs U := ⟨⟨h.1.1.same rfl hv, h.1.2.1.same rfl hv, h.1.2.2.1.same rfl hv, h.1.2.2.2.1.same rfl hv, h.1.2.2.2.2.1.same rfl hv, h.1.2.2.2.2.2.1.same rfl hv, h.1.2.2.2.2.2.2.same rfl hv⟩, h.2.1.moved (hv ▸ Vm.Alike.refl s.vm), h.2.2.1.moved (hv ▸ Vm.Alike.refl s.vm), h.2.2.2.moved (hv ▸ Vm.Alike.refl s.vm)⟩
def nX (D : va_G) (y : Nat → ClassId) (U : State) : Prop := va_K D vwCl (xty y) U ∧ nNs U
def nQ (D : va_G) (Post : va_W → Prop) (A : Nat → Prop) : Array Value → State → Outcome → State → Prop := fun _ st oc t => (∃ w : va_W, oc = .returned none ∧ Post w ∧ va_P D vwCl w t.heap ∧ va_D A w) ∧ va_F A st t
def nEv (k : xMD) (d MC MS : Nat) (y : Nat → ClassId) (c0 s0 pc : Nat) (lv : List (Option Value)) (st : List Value) (ws : va_W) (Post : va_W → Prop) : Prop :=
  ∀ (p : Program) (l : Launch) (e : Env) (s : State) (m : MethodId) (args : Array Value) (below : List Frame) (meth : Method) (c : Code) (D : va_G) (A : Nat → Prop) (H : Heap) (locs : List Loc) (ls : Array Slot),
    xCx k p s m args meth c → meth.name = "<init>" → nX D y s → (∀ a, s.heap.size ≤ a → A a) → va_P D vwCl ws H → va_D A ws → va_S A s.heap H locs → xL id ls k.2.2.1 lv →
    W p l e (nrm d MC MS) s m args below meth c H locs c0 s0 (MQ below (nQ D Post A) args s MC MS A) (F0 m pc ls (st.map (cv id)))
section NROWS
variable {k k2 : xMD} {d MC MS : Nat} {y : Nat → ClassId} {c0 s0 pc : Nat} {lv : List (Option Value)} {st : List Value} {ws : va_W} {Post : va_W → Prop}
theorem ne_iconst {n : Int} {v : Int32} (hd : decode k.2.1 pc = .ok (.iconst n, 1)) (hv : Int32.ofInt n = v) (h : nEv k d MC MS y c0 s0 (pc + 1) lv (.int v :: st) ws Post) : nEv k d MC MS y c0 s0 pc lv st ws Post := by
  intro p l e s m args below meth c D A H locs ls hC hI hX hA hP hD hS hL
  exact lv_iconst hC.1 hC.2.1 hd hv (h p l e s m args below meth c D A H locs ls hC hI hX hA hP hD hS hL)
theorem ne_bipush {n : Int} {v : Int32} (hd : decode k.2.1 pc = .ok (.bipush n, 2)) (hv : (Int8.ofInt n).toInt32 = v) (h : nEv k d MC MS y c0 s0 (pc + 2) lv (.int v :: st) ws Post) : nEv k d MC MS y c0 s0 pc lv st ws Post := by
  intro p l e s m args below meth c D A H locs ls hC hI hX hA hP hD hS hL
  exact lv_bipush hC.1 hC.2.1 hd hv (h p l e s m args below meth c D A H locs ls hC hI hX hA hP hD hS hL)
theorem ne_sipush {n : Int} {v : Int32} (hd : decode k.2.1 pc = .ok (.sipush n, 3)) (hv : (Int16.ofInt n).toInt32 = v) (h : nEv k d MC MS y c0 s0 (pc + 3) lv (.int v :: st) ws Post) : nEv k d MC MS y c0 s0 pc lv st ws Post := by
  intro p l e s m args below meth c D A H locs ls hC hI hX hA hP hD hS hL
  exact lv_sipush hC.1 hC.2.1 hd hv (h p l e s m args below meth c D A H locs ls hC hI hX hA hP hD hS hL)
theorem ne_iload_n {j : Fin 4} {x : Int32} (hd : decode k.2.1 pc = .ok (.iload_n j, 1)) (hl : lv[(j : Nat)]? = some (some (.int x))) (h : nEv k d MC MS y c0 s0 (pc + 1) lv (.int x :: st) ws Post) : nEv k d MC MS y c0 s0 pc lv st ws Post := by
  intro p l e s m args below meth c D A H locs ls hC hI hX hA hP hD hS hL
  exact lv_iload_n hC.1 hC.2.1 hd rfl (hL.2.2 _ _ hl) (h p l e s m args below meth c D A H locs ls hC hI hX hA hP hD hS hL)
theorem ne_aload_n {j : Fin 4} {x : Nat} (hd : decode k.2.1 pc = .ok (.aload_n j, 1)) (hl : lv[(j : Nat)]? = some (some (.ref x))) (h : nEv k d MC MS y c0 s0 (pc + 1) lv (.ref x :: st) ws Post) : nEv k d MC MS y c0 s0 pc lv st ws Post := by
  intro p l e s m args below meth c D A H locs ls hC hI hX hA hP hD hS hL
  exact lv_aload_n hC.1 hC.2.1 hd rfl (hL.2.2 _ _ hl) (h p l e s m args below meth c D A H locs ls hC hI hX hA hP hD hS hL)
theorem ne_istore_n {j : Fin 4} {x : Int32} {lv2 : List (Option Value)} (hd : decode k.2.1 pc = .ok (.istore_n j, 1)) (hn : (j : Nat) < k.2.2.1) (hl : xs1 lv (j : Nat) (.int x) = lv2) (h : nEv k d MC MS y c0 s0 (pc + 1) lv2 st ws Post) : nEv k d MC MS y c0 s0 pc lv (.int x :: st) ws Post := by
  intro p l e s m args below meth c D A H locs ls hC hI hX hA hP hD hS hL
  subst hl
  exact lv_istore_n hC.1 hC.2.1 hd rfl (xL_pairs hL) hn rfl (fun ls2 hl2 => h p l e s m args below meth c D A H locs ls2 hC hI hX hA hP hD hS (xL_s1 (v := .int x) hl2))
theorem ne_dup {v : Value} (hd : decode k.2.1 pc = .ok (.dup, 1)) (hv : v.category = 1) (h : nEv k d MC MS y c0 s0 (pc + 1) lv (v :: v :: st) ws Post) : nEv k d MC MS y c0 s0 pc lv (v :: st) ws Post := by
  intro p l e s m args below meth c D A H locs ls hC hI hX hA hP hD hS hL
  exact lv_dup hC.1 hC.2.1 hd ((cv_cat id v).trans hv) (h p l e s m args below meth c D A H locs ls hC hI hX hA hP hD hS hL)
theorem ne_goto {off : Int} {tgt : Nat} (hd : decode k.2.1 pc = .ok (.goto off, 3)) (hg : (pc : Int) + off = (tgt : Int)) (h : nEv k d MC MS y c0 s0 tgt lv st ws Post) : nEv k d MC MS y c0 s0 pc lv st ws Post := by
  intro p l e s m args below meth c D A H locs ls hC hI hX hA hP hD hS hL
  exact lv_goto hC.1 hC.2.1 hd hg (h p l e s m args below meth c D A H locs ls hC hI hX hA hP hD hS hL)
theorem ne_iinc {j : Nat} {n : Int} {x v : Int32} {lv2 : List (Option Value)} (hd : decode k.2.1 pc = .ok (.iinc j n, 3)) (hn : j < k.2.2.1) (hg : lv[j]? = some (some (.int x))) (hv : x + Int32.ofInt n = v) (hl : xs1 lv j (.int v) = lv2) (h : nEv k d MC MS y c0 s0 (pc + 3) lv2 st ws Post) : nEv k d MC MS y c0 s0 pc lv st ws Post := by
  intro p l e s m args below meth c D A H locs ls hC hI hX hA hP hD hS hL
  subst hl
  obtain ⟨kk, hkk⟩ := List.getElem?_of_mem (xpairs_mem (q := id) hg)
  exact lv_iinc (k := kk) hC.1 hC.2.1 hd (xL_pairs hL) hkk hv hn rfl (fun ls2 hl2 => h p l e s m args below meth c D A H locs ls2 hC hI hX hA hP hD hS (xL_s1 (v := .int v) hl2))
theorem ne_icmp_ge {x z : Int32} {off : Int} {tgt : Nat} (hd : decode k.2.1 pc = .ok (.if_icmp .ge off, 3)) (hg : (pc : Int) + off = (tgt : Int)) (ht : z ≤ x → nEv k d MC MS y c0 s0 tgt lv st ws Post) (hf : ¬ z ≤ x → nEv k d MC MS y c0 s0 (pc + 3) lv st ws Post) : nEv k d MC MS y c0 s0 pc lv (.int z :: .int x :: st) ws Post := by
  intro p l e s m args below meth c D A H locs ls hC hI hX hA hP hD hS hL
  exact lv_icmp_ge hC.1 hC.2.1 hd hg (fun hc => (ht hc) p l e s m args below meth c D A H locs ls hC hI hX hA hP hD hS hL) (fun hc => (hf hc) p l e s m args below meth c D A H locs ls hC hI hX hA hP hD hS hL)
theorem ne_init {idx a : Nat} (hd : decode k.2.1 pc = .ok (.invokespecial idx, 3)) (hl : Cond.methodLink k.1.cls idx objectInit ∈ xtb) (hd1 : 1 ≤ d) (hst : st = []) (h : nEv k d MC MS y c0 s0 (pc + 3) lv st ws Post) : nEv k d MC MS y c0 s0 pc lv (.ref a :: st) ws Post := by
  subst hst
  intro p l e s m args below meth c D A H locs ls hC hI hX hA hP hD hS hL
  refine W.objInit hC.1 hC.2.1 hC.2.2.2.2.1 (hC.2.2.2.2.2.1 _ hl) (hC.2.2.2.2.2.1 _ (xT1 26 rfl rfl)) (hC.2.2.2.2.2.1 _ (xT1 27 rfl rfl)) rfl (hL.1.trans hC.2.2.2.1.symm) rfl hd hd1 (by show 2 * 0 + 0 + 12 ≤ 64 * d; omega) ?_
  exact W.eq (g2 := F0 m (pc + 3) ls []) rfl (h p l e s m args below meth c D A H locs ls hC hI hX hA hP hD hS hL)
theorem ne_new {idx ci N : Nat} {C : String} {T : u_T} {fs : List Value} (ty : Nat → FieldType) (hd : decode k.2.1 pc = .ok (.new idx, 3)) (hr : vwCl[ci]? = some (C, T, N)) (hin : ∀ w ∈ u_ws C T N, w ∈ xtb) (hty : ∀ k, k < N → parseFieldDescriptor (T k).2.2.1 = some (ty k)) (hcl : Cond.classLink k.1.cls idx C ∈ xtb) (hinst : Cond.instantiable C N ∈ xtb) (hini : Cond.initialized C ∈ xtb) (hfs : ∀ j, j < N → defaultValue (ty j) = vp_V fs j) (hcc : c0 + 1 ≤ MC) (hss : s0 + N ≤ MS)
    (h : ∀ a : Nat, nEv k d MC MS y (c0 + 1) (s0 + N) (pc + 3) lv (.ref a :: st) (ws ++ [(a, .inr (ci, fs))]) Post) : nEv k d MC MS y c0 s0 pc lv st ws Post := by
  intro p l e s m args below meth c D A H locs ls hC hI hX hA hP hD hS hL
  exact va_new (C := C) (T := T) (N := N) hC.1 hC.2.1 hC.2.2.2.2.2.1 hin ty hty hC.2.2.2.2.1 (hC.2.2.2.2.2.1 _ hcl) (hC.2.2.2.2.2.1 _ hinst) (hC.2.2.2.2.2.1 _ hini) hX.1 hP hD hS hA hr hfs hcc hss hd (fun a H1 hP1 hD1 hS1 => h a p l e s m args below meth c D A H1 locs ls hC hI hX hA hP1 hD1 hS1 hL)
theorem n_same {D : va_G} {tys : List (ClassId × FieldType)} {s : State} {t : Nat} {cA cB : ClassId} {ty : FieldType} (hK : va_K D vwCl (tys ++ [(cA, ty)]) s) (hK2 : va_K D vwCl tys s) (ht : tys[t]? = some (cB, ty)) : cA = cB := by
  have h1 := (hK.2 tys.length (cA, ty) (by simp)).2
  have h2 := (hK2.2 t (cB, ty) ht).2
  unfold va_RA at h1 h2
  cases ty with
  | object C =>
    obtain ⟨kA, comp, -, -, -, e1⟩ := h1
    obtain ⟨kB, comp2, -, -, -, e2⟩ := h2
    exact Option.some.inj (e1.symm.trans e2)
  | _ => exact Option.some.inj (h1.symm.trans h2)
theorem ne_newa_int {n : Nat} (hd : decode k.2.1 pc = .ok (.newarray .int, 2)) (hn : n < 1000) (hcc : c0 + 1 ≤ MC) (hss : s0 + n ≤ MS) (h : ∀ a : Nat, nEv k d MC MS y (c0 + 1) (s0 + n) (pc + 2) lv (.ref a :: st) (ws ++ [(a, .inl (y 0, n, .inl (fun _ => 0)))]) Post) : nEv k d MC MS y c0 s0 pc lv (.int (nI n) :: st) ws Post := by
  intro p l e s m args below meth c D A H locs ls hC hI hX hA hP hD hS hL
  refine va_newa (atype := .int) (ty := .int) (a0 := (n, .inl (fun _ => 0))) hC.1 hC.2.1 (hC.2.2.2.2.2.1 _ (xT1 59 rfl rfl)) rfl hX.1 hP hD hS hA (fun _ => rfl) (nI_pos (by omega)) (nI_clamp (by omega)) (by show n * _ ≤ _; simp only [componentBytes]; omega) hcc hss hd (fun a cA H1 hK1 hP1 hD1 hS1 => ?_)
  obtain rfl := n_same (t := 0) hK1 hX.1 rfl
  exact h a p l e s m args below meth c D A H1 locs ls hC hI hX hA hP1 hD1 hS1 hL
theorem ne_newa_byte {n : Nat} (hd : decode k.2.1 pc = .ok (.newarray .byte, 2)) (hn : n < 1000) (hcc : c0 + 1 ≤ MC) (hss : s0 + n ≤ MS) (h : ∀ a : Nat, nEv k d MC MS y (c0 + 1) (s0 + n) (pc + 2) lv (.ref a :: st) (ws ++ [(a, .inl (y 1, n, .inl (fun _ => 0)))]) Post) : nEv k d MC MS y c0 s0 pc lv (.int (nI n) :: st) ws Post := by
  intro p l e s m args below meth c D A H locs ls hC hI hX hA hP hD hS hL
  refine va_newa (atype := .byte) (ty := .byte) (a0 := (n, .inl (fun _ => 0))) hC.1 hC.2.1 (hC.2.2.2.2.2.1 _ (xT1 159 rfl rfl)) rfl hX.1 hP hD hS hA (fun _ => rfl) (nI_pos (by omega)) (nI_clamp (by omega)) (by show n * _ ≤ _; simp only [componentBytes]; omega) hcc hss hd (fun a cA H1 hK1 hP1 hD1 hS1 => ?_)
  obtain rfl := n_same (t := 1) hK1 hX.1 rfl
  exact h a p l e s m args below meth c D A H1 locs ls hC hI hX hA hP1 hD1 hS1 hL
theorem ne_newa_char {n : Nat} (hd : decode k.2.1 pc = .ok (.newarray .char, 2)) (hn : n < 1000) (hcc : c0 + 1 ≤ MC) (hss : s0 + n ≤ MS) (h : ∀ a : Nat, nEv k d MC MS y (c0 + 1) (s0 + n) (pc + 2) lv (.ref a :: st) (ws ++ [(a, .inl (y 2, n, .inl (fun _ => 0)))]) Post) : nEv k d MC MS y c0 s0 pc lv (.int (nI n) :: st) ws Post := by
  intro p l e s m args below meth c D A H locs ls hC hI hX hA hP hD hS hL
  refine va_newa (atype := .char) (ty := .char) (a0 := (n, .inl (fun _ => 0))) hC.1 hC.2.1 (hC.2.2.2.2.2.1 _ (xT4 203 rfl rfl)) rfl hX.1 hP hD hS hA (fun _ => rfl) (nI_pos (by omega)) (nI_clamp (by omega)) (by show n * _ ≤ _; simp only [componentBytes]; omega) hcc hss hd (fun a cA H1 hK1 hP1 hD1 hS1 => ?_)
  obtain rfl := n_same (t := 2) hK1 hX.1 rfl
  exact h a p l e s m args below meth c D A H1 locs ls hC hI hX hA hP1 hD1 hS1 hL
theorem ne_newa_long {n : Nat} (hd : decode k.2.1 pc = .ok (.newarray .long, 2)) (hn : n < 1000) (hcc : c0 + 1 ≤ MC) (hss : s0 + n ≤ MS) (h : ∀ a : Nat, nEv k d MC MS y (c0 + 1) (s0 + n) (pc + 2) lv (.ref a :: st) (ws ++ [(a, .inl (y 3, n, .inr (.inl (fun _ => 0))))]) Post) : nEv k d MC MS y c0 s0 pc lv (.int (nI n) :: st) ws Post := by
  intro p l e s m args below meth c D A H locs ls hC hI hX hA hP hD hS hL
  refine va_newa (atype := .long) (ty := .long) (a0 := (n, .inr (.inl (fun _ => 0)))) hC.1 hC.2.1 (hC.2.2.2.2.2.1 _ (xT1 232 rfl rfl)) rfl hX.1 hP hD hS hA (fun _ => rfl) (nI_pos (by omega)) (nI_clamp (by omega)) (by show n * _ ≤ _; simp only [componentBytes]; omega) hcc hss hd (fun a cA H1 hK1 hP1 hD1 hS1 => ?_)
  obtain rfl := n_same (t := 3) hK1 hX.1 rfl
  exact h a p l e s m args below meth c D A H1 locs ls hC hI hX hA hP1 hD1 hS1 hL
theorem ne_newa_boolean {n : Nat} (hd : decode k.2.1 pc = .ok (.newarray .boolean, 2)) (hn : n < 1000) (hcc : c0 + 1 ≤ MC) (hss : s0 + n ≤ MS) (h : ∀ a : Nat, nEv k d MC MS y (c0 + 1) (s0 + n) (pc + 2) lv (.ref a :: st) (ws ++ [(a, .inl (y 4, n, .inl (fun _ => 0)))]) Post) : nEv k d MC MS y c0 s0 pc lv (.int (nI n) :: st) ws Post := by
  intro p l e s m args below meth c D A H locs ls hC hI hX hA hP hD hS hL
  refine va_newa (atype := .boolean) (ty := .boolean) (a0 := (n, .inl (fun _ => 0))) hC.1 hC.2.1 (hC.2.2.2.2.2.1 _ (xT4 204 rfl rfl)) rfl hX.1 hP hD hS hA (fun _ => rfl) (nI_pos (by omega)) (nI_clamp (by omega)) (by show n * _ ≤ _; simp only [componentBytes]; omega) hcc hss hd (fun a cA H1 hK1 hP1 hD1 hS1 => ?_)
  obtain rfl := n_same (t := 4) hK1 hX.1 rfl
  exact h a p l e s m args below meth c D A H1 locs ls hC hI hX hA hP1 hD1 hS1 hL
theorem ne_newq_cellar {idx n : Nat} (hd : decode k.2.1 pc = .ok (.anewarray idx, 3)) (hcl : Cond.classLink k.1.cls idx RX1 ∈ xtb) (hn : n < 1000) (hcc : c0 + 1 ≤ MC) (hss : s0 + n ≤ MS) (h : ∀ a : Nat, nEv k d MC MS y (c0 + 1) (s0 + n) (pc + 3) lv (.ref a :: st) (ws ++ [(a, .inl (y 5, n, .inr (.inr (.inr (.inr (fun _ => none))))))]) Post) : nEv k d MC MS y c0 s0 pc lv (.int (nI n) :: st) ws Post := by
  intro p l e s m args below meth c D A H locs ls hC hI hX hA hP hD hS hL
  refine va_newq (C := RX1) hC.1 hC.2.1 hC.2.2.2.2.1 (hC.2.2.2.2.2.1 _ hcl) hX.2.2.2.1 hX.1 hP hD hS hA (nI_pos (by omega)) (nI_clamp (by omega)) (by omega) hcc hss hd (fun a cA H1 hK1 hP1 hD1 hS1 => ?_)
  obtain rfl := n_same (t := 5) hK1 hX.1 rfl
  exact h a p l e s m args below meth c D A H1 locs ls hC hI hX hA hP1 hD1 hS1 hL
theorem ne_newq_pot {idx n : Nat} (hd : decode k.2.1 pc = .ok (.anewarray idx, 3)) (hcl : Cond.classLink k.1.cls idx RX3 ∈ xtb) (hn : n < 1000) (hcc : c0 + 1 ≤ MC) (hss : s0 + n ≤ MS) (h : ∀ a : Nat, nEv k d MC MS y (c0 + 1) (s0 + n) (pc + 3) lv (.ref a :: st) (ws ++ [(a, .inl (y 6, n, .inr (.inr (.inr (.inr (fun _ => none))))))]) Post) : nEv k d MC MS y c0 s0 pc lv (.int (nI n) :: st) ws Post := by
  intro p l e s m args below meth c D A H locs ls hC hI hX hA hP hD hS hL
  refine va_newq (C := RX3) hC.1 hC.2.1 hC.2.2.2.2.1 (hC.2.2.2.2.2.1 _ hcl) hX.2.2.1 hX.1 hP hD hS hA (nI_pos (by omega)) (nI_clamp (by omega)) (by omega) hcc hss hd (fun a cA H1 hK1 hP1 hD1 hS1 => ?_)
  obtain rfl := n_same (t := 6) hK1 hX.1 rfl
  exact h a p l e s m args below meth c D A H1 locs ls hC hI hX hA hP1 hD1 hS1 hL
theorem ne_newq_tape {idx n : Nat} (hd : decode k.2.1 pc = .ok (.anewarray idx, 3)) (hcl : Cond.classLink k.1.cls idx RX6 ∈ xtb) (hn : n < 1000) (hcc : c0 + 1 ≤ MC) (hss : s0 + n ≤ MS) (h : ∀ a : Nat, nEv k d MC MS y (c0 + 1) (s0 + n) (pc + 3) lv (.ref a :: st) (ws ++ [(a, .inl (y 7, n, .inr (.inr (.inr (.inr (fun _ => none))))))]) Post) : nEv k d MC MS y c0 s0 pc lv (.int (nI n) :: st) ws Post := by
  intro p l e s m args below meth c D A H locs ls hC hI hX hA hP hD hS hL
  refine va_newq (C := RX6) hC.1 hC.2.1 hC.2.2.2.2.1 (hC.2.2.2.2.2.1 _ hcl) hX.2.2.2.2 hX.1 hP hD hS hA (nI_pos (by omega)) (nI_clamp (by omega)) (by omega) hcc hss hd (fun a cA H1 hK1 hP1 hD1 hS1 => ?_)
  obtain rfl := n_same (t := 7) hK1 hX.1 rfl
  exact h a p l e s m args below meth c D A H1 locs ls hC hI hX hA hP1 hD1 hS1 hL
theorem ne_putI {idx ci sl a q0 : Nat} {x : Int32} {fs : List Value} {ty : FieldType} {fin : Bool} {ws2 : va_W} (hd : decode k.2.1 pc = .ok (.putfield idx, 3)) (hf : xFl k.1.cls idx ci sl ty fin) (hdc : ∀ r, vwCl[ci]? = some r → (r.2.1 sl).1 = k.1.cls) (he : ws[q0]? = some (a, .inr (ci, fs))) (hl : sl < fs.length) (hn : narrow ty (.int x) = .int x) (hft : fits ty (.int x) = true) (hw : ws.set q0 (a, .inr (ci, fs.set sl (.int x))) = ws2) (h : nEv k d MC MS y c0 s0 (pc + 3) lv st ws2 Post) : nEv k d MC MS y c0 s0 pc lv (.int x :: .ref a :: st) ws Post := by
  subst hw
  intro p l e s m args below meth c D A H locs ls hC hI hX hA hP hD hS hL
  obtain ⟨⟨C, T, N⟩, ty0, h1, h2, h3, h4, h5, h6, h7, h8⟩ := hf
  have h9 : parseFieldDescriptor (T sl).2.2.1 = some ty := (h5 sl h2).trans (congrArg some h7)
  cases fin with
  | false => exact va_put (C := C) (T := T) (N := N) (v := .int x) hC.1 hC.2.1 hC.2.2.2.2.2.1 h4 ty0 h5 h6 hC.2.2.2.2.1 hX.1 hP hD hS q0 he h1 sl h2 (hC.2.2.2.2.2.1 _ h3) (fun _ z => z) h8 h9 hn hft hl hd (fun H1 locs1 hP1 hD1 hS1 => h p l e s m args below meth c D A H1 locs1 ls hC hI hX hA hP1 hD1 hS1 hL)
  | true => exact va_putF (C := C) (T := T) (N := N) (v := .int x) hC.1 hC.2.1 hC.2.2.2.2.2.1 h4 ty0 h5 h6 hC.2.2.2.2.1 hX.1 hP hD hS q0 he h1 sl h2 (hC.2.2.2.2.2.1 _ h3) (fun _ z => z) h8 hI (hdc _ h1) h9 hn hft hl hd (fun H1 locs1 hP1 hD1 hS1 => h p l e s m args below meth c D A H1 locs1 ls hC hI hX hA hP1 hD1 hS1 hL)
theorem ne_putR {idx ci sl a q0 : Nat} {x : Nat} {fs : List Value} {ty : FieldType} {fin : Bool} {ws2 : va_W} (hd : decode k.2.1 pc = .ok (.putfield idx, 3)) (hf : xFl k.1.cls idx ci sl ty fin) (hdc : ∀ r, vwCl[ci]? = some r → (r.2.1 sl).1 = k.1.cls) (he : ws[q0]? = some (a, .inr (ci, fs))) (hl : sl < fs.length) (hn : narrow ty (.ref x) = .ref x) (hft : fits ty (.ref x) = true) (hw : ws.set q0 (a, .inr (ci, fs.set sl (.ref x))) = ws2) (h : nEv k d MC MS y c0 s0 (pc + 3) lv st ws2 Post) : nEv k d MC MS y c0 s0 pc lv (.ref x :: .ref a :: st) ws Post := by
  subst hw
  intro p l e s m args below meth c D A H locs ls hC hI hX hA hP hD hS hL
  obtain ⟨⟨C, T, N⟩, ty0, h1, h2, h3, h4, h5, h6, h7, h8⟩ := hf
  have h9 : parseFieldDescriptor (T sl).2.2.1 = some ty := (h5 sl h2).trans (congrArg some h7)
  cases fin with
  | false => exact va_put (C := C) (T := T) (N := N) (v := .ref x) hC.1 hC.2.1 hC.2.2.2.2.2.1 h4 ty0 h5 h6 hC.2.2.2.2.1 hX.1 hP hD hS q0 he h1 sl h2 (hC.2.2.2.2.2.1 _ h3) (fun _ z => z) h8 h9 hn hft hl hd (fun H1 locs1 hP1 hD1 hS1 => h p l e s m args below meth c D A H1 locs1 ls hC hI hX hA hP1 hD1 hS1 hL)
  | true => exact va_putF (C := C) (T := T) (N := N) (v := .ref x) hC.1 hC.2.1 hC.2.2.2.2.2.1 h4 ty0 h5 h6 hC.2.2.2.2.1 hX.1 hP hD hS q0 he h1 sl h2 (hC.2.2.2.2.2.1 _ h3) (fun _ z => z) h8 hI (hdc _ h1) h9 hn hft hl hd (fun H1 locs1 hP1 hD1 hS1 => h p l e s m args below meth c D A H1 locs1 ls hC hI hX hA hP1 hD1 hS1 hL)
theorem ne_getR {idx ci sl a q0 x : Nat} {fs : List Value} {ty : FieldType} {fin : Bool} (hd : decode k.2.1 pc = .ok (.getfield idx, 3)) (hf : xFl k.1.cls idx ci sl ty fin) (he : ws[q0]? = some (a, .inr (ci, fs))) (hv : fs[sl]? = some (.ref x)) (h : nEv k d MC MS y c0 s0 (pc + 3) lv (.ref x :: st) ws Post) : nEv k d MC MS y c0 s0 pc lv (.ref a :: st) ws Post := by
  intro p l e s m args below meth c D A H locs ls hC hI hX hA hP hD hS hL
  obtain ⟨⟨C, T, N⟩, ty0, h1, h2, h3, h4, -⟩ := hf
  exact va_get (C := C) (T := T) (N := N) hC.1 hC.2.1 hC.2.2.2.2.2.1 h4 hC.2.2.2.2.1 hX.1 hP q0 he h1 sl h2 (hC.2.2.2.2.2.1 _ h3) (fun _ z => z) (v := .ref x) hv hd (h p l e s m args below meth c D A H locs ls hC hI hX hA hP hD hS hL)
theorem up_app (L : List Nat) (v : Nat) : va_up (fun i => L[i]?) L.length (some v) = fun i => (L ++ [v])[i]? := by
  funext i
  unfold va_up
  by_cases h : i = L.length
  · subst h; simp
  · rw [if_neg h]
    show L[i]? = (L ++ [v])[i]?
    by_cases h2 : i < L.length
    · rw [List.getElem?_append_left h2]
    · rw [List.getElem?_eq_none (l := L) (by omega), List.getElem?_eq_none (by simp; omega)]
theorem ne_astq {a v q0 qk t ci n j : Nat} {r : vw_C} {vs : List Value} {L : List Nat} {ws2 : va_W} (hd : decode k.2.1 pc = .ok (.aastore, 1)) (ha : ws[q0]? = some (a, .inl (y t, n, .inr (.inr (.inr (.inr (fun i => L[i]?))))))) (ht : (xty y)[t]? = some (y t, .object r.1)) (hv : ws[qk]? = some (v, .inr (ci, vs))) (hr : vwCl[ci]? = some r) (hL2 : j = L.length) (hj : j < n) (hn : n < 1000) (hw : ws.set q0 (a, .inl (y t, n, .inr (.inr (.inr (.inr (fun i => (L ++ [v])[i]?)))))) = ws2) (h : nEv k d MC MS y c0 s0 (pc + 1) lv st ws2 Post) : nEv k d MC MS y c0 s0 pc lv (.ref v :: .int (nI j) :: .ref a :: st) ws Post := by
  subst hw
  intro p l e s m args below meth c D A H locs ls hC hI hX hA hP hD hS hL
  refine va_astq hC.1 hC.2.1 hX.1 hP hD hS q0 t qk ci ha ht hv hr (vp_in_nI hj (by omega)) hd (fun H1 locs1 hP1 hD1 hS1 => ?_)
  rw [nI_clamp (by omega), hL2, up_app] at hP1 hD1
  exact h p l e s m args below meth c D A H1 locs1 ls hC hI hX hA hP1 hD1 hS1 hL
theorem ne_iast {a q0 n j : Nat} {x : Int32} {f : Nat → Int32} {ws2 : va_W} (hd : decode k.2.1 pc = .ok (.iastore, 1)) (ha : ws[q0]? = some (a, .inl (y 0, n, .inl f))) (hj : j < n) (hn : n < 1000) (hw : ws.set q0 (a, .inl (y 0, n, .inl (upd f j x))) = ws2) (h : nEv k d MC MS y c0 s0 (pc + 1) lv st ws2 Post) : nEv k d MC MS y c0 s0 pc lv (.int x :: .int (nI j) :: .ref a :: st) ws Post := by
  subst hw
  intro p l e s m args below meth c D A H locs ls hC hI hX hA hP hD hS hL
  refine va_iast hC.1 hC.2.1 hX.1 hP hD hS q0 0 ha rfl (vp_in_nI hj (by omega)) hd (fun H1 locs1 hP1 hD1 hS1 => ?_)
  rw [nI_clamp (by omega)] at hP1 hD1
  exact h p l e s m args below meth c D A H1 locs1 ls hC hI hX hA hP1 hD1 hS1 hL
theorem ne_cast {a q0 n j : Nat} {x x2 : Int32} {f : Nat → Int32} {ws2 : va_W} (hd : decode k.2.1 pc = .ok (.castore, 1)) (ha : ws[q0]? = some (a, .inl (y 2, n, .inl f))) (hj : j < n) (hn : n < 1000) (hx : vp_nar .char x = x2) (hw : ws.set q0 (a, .inl (y 2, n, .inl (upd f j x2))) = ws2) (h : nEv k d MC MS y c0 s0 (pc + 1) lv st ws2 Post) : nEv k d MC MS y c0 s0 pc lv (.int x :: .int (nI j) :: .ref a :: st) ws Post := by
  subst hw
  subst hx
  intro p l e s m args below meth c D A H locs ls hC hI hX hA hP hD hS hL
  refine va_cast hC.1 hC.2.1 hX.1 hP hD hS q0 2 ha rfl (vp_in_nI hj (by omega)) hd (fun H1 locs1 hP1 hD1 hS1 => ?_)
  rw [nI_clamp (by omega)] at hP1 hD1
  exact h p l e s m args below meth c D A H1 locs1 ls hC hI hX hA hP1 hD1 hS1 hL
theorem n_Psub {D : va_G} {w w2 : va_W} {H : Heap} (h : va_P D vwCl w H) (is : List Nat) (hs : is.map (fun i => w[i]?) = w2.map some) : va_P D vwCl w2 H := by
  intro i q hq
  have h1 : (is.map (fun i => w[i]?))[i]? = some (some q) := by rw [hs, List.getElem?_map, hq]; rfl
  rw [List.getElem?_map] at h1
  cases hi : is[i]? with
  | none => rw [hi] at h1; cases h1
  | some j => rw [hi] at h1; exact h j q (Option.some.inj h1)
theorem ne_ret (is : List Nat) {w2 : va_W} (hd : decode k.2.1 pc = .ok (.return_, 1)) (hr : k.2.2.2 = none) (hs : is.map (fun i => ws[i]?) = w2.map some) (hn : va_nd is = true) (hcc : c0 ≤ MC) (hss : s0 ≤ MS) (hp : Post w2) : nEv k d MC MS y c0 s0 pc lv [] ws Post := by
  intro p l e s m args below meth c D A H locs ls hC hI hX hA hP hD hS hL
  refine W.widen hcc hss ?_
  exact W.vret hC.1 hC.2.1 (hC.2.2.1.trans hr) (fun t ht hW => ⟨⟨w2, rfl, hp, by rw [ht]; exact n_Psub hP is hs, hD.sub is hn hs⟩, hS.F ht⟩) hS.2.2 hd hC.2.2.2.2.2.2
theorem ne_top {x x2 : Int32} (hx : x = x2) (h : nEv k d MC MS y c0 s0 pc lv (.int x2 :: st) ws Post) : nEv k d MC MS y c0 s0 pc lv (.int x :: st) ws Post := hx ▸ h
/-- a called constructor's start -/
def nB (D : va_G) (y : Nat → ClassId) (w : va_W) (sz : Nat) (U : State) : Prop := U.heap.size = sz ∧ va_P D vwCl w U.heap ∧ va_D (fun _ => True) w ∧ nX D y U
theorem nB_blind {D : va_G} {w : va_W} {sz : Nat} {av : List Value} : FrameBlind (va_Pc av (nB D y w sz)) := by
  intro a U g mk h
  obtain ⟨h0, h1, h2, h3, h4, h5⟩ := h
  exact ⟨h0, h1, h2, h3, va_K.moved (u := U) (U := U.calling g mk a) (Vm.Alike.refl U.vm) h4, nNs_same (s := U) (U := U.calling g mk a) rfl h5⟩
theorem nEv.met {n : Nat} {vs : List Value} {w : va_W} (hk : xOk k n) (hnm : k.1.name = "<init>") (hlen : (lg_sl vs).length ≤ k.2.2.1) (h : nEv k d MC MS y 0 0 0 (xen vs k.2.2.1) [] w Post) (l : Launch) (D : va_G) (sz : Nat) :
    Met l k.1 (xws k) (nrm d MC MS) (va_Pc (vs.map (cv id)) (nB D y w sz)) (nQ D Post (va_A w sz)) MC MS (va_A w sz) := by
  refine Met.ofW (cc := k.2.1) (maxL := k.2.2.1) (ret := k.2.2.2) hk.1 rfl ?_
  intro p e s m args below meth c s₁ B hml hv
  obtain ⟨rfl, hsz, hP, hD0, hX⟩ := hv
  have hts := atoms_spec (ws := xws k) B.pre
  have hown : s.vm.findClass k.1.cls = some m.cls := findClass_of_methodNamed B.named
  subst hsz
  have hD := hD0.self (sz := s.heap.size)
  rw [lg_entry_eq]
  exact h p l e s m _ below meth c D _ s.heap [] _ ⟨B.exec, B.bytes, B.returns, hml, hown, fun w hw => hts w (List.mem_cons_of_mem _ hw), B.notSynchronized⟩ ((name_of_methodNamed B.named B.method).1.trans hnm) hX (fun a ha => Or.inr ha) hP hD va_S.rf (xL_entry id vs _ hlen)
theorem va_nd_range : ∀ n s, va_nd (List.range' s n) = true := by
  intro n
  induction n with
  | zero => intro s; rfl
  | succ n ih =>
    intro s
    rw [List.range'_succ]
    unfold va_nd
    rw [ih (s + 1), Bool.and_true, decide_eq_true_eq]
    intro h
    have := List.mem_range'_1.mp h
    omega
theorem n_behind {p : Program} {l : Launch} {e : Env} {s : State} {m : MethodId} {args : Array Value} {below : List Frame} {meth : Method} {c : Code} {D : va_G} {A : Nat → Prop} {H : Heap} {locs : List Loc} {ls : Array Slot} {a : Array Value} {wr : va_W} {x : Nat × va_E} {stk : List Value} {MC2 MS2 : Nat}
    (hC : xCx k p s m args meth c) (hI : meth.name = "<init>") (hX : nX D y s) (hA : ∀ a, s.heap.size ≤ a → A a) (hP : va_P D vwCl (wr ++ [x]) H) (hD : va_D A (wr ++ [x])) (hS : va_S A s.heap H locs) (hL : xL id ls k.2.2.1 lv)
    (hr : va_Run p l e (nrm d MC MS) s m args below meth c H locs c0 s0 MC2 MS2 (F0 m pc ls (stk.map (cv id))) (st.map (cv id)) (nQ D (fun w1 => nEv k d MC MS y (c0 + MC2) (s0 + MS2) (pc + 3) lv st (wr ++ w1) Post) (va_A [x] H.size) a) (va_A [x] H.size)) :
    W p l e (nrm d MC MS) s m args below meth c H locs c0 s0 (MQ below (nQ D Post A) args s MC MS A) (F0 m pc ls (stk.map (cv id))) := by
  intro T hT X
  obtain ⟨v, st₀, t, T', L, h0, X', hL', e1, e2, ⟨⟨w1, hv, hpost, hP', hD'⟩, hz, hk⟩, stp⟩ := hr T hT X
  cases hv
  rw [h0] at hz hk
  have hC1 : [wr.length].map (fun i => (wr ++ [x])[i]?) = [x].map some := by simp
  have hR1 : (List.range' 0 wr.length).map (fun i => (wr ++ [x])[i]?) = wr.map some := by
    apply List.ext_getElem?
    intro i
    rw [List.getElem?_map, List.getElem?_map]
    by_cases hi : i < wr.length
    · rw [List.getElem?_range' hi, List.getElem?_eq_getElem hi]
      simp [List.getElem?_append_left hi]
    · rw [List.getElem?_eq_none (by simp; omega), List.getElem?_eq_none (by omega)]; rfl
  have hF : ∀ q, va_A [x] H.size q → A q := va_free hD hS hA [wr.length] hC1
  obtain ⟨P2, D2⟩ := va_join hP hD [wr.length] (List.range' 0 wr.length) hC1 hR1 (va_nd_range _ _) (fun i hi => by have := List.mem_range'_1.mp hi; simp; omega) (fun q h1 h2 => hk q h1 h2) hF hP' hD'
  obtain ⟨t2, a1, b1⟩ := hpost p l e s m args below meth c D A T'.heap (locs ++ L) ls hC hI hX hA (by rw [e1]; exact P2) D2
    ⟨Nat.le_trans hS.1 (by rw [e1]; exact hz), fun b h1 h2 => by rw [e1, hk b (Nat.lt_of_lt_of_le h1 hS.1) (fun z => h2 (hF b z))]; exact hS.2.1 b h1 h2, fun b hb => by
      rcases List.mem_append.mp hb with h | h
      · exact hS.2.2 b h
      · exact hF _ (hL' b h)⟩ hL T' rfl X'
  exact ⟨t2, stp t2 a1, b1⟩
theorem n_pre {s : State} {D : va_G} {A : Nat → Prop} {H : Heap} {locs : List Loc} {wr : va_W} {x : Nat × va_E} (hX : nX D y s) (hP : va_P D vwCl (wr ++ [x]) H) (hD : va_D A (wr ++ [x])) (av : List Value) : FrameBlind (va_Pc av (nB D y [x] H.size)) ∧ ∀ U : State, U.heap = H → s.WarmedH U.vm → va_Pc av (nB D y [x] H.size) av.toArray U :=
  ⟨nB_blind, fun U hU hW => ⟨rfl, by rw [hU], by rw [hU]; exact n_Psub hP [wr.length] (by simp), (hD.sub [wr.length] rfl (by simp)).weaken (fun _ _ _ _ => trivial), va_K.moved hW.alike hX.1, nNs_warm hW hX.2⟩⟩
/-- a constructor is called for the cell that came last -/
theorem ne_callI {n idx b MC2 MS2 : Nat} {e0 : va_E} {wr : va_W} {stk vs : List Value} (hd : decode k.2.1 pc = .ok (.invokespecial idx, 3)) (hk : xOk k2 n) (hnm : k2.1.name = "<init>") (hret : k2.2.2.2 = none) (hl : Cond.methodLink k.1.cls idx k2.1 ∈ xtb) (hi : Cond.instanceMethod k2.1 ∈ xtb) (hstk : stk = (Value.ref b :: vs).reverse ++ st) (hn : vs.length = n) (hcat : (st.map fun v => v.category).sum ≤ 8) (hlen : (lg_sl (Value.ref b :: vs)).length ≤ k2.2.2.1) (hcc : c0 + MC2 ≤ MC) (hss : s0 + MS2 ≤ MS)
    (h : nEv k2 d MC2 MS2 y 0 0 0 (xen (Value.ref b :: vs) k2.2.2.1) [] [(b, e0)] (fun w1 => nEv k (d + 1) MC MS y (c0 + MC2) (s0 + MS2) (pc + 3) lv st (wr ++ w1) Post)) : nEv k (d + 1) MC MS y c0 s0 pc lv stk (wr ++ [(b, e0)]) Post := by
  intro p l e s m args below meth c D A H locs ls hC hI hX hA hP hD hS hL
  have hp := n_pre (locs := locs) hX hP hD ((Value.ref b :: vs).map (cv id))
  refine n_behind hC hI hX hA hP hD hS hL (va_runI (n := n) (bytes := k2.2.1) (maxL := k2.2.2.1) (b := b) (As := vs.map (cv id)) ⟨hC.1, hC.2.1, hC.2.2.2.1, hC.2.2.2.2.1, hC.2.2.2.2.2.1⟩ (h.met hk hnm hlen l D H.size) ⟨?_, hnm, hC.2.2.2.2.2.1 _ hi⟩ hp rfl (by rw [List.length_map]; exact hn) hL.1 ?_ (lv_room (by rw [cv_cats]; exact hcat)) hd ⟨hcc, hss⟩)
  · refine callB_of (ws' := xtb) n hC.2.2.2.2.2.1 (x_goodIn hk) ?_ rfl rfl (hC.2.2.2.2.2.1 _ hk.2.2.1) (hC.2.2.2.2.2.1 _ hl) hk.2.2.2.1 ⟨Nat.le_refl _, ?_⟩
    · unfold xws; rw [hret]
    · have := hk.2.2.2.2
      show 8 + (k2.2.2.1 + 11) + 64 * d ≤ 64 * (d + 1)
      omega
  · show stk.map (cv id) = _
    rw [x_stack hstk id]
    simp [cv]
theorem ne_callN {n idx b MC2 MS2 : Nat} {e0 : va_E} {wr : va_W} {stk vs : List Value} {host own : String} (ho : k.1.cls = own) (hd : decode k.2.1 pc = .ok (.invokespecial idx, 3)) (hk : xOk k2 n) (hnm : k2.1.name = "<init>") (hret : k2.2.2.2 = none) (hl : ∀ U, nNs U → va_Nw (.methodLinkNest own idx k2.1 host) U) (hi : Cond.instanceMethod k2.1 ∈ xtb) (hstk : stk = (Value.ref b :: vs).reverse ++ st) (hn : vs.length = n) (hcat : (st.map fun v => v.category).sum ≤ 8) (hlen : (lg_sl (Value.ref b :: vs)).length ≤ k2.2.2.1) (hcc : c0 + MC2 ≤ MC) (hss : s0 + MS2 ≤ MS)
    (h : nEv k2 d MC2 MS2 y 0 0 0 (xen (Value.ref b :: vs) k2.2.2.1) [] [(b, e0)] (fun w1 => nEv k (d + 1) MC MS y (c0 + MC2) (s0 + MS2) (pc + 3) lv st (wr ++ w1) Post)) : nEv k (d + 1) MC MS y c0 s0 pc lv stk (wr ++ [(b, e0)]) Post := by
  intro p l e s m args below meth c D A H locs ls hC hI hX hA hP hD hS hL
  have hp := n_pre (locs := locs) hX hP hD ((Value.ref b :: vs).map (cv id))
  refine n_behind hC hI hX hA hP hD hS hL (va_runIN (n := n) (bytes := k2.2.1) (maxL := k2.2.2.1) (own := own) (host := host) (b := b) (As := vs.map (cv id)) ⟨hC.1, hC.2.1, hC.2.2.2.1, ho ▸ hC.2.2.2.2.1, hC.2.2.2.2.2.1⟩ (h.met hk hnm hlen l D H.size) ⟨?_, hnm, hC.2.2.2.2.2.1 _ hi⟩ hp rfl (by rw [List.length_map]; exact hn) hL.1 ?_ (lv_room (by rw [cv_cats]; exact hcat)) hd ⟨hcc, hss⟩)
  · refine va_cnB (ws' := xtb) n hC.2.2.2.2.2.1 (x_goodIn hk) ?_ rfl rfl (hl s hX.2) (hC.2.2.2.2.2.1 _ hk.2.2.1) hk.2.2.2.1 ⟨Nat.le_refl _, ?_⟩
    · unfold xws; rw [hret]
    · have := hk.2.2.2.2
      show 8 + (k2.2.2.1 + 11) + 64 * d ≤ 64 * (d + 1)
      omega
  · show stk.map (cv id) = _
    rw [x_stack hstk id]
    simp [cv]
end NROWS
