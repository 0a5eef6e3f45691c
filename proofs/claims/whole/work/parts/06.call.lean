/-! what is outside: it stays, and a called method sees it too -/
theorem xExt_call {q : Nat → Nat} {A B : Nat → Prop} {s U : State} {H0 H : Heap} (h : xExt q A s H0) (hvm : s.vm.Alike U.vm) (hq : ∀ a : Nat, a < H0.size → ¬ A a → H[a]? = H0[a]?) (hAB : ∀ a, B a → A a) : xExt q B U H :=
  ⟨((h.1.moved hvm).kept hq).narrow hAB, ((h.2.1.moved hvm).kept hq).narrow hAB, ((h.2.2.1.moved hvm).kept hq).narrow hAB, ((h.2.2.2.1.moved hvm).kept hq).narrow hAB, ⟨((h.2.2.2.2.1.1.moved hvm).kept hq).narrow hAB, h.2.2.2.2.1.2.imp (fun z => ((z.moved hvm).kept hq).narrow hAB) (fun z => ((z.moved hvm).kept hq).narrow hAB)⟩, ((h.2.2.2.2.2.moved hvm).kept hq).narrow hAB⟩
theorem xTx_warm {q : Nat → Nat} {s U : State} (hW : s.WarmedH U.vm) (h : xTx q s) : xTx q U := ⟨h.1.warm hW, h.2.1.warm hW, h.2.2.1.warm hW, h.2.2.2.1.warm hW, h.2.2.2.2.warm hW⟩
theorem xTx_same {q : Nat → Nat} {s U : State} (hv : U.vm = s.vm) (h : xTx q s) : xTx q U := ⟨h.1.same hv, h.2.1.same hv, h.2.2.1.same hv, h.2.2.2.1.same hv, h.2.2.2.2.same hv⟩
theorem xNs_warm {s U : State} (hW : s.WarmedH U.vm) (h : xNs s) : xNs U := ⟨h.1.warmM hW, h.2.1.warmM hW, h.2.2.warmF hW⟩
theorem xNs_same {s U : State} (hv : s.vm = U.vm) (h : xNs s) : xNs U := ⟨h.1.same rfl hv, h.2.1.same rfl hv, h.2.2.same rfl hv⟩
theorem x_free {A : Nat → Prop} {y : Nat → ClassId} {q : Nat → Nat} {σ : xSt} {H0 H : Heap} {locs : List Loc} (hD : va_D A (xW y q σ)) (hS : va_S A H0 H locs) (hA : ∀ a, H0.size ≤ a → A a) : ∀ a, va_A (xW y q σ) H.size a → A a := by
  intro a h
  rcases h with ⟨i, e, h⟩ | h
  · exact hD.2 i (a, e) h
  · exact hA a (Nat.le_trans hS.1 h)
theorem xWx_call {D : va_G} {y : Nat → ClassId} {q : Nat → Nat} {A : Nat → Prop} {σ : xSt} {s U : State} {H : Heap} {locs : List Loc} (h : xWx D y q A s s.heap) (hA : ∀ a, s.heap.size ≤ a → A a) (hD : va_D A (xW y q σ)) (hS : va_S A s.heap H locs) (hU : U.heap = H) (hW : s.WarmedH U.vm) : xWx D y q (va_A (xW y q σ) H.size) U U.heap :=
  ⟨va_K.moved hW.alike h.1, xExt_call h.2.1 hW.alike (fun a h1 h2 => by rw [hU]; exact hS.2.1 a h1 h2) (x_free hD hS hA), xTx_warm hW h.2.2.1, xNs_warm hW h.2.2.2⟩
/-- a called method's start -/
def xB (D : va_G) (y : Nat → ClassId) (q : Nat → Nat) (σ : xSt) (sz : Nat) (U : State) : Prop := U.heap.size = sz ∧ va_P D vwCl (xW y q σ) U.heap ∧ va_D (fun _ => True) (xW y q σ) ∧ xWx D y q (va_A (xW y q σ) sz) U U.heap
theorem xB_blind {D : va_G} {y : Nat → ClassId} {q : Nat → Nat} {σ : xSt} {sz : Nat} {av : List Value} : FrameBlind (va_Pc av (xB D y q σ sz)) := by
  intro a U g mk h
  obtain ⟨h0, h1, h2, h3, h4, h5, h6, h7⟩ := h
  exact ⟨h0, h1, h2, h3, va_K.moved (u := U) (U := U.calling g mk a) (Vm.Alike.refl U.vm) h4, xExt_call (s := U) (U := U.calling g mk a) h5 (Vm.Alike.refl U.vm) (fun _ _ _ => rfl) (fun _ z => z), xTx_same (s := U) (U := U.calling g mk a) rfl h6, xNs_same (s := U) (U := U.calling g mk a) rfl h7⟩
/-- the locals at a method's entry -/
def xen (vs : List Value) (n : Nat) : List (Option Value) := (List.range n).map (fun i => ((lv_args 0 vs).find? (fun w => w.1 == i)).map (fun w => w.2))
theorem lv_args_map (q : Nat → Nat) : ∀ (vs : List Value) (i : Nat), lv_args i (vs.map (cv q)) = (lv_args i vs).map (fun w => (w.1, cv q w.2)) := by
  intro vs
  induction vs with
  | nil => intro i; rfl
  | cons v vs ih => intro i; simp only [List.map_cons, lv_args, cv_cat, ih]
theorem lg_sl_map (q : Nat → Nat) (vs : List Value) : (lg_sl (vs.map (cv q))).length = (lg_sl vs).length := by
  induction vs with
  | nil => rfl
  | cons v vs ih =>
    have e : ∀ (w : Value) (ws : List Value), (lg_sl (w :: ws)).length = (if w.category = 2 then 2 else 1) + (lg_sl ws).length := by
      intro w ws
      unfold lg_sl
      rw [List.flatMap_cons, List.length_append]
      congr 1
      split <;> rfl
    rw [List.map_cons, e, e, cv_cat, ih]
theorem xL_entry (q : Nat → Nat) (vs : List Value) (n : Nat) (h : (lg_sl vs).length ≤ n) : xL q ((lg_sl (vs.map (cv q)) ++ List.replicate (n - (lg_sl (vs.map (cv q))).length) Slot.unset).toArray) n (xen vs n) := by
  have h0 := lv_entry (vs.map (cv q)) (n := n) (by rw [lg_sl_map]; exact h)
  refine ⟨h0.1, h0.2.1, fun i v hv => ?_⟩
  unfold xen at hv
  rw [List.getElem?_map] at hv
  cases hr : (List.range n)[i]? with
  | none => rw [hr] at hv; cases hv
  | some j =>
    rw [hr] at hv
    have hj : j = i := by
      have := List.getElem?_eq_some_iff.mp hr
      obtain ⟨h1, h2⟩ := this
      simpa using h2.symm
    subst hj
    simp only [Option.map_some, Option.some.injEq] at hv
    cases hf : (lv_args 0 vs).find? (fun w => w.1 == j) with
    | none => rw [hf] at hv; cases hv
    | some w =>
      rw [hf] at hv
      simp only [Option.map_some, Option.some.injEq] at hv
      have hm := List.mem_of_find?_eq_some hf
      have he : w.1 = j := by simpa using List.find?_some hf
      have := h0.2.2 (w.1, cv q w.2) (by rw [lv_args_map]; exact List.mem_map.mpr ⟨w, hm, rfl⟩)
      rw [hv, he] at this
      exact this
/-- a method's own facts: its code among the tables, how many parameters it has -/
def xOk (k : xMD) (n : Nat) : Prop := plainName k.1.cls = true ∧ Cond.code k.1 k.2.1 k.2.2.1 k.2.2.2 ∈ xtb ∧ Cond.initialized k.1.cls ∈ xtb ∧ (k.1.cls ≠ "java/lang/invoke/MethodHandle" ∧ k.1.cls ≠ "java/lang/invoke/VarHandle" ∧ (parseMethodDescriptor k.1.desc).map (fun d => d.parameters.length) = some n) ∧ k.2.2.1 ≤ 45
theorem xEv.met {k : xMD} {n d : Nat} {vs : List Value} {σ : xSt} {Post : Option Value → xSt → Prop} (hk : xOk k n) (hlen : (lg_sl vs).length ≤ k.2.2.1) (h : xEv k d 0 (xen vs k.2.2.1) [] σ Post) (l : Launch) (D : va_G) (y : Nat → ClassId) (q : Nat → Nat) (sz : Nat) :
    Met l k.1 (xws k) (xrm d) (va_Pc (vs.map (cv q)) (xB D y q σ sz)) (xQ D y q Post (va_A (xW y q σ) sz)) 0 0 (va_A (xW y q σ) sz) := by
  refine Met.ofW (cc := k.2.1) (maxL := k.2.2.1) (ret := k.2.2.2) hk.1 rfl ?_
  intro p e s m args below meth c s₁ B hml hv
  obtain ⟨rfl, hsz, hP, hD0, hX⟩ := hv
  have hts := atoms_spec (ws := xws k) B.pre
  have hown : s.vm.findClass k.1.cls = some m.cls := findClass_of_methodNamed B.named
  subst hsz
  have hD := hD0.self (sz := s.heap.size)
  rw [lg_entry_eq]
  exact h p l e s m _ below meth c D y q _ s.heap [] _ ⟨B.exec, B.bytes, B.returns, hml, hown, fun w hw => hts w (List.mem_cons_of_mem _ hw), B.notSynchronized⟩ hX (fun a ha => Or.inr ha) hP hD va_S.rf (xL_entry q vs _ hlen)
theorem x_goodIn {k : xMD} {n : Nat} (hk : xOk k n) : GoodIn xtb (xws k) := by
  intro w hw
  rcases List.mem_cons.mp hw with rfl | hw
  · exact ⟨hk.2.1, good_of_word (xtb_good hk.2.1)⟩
  · exact ⟨hw, good_of_word (xtb_good hw)⟩
/-- what a call leaves on the stack -/
abbrev xps (r : Option Value) (st : List Value) : List Value := match r with | some v => v :: st | none => st
section XCALL
variable {k k2 : xMD} {d pc n idx : Nat} {lv : List (Option Value)} {st stk vs : List Value} {σ : xSt} {Post : Option Value → xSt → Prop}
/-- behind a call: the run of it goes on with what the called method's end says -/
theorem x_behind {p : Program} {l : Launch} {e : Env} {s : State} {m : MethodId} {args : Array Value} {below : List Frame} {meth : Method} {c : Code} {D : va_G} {y : Nat → ClassId} {q : Nat → Nat} {A : Nat → Prop} {H : Heap} {locs : List Loc} {ls : Array Slot} {a : Array Value}
    (hC : xCx k p s m args meth c) (hX : xWx D y q A s s.heap) (hA : ∀ a, s.heap.size ≤ a → A a) (hD : va_D A (xW y q σ)) (hS : va_S A s.heap H locs) (hL : xL q ls k.2.2.1 lv)
    (hr : va_Run p l e (xrm (d + 1)) s m args below meth c H locs 0 0 0 0 (F0 m pc ls (stk.map (cv q))) (st.map (cv q)) (xQ D y q (fun r σ' => xEv k (d + 1) (pc + 3) lv (xps r st) σ' Post) (va_A (xW y q σ) H.size) a) (va_A (xW y q σ) H.size)) :
    W p l e (xrm (d + 1)) s m args below meth c H locs 0 0 (MQ below (xQ D y q Post A) args s 0 0 A) (F0 m pc ls (stk.map (cv q))) := by
  intro T hT X
  obtain ⟨v, st₀, t, T', L, h0, X', hL', e1, e2, ⟨⟨r, σ', hv, hpost, hP', hD'⟩, hz, hk⟩, stp⟩ := hr T hT X
  cases hv
  rw [h0] at hz hk
  have hf := x_free hD hS hA
  obtain ⟨t2, a1, b1⟩ := hpost p l e s m args below meth c D y q A T'.heap (locs ++ L) ls hC hX hA (by rw [e1]; exact hP') (hD'.weaken (fun _ w _ z => hf w.1 z))
    ⟨Nat.le_trans hS.1 (by rw [e1]; exact hz), fun b h1 h2 => by rw [e1, hk b (Nat.lt_of_lt_of_le h1 hS.1) (fun z => h2 (hf b z))]; exact hS.2.1 b h1 h2, fun b hb => by
      rcases List.mem_append.mp hb with h | h
      · exact hS.2.2 b h
      · exact hf _ (hL' b h)⟩ hL T' rfl X'
  refine ⟨t2, stp t2 ?_, b1⟩
  have e3 : (r.map (cv q)).toList ++ st.map (cv q) = (xps r st).map (cv q) := by cases r <;> simp [xps]
  rw [e3]
  exact a1
theorem x_pre {s : State} {D : va_G} {y : Nat → ClassId} {q : Nat → Nat} {A : Nat → Prop} {H : Heap} {locs : List Loc} (hX : xWx D y q A s s.heap) (hA : ∀ a, s.heap.size ≤ a → A a) (hP : va_P D vwCl (xW y q σ) H) (hD : va_D A (xW y q σ)) (hS : va_S A s.heap H locs) (av : List Value) : FrameBlind (va_Pc av (xB D y q σ H.size)) ∧ ∀ U : State, U.heap = H → s.WarmedH U.vm → va_Pc av (xB D y q σ H.size) av.toArray U :=
  ⟨xB_blind, fun U hU hW => ⟨rfl, by rw [hU], by rw [hU]; exact hP, hD.weaken (fun _ _ _ _ => trivial), xWx_call hX hA hD hS hU hW⟩⟩
theorem x_room (hk : k.2.2.1 ≤ 45) : (xrm d).frames + 1 ≤ (xrm (d + 1)).frames ∧ 8 + (k.2.2.1 + 11) + (xrm d).locals ≤ (xrm (d + 1)).locals := ⟨Nat.le_refl _, by show 8 + (k.2.2.1 + 11) + 64 * d ≤ 64 * (d + 1); omega⟩
theorem x_stack (hstk : stk = vs.reverse ++ st) (q : Nat → Nat) : stk.map (cv q) = (vs.map (cv q)).reverse ++ st.map (cv q) := by rw [hstk, List.map_append, List.map_reverse]
/-- a static method -/
theorem xe_calls (hd : decode k.2.1 pc = .ok (.invokestatic idx, 3)) (hk : xOk k2 n) (hl : Cond.methodLink k.1.cls idx k2.1 ∈ xtb) (hs : Cond.static k2.1 ∈ xtb) (hstk : stk = vs.reverse ++ st) (hn : vs.length = n) (hcat : (st.map fun v => v.category).sum ≤ 8) (hlen : (lg_sl vs).length ≤ k2.2.2.1)
    (h : xEv k2 d 0 (xen vs k2.2.2.1) [] σ (fun r σ' => xEv k (d + 1) (pc + 3) lv (xps r st) σ' Post)) : xEv k (d + 1) pc lv stk σ Post := by
  intro p l e s m args below meth c D y q A H locs ls hC hX hA hP hD hS hL
  refine x_behind (k := k) hC hX hA hD hS hL (va_runS (n := n) (bytes := k2.2.1) (maxL := k2.2.2.1) (ret := k2.2.2.2) (As := vs.map (cv q)) ⟨hC.1, hC.2.1, hC.2.2.2.1, hC.2.2.2.2.1, hC.2.2.2.2.2.1⟩ (h.met hk hlen l D y q H.size) ?_ (x_pre hX hA hP hD hS _) rfl (by rw [List.length_map]; exact hn) hL.1 (x_stack hstk q) (lv_room (by rw [cv_cats]; exact hcat)) hd ⟨Nat.le_refl _, Nat.le_refl _⟩)
  exact ⟨callB_of n hC.2.2.2.2.2.1 (x_goodIn hk) rfl rfl rfl (hC.2.2.2.2.2.1 _ hk.2.2.1) (hC.2.2.2.2.2.1 _ hl) hk.2.2.2.1 (x_room hk.2.2.2.2), hC.2.2.2.2.2.1 _ hs⟩
/-- what the receiver is: an object of the pool, or a text -/
def xRec (C : String) (b : Nat) : Prop := (∃ (ci : Nat) (rs : List (Option Nat)) (r : vw_C), b < 138 ∧ xsh b = .inr (ci, rs) ∧ vwCl[ci]? = some r ∧ r.1 = C) ∨ (C = "java/lang/String" ∧ ∃ i, i < 5 ∧ b = 210 + i)
theorem xRec.use {C : String} {b : Nat} {s : State} {D : va_G} {y : Nat → ClassId} {q : Nat → Nat} {A : Nat → Prop} {H : Heap} {locs : List Loc} (hr : xRec C b) (hX : xWx D y q A s s.heap) (hP : va_P D vwCl (xW y q σ) H) (hS : va_S A s.heap H locs) : ∃ cellB : Cell, H[q b]? = some cellB ∧ cellB.vm.isStatics = false ∧ s.vm.findClass C = some cellB.cls := by
  rcases hr with ⟨ci, rs, r, h1, h2, h3, rfl⟩ | ⟨rfl, i, hi, rfl⟩
  · exact va_recv hX.1 hP h3 (xWo h1 h2)
  · exact vk_recv (i := i) (adK := fun i => q (210 + i)) (adV := fun i => q (220 + i)) hX.2.1.2.2.2.2.2 hi hS
/-- an instance method -/
theorem xe_callv {b : Nat} (hd : decode k.2.1 pc = .ok (.invokevirtual idx, 3)) (hk : xOk k2 n) (hl : Cond.methodLink k.1.cls idx k2.1 ∈ xtb) (hi : Cond.instanceMethod k2.1 ∈ xtb) (hsel : Cond.selects k2.1.cls k2.1 k2.1 ∈ xtb) (hrec : xRec k2.1.cls b) (hstk : stk = (Value.ref b :: vs).reverse ++ st) (hn : vs.length = n) (hcat : (st.map fun v => v.category).sum ≤ 8) (hlen : (lg_sl (Value.ref b :: vs)).length ≤ k2.2.2.1)
    (h : xEv k2 d 0 (xen (Value.ref b :: vs) k2.2.2.1) [] σ (fun r σ' => xEv k (d + 1) (pc + 3) lv (xps r st) σ' Post)) : xEv k (d + 1) pc lv stk σ Post := by
  intro p l e s m args below meth c D y q A H locs ls hC hX hA hP hD hS hL
  have hp := x_pre hX hA hP hD hS ((Value.ref b :: vs).map (cv q))
  refine x_behind (k := k) hC hX hA hD hS hL (va_runV (n := n) (bytes := k2.2.1) (maxL := k2.2.2.1) (ret := k2.2.2.2) (C := k2.1.cls) (b := q b) (As := vs.map (cv q)) ⟨hC.1, hC.2.1, hC.2.2.2.1, hC.2.2.2.2.1, hC.2.2.2.2.2.1⟩ (h.met hk hlen l D y q H.size) ?_ ⟨hp.1, hrec.use hX hP hS, hp.2⟩ rfl (by rw [List.length_map]; exact hn) hL.1 ?_ (lv_room (by rw [cv_cats]; exact hcat)) hd ⟨Nat.le_refl _, Nat.le_refl _⟩)
  · exact ⟨callB_of n hC.2.2.2.2.2.1 (x_goodIn hk) rfl rfl rfl (hC.2.2.2.2.2.1 _ hk.2.2.1) (hC.2.2.2.2.2.1 _ hl) hk.2.2.2.1 (x_room hk.2.2.2.2), hC.2.2.2.2.2.1 _ hi, hC.2.2.2.2.2.1 _ hsel⟩
  · show stk.map (cv q) = _
    rw [x_stack hstk q]
    simp [cv]
/-- the two calls of a nest mate's private methods -/
theorem xe_callIsIn (hk0 : k.1.cls = RX2) (hd : decode k.2.1 pc = .ok (.invokestatic 28, 3)) (hk : xOk k2 n) (hy : k2.1 = yX8_isIn) (hs : Cond.static k2.1 ∈ xtb) (hstk : stk = vs.reverse ++ st) (hn : vs.length = n) (hcat : (st.map fun v => v.category).sum ≤ 8) (hlen : (lg_sl vs).length ≤ k2.2.2.1)
    (h : xEv k2 d 0 (xen vs k2.2.2.1) [] σ (fun r σ' => xEv k (d + 1) (pc + 3) lv (xps r st) σ' Post)) : xEv k (d + 1) pc lv stk σ Post := by
  intro p l e s m args below meth c D y q A H locs ls hC hX hA hP hD hS hL
  refine x_behind (k := k) hC hX hA hD hS hL (va_runSN (n := n) (bytes := k2.2.1) (maxL := k2.2.2.1) (ret := k2.2.2.2) (own := RX2) (host := RX8) (As := vs.map (cv q)) ⟨hC.1, hC.2.1, hC.2.2.2.1, hk0 ▸ hC.2.2.2.2.1, hC.2.2.2.2.2.1⟩ (h.met hk hlen l D y q H.size) ?_ (x_pre hX hA hP hD hS _) rfl (by rw [List.length_map]; exact hn) hL.1 (x_stack hstk q) (lv_room (by rw [cv_cats]; exact hcat)) hd ⟨Nat.le_refl _, Nat.le_refl _⟩)
  exact ⟨va_cnB n hC.2.2.2.2.2.1 (x_goodIn hk) rfl rfl rfl (hy ▸ hX.2.2.2.1) (hC.2.2.2.2.2.1 _ hk.2.2.1) hk.2.2.2.1 (x_room hk.2.2.2.2), hC.2.2.2.2.2.1 _ hs, trivial⟩
theorem xe_callPerform {b : Nat} (hk0 : k.1.cls = RX8) (hd : decode k.2.1 pc = .ok (.invokevirtual 341, 3)) (hk : xOk k2 n) (hy : k2.1 = yX0_perform) (hi : Cond.instanceMethod k2.1 ∈ xtb) (hsel : Cond.selects k2.1.cls k2.1 k2.1 ∈ xtb) (hrec : xRec k2.1.cls b) (hstk : stk = (Value.ref b :: vs).reverse ++ st) (hn : vs.length = n) (hcat : (st.map fun v => v.category).sum ≤ 8) (hlen : (lg_sl (Value.ref b :: vs)).length ≤ k2.2.2.1)
    (h : xEv k2 d 0 (xen (Value.ref b :: vs) k2.2.2.1) [] σ (fun r σ' => xEv k (d + 1) (pc + 3) lv (xps r st) σ' Post)) : xEv k (d + 1) pc lv stk σ Post := by
  intro p l e s m args below meth c D y q A H locs ls hC hX hA hP hD hS hL
  have hp := x_pre hX hA hP hD hS ((Value.ref b :: vs).map (cv q))
  refine x_behind (k := k) hC hX hA hD hS hL (va_runVN (n := n) (bytes := k2.2.1) (maxL := k2.2.2.1) (ret := k2.2.2.2) (own := RX8) (host := RX8) (C := k2.1.cls) (b := q b) (As := vs.map (cv q)) ⟨hC.1, hC.2.1, hC.2.2.2.1, hk0 ▸ hC.2.2.2.2.1, hC.2.2.2.2.2.1⟩ (h.met hk hlen l D y q H.size) ?_ ⟨hp.1, hrec.use hX hP hS, hp.2⟩ rfl (by rw [List.length_map]; exact hn) hL.1 ?_ (lv_room (by rw [cv_cats]; exact hcat)) hd ⟨Nat.le_refl _, Nat.le_refl _⟩)
  · exact ⟨va_cnB n hC.2.2.2.2.2.1 (x_goodIn hk) rfl rfl rfl (hy ▸ hX.2.2.2.2.1) (hC.2.2.2.2.2.1 _ hk.2.2.1) hk.2.2.2.1 (x_room hk.2.2.2.2), hC.2.2.2.2.2.1 _ hi, hC.2.2.2.2.2.1 _ hsel⟩
  · show stk.map (cv q) = _
    rw [x_stack hstk q]
    simp [cv]
/-- another name for what lies on top -/
theorem xe_top {x x2 : Int32} (hx : x = x2) (h : xEv k d pc lv (.int x2 :: st) σ Post) : xEv k d pc lv (.int x :: st) σ Post := hx ▸ h
theorem xe_st {σ2 : xSt} (hs : σ = σ2) (h : xEv k d pc lv st σ2 Post) : xEv k d pc lv st σ Post := hs ▸ h
/-- weaker ends -/
theorem xEv.imp {Post2 : Option Value → xSt → Prop} (h : xEv k d pc lv st σ Post) (hi : ∀ r σ', Post r σ' → Post2 r σ') : xEv k d pc lv st σ Post2 := by
  intro p l e s m args below meth c D y q A H locs ls hC hX hA hP hD hS hL T hT X
  obtain ⟨t, a1, o, b1, b2, ⟨⟨r, σ', c1, c2, c3⟩, c4⟩, b4⟩ := h p l e s m args below meth c D y q A H locs ls hC hX hA hP hD hS hL T hT X
  exact ⟨t, a1, o, b1, b2, ⟨⟨r, σ', c1, hi r σ' c2, c3⟩, c4⟩, b4⟩
end XCALL
