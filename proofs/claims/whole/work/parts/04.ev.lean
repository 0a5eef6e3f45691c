def xtb : List Cond := lw_tbl.filter goodWord
theorem xtb_in {w : Cond} (h : w ∈ lw_tbl) (hg : goodWord w = true) : w ∈ xtb := List.mem_filter.mpr ⟨h, hg⟩
theorem xtb_good {w : Cond} (h : w ∈ xtb) : goodWord w = true := (List.mem_filter.mp h).2
def xws (k : xMD) : List Cond := .code k.1 k.2.1 k.2.2.1 k.2.2.2 :: xtb
abbrev xrm (d : Nat) : Room := { frames := d, cells := 0, slots := 0, locals := 64 * d }
abbrev xty (y : Nat → ClassId) : List (ClassId × FieldType) := [(y 0, .int), (y 1, .byte), (y 2, .char), (y 3, .long), (y 4, .boolean), (y 5, .object RX1), (y 6, .object RX3), (y 7, .object RX6)]
/-- what holds of the machine and the method's code -/
def xCx (k : xMD) (p : Program) (s : State) (m : MethodId) (args : Array Value) (meth : Method) (c : Code) : Prop :=
  p.tables.exec = Jvm.exec ∧ c.code = k.2.1 ∧ meth.sig.returnType = k.2.2.2 ∧ c.maxLocals = k.2.2.1 ∧ s.vm.findClass k.1.cls = some m.cls ∧ (∀ w ∈ xtb, w.before args s = true) ∧ meth.locks = false
/-- the two static tables, by cells 200 and 201; the texts by 210 .. and their bytes by 220 .. -/
def xABOVE (j : Nat) : Int32 := [(-1 : Int32), 0, 0, 0, 1, 2, 3].getD j 0
def xBODIES (j : Nat) : Int32 := [(10 : Int32), 11, 12, 0, 20, 0, 30, 0, 0, 0, 0, 40, 50, 51, 0, 0, 0, 60, 71, 70, 0].getD j 0
def xlen : List Nat := [5, 4, 4, 6, 3]
def xbyt : List (List Int32) := [[115, 119, 101, 101, 116], [104, 97, 122, 101], [107, 101, 101, 112], [112, 107, 118, 102, 115, 97], [60, 61, 62]]
def xExt (q : Nat → Nat) (A : Nat → Prop) (U : State) (H : Heap) : Prop :=
  va_Z RX8 "ABOVE" "[I" (.ref (q 200)) A U H ∧ va_T .int (q 200) 7 (fun j => .int (xABOVE j)) A U H ∧ va_Z RX0 "BODIES" "[I" (.ref (q 201)) A U H ∧ va_T .int (q 201) 21 (fun j => .int (xBODIES j)) A U H ∧
  (va_Z RJ0 "COMPACT_STRINGS" "Z" (.int 1) A U H ∧ (va_Z RJ3 "SIOOBE_FORMATTER" "Ljava/util/function/BiFunction;" .null A U H ∨ va_Z RJ3 "SIOOBE_FORMATTER" "Ljava/util/function/BiFunction;" (.ref (q 202)) A U H)) ∧ vk_S 5 xlen xbyt (fun i => q (210 + i)) (fun i => q (220 + i)) A U H
def xTx (q : Nat → Nat) (U : State) : Prop := vk_R RX7 45 "sweet" (q 210) U ∧ vk_R RX7 47 "haze" (q 211) U ∧ vk_R RX7 49 "keep" (q 212) U ∧ vk_R RX7 80 "pkvfsa" (q 213) U ∧ vk_R RX7 86 "<=>" (q 214) U
def xNs (U : State) : Prop := va_Nw (.methodLinkNest RX2 28 yX8_isIn RX8) U ∧ va_Nw (.methodLinkNest RX8 341 yX0_perform RX8) U ∧ va_Nw (.fieldLinkNest RX0 28 "JamOath" "ABOVE" "[I" "JamOath") U
def xWx (D : va_G) (y : Nat → ClassId) (q : Nat → Nat) (A : Nat → Prop) (U : State) (H : Heap) : Prop := va_K D vwCl (xty y) U ∧ xExt q A U H ∧ xTx q U ∧ xNs U
/-- a method's end: what it returns, the state behind it -/
def xQ (D : va_G) (y : Nat → ClassId) (q : Nat → Nat) (Post : Option Value → xSt → Prop) (A : Nat → Prop) : Array Value → State → Outcome → State → Prop := fun _ st oc t =>
  (∃ (r : Option Value) (σ' : xSt), oc = .returned (r.map (cv q)) ∧ Post r σ' ∧ va_P D vwCl (xW y q σ') t.heap ∧ va_D A (xW y q σ')) ∧ va_F A st t
/-- THE JUDGEMENT: from here the method comes to its end with Post -/
def xEv (k : xMD) (d pc : Nat) (lv : List (Option Value)) (st : List Value) (σ : xSt) (Post : Option Value → xSt → Prop) : Prop :=
  ∀ (p : Program) (l : Launch) (e : Env) (s : State) (m : MethodId) (args : Array Value) (below : List Frame) (meth : Method) (c : Code) (D : va_G) (y : Nat → ClassId) (q : Nat → Nat) (A : Nat → Prop) (H : Heap) (locs : List Loc) (ls : Array Slot),
    xCx k p s m args meth c → xWx D y q A s s.heap → (∀ a, s.heap.size ≤ a → A a) → va_P D vwCl (xW y q σ) H → va_D A (xW y q σ) → va_S A s.heap H locs → xL q ls k.2.2.1 lv →
    W p l e (xrm d) s m args below meth c H locs 0 0 (MQ below (xQ D y q Post A) args s 0 0 A) (F0 m pc ls (st.map (cv q)))
section XEV
variable {k : xMD} {d pc : Nat} {lv : List (Option Value)} {st : List Value} {σ : xSt} {Post : Option Value → xSt → Prop}
theorem xe_iconst {n : Int} {v : Int32} (hd : decode k.2.1 pc = .ok (.iconst n, 1)) (hv : Int32.ofInt n = v) (h : xEv k d (pc + 1) lv (.int v :: st) σ Post) : xEv k d pc lv st σ Post := by
  intro p l e s m args below meth c D y q A H locs ls hC hX hA hP hD hS hL
  exact lv_iconst hC.1 hC.2.1 hd hv (h p l e s m args below meth c D y q A H locs ls hC hX hA hP hD hS hL)
theorem xe_bipush {n : Int} {v : Int32} (hd : decode k.2.1 pc = .ok (.bipush n, 2)) (hv : (Int8.ofInt n).toInt32 = v) (h : xEv k d (pc + 2) lv (.int v :: st) σ Post) : xEv k d pc lv st σ Post := by
  intro p l e s m args below meth c D y q A H locs ls hC hX hA hP hD hS hL
  exact lv_bipush hC.1 hC.2.1 hd hv (h p l e s m args below meth c D y q A H locs ls hC hX hA hP hD hS hL)
theorem xe_sipush {n : Int} {v : Int32} (hd : decode k.2.1 pc = .ok (.sipush n, 3)) (hv : (Int16.ofInt n).toInt32 = v) (h : xEv k d (pc + 3) lv (.int v :: st) σ Post) : xEv k d pc lv st σ Post := by
  intro p l e s m args below meth c D y q A H locs ls hC hX hA hP hD hS hL
  exact lv_sipush hC.1 hC.2.1 hd hv (h p l e s m args below meth c D y q A H locs ls hC hX hA hP hD hS hL)
theorem xe_lconst {n : Fin 2} {v : Int64} (hd : decode k.2.1 pc = .ok (.lconst n, 1)) (hv : Int64.ofNat (n : Nat) = v) (h : xEv k d (pc + 1) lv (.long v :: st) σ Post) : xEv k d pc lv st σ Post := by
  intro p l e s m args below meth c D y q A H locs ls hC hX hA hP hD hS hL
  exact lv_lconst hC.1 hC.2.1 hd hv (h p l e s m args below meth c D y q A H locs ls hC hX hA hP hD hS hL)
theorem xe_ldc {i : Nat} {v : Int32} (hd : decode k.2.1 pc = .ok (.ldc i, 2)) (hc : Cond.constant k.1.cls i v ∈ xtb) (h : xEv k d (pc + 2) lv (.int v :: st) σ Post) : xEv k d pc lv st σ Post := by
  intro p l e s m args below meth c D y q A H locs ls hC hX hA hP hD hS hL
  exact lv_ldc hC.1 hC.2.1 hC.2.2.2.2.1 (hC.2.2.2.2.2.1 _ hc) hd (h p l e s m args below meth c D y q A H locs ls hC hX hA hP hD hS hL)
theorem xe_ldcw {i : Nat} {v : Int32} (hd : decode k.2.1 pc = .ok (.ldc_w i, 3)) (hc : Cond.constant k.1.cls i v ∈ xtb) (h : xEv k d (pc + 3) lv (.int v :: st) σ Post) : xEv k d pc lv st σ Post := by
  intro p l e s m args below meth c D y q A H locs ls hC hX hA hP hD hS hL
  exact lv_ldcw hC.1 hC.2.1 hC.2.2.2.2.1 (hC.2.2.2.2.2.1 _ hc) hd (h p l e s m args below meth c D y q A H locs ls hC hX hA hP hD hS hL)
theorem xe_ldc2 {i : Nat} {v : Int64} (hd : decode k.2.1 pc = .ok (.ldc2_w i, 3)) (hc : Cond.constantLong k.1.cls i v ∈ xtb) (h : xEv k d (pc + 3) lv (.long v :: st) σ Post) : xEv k d pc lv st σ Post := by
  intro p l e s m args below meth c D y q A H locs ls hC hX hA hP hD hS hL
  exact lv_ldc2 hC.1 hC.2.1 hC.2.2.2.2.1 (hC.2.2.2.2.2.1 _ hc) hd (h p l e s m args below meth c D y q A H locs ls hC hX hA hP hD hS hL)
theorem xe_null (hd : decode k.2.1 pc = .ok (.aconst_null, 1)) (h : xEv k d (pc + 1) lv (.null :: st) σ Post) : xEv k d pc lv st σ Post := by
  intro p l e s m args below meth c D y q A H locs ls hC hX hA hP hD hS hL
  exact lv_null hC.1 hC.2.1 hd (h p l e s m args below meth c D y q A H locs ls hC hX hA hP hD hS hL)
theorem xe_iload_n {j : Fin 4} {x : Int32} (hd : decode k.2.1 pc = .ok (.iload_n j, 1)) (hl : lv[(j : Nat)]? = some (some (.int x))) (h : xEv k d (pc + 1) lv (.int x :: st) σ Post) : xEv k d pc lv st σ Post := by
  intro p l e s m args below meth c D y q A H locs ls hC hX hA hP hD hS hL
  exact lv_iload_n hC.1 hC.2.1 hd rfl (hL.2.2 _ _ hl) (h p l e s m args below meth c D y q A H locs ls hC hX hA hP hD hS hL)
theorem xe_iload {j : Nat} {x : Int32} (hd : decode k.2.1 pc = .ok (.iload j, 2)) (hl : lv[j]? = some (some (.int x))) (h : xEv k d (pc + 2) lv (.int x :: st) σ Post) : xEv k d pc lv st σ Post := by
  intro p l e s m args below meth c D y q A H locs ls hC hX hA hP hD hS hL
  exact lv_iload hC.1 hC.2.1 hd (hL.2.2 _ _ hl) (h p l e s m args below meth c D y q A H locs ls hC hX hA hP hD hS hL)
theorem xe_lload_n {j : Fin 4} {x : Int64} (hd : decode k.2.1 pc = .ok (.lload_n j, 1)) (hl : lv[(j : Nat)]? = some (some (.long x))) (h : xEv k d (pc + 1) lv (.long x :: st) σ Post) : xEv k d pc lv st σ Post := by
  intro p l e s m args below meth c D y q A H locs ls hC hX hA hP hD hS hL
  exact lv_lload_n hC.1 hC.2.1 hd rfl (hL.2.2 _ _ hl) (h p l e s m args below meth c D y q A H locs ls hC hX hA hP hD hS hL)
theorem xe_lload {j : Nat} {x : Int64} (hd : decode k.2.1 pc = .ok (.lload j, 2)) (hl : lv[j]? = some (some (.long x))) (h : xEv k d (pc + 2) lv (.long x :: st) σ Post) : xEv k d pc lv st σ Post := by
  intro p l e s m args below meth c D y q A H locs ls hC hX hA hP hD hS hL
  exact lv_lload hC.1 hC.2.1 hd (hL.2.2 _ _ hl) (h p l e s m args below meth c D y q A H locs ls hC hX hA hP hD hS hL)
theorem xe_aload_n {j : Fin 4} {x : Nat} (hd : decode k.2.1 pc = .ok (.aload_n j, 1)) (hl : lv[(j : Nat)]? = some (some (.ref x))) (h : xEv k d (pc + 1) lv (.ref x :: st) σ Post) : xEv k d pc lv st σ Post := by
  intro p l e s m args below meth c D y q A H locs ls hC hX hA hP hD hS hL
  exact lv_aload_n hC.1 hC.2.1 hd rfl (hL.2.2 _ _ hl) (h p l e s m args below meth c D y q A H locs ls hC hX hA hP hD hS hL)
theorem xe_aload {j : Nat} {x : Nat} (hd : decode k.2.1 pc = .ok (.aload j, 2)) (hl : lv[j]? = some (some (.ref x))) (h : xEv k d (pc + 2) lv (.ref x :: st) σ Post) : xEv k d pc lv st σ Post := by
  intro p l e s m args below meth c D y q A H locs ls hC hX hA hP hD hS hL
  exact lv_aload hC.1 hC.2.1 hd (hL.2.2 _ _ hl) (h p l e s m args below meth c D y q A H locs ls hC hX hA hP hD hS hL)
theorem xe_aload_nN {j : Fin 4} (hd : decode k.2.1 pc = .ok (.aload_n j, 1)) (hl : lv[(j : Nat)]? = some (some .null)) (h : xEv k d (pc + 1) lv (.null :: st) σ Post) : xEv k d pc lv st σ Post := by
  intro p l e s m args below meth c D y q A H locs ls hC hX hA hP hD hS hL
  exact lv_aload_nN hC.1 hC.2.1 hd rfl (hL.2.2 _ _ hl) (h p l e s m args below meth c D y q A H locs ls hC hX hA hP hD hS hL)
theorem xe_aloadN {j : Nat} (hd : decode k.2.1 pc = .ok (.aload j, 2)) (hl : lv[j]? = some (some .null)) (h : xEv k d (pc + 2) lv (.null :: st) σ Post) : xEv k d pc lv st σ Post := by
  intro p l e s m args below meth c D y q A H locs ls hC hX hA hP hD hS hL
  exact lv_aloadN hC.1 hC.2.1 hd (hL.2.2 _ _ hl) (h p l e s m args below meth c D y q A H locs ls hC hX hA hP hD hS hL)
theorem xe_istore_n {j : Fin 4} {x : Int32} {lv2 : List (Option Value)} (hd : decode k.2.1 pc = .ok (.istore_n j, 1)) (hn : (j : Nat) < k.2.2.1) (hl : xs1 lv (j : Nat) (.int x) = lv2) (h : xEv k d (pc + 1) lv2 st σ Post) : xEv k d pc lv (.int x :: st) σ Post := by
  intro p l e s m args below meth c D y q A H locs ls hC hX hA hP hD hS hL
  subst hl
  exact lv_istore_n hC.1 hC.2.1 hd rfl (xL_pairs hL) hn rfl (fun ls2 hl2 => h p l e s m args below meth c D y q A H locs ls2 hC hX hA hP hD hS (xL_s1 (v := .int x) hl2))
theorem xe_istore {j : Nat} {x : Int32} {lv2 : List (Option Value)} (hd : decode k.2.1 pc = .ok (.istore j, 2)) (hn : j < k.2.2.1) (hl : xs1 lv j (.int x) = lv2) (h : xEv k d (pc + 2) lv2 st σ Post) : xEv k d pc lv (.int x :: st) σ Post := by
  intro p l e s m args below meth c D y q A H locs ls hC hX hA hP hD hS hL
  subst hl
  exact lv_istore hC.1 hC.2.1 hd (xL_pairs hL) hn rfl (fun ls2 hl2 => h p l e s m args below meth c D y q A H locs ls2 hC hX hA hP hD hS (xL_s1 (v := .int x) hl2))
theorem xe_astore_n {j : Fin 4} {x : Nat} {lv2 : List (Option Value)} (hd : decode k.2.1 pc = .ok (.astore_n j, 1)) (hn : (j : Nat) < k.2.2.1) (hl : xs1 lv (j : Nat) (.ref x) = lv2) (h : xEv k d (pc + 1) lv2 st σ Post) : xEv k d pc lv (.ref x :: st) σ Post := by
  intro p l e s m args below meth c D y q A H locs ls hC hX hA hP hD hS hL
  subst hl
  exact lv_astore_n hC.1 hC.2.1 hd rfl (xL_pairs hL) hn rfl (fun ls2 hl2 => h p l e s m args below meth c D y q A H locs ls2 hC hX hA hP hD hS (xL_s1 (v := .ref x) hl2))
theorem xe_astore {j : Nat} {x : Nat} {lv2 : List (Option Value)} (hd : decode k.2.1 pc = .ok (.astore j, 2)) (hn : j < k.2.2.1) (hl : xs1 lv j (.ref x) = lv2) (h : xEv k d (pc + 2) lv2 st σ Post) : xEv k d pc lv (.ref x :: st) σ Post := by
  intro p l e s m args below meth c D y q A H locs ls hC hX hA hP hD hS hL
  subst hl
  exact lv_astore hC.1 hC.2.1 hd (xL_pairs hL) hn rfl (fun ls2 hl2 => h p l e s m args below meth c D y q A H locs ls2 hC hX hA hP hD hS (xL_s1 (v := .ref x) hl2))
theorem xe_lstore_n {j : Fin 4} {x : Int64} {lv2 : List (Option Value)} (hd : decode k.2.1 pc = .ok (.lstore_n j, 1)) (hn : (j : Nat) + 1 < k.2.2.1) (hl : xs2 lv (j : Nat) (.long x) = lv2) (h : xEv k d (pc + 1) lv2 st σ Post) : xEv k d pc lv (.long x :: st) σ Post := by
  intro p l e s m args below meth c D y q A H locs ls hC hX hA hP hD hS hL
  subst hl
  exact lv_lstore_n hC.1 hC.2.1 hd rfl (xL_pairs hL) hn rfl (fun ls2 hl2 => h p l e s m args below meth c D y q A H locs ls2 hC hX hA hP hD hS (xL_s2 (v := .long x) hl2))
theorem xe_lstore {j : Nat} {x : Int64} {lv2 : List (Option Value)} (hd : decode k.2.1 pc = .ok (.lstore j, 2)) (hn : j + 1 < k.2.2.1) (hl : xs2 lv j (.long x) = lv2) (h : xEv k d (pc + 2) lv2 st σ Post) : xEv k d pc lv (.long x :: st) σ Post := by
  intro p l e s m args below meth c D y q A H locs ls hC hX hA hP hD hS hL
  subst hl
  exact lv_lstore hC.1 hC.2.1 hd (xL_pairs hL) hn rfl (fun ls2 hl2 => h p l e s m args below meth c D y q A H locs ls2 hC hX hA hP hD hS (xL_s2 (v := .long x) hl2))
theorem xe_astore_nN {j : Fin 4} {lv2 : List (Option Value)} (hd : decode k.2.1 pc = .ok (.astore_n j, 1)) (hn : (j : Nat) < k.2.2.1) (hl : xs1 lv (j : Nat) .null = lv2) (h : xEv k d (pc + 1) lv2 st σ Post) : xEv k d pc lv (.null :: st) σ Post := by
  intro p l e s m args below meth c D y q A H locs ls hC hX hA hP hD hS hL
  subst hl
  exact lv_astore_nN hC.1 hC.2.1 hd rfl (xL_pairs hL) hn rfl (fun ls2 hl2 => h p l e s m args below meth c D y q A H locs ls2 hC hX hA hP hD hS (xL_s1 (v := .null) hl2))
theorem xe_astoreN {j : Nat} {lv2 : List (Option Value)} (hd : decode k.2.1 pc = .ok (.astore j, 2)) (hn : j < k.2.2.1) (hl : xs1 lv j .null = lv2) (h : xEv k d (pc + 2) lv2 st σ Post) : xEv k d pc lv (.null :: st) σ Post := by
  intro p l e s m args below meth c D y q A H locs ls hC hX hA hP hD hS hL
  subst hl
  exact lv_astoreN hC.1 hC.2.1 hd (xL_pairs hL) hn rfl (fun ls2 hl2 => h p l e s m args below meth c D y q A H locs ls2 hC hX hA hP hD hS (xL_s1 (v := .null) hl2))
theorem xe_iinc {j : Nat} {n : Int} {x v : Int32} {lv2 : List (Option Value)} (hd : decode k.2.1 pc = .ok (.iinc j n, 3)) (hn : j < k.2.2.1) (hg : lv[j]? = some (some (.int x))) (hv : x + Int32.ofInt n = v) (hl : xs1 lv j (.int v) = lv2) (h : xEv k d (pc + 3) lv2 st σ Post) : xEv k d pc lv st σ Post := by
  intro p l e s m args below meth c D y q A H locs ls hC hX hA hP hD hS hL
  subst hl
  obtain ⟨kk, hkk⟩ := List.getElem?_of_mem (xpairs_mem (q := q) hg)
  exact lv_iinc (k := kk) hC.1 hC.2.1 hd (xL_pairs hL) hkk hv hn rfl (fun ls2 hl2 => h p l e s m args below meth c D y q A H locs ls2 hC hX hA hP hD hS (xL_s1 (v := .int v) hl2))
theorem xe_iadd {x z : Int32} (hd : decode k.2.1 pc = .ok (.iadd, 1)) (h : xEv k d (pc + 1) lv (.int (x + z) :: st) σ Post) : xEv k d pc lv (.int z :: .int x :: st) σ Post := by
  intro p l e s m args below meth c D y q A H locs ls hC hX hA hP hD hS hL
  exact lv_iadd hC.1 hC.2.1 hd (h p l e s m args below meth c D y q A H locs ls hC hX hA hP hD hS hL)
theorem xe_isub {x z : Int32} (hd : decode k.2.1 pc = .ok (.isub, 1)) (h : xEv k d (pc + 1) lv (.int (x - z) :: st) σ Post) : xEv k d pc lv (.int z :: .int x :: st) σ Post := by
  intro p l e s m args below meth c D y q A H locs ls hC hX hA hP hD hS hL
  exact lv_isub hC.1 hC.2.1 hd (h p l e s m args below meth c D y q A H locs ls hC hX hA hP hD hS hL)
theorem xe_imul {x z : Int32} (hd : decode k.2.1 pc = .ok (.imul, 1)) (h : xEv k d (pc + 1) lv (.int (x * z) :: st) σ Post) : xEv k d pc lv (.int z :: .int x :: st) σ Post := by
  intro p l e s m args below meth c D y q A H locs ls hC hX hA hP hD hS hL
  exact lv_imul hC.1 hC.2.1 hd (h p l e s m args below meth c D y q A H locs ls hC hX hA hP hD hS hL)
theorem xe_iand {x z : Int32} (hd : decode k.2.1 pc = .ok (.iand, 1)) (h : xEv k d (pc + 1) lv (.int (x &&& z) :: st) σ Post) : xEv k d pc lv (.int z :: .int x :: st) σ Post := by
  intro p l e s m args below meth c D y q A H locs ls hC hX hA hP hD hS hL
  exact lv_iand hC.1 hC.2.1 hd (h p l e s m args below meth c D y q A H locs ls hC hX hA hP hD hS hL)
theorem xe_ior {x z : Int32} (hd : decode k.2.1 pc = .ok (.ior, 1)) (h : xEv k d (pc + 1) lv (.int (x ||| z) :: st) σ Post) : xEv k d pc lv (.int z :: .int x :: st) σ Post := by
  intro p l e s m args below meth c D y q A H locs ls hC hX hA hP hD hS hL
  exact lv_ior hC.1 hC.2.1 hd (h p l e s m args below meth c D y q A H locs ls hC hX hA hP hD hS hL)
theorem xe_ixor {x z : Int32} (hd : decode k.2.1 pc = .ok (.ixor, 1)) (h : xEv k d (pc + 1) lv (.int (x ^^^ z) :: st) σ Post) : xEv k d pc lv (.int z :: .int x :: st) σ Post := by
  intro p l e s m args below meth c D y q A H locs ls hC hX hA hP hD hS hL
  exact lv_ixor hC.1 hC.2.1 hd (h p l e s m args below meth c D y q A H locs ls hC hX hA hP hD hS hL)
theorem xe_ishl {x z : Int32} (hd : decode k.2.1 pc = .ok (.ishl, 1)) (h : xEv k d (pc + 1) lv (.int (x <<< (z &&& 31)) :: st) σ Post) : xEv k d pc lv (.int z :: .int x :: st) σ Post := by
  intro p l e s m args below meth c D y q A H locs ls hC hX hA hP hD hS hL
  exact lv_ishl hC.1 hC.2.1 hd (h p l e s m args below meth c D y q A H locs ls hC hX hA hP hD hS hL)
theorem xe_ishr {x z : Int32} (hd : decode k.2.1 pc = .ok (.ishr, 1)) (h : xEv k d (pc + 1) lv (.int (x >>> (z &&& 31)) :: st) σ Post) : xEv k d pc lv (.int z :: .int x :: st) σ Post := by
  intro p l e s m args below meth c D y q A H locs ls hC hX hA hP hD hS hL
  exact lv_ishr hC.1 hC.2.1 hd (h p l e s m args below meth c D y q A H locs ls hC hX hA hP hD hS hL)
theorem xe_idiv {x z : Int32} (hd : decode k.2.1 pc = .ok (.idiv, 1)) (hz : ¬ z = 0) (h : xEv k d (pc + 1) lv (.int (x / z) :: st) σ Post) : xEv k d pc lv (.int z :: .int x :: st) σ Post := by
  intro p l e s m args below meth c D y q A H locs ls hC hX hA hP hD hS hL
  exact lv_idiv hC.1 hC.2.1 hd hz (h p l e s m args below meth c D y q A H locs ls hC hX hA hP hD hS hL)
theorem xe_irem {x z : Int32} (hd : decode k.2.1 pc = .ok (.irem, 1)) (hz : ¬ z = 0) (h : xEv k d (pc + 1) lv (.int (x - x / z * z) :: st) σ Post) : xEv k d pc lv (.int z :: .int x :: st) σ Post := by
  intro p l e s m args below meth c D y q A H locs ls hC hX hA hP hD hS hL
  exact lv_irem hC.1 hC.2.1 hd hz (h p l e s m args below meth c D y q A H locs ls hC hX hA hP hD hS hL)
theorem xe_ladd {x z : Int64} (hd : decode k.2.1 pc = .ok (.ladd, 1)) (h : xEv k d (pc + 1) lv (.long (x + z) :: st) σ Post) : xEv k d pc lv (.long z :: .long x :: st) σ Post := by
  intro p l e s m args below meth c D y q A H locs ls hC hX hA hP hD hS hL
  exact lv_ladd hC.1 hC.2.1 hd (h p l e s m args below meth c D y q A H locs ls hC hX hA hP hD hS hL)
theorem xe_land {x z : Int64} (hd : decode k.2.1 pc = .ok (.land, 1)) (h : xEv k d (pc + 1) lv (.long (x &&& z) :: st) σ Post) : xEv k d pc lv (.long z :: .long x :: st) σ Post := by
  intro p l e s m args below meth c D y q A H locs ls hC hX hA hP hD hS hL
  exact lv_land hC.1 hC.2.1 hd (h p l e s m args below meth c D y q A H locs ls hC hX hA hP hD hS hL)
theorem xe_lor {x z : Int64} (hd : decode k.2.1 pc = .ok (.lor, 1)) (h : xEv k d (pc + 1) lv (.long (x ||| z) :: st) σ Post) : xEv k d pc lv (.long z :: .long x :: st) σ Post := by
  intro p l e s m args below meth c D y q A H locs ls hC hX hA hP hD hS hL
  exact lv_lor hC.1 hC.2.1 hd (h p l e s m args below meth c D y q A H locs ls hC hX hA hP hD hS hL)
theorem xe_ldiv {x z : Int64} (hd : decode k.2.1 pc = .ok (.ldiv, 1)) (hz : ¬ z = 0) (h : xEv k d (pc + 1) lv (.long (x / z) :: st) σ Post) : xEv k d pc lv (.long z :: .long x :: st) σ Post := by
  intro p l e s m args below meth c D y q A H locs ls hC hX hA hP hD hS hL
  exact lv_ldiv hC.1 hC.2.1 hd hz (h p l e s m args below meth c D y q A H locs ls hC hX hA hP hD hS hL)
theorem xe_lrem {x z : Int64} (hd : decode k.2.1 pc = .ok (.lrem, 1)) (hz : ¬ z = 0) (h : xEv k d (pc + 1) lv (.long (x - x / z * z) :: st) σ Post) : xEv k d pc lv (.long z :: .long x :: st) σ Post := by
  intro p l e s m args below meth c D y q A H locs ls hC hX hA hP hD hS hL
  exact lv_lrem hC.1 hC.2.1 hd hz (h p l e s m args below meth c D y q A H locs ls hC hX hA hP hD hS hL)
theorem xe_lshl {x : Int64} {z : Int32} (hd : decode k.2.1 pc = .ok (.lshl, 1)) (h : xEv k d (pc + 1) lv (.long (x <<< (z.toInt64 &&& 63)) :: st) σ Post) : xEv k d pc lv (.int z :: .long x :: st) σ Post := by
  intro p l e s m args below meth c D y q A H locs ls hC hX hA hP hD hS hL
  exact lv_lshl hC.1 hC.2.1 hd rfl (h p l e s m args below meth c D y q A H locs ls hC hX hA hP hD hS hL)
theorem xe_lshr {x : Int64} {z : Int32} (hd : decode k.2.1 pc = .ok (.lshr, 1)) (h : xEv k d (pc + 1) lv (.long (x >>> (z.toInt64 &&& 63)) :: st) σ Post) : xEv k d pc lv (.int z :: .long x :: st) σ Post := by
  intro p l e s m args below meth c D y q A H locs ls hC hX hA hP hD hS hL
  exact lv_lshr hC.1 hC.2.1 hd rfl (h p l e s m args below meth c D y q A H locs ls hC hX hA hP hD hS hL)
theorem xe_ineg {x : Int32} (hd : decode k.2.1 pc = .ok (.ineg, 1)) (h : xEv k d (pc + 1) lv (.int (-x) :: st) σ Post) : xEv k d pc lv (.int x :: st) σ Post := by
  intro p l e s m args below meth c D y q A H locs ls hC hX hA hP hD hS hL
  exact lv_ineg hC.1 hC.2.1 hd (h p l e s m args below meth c D y q A H locs ls hC hX hA hP hD hS hL)
theorem xe_iushr {x z : Int32} (hd : decode k.2.1 pc = .ok (.iushr, 1)) (h : xEv k d (pc + 1) lv (.int ((x.toUInt32 >>> (z.toUInt32 &&& Int32.toUInt32 31)).toInt32) :: st) σ Post) : xEv k d pc lv (.int z :: .int x :: st) σ Post := by
  intro p l e s m args below meth c D y q A H locs ls hC hX hA hP hD hS hL
  exact lv_iushr hC.1 hC.2.1 hd rfl (h p l e s m args below meth c D y q A H locs ls hC hX hA hP hD hS hL)
theorem xe_i2l {x : Int32} (hd : decode k.2.1 pc = .ok (.i2l, 1)) (h : xEv k d (pc + 1) lv (.long (x.toInt64) :: st) σ Post) : xEv k d pc lv (.int x :: st) σ Post := by
  intro p l e s m args below meth c D y q A H locs ls hC hX hA hP hD hS hL
  exact lv_i2l hC.1 hC.2.1 hd rfl (h p l e s m args below meth c D y q A H locs ls hC hX hA hP hD hS hL)
theorem xe_i2b {x : Int32} (hd : decode k.2.1 pc = .ok (.i2b, 1)) (h : xEv k d (pc + 1) lv (.int (x.toInt8.toInt32) :: st) σ Post) : xEv k d pc lv (.int x :: st) σ Post := by
  intro p l e s m args below meth c D y q A H locs ls hC hX hA hP hD hS hL
  exact lv_i2b hC.1 hC.2.1 hd rfl (h p l e s m args below meth c D y q A H locs ls hC hX hA hP hD hS hL)
theorem xe_i2s {x : Int32} (hd : decode k.2.1 pc = .ok (.i2s, 1)) (h : xEv k d (pc + 1) lv (.int (x.toInt16.toInt32) :: st) σ Post) : xEv k d pc lv (.int x :: st) σ Post := by
  intro p l e s m args below meth c D y q A H locs ls hC hX hA hP hD hS hL
  exact lv_i2s hC.1 hC.2.1 hd rfl (h p l e s m args below meth c D y q A H locs ls hC hX hA hP hD hS hL)
theorem xe_i2c {x : Int32} (hd : decode k.2.1 pc = .ok (.i2c, 1)) (h : xEv k d (pc + 1) lv (.int ((x.toUInt32 % 65536).toInt32) :: st) σ Post) : xEv k d pc lv (.int x :: st) σ Post := by
  intro p l e s m args below meth c D y q A H locs ls hC hX hA hP hD hS hL
  exact lv_i2c hC.1 hC.2.1 hd rfl (h p l e s m args below meth c D y q A H locs ls hC hX hA hP hD hS hL)
theorem xe_l2i {x : Int64} (hd : decode k.2.1 pc = .ok (.l2i, 1)) (h : xEv k d (pc + 1) lv (.int x.toInt32 :: st) σ Post) : xEv k d pc lv (.long x :: st) σ Post := by
  intro p l e s m args below meth c D y q A H locs ls hC hX hA hP hD hS hL
  exact lv_l2i hC.1 hC.2.1 hd rfl (h p l e s m args below meth c D y q A H locs ls hC hX hA hP hD hS hL)
theorem xe_lcmp {x z : Int64} (hd : decode k.2.1 pc = .ok (.lcmp, 1)) (h : xEv k d (pc + 1) lv (.int (lg_cmp x z) :: st) σ Post) : xEv k d pc lv (.long z :: .long x :: st) σ Post := by
  intro p l e s m args below meth c D y q A H locs ls hC hX hA hP hD hS hL
  exact W.lcmp hC.1 hC.2.1 hd (h p l e s m args below meth c D y q A H locs ls hC hX hA hP hD hS hL)
theorem xe_dup {v : Value} (hd : decode k.2.1 pc = .ok (.dup, 1)) (hv : v.category = 1) (h : xEv k d (pc + 1) lv (v :: v :: st) σ Post) : xEv k d pc lv (v :: st) σ Post := by
  intro p l e s m args below meth c D y q A H locs ls hC hX hA hP hD hS hL
  exact lv_dup hC.1 hC.2.1 hd ((cv_cat q v).trans hv) (h p l e s m args below meth c D y q A H locs ls hC hX hA hP hD hS hL)
theorem xe_pop {v : Value} (hd : decode k.2.1 pc = .ok (.pop, 1)) (hv : v.category = 1) (h : xEv k d (pc + 1) lv st σ Post) : xEv k d pc lv (v :: st) σ Post := by
  intro p l e s m args below meth c D y q A H locs ls hC hX hA hP hD hS hL
  exact lv_pop hC.1 hC.2.1 hd ((cv_cat q v).trans hv) (h p l e s m args below meth c D y q A H locs ls hC hX hA hP hD hS hL)
theorem xe_dup2 {v w : Value} (hd : decode k.2.1 pc = .ok (.dup2, 1)) (hv : v.category = 1) (hw : w.category = 1) (h : xEv k d (pc + 1) lv (v :: w :: v :: w :: st) σ Post) : xEv k d pc lv (v :: w :: st) σ Post := by
  intro p l e s m args below meth c D y q A H locs ls hC hX hA hP hD hS hL
  exact lv_dup2_11 hC.1 hC.2.1 hd ((cv_cat q v).trans hv) ((cv_cat q w).trans hw) (h p l e s m args below meth c D y q A H locs ls hC hX hA hP hD hS hL)
theorem xe_if_eq {x : Int32} {off : Int} {tgt : Nat} (hd : decode k.2.1 pc = .ok (.ifCond .eq off, 3)) (hg : (pc : Int) + off = (tgt : Int)) (ht : x = 0 → xEv k d tgt lv st σ Post) (hf : ¬ x = 0 → xEv k d (pc + 3) lv st σ Post) : xEv k d pc lv (.int x :: st) σ Post := by
  intro p l e s m args below meth c D y q A H locs ls hC hX hA hP hD hS hL
  exact lv_if_eq hC.1 hC.2.1 hd hg (fun hc => (ht hc) p l e s m args below meth c D y q A H locs ls hC hX hA hP hD hS hL) (fun hc => (hf hc) p l e s m args below meth c D y q A H locs ls hC hX hA hP hD hS hL)
theorem xe_icmp_eq {x z : Int32} {off : Int} {tgt : Nat} (hd : decode k.2.1 pc = .ok (.if_icmp .eq off, 3)) (hg : (pc : Int) + off = (tgt : Int)) (ht : x = z → xEv k d tgt lv st σ Post) (hf : ¬ x = z → xEv k d (pc + 3) lv st σ Post) : xEv k d pc lv (.int z :: .int x :: st) σ Post := by
  intro p l e s m args below meth c D y q A H locs ls hC hX hA hP hD hS hL
  exact lv_icmp_eq hC.1 hC.2.1 hd hg (fun hc => (ht hc) p l e s m args below meth c D y q A H locs ls hC hX hA hP hD hS hL) (fun hc => (hf hc) p l e s m args below meth c D y q A H locs ls hC hX hA hP hD hS hL)
theorem xe_if_ne {x : Int32} {off : Int} {tgt : Nat} (hd : decode k.2.1 pc = .ok (.ifCond .ne off, 3)) (hg : (pc : Int) + off = (tgt : Int)) (ht : ¬ x = 0 → xEv k d tgt lv st σ Post) (hf : x = 0 → xEv k d (pc + 3) lv st σ Post) : xEv k d pc lv (.int x :: st) σ Post := by
  intro p l e s m args below meth c D y q A H locs ls hC hX hA hP hD hS hL
  exact lv_if_ne hC.1 hC.2.1 hd hg (fun hc => (ht hc) p l e s m args below meth c D y q A H locs ls hC hX hA hP hD hS hL) (fun hc => (hf hc) p l e s m args below meth c D y q A H locs ls hC hX hA hP hD hS hL)
theorem xe_icmp_ne {x z : Int32} {off : Int} {tgt : Nat} (hd : decode k.2.1 pc = .ok (.if_icmp .ne off, 3)) (hg : (pc : Int) + off = (tgt : Int)) (ht : ¬ x = z → xEv k d tgt lv st σ Post) (hf : x = z → xEv k d (pc + 3) lv st σ Post) : xEv k d pc lv (.int z :: .int x :: st) σ Post := by
  intro p l e s m args below meth c D y q A H locs ls hC hX hA hP hD hS hL
  exact lv_icmp_ne hC.1 hC.2.1 hd hg (fun hc => (ht hc) p l e s m args below meth c D y q A H locs ls hC hX hA hP hD hS hL) (fun hc => (hf hc) p l e s m args below meth c D y q A H locs ls hC hX hA hP hD hS hL)
theorem xe_if_lt {x : Int32} {off : Int} {tgt : Nat} (hd : decode k.2.1 pc = .ok (.ifCond .lt off, 3)) (hg : (pc : Int) + off = (tgt : Int)) (ht : x < 0 → xEv k d tgt lv st σ Post) (hf : ¬ x < 0 → xEv k d (pc + 3) lv st σ Post) : xEv k d pc lv (.int x :: st) σ Post := by
  intro p l e s m args below meth c D y q A H locs ls hC hX hA hP hD hS hL
  exact lv_if_lt hC.1 hC.2.1 hd hg (fun hc => (ht hc) p l e s m args below meth c D y q A H locs ls hC hX hA hP hD hS hL) (fun hc => (hf hc) p l e s m args below meth c D y q A H locs ls hC hX hA hP hD hS hL)
theorem xe_icmp_lt {x z : Int32} {off : Int} {tgt : Nat} (hd : decode k.2.1 pc = .ok (.if_icmp .lt off, 3)) (hg : (pc : Int) + off = (tgt : Int)) (ht : x < z → xEv k d tgt lv st σ Post) (hf : ¬ x < z → xEv k d (pc + 3) lv st σ Post) : xEv k d pc lv (.int z :: .int x :: st) σ Post := by
  intro p l e s m args below meth c D y q A H locs ls hC hX hA hP hD hS hL
  exact lv_icmp_lt hC.1 hC.2.1 hd hg (fun hc => (ht hc) p l e s m args below meth c D y q A H locs ls hC hX hA hP hD hS hL) (fun hc => (hf hc) p l e s m args below meth c D y q A H locs ls hC hX hA hP hD hS hL)
theorem xe_if_ge {x : Int32} {off : Int} {tgt : Nat} (hd : decode k.2.1 pc = .ok (.ifCond .ge off, 3)) (hg : (pc : Int) + off = (tgt : Int)) (ht : 0 ≤ x → xEv k d tgt lv st σ Post) (hf : ¬ 0 ≤ x → xEv k d (pc + 3) lv st σ Post) : xEv k d pc lv (.int x :: st) σ Post := by
  intro p l e s m args below meth c D y q A H locs ls hC hX hA hP hD hS hL
  exact lv_if_ge hC.1 hC.2.1 hd hg (fun hc => (ht hc) p l e s m args below meth c D y q A H locs ls hC hX hA hP hD hS hL) (fun hc => (hf hc) p l e s m args below meth c D y q A H locs ls hC hX hA hP hD hS hL)
theorem xe_icmp_ge {x z : Int32} {off : Int} {tgt : Nat} (hd : decode k.2.1 pc = .ok (.if_icmp .ge off, 3)) (hg : (pc : Int) + off = (tgt : Int)) (ht : z ≤ x → xEv k d tgt lv st σ Post) (hf : ¬ z ≤ x → xEv k d (pc + 3) lv st σ Post) : xEv k d pc lv (.int z :: .int x :: st) σ Post := by
  intro p l e s m args below meth c D y q A H locs ls hC hX hA hP hD hS hL
  exact lv_icmp_ge hC.1 hC.2.1 hd hg (fun hc => (ht hc) p l e s m args below meth c D y q A H locs ls hC hX hA hP hD hS hL) (fun hc => (hf hc) p l e s m args below meth c D y q A H locs ls hC hX hA hP hD hS hL)
theorem xe_if_gt {x : Int32} {off : Int} {tgt : Nat} (hd : decode k.2.1 pc = .ok (.ifCond .gt off, 3)) (hg : (pc : Int) + off = (tgt : Int)) (ht : 0 < x → xEv k d tgt lv st σ Post) (hf : ¬ 0 < x → xEv k d (pc + 3) lv st σ Post) : xEv k d pc lv (.int x :: st) σ Post := by
  intro p l e s m args below meth c D y q A H locs ls hC hX hA hP hD hS hL
  exact lv_if_gt hC.1 hC.2.1 hd hg (fun hc => (ht hc) p l e s m args below meth c D y q A H locs ls hC hX hA hP hD hS hL) (fun hc => (hf hc) p l e s m args below meth c D y q A H locs ls hC hX hA hP hD hS hL)
theorem xe_icmp_gt {x z : Int32} {off : Int} {tgt : Nat} (hd : decode k.2.1 pc = .ok (.if_icmp .gt off, 3)) (hg : (pc : Int) + off = (tgt : Int)) (ht : z < x → xEv k d tgt lv st σ Post) (hf : ¬ z < x → xEv k d (pc + 3) lv st σ Post) : xEv k d pc lv (.int z :: .int x :: st) σ Post := by
  intro p l e s m args below meth c D y q A H locs ls hC hX hA hP hD hS hL
  exact lv_icmp_gt hC.1 hC.2.1 hd hg (fun hc => (ht hc) p l e s m args below meth c D y q A H locs ls hC hX hA hP hD hS hL) (fun hc => (hf hc) p l e s m args below meth c D y q A H locs ls hC hX hA hP hD hS hL)
theorem xe_if_le {x : Int32} {off : Int} {tgt : Nat} (hd : decode k.2.1 pc = .ok (.ifCond .le off, 3)) (hg : (pc : Int) + off = (tgt : Int)) (ht : x ≤ 0 → xEv k d tgt lv st σ Post) (hf : ¬ x ≤ 0 → xEv k d (pc + 3) lv st σ Post) : xEv k d pc lv (.int x :: st) σ Post := by
  intro p l e s m args below meth c D y q A H locs ls hC hX hA hP hD hS hL
  exact lv_if_le hC.1 hC.2.1 hd hg (fun hc => (ht hc) p l e s m args below meth c D y q A H locs ls hC hX hA hP hD hS hL) (fun hc => (hf hc) p l e s m args below meth c D y q A H locs ls hC hX hA hP hD hS hL)
theorem xe_icmp_le {x z : Int32} {off : Int} {tgt : Nat} (hd : decode k.2.1 pc = .ok (.if_icmp .le off, 3)) (hg : (pc : Int) + off = (tgt : Int)) (ht : x ≤ z → xEv k d tgt lv st σ Post) (hf : ¬ x ≤ z → xEv k d (pc + 3) lv st σ Post) : xEv k d pc lv (.int z :: .int x :: st) σ Post := by
  intro p l e s m args below meth c D y q A H locs ls hC hX hA hP hD hS hL
  exact lv_icmp_le hC.1 hC.2.1 hd hg (fun hc => (ht hc) p l e s m args below meth c D y q A H locs ls hC hX hA hP hD hS hL) (fun hc => (hf hc) p l e s m args below meth c D y q A H locs ls hC hX hA hP hD hS hL)
theorem xe_goto {off : Int} {tgt : Nat} (hd : decode k.2.1 pc = .ok (.goto off, 3)) (hg : (pc : Int) + off = (tgt : Int)) (h : xEv k d tgt lv st σ Post) : xEv k d pc lv st σ Post := by
  intro p l e s m args below meth c D y q A H locs ls hC hX hA hP hD hS hL
  exact lv_goto hC.1 hC.2.1 hd hg (h p l e s m args below meth c D y q A H locs ls hC hX hA hP hD hS hL)
theorem xe_ifnull {x : Nat} {off : Int} (hd : decode k.2.1 pc = .ok (.ifnull off, 3)) (h : xEv k d (pc + 3) lv st σ Post) : xEv k d pc lv (.ref x :: st) σ Post := by
  intro p l e s m args below meth c D y q A H locs ls hC hX hA hP hD hS hL
  exact lv_ifnull hC.1 hC.2.1 hd (h p l e s m args below meth c D y q A H locs ls hC hX hA hP hD hS hL)
theorem xe_ifnullN {off : Int} {tgt : Nat} (hd : decode k.2.1 pc = .ok (.ifnull off, 3)) (hg : (pc : Int) + off = (tgt : Int)) (h : xEv k d tgt lv st σ Post) : xEv k d pc lv (.null :: st) σ Post := by
  intro p l e s m args below meth c D y q A H locs ls hC hX hA hP hD hS hL
  exact lv_ifnullN hC.1 hC.2.1 hd hg (h p l e s m args below meth c D y q A H locs ls hC hX hA hP hD hS hL)
theorem xe_ifnonnull {x : Nat} {off : Int} {tgt : Nat} (hd : decode k.2.1 pc = .ok (.ifnonnull off, 3)) (hg : (pc : Int) + off = (tgt : Int)) (h : xEv k d tgt lv st σ Post) : xEv k d pc lv (.ref x :: st) σ Post := by
  intro p l e s m args below meth c D y q A H locs ls hC hX hA hP hD hS hL
  exact lv_ifnonnull hC.1 hC.2.1 hd hg (h p l e s m args below meth c D y q A H locs ls hC hX hA hP hD hS hL)
theorem xe_ifnonnullN {off : Int} (hd : decode k.2.1 pc = .ok (.ifnonnull off, 3)) (h : xEv k d (pc + 3) lv st σ Post) : xEv k d pc lv (.null :: st) σ Post := by
  intro p l e s m args below meth c D y q A H locs ls hC hX hA hP hD hS hL
  exact lv_ifnonnullN hC.1 hC.2.1 hd (h p l e s m args below meth c D y q A H locs ls hC hX hA hP hD hS hL)
theorem xe_tableOut {dflt lo hi : Int} {offs : Array Int} {len tgt : Nat} {x : Int32} (hd : decode k.2.1 pc = .ok (.tableswitch dflt lo hi offs, len)) (hx : x.toInt < lo ∨ hi < x.toInt) (hg : (pc : Int) + dflt = (tgt : Int)) (h : xEv k d tgt lv st σ Post) : xEv k d pc lv (.int x :: st) σ Post := by
  intro p l e s m args below meth c D y q A H locs ls hC hX hA hP hD hS hL
  exact lv_tableOut hC.1 hC.2.1 hd hx hg (h p l e s m args below meth c D y q A H locs ls hC hX hA hP hD hS hL)
theorem xe_tableIn {dflt lo hi off : Int} {offs : Array Int} {len tgt : Nat} {x : Int32} (hd : decode k.2.1 pc = .ok (.tableswitch dflt lo hi offs, len)) (h1 : ¬ x.toInt < lo) (h2 : ¬ hi < x.toInt) (ho : offs[(x.toInt - lo).toNat]? = some off) (hg : (pc : Int) + off = (tgt : Int)) (h : xEv k d tgt lv st σ Post) : xEv k d pc lv (.int x :: st) σ Post := by
  intro p l e s m args below meth c D y q A H locs ls hC hX hA hP hD hS hL
  exact lv_tableIn hC.1 hC.2.1 hd h1 h2 ho hg (h p l e s m args below meth c D y q A H locs ls hC hX hA hP hD hS hL)
theorem xe_lookup {dflt off : Int} {ps : Array (Int × Int)} {len tgt : Nat} {x : Int32} (hd : decode k.2.1 pc = .ok (.lookupswitch dflt ps, len)) (hp : (ps.toList.zip (ps.toList.drop 1)).all (fun (a, next) => a.1 < next.1) = true) (ho : Op.lookupswitch.offset ps.toList dflt x.toInt = off) (hg : (pc : Int) + off = (tgt : Int)) (h : xEv k d tgt lv st σ Post) : xEv k d pc lv (.int x :: st) σ Post := by
  intro p l e s m args below meth c D y q A H locs ls hC hX hA hP hD hS hL
  exact lv_lookup hC.1 hC.2.1 hd hp ho hg (h p l e s m args below meth c D y q A H locs ls hC hX hA hP hD hS hL)
end XEV
