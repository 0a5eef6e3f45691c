/-! THE LAW: its judgement and its rows (the head is the skeleton's) -/
def R_law : String := "JamOathLaw"
def lw_P (b : Addr) (xs : List Int32) (args : Array Value) (s : State) : Prop := args = #[.ref b] ∧ s.IntsAt b xs ∧ xs.length ≤ 3072 ∧ (Jvm.Cond.and given_1 narrow_1).before args s = true
def lw_Q (_ : Array Value) (s : State) (o : Outcome) (t : State) : Prop := o = .returned (some (.int 1)) ∧ Framed s o t [] 600000 7302250
def lw_Z (below : List Frame) (a : Array Value) (s : State) : State → Prop := fun t => ∃ o, t.status = .running ∧ Ended t below o ∧ lw_Q a s o t
/-- the law's own end, with 1 on the stack, nothing written that was there before, its room as the claim has it -/
theorem lw_ret {p : Program} {l : Launch} {e : Env} {s : State} {m : MethodId} {below : List Frame} {meth : Method} {c : Code} {b : Nat} (hx : p.tables.exec = Jvm.exec) (hb : c.code = code) (hr : meth.sig.returnType = ret) (hlocks : meth.locks = false) {pc : Nat} {H : Heap} {ls : Array Slot} (hdg : decode code pc = .ok (.ireturn, 1)) : W p l e room_1 s m #[Value.ref b] below meth c H [] 600000 7302250 (lw_Z below #[Value.ref b] s) (F0 m pc ls [.int 1]) := by
  intro T hT X
  obtain ⟨fs, hret, hrun, hended, hW, hframe⟩ := X.leave (v := some (.int 1)) (hlocks := hlocks) (fun h => by rw [hr] at h; cases h)
  have hmeth' : T.vm.method? m = some meth := X.method'
  refine ⟨T.setFrames fs, ?_, .returned (some (.int 1)), hrun, hended, rfl, ⟨_, rfl⟩, hW, hframe⟩
  jvm_step X.here [X.here.top, hx, hb, hdg, hmeth', hr, ret, narrow_b1]
  (try refine ⟨rfl, ?_⟩); (try refine ⟨rfl, ?_⟩)
  first | (intro acts; rw [hret _ acts rfl rfl rfl]) | rw [hret _ _ rfl rfl rfl]
  exact Steps.refl _
/-- what holds at the law's entry: the machine, the code, the tables' words (any of lw_tbl by 'hts w (by decide +kernel)'), the script of L ints xs at the cell b, what the Statement gives of the start (any of its parts by flat_of_before) -/
def lw_At (p : Program) (s : State) (m : MethodId) (meth : Method) (c : Code) (b L : Nat) (xs : Nat → Int32) : Prop :=
  p.tables.exec = Jvm.exec ∧ c.code = code ∧ meth.sig.returnType = ret ∧ c.maxLocals = 4 ∧ s.vm.findClass R_law = some m.cls ∧ (∀ w ∈ lw_tbl, w.before #[Value.ref b] s = true) ∧ va_X b L xs s s.heap ∧ b < s.heap.size ∧ meth.locks = false ∧ (Jvm.Cond.and given_1 narrow_1).before #[Value.ref b] s = true

def LEv (p : Program) (l : Launch) (e : Env) (s : State) (m : MethodId) (below : List Frame) (meth : Method) (c : Code) (D : va_G) (y : Nat → ClassId) (q : Nat → Nat) (b : Nat) (pc : Nat) (lv : List (Option Value)) (st : List Value) (σ : xSt) : Prop :=
  ∀ (H : Heap) (locs : List Loc) (ls : Array Slot), va_P D vwCl (xW y q σ) H → va_D (fun a => s.heap.size ≤ a) (xW y q σ) → va_S (fun a => s.heap.size ≤ a) s.heap H locs → xL q ls 4 lv → W p l e room_1 s m #[Value.ref b] below meth c H locs 600000 7302250 (lw_Z below #[Value.ref b] s) (F0 m pc ls (st.map (cv q)))
def LC (p : Program) (s : State) (m : MethodId) (meth : Method) (c : Code) (D : va_G) (y : Nat → ClassId) (q : Nat → Nat) (b L : Nat) (xs : Nat → Int32) : Prop := lw_At p s m meth c b L xs ∧ xWx D y q (fun a => s.heap.size ≤ a) s s.heap ∧ q 300 = b
section LROWS
variable {p : Program} {l : Launch} {e : Env} {s : State} {m : MethodId} {below : List Frame} {meth : Method} {c : Code} {D : va_G} {y : Nat → ClassId} {q : Nat → Nat} {b L : Nat} {xs : Nat → Int32} {pc : Nat} {lv : List (Option Value)} {st : List Value} {σ : xSt}
theorem LC.ts (C : LC p s m meth c D y q b L xs) : ∀ w ∈ xtb, w.before #[Value.ref b] s = true := fun w hw => C.1.2.2.2.2.2.1 w (List.mem_filter.mp hw).1
theorem le_iconst (C : LC p s m meth c D y q b L xs) {n : Int} {v : Int32} (hd : decode cL_law pc = .ok (.iconst n, 1)) (hv : Int32.ofInt n = v) (h : LEv p l e s m below meth c D y q b (pc + 1) lv (.int v :: st) σ) : LEv p l e s m below meth c D y q b pc lv st σ := by
  intro H locs ls hP hD hS hL
  exact lv_iconst C.1.1 C.1.2.1 hd hv (h H locs ls hP hD hS hL)
theorem le_bipush (C : LC p s m meth c D y q b L xs) {n : Int} {v : Int32} (hd : decode cL_law pc = .ok (.bipush n, 2)) (hv : (Int8.ofInt n).toInt32 = v) (h : LEv p l e s m below meth c D y q b (pc + 2) lv (.int v :: st) σ) : LEv p l e s m below meth c D y q b pc lv st σ := by
  intro H locs ls hP hD hS hL
  exact lv_bipush C.1.1 C.1.2.1 hd hv (h H locs ls hP hD hS hL)
theorem le_iload_n (C : LC p s m meth c D y q b L xs) {j : Fin 4} {x : Int32} (hd : decode cL_law pc = .ok (.iload_n j, 1)) (hl : lv[(j : Nat)]? = some (some (.int x))) (h : LEv p l e s m below meth c D y q b (pc + 1) lv (.int x :: st) σ) : LEv p l e s m below meth c D y q b pc lv st σ := by
  intro H locs ls hP hD hS hL
  exact lv_iload_n C.1.1 C.1.2.1 hd rfl (hL.2.2 _ _ hl) (h H locs ls hP hD hS hL)
theorem le_aload_n (C : LC p s m meth c D y q b L xs) {j : Fin 4} {x : Nat} (hd : decode cL_law pc = .ok (.aload_n j, 1)) (hl : lv[(j : Nat)]? = some (some (.ref x))) (h : LEv p l e s m below meth c D y q b (pc + 1) lv (.ref x :: st) σ) : LEv p l e s m below meth c D y q b pc lv st σ := by
  intro H locs ls hP hD hS hL
  exact lv_aload_n C.1.1 C.1.2.1 hd rfl (hL.2.2 _ _ hl) (h H locs ls hP hD hS hL)
theorem le_istore_n (C : LC p s m meth c D y q b L xs) {j : Fin 4} {x : Int32} {lv2 : List (Option Value)} (hd : decode cL_law pc = .ok (.istore_n j, 1)) (hn : (j : Nat) < 4) (hl : xs1 lv (j : Nat) (.int x) = lv2) (h : LEv p l e s m below meth c D y q b (pc + 1) lv2 st σ) : LEv p l e s m below meth c D y q b pc lv (.int x :: st) σ := by
  intro H locs ls hP hD hS hL
  subst hl
  exact lv_istore_n C.1.1 C.1.2.1 hd rfl (xL_pairs hL) hn rfl (fun ls2 hl2 => h H locs ls2 hP hD hS (xL_s1 (v := .int x) hl2))
theorem le_iadd (C : LC p s m meth c D y q b L xs) {x z : Int32} (hd : decode cL_law pc = .ok (.iadd, 1)) (h : LEv p l e s m below meth c D y q b (pc + 1) lv (.int (x + z) :: st) σ) : LEv p l e s m below meth c D y q b pc lv (.int z :: .int x :: st) σ := by
  intro H locs ls hP hD hS hL
  exact lv_iadd C.1.1 C.1.2.1 hd (h H locs ls hP hD hS hL)
theorem le_isub (C : LC p s m meth c D y q b L xs) {x z : Int32} (hd : decode cL_law pc = .ok (.isub, 1)) (h : LEv p l e s m below meth c D y q b (pc + 1) lv (.int (x - z) :: st) σ) : LEv p l e s m below meth c D y q b pc lv (.int z :: .int x :: st) σ := by
  intro H locs ls hP hD hS hL
  exact lv_isub C.1.1 C.1.2.1 hd (h H locs ls hP hD hS hL)
theorem le_iand (C : LC p s m meth c D y q b L xs) {x z : Int32} (hd : decode cL_law pc = .ok (.iand, 1)) (h : LEv p l e s m below meth c D y q b (pc + 1) lv (.int (x &&& z) :: st) σ) : LEv p l e s m below meth c D y q b pc lv (.int z :: .int x :: st) σ := by
  intro H locs ls hP hD hS hL
  exact lv_iand C.1.1 C.1.2.1 hd (h H locs ls hP hD hS hL)
theorem le_icmp_gt (C : LC p s m meth c D y q b L xs) {x z : Int32} {off : Int} {tgt : Nat} (hd : decode cL_law pc = .ok (.if_icmp .gt off, 3)) (hg : (pc : Int) + off = (tgt : Int)) (ht : z < x → LEv p l e s m below meth c D y q b tgt lv st σ) (hf : ¬ z < x → LEv p l e s m below meth c D y q b (pc + 3) lv st σ) : LEv p l e s m below meth c D y q b pc lv (.int z :: .int x :: st) σ := by
  intro H locs ls hP hD hS hL
  exact lv_icmp_gt C.1.1 C.1.2.1 hd hg (fun hc => (ht hc) H locs ls hP hD hS hL) (fun hc => (hf hc) H locs ls hP hD hS hL)
theorem le_icmp_eq (C : LC p s m meth c D y q b L xs) {x z : Int32} {off : Int} {tgt : Nat} (hd : decode cL_law pc = .ok (.if_icmp .eq off, 3)) (hg : (pc : Int) + off = (tgt : Int)) (ht : x = z → LEv p l e s m below meth c D y q b tgt lv st σ) (hf : ¬ x = z → LEv p l e s m below meth c D y q b (pc + 3) lv st σ) : LEv p l e s m below meth c D y q b pc lv (.int z :: .int x :: st) σ := by
  intro H locs ls hP hD hS hL
  exact lv_icmp_eq C.1.1 C.1.2.1 hd hg (fun hc => (ht hc) H locs ls hP hD hS hL) (fun hc => (hf hc) H locs ls hP hD hS hL)
theorem le_goto (C : LC p s m meth c D y q b L xs) {off : Int} {tgt : Nat} (hd : decode cL_law pc = .ok (.goto off, 3)) (hg : (pc : Int) + off = (tgt : Int)) (h : LEv p l e s m below meth c D y q b tgt lv st σ) : LEv p l e s m below meth c D y q b pc lv st σ := by
  intro H locs ls hP hD hS hL
  exact lv_goto C.1.1 C.1.2.1 hd hg (h H locs ls hP hD hS hL)
theorem le_iinc (C : LC p s m meth c D y q b L xs) {j : Nat} {n : Int} {x v : Int32} {lv2 : List (Option Value)} (hd : decode cL_law pc = .ok (.iinc j n, 3)) (hn : j < 4) (hg : lv[j]? = some (some (.int x))) (hv : x + Int32.ofInt n = v) (hl : xs1 lv j (.int v) = lv2) (h : LEv p l e s m below meth c D y q b (pc + 3) lv2 st σ) : LEv p l e s m below meth c D y q b pc lv st σ := by
  intro H locs ls hP hD hS hL
  subst hl
  obtain ⟨kk, hkk⟩ := List.getElem?_of_mem (xpairs_mem (q := q) hg)
  exact lv_iinc (k := kk) C.1.1 C.1.2.1 hd (xL_pairs hL) hkk hv hn rfl (fun ls2 hl2 => h H locs ls2 hP hD hS (xL_s1 (v := .int v) hl2))
theorem le_lcmp (C : LC p s m meth c D y q b L xs) {x z : Int64} (hd : decode cL_law pc = .ok (.lcmp, 1)) (h : LEv p l e s m below meth c D y q b (pc + 1) lv (.int (lg_cmp x z) :: st) σ) : LEv p l e s m below meth c D y q b pc lv (.long z :: .long x :: st) σ := by
  intro H locs ls hP hD hS hL
  exact W.lcmp C.1.1 C.1.2.1 hd (h H locs ls hP hD hS hL)
theorem le_if_eq (C : LC p s m meth c D y q b L xs) {x : Int32} {off : Int} {tgt : Nat} (hd : decode cL_law pc = .ok (.ifCond .eq off, 3)) (hg : (pc : Int) + off = (tgt : Int)) (ht : x = 0 → LEv p l e s m below meth c D y q b tgt lv st σ) (hf : ¬ x = 0 → LEv p l e s m below meth c D y q b (pc + 3) lv st σ) : LEv p l e s m below meth c D y q b pc lv (.int x :: st) σ := by
  intro H locs ls hP hD hS hL
  exact lv_if_eq C.1.1 C.1.2.1 hd hg (fun hc => (ht hc) H locs ls hP hD hS hL) (fun hc => (hf hc) H locs ls hP hD hS hL)
theorem le_i2l (C : LC p s m meth c D y q b L xs) {x : Int32} (hd : decode cL_law pc = .ok (.i2l, 1)) (h : LEv p l e s m below meth c D y q b (pc + 1) lv (.long (x.toInt64) :: st) σ) : LEv p l e s m below meth c D y q b pc lv (.int x :: st) σ := by
  intro H locs ls hP hD hS hL
  exact lv_i2l C.1.1 C.1.2.1 hd rfl (h H locs ls hP hD hS hL)
theorem le_lshl (C : LC p s m meth c D y q b L xs) {x : Int64} {z : Int32} (hd : decode cL_law pc = .ok (.lshl, 1)) (h : LEv p l e s m below meth c D y q b (pc + 1) lv (.long (x <<< (z.toInt64 &&& 63)) :: st) σ) : LEv p l e s m below meth c D y q b pc lv (.int z :: .long x :: st) σ := by
  intro H locs ls hP hD hS hL
  exact lv_lshl C.1.1 C.1.2.1 hd rfl (h H locs ls hP hD hS hL)
theorem le_land (C : LC p s m meth c D y q b L xs) {x z : Int64} (hd : decode cL_law pc = .ok (.land, 1)) (h : LEv p l e s m below meth c D y q b (pc + 1) lv (.long (x &&& z) :: st) σ) : LEv p l e s m below meth c D y q b pc lv (.long z :: .long x :: st) σ := by
  intro H locs ls hP hD hS hL
  exact lv_land C.1.1 C.1.2.1 hd (h H locs ls hP hD hS hL)
theorem le_lor (C : LC p s m meth c D y q b L xs) {x z : Int64} (hd : decode cL_law pc = .ok (.lor, 1)) (h : LEv p l e s m below meth c D y q b (pc + 1) lv (.long (x ||| z) :: st) σ) : LEv p l e s m below meth c D y q b pc lv (.long z :: .long x :: st) σ := by
  intro H locs ls hP hD hS hL
  exact lv_lor C.1.1 C.1.2.1 hd (h H locs ls hP hD hS hL)
theorem le_ldc2 (C : LC p s m meth c D y q b L xs) {i : Nat} {v : Int64} (hd : decode cL_law pc = .ok (.ldc2_w i, 3)) (hc : Cond.constantLong RL i v ∈ xtb) (h : LEv p l e s m below meth c D y q b (pc + 3) lv (.long v :: st) σ) : LEv p l e s m below meth c D y q b pc lv st σ := by
  intro H locs ls hP hD hS hL
  exact lv_ldc2 C.1.1 C.1.2.1 C.1.2.2.2.2.1 (C.ts _ hc) hd (h H locs ls hP hD hS hL)
theorem le_tableIn (C : LC p s m meth c D y q b L xs) {dflt lo hi off : Int} {offs : Array Int} {len tgt : Nat} {x : Int32} (hd : decode cL_law pc = .ok (.tableswitch dflt lo hi offs, len)) (h1 : ¬ x.toInt < lo) (h2 : ¬ hi < x.toInt) (ho : offs[(x.toInt - lo).toNat]? = some off) (hg : (pc : Int) + off = (tgt : Int)) (h : LEv p l e s m below meth c D y q b tgt lv st σ) : LEv p l e s m below meth c D y q b pc lv (.int x :: st) σ := by
  intro H locs ls hP hD hS hL
  exact lv_tableIn C.1.1 C.1.2.1 hd h1 h2 ho hg (h H locs ls hP hD hS hL)
theorem le_tableOut (C : LC p s m meth c D y q b L xs) {dflt lo hi : Int} {offs : Array Int} {len tgt : Nat} {x : Int32} (hd : decode cL_law pc = .ok (.tableswitch dflt lo hi offs, len)) (hx : x.toInt < lo ∨ hi < x.toInt) (hg : (pc : Int) + dflt = (tgt : Int)) (h : LEv p l e s m below meth c D y q b tgt lv st σ) : LEv p l e s m below meth c D y q b pc lv (.int x :: st) σ := by
  intro H locs ls hP hD hS hL
  exact lv_tableOut C.1.1 C.1.2.1 hd hx hg (h H locs ls hP hD hS hL)
theorem le_top {x x2 : Int32} (hx : x = x2) (h : LEv p l e s m below meth c D y q b pc lv (.int x2 :: st) σ) : LEv p l e s m below meth c D y q b pc lv (.int x :: st) σ := hx ▸ h
theorem le_sld (C : LC p s m meth c D y q b L xs) (hL : L ≤ 3072) {j : Nat} {x : Int32} (hd : decode cL_law pc = .ok (.iaload, 1)) (hx : x = nI j) (hj : j < L) (h : LEv p l e s m below meth c D y q b (pc + 1) lv (.int (xs j) :: st) σ) : LEv p l e s m below meth c D y q b pc lv (.int x :: .ref 300 :: st) σ := by
  subst hx
  intro H locs ls hP hD hS hl
  have h2 := h H locs ls hP hD hS hl
  show W p l e room_1 s m _ below meth c H locs _ _ _ (F0 m pc ls (.int (nI j) :: .ref (q 300) :: st.map (cv q)))
  rw [C.2.2]
  refine va_sld C.1.1 C.1.2.1 C.1.2.2.2.2.2.2.1 C.1.2.2.2.2.2.2.2.1 (Nat.not_le.mpr C.1.2.2.2.2.2.2.2.1) hS (vp_in_nI hj (by omega)) hd ?_
  rw [nI_clamp (by omega)]
  exact h2
theorem le_slen (C : LC p s m meth c D y q b L xs) (hd : decode cL_law pc = .ok (.arraylength, 1)) (h : LEv p l e s m below meth c D y q b (pc + 1) lv (.int (nI L) :: st) σ) : LEv p l e s m below meth c D y q b pc lv (.ref 300 :: st) σ := by
  intro H locs ls hP hD hS hl
  have h2 := h H locs ls hP hD hS hl
  show W p l e room_1 s m _ below meth c H locs _ _ _ (F0 m pc ls (.ref (q 300) :: st.map (cv q)))
  rw [C.2.2]
  exact va_slen C.1.1 C.1.2.1 C.1.2.2.2.2.2.2.1 C.1.2.2.2.2.2.2.2.1 (Nat.not_le.mpr C.1.2.2.2.2.2.2.2.1) hS hd h2
theorem le_true (C : LC p s m meth c D y q b L xs) (hd : decode cL_law pc = .ok (.ireturn, 1)) : LEv p l e s m below meth c D y q b pc lv [.int 1] σ := by
  intro H locs ls hP hD hS hl
  exact va_forget hS.2.2 (lw_ret C.1.1 C.1.2.1 C.1.2.2.1 C.1.2.2.2.2.2.2.2.2.1 hd)
/-- behind a call -/
theorem l_behind {stk : List Value} {H : Heap} {locs : List Loc} {ls : Array Slot} {a : Array Value} (hD : va_D (fun a => s.heap.size ≤ a) (xW y q σ)) (hS : va_S (fun a => s.heap.size ≤ a) s.heap H locs) (hL : xL q ls 4 lv)
    (hr : va_Run p l e room_1 s m #[Value.ref b] below meth c H locs 600000 7302250 0 0 (F0 m pc ls (stk.map (cv q))) (st.map (cv q)) (xQ D y q (fun r σ' => LEv p l e s m below meth c D y q b (pc + 3) lv (xps r st) σ') (va_A (xW y q σ) H.size) a) (va_A (xW y q σ) H.size)) :
    W p l e room_1 s m #[Value.ref b] below meth c H locs 600000 7302250 (lw_Z below #[Value.ref b] s) (F0 m pc ls (stk.map (cv q))) := by
  intro T hT X
  obtain ⟨v, st₀, t, T', L', h0, X', hL', e1, e2, ⟨⟨r, σ', hv, hpost, hP', hD'⟩, hz, hk⟩, stp⟩ := hr T hT X
  cases hv
  rw [h0] at hz hk
  have hf := x_free hD hS (fun _ z => z)
  obtain ⟨t2, a1, b1⟩ := hpost T'.heap (locs ++ L') ls (by rw [e1]; exact hP') (hD'.weaken (fun _ w _ z => hf w.1 z))
    ⟨Nat.le_trans hS.1 (by rw [e1]; exact hz), fun b h1 h2 => by rw [e1, hk b (Nat.lt_of_lt_of_le h1 hS.1) (fun z => h2 (hf b z))]; exact hS.2.1 b h1 h2, fun b hb => by
      rcases List.mem_append.mp hb with h | h
      · exact hS.2.2 b h
      · exact hf _ (hL' b h)⟩ hL T' rfl X'
  refine ⟨t2, stp t2 ?_, b1⟩
  have e3 : (r.map (cv q)).toList ++ st.map (cv q) = (xps r st).map (cv q) := by cases r <;> simp [xps]
  rw [e3]
  exact a1
theorem le_callv (C : LC p s m meth c D y q b L xs) {k2 : xMD} {n idx b2 : Nat} {stk vs : List Value} (hd : decode cL_law pc = .ok (.invokevirtual idx, 3)) (hk : xOk k2 n) (hl : Cond.methodLink RL idx k2.1 ∈ xtb) (hi : Cond.instanceMethod k2.1 ∈ xtb) (hsel : Cond.selects k2.1.cls k2.1 k2.1 ∈ xtb) (hrec : xRec k2.1.cls b2) (hstk : stk = (Value.ref b2 :: vs).reverse ++ st) (hn : vs.length = n) (hcat : (st.map fun v => v.category).sum ≤ 8) (hlen : (lg_sl (Value.ref b2 :: vs)).length ≤ k2.2.2.1)
    (h : xEv k2 26 0 (xen (Value.ref b2 :: vs) k2.2.2.1) [] σ (fun r σ' => LEv p l e s m below meth c D y q b (pc + 3) lv (xps r st) σ')) : LEv p l e s m below meth c D y q b pc lv stk σ := by
  intro H locs ls hP hD hS hL
  have hp := x_pre C.2.1 (fun _ z => z) hP hD hS ((Value.ref b2 :: vs).map (cv q))
  refine l_behind hD hS hL (va_runV (n := n) (bytes := k2.2.1) (maxL := k2.2.2.1) (ret := k2.2.2.2) (C := k2.1.cls) (b := q b2) (As := vs.map (cv q)) ⟨C.1.1, C.1.2.1, C.1.2.2.2.1, C.1.2.2.2.2.1, C.ts⟩ (h.met hk hlen l D y q H.size) ?_ ⟨hp.1, hrec.use C.2.1 hP hS, hp.2⟩ rfl (by rw [List.length_map]; exact hn) hL.1 ?_ (lv_room (by rw [cv_cats]; exact hcat)) hd ⟨Nat.le_refl _, Nat.le_refl _⟩)
  · refine ⟨callB_of n C.ts (x_goodIn hk) rfl rfl rfl (C.ts _ hk.2.2.1) (C.ts _ hl) hk.2.2.2.1 ⟨Nat.le_of_ble_eq_true rfl, ?_⟩, C.ts _ hi, C.ts _ hsel⟩
    have := hk.2.2.2.2
    show 8 + (k2.2.2.1 + 11) + 64 * 26 ≤ 84000
    omega
  · show stk.map (cv q) = _
    rw [x_stack hstk q]
    simp [cv]
theorem le_tsw (C : LC p s m meth c D y q b L xs) {x : Int32} {dflt lo hi : Int} {offs : Array Int} {len td : Nat} {tgs : List Nat} (hd : decode cL_law pc = .ok (.tableswitch dflt lo hi offs, len)) (hl : offs.toList = tgs.map (fun t : Nat => (t : Int) - (pc : Int))) (hh : hi - lo + 1 = (tgs.length : Int)) (hdf : (pc : Int) + dflt = (td : Int))
    (h1 : ∀ (i t : Nat), tgs[i]? = some t → x.toInt = lo + (i : Int) → LEv p l e s m below meth c D y q b t lv st σ) (h2 : (x.toInt < lo ∨ hi < x.toInt) → LEv p l e s m below meth c D y q b td lv st σ) : LEv p l e s m below meth c D y q b pc lv (.int x :: st) σ := by
  by_cases ho : x.toInt < lo ∨ hi < x.toInt
  · exact le_tableOut C hd ho hdf (h2 ho)
  · have ha : ¬ x.toInt < lo := fun z => ho (Or.inl z)
    have hb : ¬ hi < x.toInt := fun z => ho (Or.inr z)
    have hlt : (x.toInt - lo).toNat < tgs.length := by omega
    have hg : tgs[(x.toInt - lo).toNat]? = some (tgs[(x.toInt - lo).toNat]'hlt) := List.getElem?_eq_getElem hlt
    have ho2 : offs[(x.toInt - lo).toNat]? = some (((tgs[(x.toInt - lo).toNat]'hlt : Nat) : Int) - (pc : Int)) := by
      rw [← Array.getElem?_toList, hl, List.getElem?_map, hg]; rfl
    exact le_tableIn (tgt := tgs[(x.toInt - lo).toNat]'hlt) C hd ha hb ho2 (by omega) (h1 (x.toInt - lo).toNat _ hg (by omega))
end LROWS
