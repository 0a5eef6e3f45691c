/-! THE START: from the law's entry to its loop -/
def LN (p : Program) (l : Launch) (e : Env) (s : State) (m : MethodId) (below : List Frame) (meth : Method) (c : Code) (D : va_G) (b c0 s0 pc : Nat) (lv : List (Option Value)) (st : List Value) (ws : va_W) : Prop :=
  ∀ (H : Heap) (locs : List Loc) (ls : Array Slot), va_P D vwCl ws H → va_D (fun a => s.heap.size ≤ a) ws → va_S (fun a => s.heap.size ≤ a) s.heap H locs → xL id ls 4 lv → W p l e room_1 s m #[Value.ref b] below meth c H locs c0 s0 (lw_Z below #[Value.ref b] s) (F0 m pc ls (st.map (cv id)))
section LNR
variable {p : Program} {l : Launch} {e : Env} {s : State} {m : MethodId} {below : List Frame} {meth : Method} {c : Code} {D : va_G} {y : Nat → ClassId} {b L : Nat} {xs : Nat → Int32} {c0 s0 pc : Nat} {lv : List (Option Value)} {st : List Value} {ws : va_W}
theorem ln_iconst (C0 : lw_At p s m meth c b L xs) {n : Int} {v : Int32} (hd : decode cL_law pc = .ok (.iconst n, 1)) (hv : Int32.ofInt n = v) (h : LN p l e s m below meth c D b c0 s0 (pc + 1) lv (.int v :: st) ws) : LN p l e s m below meth c D b c0 s0 pc lv st ws := by
  intro H locs ls hP hD hS hL
  exact lv_iconst C0.1 C0.2.1 hd hv (h H locs ls hP hD hS hL)
theorem ln_dup (C0 : lw_At p s m meth c b L xs) {v : Nat} (hd : decode cL_law pc = .ok (.dup, 1)) (h : LN p l e s m below meth c D b c0 s0 (pc + 1) lv (.ref v :: .ref v :: st) ws) : LN p l e s m below meth c D b c0 s0 pc lv (.ref v :: st) ws := by
  intro H locs ls hP hD hS hL
  exact lv_dup C0.1 C0.2.1 hd rfl (h H locs ls hP hD hS hL)
theorem ln_istore_n (C0 : lw_At p s m meth c b L xs) {j : Fin 4} {x : Int32} {lv2 : List (Option Value)} (hd : decode cL_law pc = .ok (.istore_n j, 1)) (hn : (j : Nat) < 4) (hl : xs1 lv (j : Nat) (.int x) = lv2) (h : LN p l e s m below meth c D b c0 s0 (pc + 1) lv2 st ws) : LN p l e s m below meth c D b c0 s0 pc lv (.int x :: st) ws := by
  intro H locs ls hP hD hS hL
  subst hl
  exact lv_istore_n C0.1 C0.2.1 hd rfl (xL_pairs hL) hn rfl (fun ls2 hl2 => h H locs ls2 hP hD hS (xL_s1 (v := .int x) hl2))
theorem ln_astore_n (C0 : lw_At p s m meth c b L xs) {j : Fin 4} {x : Nat} {lv2 : List (Option Value)} (hd : decode cL_law pc = .ok (.astore_n j, 1)) (hn : (j : Nat) < 4) (hl : xs1 lv (j : Nat) (.ref x) = lv2) (h : LN p l e s m below meth c D b c0 s0 (pc + 1) lv2 st ws) : LN p l e s m below meth c D b c0 s0 pc lv (.ref x :: st) ws := by
  intro H locs ls hP hD hS hL
  subst hl
  exact lv_astore_n C0.1 C0.2.1 hd rfl (xL_pairs hL) hn rfl (fun ls2 hl2 => h H locs ls2 hP hD hS (xL_s1 (v := .ref x) hl2))
theorem ln_new (C0 : lw_At p s m meth c b L xs) (hX : nX D y s) {idx ci N : Nat} {C : String} {T : u_T} {fs : List Value} (ty : Nat → FieldType) (hd : decode cL_law pc = .ok (.new idx, 3)) (hr : vwCl[ci]? = some (C, T, N)) (hin : ∀ w ∈ u_ws C T N, w ∈ xtb) (hty : ∀ k, k < N → parseFieldDescriptor (T k).2.2.1 = some (ty k)) (hcl : Cond.classLink RL idx C ∈ xtb) (hinst : Cond.instantiable C N ∈ xtb) (hini : Cond.initialized C ∈ xtb) (hfs : ∀ j, j < N → defaultValue (ty j) = vp_V fs j) (hcc : c0 + 1 ≤ 600000) (hss : s0 + N ≤ 7302250)
    (h : ∀ a : Nat, LN p l e s m below meth c D b (c0 + 1) (s0 + N) (pc + 3) lv (.ref a :: st) (ws ++ [(a, .inr (ci, fs))])) : LN p l e s m below meth c D b c0 s0 pc lv st ws := by
  intro H locs ls hP hD hS hL
  exact va_new (C := C) (T := T) (N := N) C0.1 C0.2.1 (fun w hw => st_w C0 hw) hin ty hty C0.2.2.2.2.1 (st_w C0 hcl) (st_w C0 hinst) (st_w C0 hini) hX.1 hP hD hS (fun _ z => z) hr hfs hcc hss hd (fun a H1 hP1 hD1 hS1 => h a H1 locs ls hP1 hD1 hS1 hL)
theorem ln_behind {H : Heap} {locs : List Loc} {ls : Array Slot} {a : Array Value} {wr : va_W} {x : Nat × va_E} {stk : List Value} {MC2 MS2 : Nat}
    (hP : va_P D vwCl (wr ++ [x]) H) (hD : va_D (fun a => s.heap.size ≤ a) (wr ++ [x])) (hS : va_S (fun a => s.heap.size ≤ a) s.heap H locs) (hL : xL id ls 4 lv)
    (hr : va_Run p l e room_1 s m #[Value.ref b] below meth c H locs c0 s0 MC2 MS2 (F0 m pc ls (stk.map (cv id))) (st.map (cv id)) (nQ D (fun w1 => LN p l e s m below meth c D b (c0 + MC2) (s0 + MS2) (pc + 3) lv st (wr ++ w1)) (va_A [x] H.size) a) (va_A [x] H.size)) :
    W p l e room_1 s m #[Value.ref b] below meth c H locs c0 s0 (lw_Z below #[Value.ref b] s) (F0 m pc ls (stk.map (cv id))) := by
  intro T hT X
  obtain ⟨v, st₀, t, T', L, h0, X', hL', e1, e2, ⟨⟨w1, hv, hpost, hP', hD'⟩, hz, hk⟩, stp⟩ := hr T hT X
  cases hv
  rw [h0] at hz hk
  have hC1 : [wr.length].map (fun i => (wr ++ [x])[i]?) = [x].map some := by simp
  have hR1 : (List.range' 0 wr.length).map (fun i => (wr ++ [x])[i]?) = wr.map some := by
    apply List.ext_getElem?
    intro i
    rw [List.getElem?_map, List.getElem?_map]
    by_cases hi : i < wr.length
    · rw [List.getElem?_range' hi, List.getElem?_eq_getElem hi]
      simp [List.getElem?_append_left hi]
    · rw [List.getElem?_eq_none (by simp; omega), List.getElem?_eq_none (by omega)]; rfl
  have hF : ∀ q, va_A [x] H.size q → s.heap.size ≤ q := va_free hD hS (fun _ z => z) [wr.length] hC1
  obtain ⟨P2, D2⟩ := va_join hP hD [wr.length] (List.range' 0 wr.length) hC1 hR1 (va_nd_range _ _) (fun i hi => by have := List.mem_range'_1.mp hi; simp; omega) (fun q h1 h2 => hk q h1 h2) hF hP' hD'
  obtain ⟨t2, a1, b1⟩ := hpost T'.heap (locs ++ L) ls (by rw [e1]; exact P2) D2
    ⟨Nat.le_trans hS.1 (by rw [e1]; exact hz), fun b h1 h2 => by rw [e1, hk b (Nat.lt_of_lt_of_le h1 hS.1) (fun z => h2 (hF b z))]; exact hS.2.1 b h1 h2, fun b hb => by
      rcases List.mem_append.mp hb with h | h
      · exact hS.2.2 b h
      · exact hF _ (hL' b h)⟩ hL T' rfl X'
  exact ⟨t2, stp t2 a1, b1⟩
theorem ln_call (C0 : lw_At p s m meth c b L xs) (hX : nX D y s) {k2 : xMD} {idx b2 MC2 MS2 : Nat} {e0 : va_E} {wr : va_W} (hd : decode cL_law pc = .ok (.invokespecial idx, 3)) (hk : xOk k2 0) (hnm : k2.1.name = "<init>") (hret : k2.2.2.2 = none) (hl : Cond.methodLink RL idx k2.1 ∈ xtb) (hi : Cond.instanceMethod k2.1 ∈ xtb) (hcat : (st.map fun v => v.category).sum ≤ 8) (hlen : (lg_sl [Value.ref b2]).length ≤ k2.2.2.1) (hcc : c0 + MC2 ≤ 600000) (hss : s0 + MS2 ≤ 7302250)
    (h : nEv k2 3 MC2 MS2 y 0 0 0 (xen [Value.ref b2] k2.2.2.1) [] [(b2, e0)] (fun w1 => LN p l e s m below meth c D b (c0 + MC2) (s0 + MS2) (pc + 3) lv st (wr ++ w1))) : LN p l e s m below meth c D b c0 s0 pc lv (.ref b2 :: st) (wr ++ [(b2, e0)]) := by
  intro H locs ls hP hD hS hL
  have hp := n_pre (locs := locs) hX hP hD ([Value.ref b2].map (cv id))
  refine ln_behind hP hD hS hL (va_runI (n := 0) (bytes := k2.2.1) (maxL := k2.2.2.1) (b := b2) (As := []) ⟨C0.1, C0.2.1, C0.2.2.2.1, C0.2.2.2.2.1, fun w hw => st_w C0 hw⟩ (h.met hk hnm hlen l D H.size) ⟨?_, hnm, st_w C0 hi⟩ hp rfl rfl hL.1 rfl (lv_room (by rw [cv_cats]; exact hcat)) hd ⟨hcc, hss⟩)
  refine callB_of (ws' := xtb) 0 (fun w hw => st_w C0 hw) (x_goodIn hk) ?_ rfl rfl (st_w C0 hk.2.2.1) (st_w C0 hl) hk.2.2.2.1 ⟨Nat.le_of_ble_eq_true rfl, ?_⟩
  · unfold xws; rw [hret]
  · have := hk.2.2.2.2
    show 8 + (k2.2.2.1 + 11) + 64 * 3 ≤ 84000
    omega
end LNR
def stq (Q2 g1 g2 g3 h k t f : Nat → Nat) (j0 m0 ca ta c : Nat) : Nat := bif Nat.ble 200 c then Q2 c else bif Nat.ble 116 c then f (c - 116) else bif Nat.ble 115 c then m0 else bif Nat.ble 103 c then t (c - 103) else bif Nat.ble 102 c then ta else bif Nat.ble 96 c then h (c - 92) else bif Nat.ble 84 c then k (c - 84) else bif Nat.ble 83 c then ca else bif Nat.ble 79 c then h (c - 79) else bif Nat.ble 53 c then g3 (c - 53) else bif Nat.ble 27 c then g2 (c - 27) else bif Nat.ble 1 c then g1 (c - 1) else j0
theorem s0_W (y : Nat → ClassId) (q : Nat → Nat) : xW y q s0 = jamW y (q 0) (fun c => q (1 + c)) (fun c => q (27 + c)) (fun c => q (53 + c)) (hmap q) (fun c => q (84 + c)) (fun c => q (103 + c)) (q 83) (q 102) ++ (modH (q 115) (fun c => q (116 + c)) :: modL y (fun c => q (116 + c))) := by
  rw [xWk_all]
  have e : xWk y q s0 0 138 = xWk y q s0 0 1 ++ (xWk y q s0 1 26 ++ (xWk y q s0 27 26 ++ (xWk y q s0 53 26 ++ (xWk y q s0 79 4 ++ (xWk y q s0 83 1 ++ (xWk y q s0 84 12 ++ (xWk y q s0 96 6 ++ (xWk y q s0 102 1 ++ (xWk y q s0 103 12 ++ xWk y q s0 115 23))))))))) := by
    rw [← xWk_add y q s0 103 12 23, ← xWk_add y q s0 102 1 35, ← xWk_add y q s0 96 6 36, ← xWk_add y q s0 84 12 42, ← xWk_add y q s0 83 1 54, ← xWk_add y q s0 79 4 55, ← xWk_add y q s0 53 26 59, ← xWk_add y q s0 27 26 85, ← xWk_add y q s0 1 26 111, ← xWk_add y q s0 0 1 137]
  obtain ⟨a1, a2, a3⟩ := s0_st y q
  obtain ⟨b1, b2, b3, b4, b5, b6, b7⟩ := s0_a y q
  rw [e, a1, a2, a3, b1, b2, b3, b4, b5, b6, b7, s0_mod]
  unfold jamW jamX
  simp only [List.append_assoc, List.cons_append, List.nil_append]
theorem stq_W (y : Nat → ClassId) (Q2 g1 g2 g3 h k t f : Nat → Nat) (j0 m0 ca ta : Nat) : xW y (stq Q2 g1 g2 g3 h k t f j0 m0 ca ta) s0 = jamW y j0 g1 g2 g3 h k t ca ta ++ (modH m0 f :: modL y f) := by
  rw [s0_W]
  rfl
theorem whole_start {p : Program} {e : Env} {s : State} {m : MethodId} {below : List Frame} {meth : Method} {c : Code} (l : Launch) (hflags : l.flags = flags0) {b L : Nat} {xs : Nat → Int32} (hL : L ≤ 3072) (C0 : lw_At p s m meth c b L xs) : W p l e room_1 s m #[Value.ref b] below meth c s.heap [] 0 0 (lw_Z below #[Value.ref b] s) (entryFrame m ([Value.ref b] : List Value).toArray 4) := by
  obtain ⟨D, y, Q2, hX, hQ⟩ := st_all C0
  have hl := xL_entry id [Value.ref b] 4 (Nat.le_of_ble_eq_true rfl)
  rw [lg_entry_eq]
  suffices hh : LN p l e s m below meth c D b 0 0 0 [some (.ref b), none, none, none] [] [] from hh s.heap [] _ (fun k q h => by simp at h) ⟨fun i j p q h => by simp at h, fun k q h => by simp at h⟩ va_S.rf hl
  refine ln_new C0 hX (ci := 8) (fs := [.null, .null, .null, .null, .int 0, .null, .null, .null, .int 0, .null, .null, .null, .null]) tyX8 dL_law_0 rfl inxX8 tyX8_ok (xT1 20 rfl rfl) (xT1 21 rfl rfl) iniX8 (by intro j hj; match j, hj with | 0, _ => rfl | 1, _ => rfl | 2, _ => rfl | 3, _ => rfl | 4, _ => rfl | 5, _ => rfl | 6, _ => rfl | 7, _ => rfl | 8, _ => rfl | 9, _ => rfl | 10, _ => rfl | 11, _ => rfl | 12, _ => rfl) (Nat.le_of_ble_eq_true rfl) (Nat.le_of_ble_eq_true rfl) (fun j0 => ?_)
  refine ln_dup C0 dL_law_3 ?_
  refine ln_call C0 hX (k2 := kX8_init) (b2 := j0) (wr := []) dL_law_4 okX8_init rfl rfl mlL_9 imX8_init (Nat.le_of_ble_eq_true rfl) (Nat.le_of_ble_eq_true rfl) (Nat.le_of_ble_eq_true rfl) (Nat.le_of_ble_eq_true rfl) (c_X8 (by omega) (fun g1 g2 g3 h k t ca ta => ?_))
  refine ln_astore_n (lv2 := [some (.ref b), some (.ref j0), none, none]) C0 dL_law_7 (by decide) rfl ?_
  refine ln_new C0 hX (ci := 9) (fs := [.null, .null, .null, .int 0, .null, .int 0, .null, .null, .int 0, .null, .int 0, .int 0, .int 0, .int 0, .int 0, .int 0, .null, .null, .null, .null, .null, .null, .null, .null, .null, .null, .null, .int 0, .null, .null, .null, .null]) tyX9 dL_law_8 rfl inxX9 tyX9_ok (xT4 100 rfl rfl) (xT4 101 rfl rfl) iniX9 (by intro j hj; match j, hj with | 0, _ => rfl | 1, _ => rfl | 2, _ => rfl | 3, _ => rfl | 4, _ => rfl | 5, _ => rfl | 6, _ => rfl | 7, _ => rfl | 8, _ => rfl | 9, _ => rfl | 10, _ => rfl | 11, _ => rfl | 12, _ => rfl | 13, _ => rfl | 14, _ => rfl | 15, _ => rfl | 16, _ => rfl | 17, _ => rfl | 18, _ => rfl | 19, _ => rfl | 20, _ => rfl | 21, _ => rfl | 22, _ => rfl | 23, _ => rfl | 24, _ => rfl | 25, _ => rfl | 26, _ => rfl | 27, _ => rfl | 28, _ => rfl | 29, _ => rfl | 30, _ => rfl | 31, _ => rfl | j + 32, h => exact absurd h (by omega)) (Nat.le_of_ble_eq_true rfl) (Nat.le_of_ble_eq_true rfl) (fun m0 => ?_)
  refine ln_dup C0 dL_law_11 ?_
  refine ln_call C0 hX (k2 := kX9_init) (b2 := m0) (wr := jamW y j0 g1 g2 g3 h k t ca ta) dL_law_12 okX9_init rfl rfl mlL_12 imX9_init (Nat.le_of_ble_eq_true rfl) (Nat.le_of_ble_eq_true rfl) (Nat.le_of_ble_eq_true rfl) (Nat.le_of_ble_eq_true rfl) (c_X9 (by omega) (fun f => ?_))
  refine ln_astore_n (lv2 := [some (.ref b), some (.ref j0), some (.ref m0), none]) C0 dL_law_15 (by decide) rfl ?_
  refine ln_iconst (v := nI 0) C0 dL_law_16 rfl ?_
  refine ln_istore_n (lv2 := [some (.ref b), some (.ref j0), some (.ref m0), some (.int (nI 0))]) C0 dL_law_17 (by decide) rfl ?_
  have eW := stq_W y Q2 g1 g2 g3 h k t f j0 m0 ca ta
  have hq : ∀ c, 200 ≤ c → stq Q2 g1 g2 g3 h k t f j0 m0 ca ta c = Q2 c := fun c hc => by
    unfold stq
    rw [Nat.ble_eq_true_of_le hc]
    rfl
  obtain ⟨hW, h300⟩ := hQ _ hq
  intro H locs ls hP hD hS hLv
  rw [← eW] at hP hD
  refine W.widen (k := 600000) (n := 7302250) (Nat.le_of_ble_eq_true rfl) (Nat.le_of_ble_eq_true rfl) ?_
  refine law_loop ⟨C0, hW, h300⟩ hL (L + 1) 0 s0 s0_inv (Nat.zero_le L) (by omega) H locs ls hP hD hS ⟨hLv.1, hLv.2.1, fun i v hv => ?_⟩
  match i, hv with
  | 0, hv => cases hv; have := hLv.2.2 0 (.ref b) rfl; show _ = _; rw [show cv (stq Q2 g1 g2 g3 h k t f j0 m0 ca ta) (.ref 300) = .ref b from congrArg Value.ref h300]; exact this
  | 1, hv => cases hv; exact hLv.2.2 1 (.ref j0) rfl
  | 2, hv => cases hv; exact hLv.2.2 2 (.ref m0) rfl
  | 3, hv => cases hv; exact hLv.2.2 3 (.int (nI 0)) rfl
  | i + 4, hv => simp at hv
set_option maxHeartbeats 4000000 in
theorem lw_walk (l : Launch) (hflags : l.flags = flags0) (b : Addr) (xs : List Int32) : MetFree l x (headSpec (Jvm.Cond.code x code maxLocals ret :: tables_1) room_1) (lw_P b xs) (fun _ _ _ _ _ => True) lw_Q := by
  refine MetFree.of_bodyS (code := code) (maxLocals := maxLocals) (ret := ret) (by decide) ?_ ?_
  · intro args s m h hn
    obtain ⟨meth, c, h1, h2, h3, h4, h5, h6, -, -⟩ := Cond.code_spec hn (atoms_spec (ws := Jvm.Cond.code x code maxLocals ret :: tables_1) h _ List.mem_cons_self)
    exact ⟨meth, c, h1, h2, h3, h4, h5, h6⟩
  · intro p e s m args below meth c s₁ B hml0 hP _
    obtain ⟨rfl, hx, hbd, hgv⟩ := hP
    obtain ⟨scr, harrAt, hlist, hof, hsmall⟩ := hx
    obtain ⟨hcb, hkn, -, -⟩ := State.arrayAt?_spec harrAt
    have hown : s.vm.findClass R_law = some m.cls := findClass_of_methodNamed B.named
    have hts0 : ∀ c ∈ (Jvm.Cond.code x code maxLocals ret :: tables_1), c.before #[Value.ref b] s = true := atoms_spec (ws := Jvm.Cond.code x code maxLocals ret :: tables_1) B.pre
    have hts : ∀ w ∈ lw_tbl, w.before #[Value.ref b] s = true := k2_hts_sels lw_privs (fun w hw => hts0 w (List.mem_cons_of_mem _ hw)) lw_privs_ok
    have hml : c.maxLocals = 4 := B.maxLocals_eq (hts0 _ List.mem_cons_self)
    have X₀ : Stand p l e room_1 s m #[Value.ref b] below meth c s₁ [] 0 0 := Stand.of_body B
    have hh0 : s₁.heap = s.heap := by rw [B.state]; rfl
    have hsz : scr.slots.size = xs.length := by rw [← Array.length_toList, hlist, List.length_map]
    have hval : ∀ j : Nat, j < xs.length → scr.slots[j]? = some (.int (xs.getD j 0)) := fun j hj => by
      rw [← Array.getElem?_toList, hlist]
      simp [hj]
    have hbl : b < s.heap.size := (Array.getElem?_eq_some_iff.mp hcb).1
    have hX : va_X b xs.length (fun j => xs.getD j 0) s s.heap := ⟨scr, hcb, hof, hkn, hsz, hval⟩
    have K : W p l e room_1 s m #[Value.ref b] below meth c s₁.heap [] 0 0 (lw_Z below #[Value.ref b] s) (entryFrame m ([Value.ref b] : List Value).toArray 4) := by
      rw [hh0]
      exact whole_start l hflags hbd ⟨B.exec, B.bytes, B.returns, hml, hown, hts, hX, hbl, B.notSynchronized, hgv⟩
    obtain ⟨t, a1, o, b1, b2, b3⟩ := K s₁ rfl X₀
    exact ⟨t, o, a1, b1, b2, b3⟩
theorem lw_pre_spec {args : Array Value} {s : State} (h : (Jvm.Cond.and given_1 narrow_1).before args s = true) (hr : rest_1_c.before args s = true) : ∃ (b : Addr) (xs : List Int32), lw_P b xs args s := by
  have hs := flat_of_before _ h
  have hq := flat_of_before _ hr
  have hc : (Cond.count 1).before args s = true := hs _ (by decide +kernel)
  have harr : (Cond.arrayOf (.arg 0) .int).before args s = true := hs _ (by decide +kernel)
  have hle : (Cond.le (.length (.arg 0)) (.int 3072)).before args s = true := hs _ (by decide +kernel)
  have hlen : (Cond.isInt (.length (.arg 0))).before args s = true := hq _ (by decide +kernel)
  have hall : (Cond.all (.arg 0) (.isInt (.elem (.arg 0) (.index 0)))).before args s = true := hq _ (by decide +kernel)
  obtain ⟨b, xs, hb, hx⟩ := State.ints_of_pre rfl harr hlen hall
  have hsm : xs.length < 2 ^ 31 := hx.choose_spec.2.2.2
  have hev : (Term.length (.arg 0)).eval args s none [] s = some (.int xs.length.toInt32) := hx.length_eval hb
  have hv := Cond.le_ints hev (show (Term.int 3072).eval args s none [] s = some (.int 3072) from rfl)
  have hd : xs.length.toInt32 ≤ 3072 := by
    simpa [Cond.before, Cond.holds, hv] using hle
  have hN : xs.length ≤ 3072 := (Int32.ofNat_le_ofNat hsm (by decide)).mp (show Int32.ofNat xs.length ≤ Int32.ofNat 3072 from hd)
  exact ⟨b, xs, Cond.one_arg hc (show args[0]? = some (.ref b) from hb), hx, hN, h⟩
theorem lw_comes (l : Launch) (hflags : l.flags = flags0) : Comes l x (Jvm.Cond.code x code maxLocals ret :: tables_1) room_1 (fun tb e args s => Calls_1 tb e args s ∧ rest_1 tb e args s ∧ Pre_1 tb e args s)
    (fun _ _ args s o t => lw_Q args s o t) := by
  intro p e ha hc hk s m args below hf hfit hheap happ hpre
  obtain ⟨b, xs, hP⟩ := lw_pre_spec hpre.2.2 hpre.2.1
  obtain ⟨k, o, h1, h2, h3, hQ⟩ := lw_walk l hflags b xs p e ha hc hk s m args below hf ((Spec.applies_iff_loose hf).mp happ).1 hP trivial
  exact ⟨k, o, h1, h2, h3, hQ⟩
theorem lw_frame {s t : State} {o : Outcome} {args : Array Value} (h : Framed s o t [] 600000 7302250) :
    Framed s o t (fieldLocs frame_1_writes args s ++ arrayLocs frame_1_arrays args s ++ staticLocs frame_1_statics s) 600000 7302250 := h
theorem lw_limb (L : Cond) (hL : ∀ (args : Array Value) (s t : State), L.after args s (.returned (some (.int 1))) t = true) :
    ArmFor flags0 classFile x code maxLocals ret World_1 tables_1 room_1 Calls_1 rest_1 Pre_1
      (fun tb e a s o t => postC L tb e a s o t ∧ Framed s o t (fieldLocs frame_1_writes a s ++ arrayLocs frame_1_arrays a s ++ staticLocs frame_1_statics s) 600000 7302250) := by
  intro l hflags _ _ p e ha hc hk s m args below hf hfit hheap happ hpre
  obtain ⟨k, o, h1, h2, h3, rfl, hF⟩ := lw_comes l hflags p e ha hc hk s m args below hf hfit hheap happ hpre
  exact ⟨k, _, h1, h2, h3, hL args s _, lw_frame hF⟩
theorem i_vc : Claimed_1_1 ∧ Claimed_1_2 := ⟨lw_limb limb_1_1 (fun args s t => by simp [limb_1_1, Cond.after, Cond.holds, Cond.value]), lw_limb limb_1_2 (fun args s t => Cond.after_iff.mpr (by
  first | (rw [show limb_1_2 = Cond.eq .result (.int 1) from rfl, Cond.eq_ints (x := 1) (y := 1) rfl rfl]; simp; done) | (simp [limb_1_2, Cond.value, Term.eval]; done)))⟩
