/-! what the constructors make -/
def potW (y : Nat → ClassId) (b a : Nat) : va_W := [(b, .inr (3, [.int 0, .int 0, .int 0, .int 0, .int 0, .int 0, .ref a])), (a, .inl (y 0, 4, .inl (fun _ => 0)))]
def rowW (y : Nat → ClassId) (n b a1 a2 a3 : Nat) : va_W := [(b, .inr (4, [.ref a1, .ref a2, .ref a3, .int 0])), (a1, .inl (y 0, n, .inl (fun _ => 0))), (a2, .inl (y 0, n, .inl (fun _ => 0))), (a3, .inl (y 0, n, .inl (fun _ => 0)))]
def texW (y : Nat → ClassId) (b a : Nat) : va_W := [(b, .inr (7, [.ref a, .int 0, .int 0, .int 0])), (a, .inl (y 1, 100, .inl (fun _ => 0)))]
def celW (y : Nat → ClassId) (b a : Nat) : va_W := [(b, .inr (1, [.ref a, .int 0, .int 5])), (a, .inl (y 0, 100, .inl (fun _ => 0)))]
def fitW (b : Nat) : va_W := [(b, .inr (2, [.int 0, .int 0, .int 0]))]
def actW (y : Nat → ClassId) (b a : Nat) : va_W := [(b, .inr (0, [.ref a, .int 0])), (a, .inl (y 0, 20, .inl (fun _ => 0)))]
def tapW (y : Nat → ClassId) (b a : Nat) : va_W := [(b, .inr (6, [.ref a, .int (-1), .int 0])), (a, .inl (y 3, 60, .inr (.inl (fun _ => 0))))]
def stW (y : Nat → ClassId) (f : Nat → Nat) : va_W := [(f 0, .inr (5, [.int 0, .int 0, .int (-1), .ref (f 1), .int 0, .ref (f 14), .ref (f 18), .ref (f 22)])), (f 1, .inl (y 6, 6, .inr (.inr (.inr (.inr (fun i => [f 2, f 4, f 6, f 8, f 10, f 12][i]?))))))] ++ potW y (f 2) (f 3) ++ potW y (f 4) (f 5) ++ potW y (f 6) (f 7) ++ potW y (f 8) (f 9) ++ potW y (f 10) (f 11) ++ potW y (f 12) (f 13) ++ rowW y 6 (f 14) (f 15) (f 16) (f 17) ++ rowW y 10 (f 18) (f 19) (f 20) (f 21) ++ rowW y 8 (f 22) (f 23) (f 24) (f 25)
theorem n_mem {D : va_G} {w w2 : va_W} {H : Heap} (h : va_P D vwCl w H) (hm : ∀ x, x ∈ w2 → x ∈ w) : va_P D vwCl w2 H := by
  intro i q hq
  obtain ⟨j, hj⟩ := List.getElem?_of_mem (hm q (List.mem_of_getElem? hq))
  exact h j q hj
theorem n_pw {A : Nat → Prop} {w : va_W} : va_D A w ↔ (w.Pairwise (fun p q => p.1 ≠ q.1) ∧ ∀ x, x ∈ w → A x.1) := by
  constructor
  · intro h
    refine ⟨List.pairwise_iff_getElem.mpr (fun i j hi hj hij e => ?_), fun x hx => ?_⟩
    · have := h.1 i j _ _ (List.getElem?_eq_getElem hi) (List.getElem?_eq_getElem hj) e
      omega
    · obtain ⟨j, hj⟩ := List.getElem?_of_mem hx
      exact h.2 j x hj
  · rintro ⟨h1, h2⟩
    refine ⟨fun i j p q hp hq e => ?_, fun k q hq => h2 q (List.mem_of_getElem? hq)⟩
    obtain ⟨hi, rfl⟩ := List.getElem?_eq_some_iff.mp hp
    obtain ⟨hj, rfl⟩ := List.getElem?_eq_some_iff.mp hq
    rw [List.pairwise_iff_getElem] at h1
    rcases Nat.lt_trichotomy i j with z | z | z
    · exact absurd e (h1 i j hi hj z)
    · exact z
    · exact absurd e.symm (h1 j i hj hi z)
theorem n_perm {A : Nat → Prop} {w w2 : va_W} (h : va_D A w) (hp : w.Perm w2) : va_D A w2 := by
  rw [n_pw] at h ⊢
  exact ⟨(hp.pairwise_iff (fun z => Ne.symm z)).mp h.1, fun x hx => h.2 x (hp.mem_iff.mpr hx)⟩
section NPERM
variable {k : xMD} {d MC MS : Nat} {y : Nat → ClassId} {c0 s0 pc : Nat} {lv : List (Option Value)} {st : List Value} {ws : va_W} {Post : va_W → Prop}
theorem ne_perm {w2 : va_W} (hp : ws.Perm w2) (h : nEv k d MC MS y c0 s0 pc lv st w2 Post) : nEv k d MC MS y c0 s0 pc lv st ws Post := by
  intro p l e s m args below meth c D A H locs ls hC hI hX hA hP hD hS hL
  exact h p l e s m args below meth c D A H locs ls hC hI hX hA (n_mem hP (fun x hx => hp.mem_iff.mpr hx)) (n_perm hD hp) hS hL
theorem ne_front0 {h0 x : Nat × va_E} {S : va_W} (h : nEv k d MC MS y c0 s0 pc lv st (h0 :: x :: S) Post) : nEv k d MC MS y c0 s0 pc lv st ((h0 :: S) ++ [x]) Post :=
  ne_perm (List.Perm.cons h0 (List.perm_append_singleton x S)) h
theorem ne_front1 {h0 h1 x : Nat × va_E} {S : va_W} (h : nEv k d MC MS y c0 s0 pc lv st (h0 :: x :: h1 :: S) Post) : nEv k d MC MS y c0 s0 pc lv st ((h0 :: h1 :: S) ++ [x]) Post :=
  ne_perm (List.Perm.cons h0 (List.perm_append_singleton x (h1 :: S))) h
theorem ne_retP {w2 : va_W} (hd : decode k.2.1 pc = .ok (.return_, 1)) (hr : k.2.2.2 = none) (hs : ws.Perm w2) (hcc : c0 ≤ MC) (hss : s0 ≤ MS) (hp : Post w2) : nEv k d MC MS y c0 s0 pc lv [] ws Post := by
  intro p l e s m args below meth c D A H locs ls hC hI hX hA hP hD hS hL
  refine W.widen hcc hss ?_
  exact W.vret hC.1 hC.2.1 (hC.2.2.1.trans hr) (fun t ht hW => ⟨⟨w2, rfl, hp, by rw [ht]; exact n_mem hP (fun x hx => hs.mem_iff.mpr hx), n_perm hD hs⟩, hS.F ht⟩) hS.2.2 hd hC.2.2.2.2.2.2
theorem ne_astm {a v q0 t ci n j : Nat} {r : vw_C} {vs : List Value} {L : List Nat} {ws2 : va_W} (hd : decode k.2.1 pc = .ok (.aastore, 1)) (ha : ws[q0]? = some (a, .inl (y t, n, .inr (.inr (.inr (.inr (fun i => L[i]?))))))) (ht : (xty y)[t]? = some (y t, .object r.1)) (hv : ((v, .inr (ci, vs)) : Nat × va_E) ∈ ws) (hr : vwCl[ci]? = some r) (hL2 : j = L.length) (hj : j < n) (hn : n < 1000) (hw : ws.set q0 (a, .inl (y t, n, .inr (.inr (.inr (.inr (fun i => (L ++ [v])[i]?)))))) = ws2) (h : nEv k d MC MS y c0 s0 (pc + 1) lv st ws2 Post) : nEv k d MC MS y c0 s0 pc lv (.ref v :: .int (nI j) :: .ref a :: st) ws Post := by
  obtain ⟨qk, hq⟩ := List.getElem?_of_mem hv
  exact ne_astq hd ha ht hq hr hL2 hj hn hw h
end NPERM
section NCON
variable {y : Nat → ClassId} {b d : Nat} {Post : va_W → Prop}
theorem c_X3  (hd : 1 ≤ d) (h : ∀ a, Post (potW y b a)) : nEv kX3_init d 1 4 y 0 0 0 (xen [.ref b] 1) [] [(b, .inr (3, [.int 0, .int 0, .int 0, .int 0, .int 0, .int 0, .null]))] Post := by
  show nEv kX3_init d 1 4 y 0 0 0 [some (.ref b)] [] _ _
  refine ne_aload_n dX3_init_0 rfl ?_
  refine ne_init dX3_init_1 mlX3_3 (by omega) rfl ?_
  refine ne_aload_n dX3_init_4 rfl ?_
  refine ne_iconst (v := 4) dX3_init_5 rfl ?_
  refine ne_newa_int (n := 4) dX3_init_6 (by decide) (Nat.le_of_ble_eq_true rfl) (Nat.le_of_ble_eq_true rfl) (fun a1 => ?_)
  refine ne_putR (q0 := 0) dX3_init_8 flX3_9 (fun r z => by cases z; rfl) rfl (by simp) rfl rfl rfl ?_
  exact ne_ret [0, 1] (w2 := potW y b a1) dX3_init_11 rfl rfl rfl (Nat.le_of_ble_eq_true rfl) (Nat.le_of_ble_eq_true rfl) (h _)
theorem c_X4 {n : Nat} (hn : n < 1000) (hd : 1 ≤ d) (h : ∀ a1 a2 a3, Post (rowW y n b a1 a2 a3)) : nEv kX4_init d 3 (3 * n) y 0 0 0 (xen [.ref b, .int (nI n)] 2) [] [(b, .inr (4, [.null, .null, .null, .int 0]))] Post := by
  show nEv kX4_init d 3 (3 * n) y 0 0 0 [some (.ref b), some (.int (nI n))] [] _ _
  refine ne_aload_n dX4_init_0 rfl ?_
  refine ne_init dX4_init_1 mlX4_3 (by omega) rfl ?_
  refine ne_aload_n dX4_init_4 rfl ?_
  refine ne_iconst (v := 0) dX4_init_5 rfl ?_
  refine ne_putI (q0 := 0) dX4_init_6 flX4_9 (fun r z => by cases z; rfl) rfl (by simp) rfl rfl rfl ?_
  refine ne_aload_n dX4_init_9 rfl ?_
  refine ne_iload_n dX4_init_10 rfl ?_
  refine ne_newa_int (n := n) dX4_init_11 (by omega) (by omega) (by omega) (fun a1 => ?_)
  refine ne_putR (q0 := 0) dX4_init_13 flX4_15 (fun r z => by cases z; rfl) rfl (by simp) rfl rfl rfl ?_
  refine ne_aload_n dX4_init_16 rfl ?_
  refine ne_iload_n dX4_init_17 rfl ?_
  refine ne_newa_int (n := n) dX4_init_18 (by omega) (by omega) (by omega) (fun a2 => ?_)
  refine ne_putR (q0 := 0) dX4_init_20 flX4_19 (fun r z => by cases z; rfl) rfl (by simp) rfl rfl rfl ?_
  refine ne_aload_n dX4_init_23 rfl ?_
  refine ne_iload_n dX4_init_24 rfl ?_
  refine ne_newa_int (n := n) dX4_init_25 (by omega) (by omega) (by omega) (fun a3 => ?_)
  refine ne_putR (q0 := 0) dX4_init_27 flX4_22 (fun r z => by cases z; rfl) rfl (by simp) rfl rfl rfl ?_
  exact ne_ret [0, 1, 2, 3] (w2 := rowW y n b a1 a2 a3) dX4_init_30 rfl rfl rfl (by omega) (by omega) (h _ _ _)
theorem c_X7  (hd : 1 ≤ d) (h : ∀ a, Post (texW y b a)) : nEv kX7_init d 1 100 y 0 0 0 (xen [.ref b] 1) [] [(b, .inr (7, [.null, .int 0, .int 0, .int 0]))] Post := by
  show nEv kX7_init d 1 100 y 0 0 0 [some (.ref b)] [] _ _
  refine ne_aload_n dX7_init_0 rfl ?_
  refine ne_init dX7_init_1 mlX7_3 (by omega) rfl ?_
  refine ne_aload_n dX7_init_4 rfl ?_
  refine ne_bipush (v := 100) dX7_init_5 rfl ?_
  refine ne_newa_byte (n := 100) dX7_init_7 (by decide) (Nat.le_of_ble_eq_true rfl) (Nat.le_of_ble_eq_true rfl) (fun a1 => ?_)
  refine ne_putR (q0 := 0) dX7_init_9 flX7_11 (fun r z => by cases z; rfl) rfl (by simp) rfl rfl rfl ?_
  refine ne_aload_n dX7_init_12 rfl ?_
  refine ne_iconst (v := 0) dX7_init_13 rfl ?_
  refine ne_putI (q0 := 0) dX7_init_14 flX7_15 (fun r z => by cases z; rfl) rfl (by simp) rfl rfl rfl ?_
  refine ne_aload_n dX7_init_17 rfl ?_
  refine ne_iconst (v := 0) dX7_init_18 rfl ?_
  refine ne_putI (q0 := 0) dX7_init_19 flX7_19 (fun r z => by cases z; rfl) rfl (by simp) rfl rfl rfl ?_
  refine ne_aload_n dX7_init_22 rfl ?_
  refine ne_iconst (v := 0) dX7_init_23 rfl ?_
  refine ne_putI (q0 := 0) dX7_init_24 flX7_22 (fun r z => by cases z; rfl) rfl (by simp) rfl rfl rfl ?_
  exact ne_ret [0, 1] (w2 := texW y b a1) dX7_init_27 rfl rfl rfl (Nat.le_of_ble_eq_true rfl) (Nat.le_of_ble_eq_true rfl) (h _)
theorem c_X1  (hd : 1 ≤ d) (h : ∀ a, Post (celW y b a)) : nEv kX1_init d 1 100 y 0 0 0 (xen [.ref b] 1) [] [(b, .inr (1, [.null, .int 0, .int 0]))] Post := by
  show nEv kX1_init d 1 100 y 0 0 0 [some (.ref b)] [] _ _
  refine ne_aload_n dX1_init_0 rfl ?_
  refine ne_init dX1_init_1 mlX1_1 (by omega) rfl ?_
  refine ne_aload_n dX1_init_4 rfl ?_
  refine ne_bipush (v := 100) dX1_init_5 rfl ?_
  refine ne_newa_int (n := 100) dX1_init_7 (by decide) (Nat.le_of_ble_eq_true rfl) (Nat.le_of_ble_eq_true rfl) (fun a1 => ?_)
  refine ne_putR (q0 := 0) dX1_init_9 flX1_9 (fun r z => by cases z; rfl) rfl (by simp) rfl rfl rfl ?_
  refine ne_aload_n dX1_init_12 rfl ?_
  refine ne_iconst (v := 0) dX1_init_13 rfl ?_
  refine ne_putI (q0 := 0) dX1_init_14 flX1_15 (fun r z => by cases z; rfl) rfl (by simp) rfl rfl rfl ?_
  refine ne_aload_n dX1_init_17 rfl ?_
  refine ne_iconst (v := 5) dX1_init_18 rfl ?_
  refine ne_putI (q0 := 0) dX1_init_19 flX1_19 (fun r z => by cases z; rfl) rfl (by simp) rfl rfl rfl ?_
  exact ne_ret [0, 1] (w2 := celW y b a1) dX1_init_22 rfl rfl rfl (Nat.le_of_ble_eq_true rfl) (Nat.le_of_ble_eq_true rfl) (h _)
theorem c_X2  (hd : 1 ≤ d) (h : Post (fitW b)) : nEv kX2_init d 0 0 y 0 0 0 (xen [.ref b] 1) [] [(b, .inr (2, [.int 0, .int 0, .int 0]))] Post := by
  show nEv kX2_init d 0 0 y 0 0 0 [some (.ref b)] [] _ _
  refine ne_aload_n dX2_init_0 rfl ?_
  refine ne_init dX2_init_1 mlX2_3 (by omega) rfl ?_
  exact ne_ret [0] (w2 := fitW b) dX2_init_4 rfl rfl rfl (Nat.le_of_ble_eq_true rfl) (Nat.le_of_ble_eq_true rfl) (h)
theorem c_X0  (hd : 1 ≤ d) (h : ∀ a, Post (actW y b a)) : nEv kX0_init d 1 20 y 0 0 0 (xen [.ref b] 1) [] [(b, .inr (0, [.null, .int 0]))] Post := by
  show nEv kX0_init d 1 20 y 0 0 0 [some (.ref b)] [] _ _
  refine ne_aload_n dX0_init_0 rfl ?_
  refine ne_init dX0_init_1 mlX0_3 (by omega) rfl ?_
  refine ne_aload_n dX0_init_4 rfl ?_
  refine ne_bipush (v := 20) dX0_init_5 rfl ?_
  refine ne_newa_int (n := 20) dX0_init_7 (by decide) (Nat.le_of_ble_eq_true rfl) (Nat.le_of_ble_eq_true rfl) (fun a1 => ?_)
  refine ne_putR (q0 := 0) dX0_init_9 flX0_11 (fun r z => by cases z; rfl) rfl (by simp) rfl rfl rfl ?_
  refine ne_aload_n dX0_init_12 rfl ?_
  refine ne_iconst (v := 0) dX0_init_13 rfl ?_
  refine ne_putI (q0 := 0) dX0_init_14 flX0_15 (fun r z => by cases z; rfl) rfl (by simp) rfl rfl rfl ?_
  exact ne_ret [0, 1] (w2 := actW y b a1) dX0_init_17 rfl rfl rfl (Nat.le_of_ble_eq_true rfl) (Nat.le_of_ble_eq_true rfl) (h _)
theorem c_X6  (hd : 1 ≤ d) (h : ∀ a, Post (tapW y b a)) : nEv kX6_init d 1 60 y 0 0 0 (xen [.ref b] 1) [] [(b, .inr (6, [.null, .int 0, .int 0]))] Post := by
  show nEv kX6_init d 1 60 y 0 0 0 [some (.ref b)] [] _ _
  refine ne_aload_n dX6_init_0 rfl ?_
  refine ne_init dX6_init_1 mlX6_1 (by omega) rfl ?_
  refine ne_aload_n dX6_init_4 rfl ?_
  refine ne_bipush (v := 60) dX6_init_5 rfl ?_
  refine ne_newa_long (n := 60) dX6_init_7 (by decide) (Nat.le_of_ble_eq_true rfl) (Nat.le_of_ble_eq_true rfl) (fun a1 => ?_)
  refine ne_putR (q0 := 0) dX6_init_9 flX6_9 (fun r z => by cases z; rfl) rfl (by simp) rfl rfl rfl ?_
  refine ne_aload_n dX6_init_12 rfl ?_
  refine ne_iconst (v := -1) dX6_init_13 rfl ?_
  refine ne_putI (q0 := 0) dX6_init_14 flX6_13 (fun r z => by cases z; rfl) rfl (by simp) rfl rfl rfl ?_
  refine ne_aload_n dX6_init_17 rfl ?_
  refine ne_iconst (v := 0) dX6_init_18 rfl ?_
  refine ne_putI (q0 := 0) dX6_init_19 flX6_17 (fun r z => by cases z; rfl) rfl (by simp) rfl rfl rfl ?_
  exact ne_ret [0, 1] (w2 := tapW y b a1) dX6_init_22 rfl rfl rfl (Nat.le_of_ble_eq_true rfl) (Nat.le_of_ble_eq_true rfl) (h _)
theorem c_X5 (hd : 2 ≤ d) (h : ∀ f : Nat → Nat, f 0 = b → Post (stW y f)) : nEv kX5_init d 25 156 y 0 0 0 (xen [.ref b] 2) [] [(b, .inr (5, [.int 0, .int 0, .int 0, .null, .int 0, .null, .null, .null]))] Post := by
  obtain ⟨d, rfl⟩ : ∃ e, d = e + 1 := ⟨d - 1, by omega⟩
  show nEv kX5_init (d + 1) 25 156 y 0 0 0 [some (.ref b), none] [] _ _
  refine ne_aload_n dX5_init_0 rfl ?_
  refine ne_init dX5_init_1 mlX5_3 (by omega) rfl ?_
  refine ne_aload_n dX5_init_4 rfl ?_
  refine ne_iconst (v := 0) dX5_init_5 rfl ?_
  refine ne_putI (q0 := 0) (ws2 := (b, .inr (5, [.int 0, .int 0, .int 0, .null, .int 0, .null, .null, .null])) :: ([])) dX5_init_6 flX5_9 (fun r z => by cases z; rfl) rfl (by simp) rfl rfl rfl ?_
  refine ne_aload_n dX5_init_9 rfl ?_
  refine ne_iconst (v := 0) dX5_init_10 rfl ?_
  refine ne_putI (q0 := 0) (ws2 := (b, .inr (5, [.int 0, .int 0, .int 0, .null, .int 0, .null, .null, .null])) :: ([])) dX5_init_11 flX5_15 (fun r z => by cases z; rfl) rfl (by simp) rfl rfl rfl ?_
  refine ne_aload_n dX5_init_14 rfl ?_
  refine ne_iconst (v := -1) dX5_init_15 rfl ?_
  refine ne_putI (q0 := 0) (ws2 := (b, .inr (5, [.int 0, .int 0, .int (-1), .null, .int 0, .null, .null, .null])) :: ([])) dX5_init_16 flX5_18 (fun r z => by cases z; rfl) rfl (by simp) rfl rfl rfl ?_
  refine ne_aload_n dX5_init_19 rfl ?_
  refine ne_bipush (v := 6) dX5_init_20 rfl ?_
  refine ne_newq_pot (n := 6) dX5_init_22 (xT1 34 rfl rfl) (by decide) (Nat.le_of_ble_eq_true rfl) (Nat.le_of_ble_eq_true rfl) (fun a1 => ?_)
  refine ne_front0 (S := []) ?_
  show nEv _ _ _ _ _ _ _ _ _ _ ((b, .inr (5, [.int 0, .int 0, .int (-1), .null, .int 0, .null, .null, .null])) :: (a1, .inl (y 6, 6, .inr (.inr (.inr (.inr (fun i => ([] : List Nat)[i]?)))))) :: ([])) _
  refine ne_putR (q0 := 0) (ws2 := (b, .inr (5, [.int 0, .int 0, .int (-1), .ref a1, .int 0, .null, .null, .null])) :: (a1, .inl (y 6, 6, .inr (.inr (.inr (.inr (fun i => ([] : List Nat)[i]?)))))) :: ([])) dX5_init_25 flX5_23 (fun r z => by cases z; rfl) rfl (by simp) rfl rfl rfl ?_
  refine ne_aload_n dX5_init_28 rfl ?_
  refine ne_iconst (v := 0) dX5_init_29 rfl ?_
  refine ne_putI (q0 := 0) (ws2 := (b, .inr (5, [.int 0, .int 0, .int (-1), .ref a1, .int 0, .null, .null, .null])) :: (a1, .inl (y 6, 6, .inr (.inr (.inr (.inr (fun i => ([] : List Nat)[i]?)))))) :: ([])) dX5_init_30 flX5_27 (fun r z => by cases z; rfl) rfl (by simp) rfl rfl rfl ?_
  refine ne_aload_n dX5_init_33 rfl ?_
  refine ne_new (ci := 4) (fs := [.null, .null, .null, .int 0]) tyX4 dX5_init_34 rfl inxX4 tyX4_ok (xT1 36 rfl rfl) (xT1 37 rfl rfl) iniX4 (by intro j hj; match j, hj with | 0, _ => rfl | 1, _ => rfl | 2, _ => rfl | 3, _ => rfl) (Nat.le_of_ble_eq_true rfl) (Nat.le_of_ble_eq_true rfl) (fun o2 => ?_)
  refine ne_dup dX5_init_37 rfl ?_
  refine ne_bipush (v := 6) dX5_init_38 rfl ?_
  refine ne_callI (k2 := kX4_init) (vs := [.int (nI 6)]) (b := o2) dX5_init_40 okX4_init rfl rfl mlX5_32 imX4_init rfl rfl (Nat.le_of_ble_eq_true rfl) (Nat.le_of_ble_eq_true rfl) (Nat.le_of_ble_eq_true rfl) (Nat.le_of_ble_eq_true rfl) (c_X4 (n := 6) (by decide) (by omega) (fun a3 a4 a5 => ?_))
  show nEv _ _ _ _ _ _ _ _ _ _ ((b, .inr (5, [.int 0, .int 0, .int (-1), .ref a1, .int 0, .null, .null, .null])) :: (a1, .inl (y 6, 6, .inr (.inr (.inr (.inr (fun i => ([] : List Nat)[i]?)))))) :: (rowW y 6 o2 a3 a4 a5)) _
  refine ne_putR (q0 := 0) (ws2 := (b, .inr (5, [.int 0, .int 0, .int (-1), .ref a1, .int 0, .ref o2, .null, .null])) :: (a1, .inl (y 6, 6, .inr (.inr (.inr (.inr (fun i => ([] : List Nat)[i]?)))))) :: (rowW y 6 o2 a3 a4 a5)) dX5_init_43 flX5_35 (fun r z => by cases z; rfl) rfl (by simp) rfl rfl rfl ?_
  refine ne_aload_n dX5_init_46 rfl ?_
  refine ne_new (ci := 4) (fs := [.null, .null, .null, .int 0]) tyX4 dX5_init_47 rfl inxX4 tyX4_ok (xT1 36 rfl rfl) (xT1 37 rfl rfl) iniX4 (by intro j hj; match j, hj with | 0, _ => rfl | 1, _ => rfl | 2, _ => rfl | 3, _ => rfl) (Nat.le_of_ble_eq_true rfl) (Nat.le_of_ble_eq_true rfl) (fun o6 => ?_)
  refine ne_dup dX5_init_50 rfl ?_
  refine ne_bipush (v := 10) dX5_init_51 rfl ?_
  refine ne_callI (k2 := kX4_init) (vs := [.int (nI 10)]) (b := o6) dX5_init_53 okX4_init rfl rfl mlX5_32 imX4_init rfl rfl (Nat.le_of_ble_eq_true rfl) (Nat.le_of_ble_eq_true rfl) (Nat.le_of_ble_eq_true rfl) (Nat.le_of_ble_eq_true rfl) (c_X4 (n := 10) (by decide) (by omega) (fun a7 a8 a9 => ?_))
  show nEv _ _ _ _ _ _ _ _ _ _ ((b, .inr (5, [.int 0, .int 0, .int (-1), .ref a1, .int 0, .ref o2, .null, .null])) :: (a1, .inl (y 6, 6, .inr (.inr (.inr (.inr (fun i => ([] : List Nat)[i]?)))))) :: (rowW y 6 o2 a3 a4 a5 ++ rowW y 10 o6 a7 a8 a9)) _
  refine ne_putR (q0 := 0) (ws2 := (b, .inr (5, [.int 0, .int 0, .int (-1), .ref a1, .int 0, .ref o2, .ref o6, .null])) :: (a1, .inl (y 6, 6, .inr (.inr (.inr (.inr (fun i => ([] : List Nat)[i]?)))))) :: (rowW y 6 o2 a3 a4 a5 ++ rowW y 10 o6 a7 a8 a9)) dX5_init_56 flX5_39 (fun r z => by cases z; rfl) rfl (by simp) rfl rfl rfl ?_
  refine ne_aload_n dX5_init_59 rfl ?_
  refine ne_new (ci := 4) (fs := [.null, .null, .null, .int 0]) tyX4 dX5_init_60 rfl inxX4 tyX4_ok (xT1 36 rfl rfl) (xT1 37 rfl rfl) iniX4 (by intro j hj; match j, hj with | 0, _ => rfl | 1, _ => rfl | 2, _ => rfl | 3, _ => rfl) (Nat.le_of_ble_eq_true rfl) (Nat.le_of_ble_eq_true rfl) (fun o10 => ?_)
  refine ne_dup dX5_init_63 rfl ?_
  refine ne_bipush (v := 8) dX5_init_64 rfl ?_
  refine ne_callI (k2 := kX4_init) (vs := [.int (nI 8)]) (b := o10) dX5_init_66 okX4_init rfl rfl mlX5_32 imX4_init rfl rfl (Nat.le_of_ble_eq_true rfl) (Nat.le_of_ble_eq_true rfl) (Nat.le_of_ble_eq_true rfl) (Nat.le_of_ble_eq_true rfl) (c_X4 (n := 8) (by decide) (by omega) (fun a11 a12 a13 => ?_))
  show nEv _ _ _ _ _ _ _ _ _ _ ((b, .inr (5, [.int 0, .int 0, .int (-1), .ref a1, .int 0, .ref o2, .ref o6, .null])) :: (a1, .inl (y 6, 6, .inr (.inr (.inr (.inr (fun i => ([] : List Nat)[i]?)))))) :: (rowW y 6 o2 a3 a4 a5 ++ rowW y 10 o6 a7 a8 a9 ++ rowW y 8 o10 a11 a12 a13)) _
  refine ne_putR (q0 := 0) (ws2 := (b, .inr (5, [.int 0, .int 0, .int (-1), .ref a1, .int 0, .ref o2, .ref o6, .ref o10])) :: (a1, .inl (y 6, 6, .inr (.inr (.inr (.inr (fun i => ([] : List Nat)[i]?)))))) :: (rowW y 6 o2 a3 a4 a5 ++ rowW y 10 o6 a7 a8 a9 ++ rowW y 8 o10 a11 a12 a13)) dX5_init_69 flX5_42 (fun r z => by cases z; rfl) rfl (by simp) rfl rfl rfl ?_
  refine ne_iconst (v := 0) dX5_init_72 rfl ?_
  refine ne_istore_n (lv2 := [_, _]) dX5_init_73 (by decide) rfl ?_
  refine ne_iload_n dX5_init_74 rfl ?_
  refine ne_bipush (v := 6) dX5_init_75 rfl ?_
  refine ne_icmp_ge (tgt := 99) dX5_init_77 (by decide) (fun z => absurd z (by decide)) (fun _ => ?_)
  refine ne_aload_n dX5_init_80 rfl ?_
  refine ne_getR (q0 := 0) dX5_init_81 flX5_23 rfl rfl ?_
  refine ne_iload_n dX5_init_84 rfl ?_
  refine ne_new (ci := 3) (fs := [.int 0, .int 0, .int 0, .int 0, .int 0, .int 0, .null]) tyX3 dX5_init_85 rfl inxX3 tyX3_ok (xT1 34 rfl rfl) (xT1 60 rfl rfl) iniX3 (by intro j hj; match j, hj with | 0, _ => rfl | 1, _ => rfl | 2, _ => rfl | 3, _ => rfl | 4, _ => rfl | 5, _ => rfl | 6, _ => rfl) (Nat.le_of_ble_eq_true rfl) (Nat.le_of_ble_eq_true rfl) (fun o14 => ?_)
  refine ne_dup dX5_init_88 rfl ?_
  refine ne_callN (k2 := kX3_init) (vs := []) (b := o14) (own := RX5) (host := RX8) rfl dX5_init_89 okX3_init rfl rfl (fun U h => h.1.1) imX3_init rfl rfl (Nat.le_of_ble_eq_true rfl) (Nat.le_of_ble_eq_true rfl) (Nat.le_of_ble_eq_true rfl) (Nat.le_of_ble_eq_true rfl) (c_X3 (by omega) (fun a15 => ?_))
  show nEv _ _ _ _ _ _ _ _ _ _ ((b, .inr (5, [.int 0, .int 0, .int (-1), .ref a1, .int 0, .ref o2, .ref o6, .ref o10])) :: (a1, .inl (y 6, 6, .inr (.inr (.inr (.inr (fun i => ([] : List Nat)[i]?)))))) :: (rowW y 6 o2 a3 a4 a5 ++ rowW y 10 o6 a7 a8 a9 ++ rowW y 8 o10 a11 a12 a13 ++ potW y o14 a15)) _
  refine ne_astm (q0 := 1) (t := 6) (ci := 3) (j := 0) (L := []) (ws2 := (b, .inr (5, [.int 0, .int 0, .int (-1), .ref a1, .int 0, .ref o2, .ref o6, .ref o10])) :: (a1, .inl (y 6, 6, .inr (.inr (.inr (.inr (fun i => ([o14] : List Nat)[i]?)))))) :: (rowW y 6 o2 a3 a4 a5 ++ rowW y 10 o6 a7 a8 a9 ++ rowW y 8 o10 a11 a12 a13 ++ potW y o14 a15)) dX5_init_92 rfl rfl (List.mem_cons_of_mem _ (List.mem_cons_of_mem _ (List.mem_append_right _ List.mem_cons_self))) rfl rfl (by decide) (by decide) rfl ?_
  refine ne_iinc (v := 1) (lv2 := [_, _]) dX5_init_93 (by decide) rfl (by decide) rfl ?_
  refine ne_goto (tgt := 74) dX5_init_96 (by decide) ?_
  refine ne_iload_n dX5_init_74 rfl ?_
  refine ne_bipush (v := 6) dX5_init_75 rfl ?_
  refine ne_icmp_ge (tgt := 99) dX5_init_77 (by decide) (fun z => absurd z (by decide)) (fun _ => ?_)
  refine ne_aload_n dX5_init_80 rfl ?_
  refine ne_getR (q0 := 0) dX5_init_81 flX5_23 rfl rfl ?_
  refine ne_iload_n dX5_init_84 rfl ?_
  refine ne_new (ci := 3) (fs := [.int 0, .int 0, .int 0, .int 0, .int 0, .int 0, .null]) tyX3 dX5_init_85 rfl inxX3 tyX3_ok (xT1 34 rfl rfl) (xT1 60 rfl rfl) iniX3 (by intro j hj; match j, hj with | 0, _ => rfl | 1, _ => rfl | 2, _ => rfl | 3, _ => rfl | 4, _ => rfl | 5, _ => rfl | 6, _ => rfl) (Nat.le_of_ble_eq_true rfl) (Nat.le_of_ble_eq_true rfl) (fun o16 => ?_)
  refine ne_dup dX5_init_88 rfl ?_
  refine ne_callN (k2 := kX3_init) (vs := []) (b := o16) (own := RX5) (host := RX8) rfl dX5_init_89 okX3_init rfl rfl (fun U h => h.1.1) imX3_init rfl rfl (Nat.le_of_ble_eq_true rfl) (Nat.le_of_ble_eq_true rfl) (Nat.le_of_ble_eq_true rfl) (Nat.le_of_ble_eq_true rfl) (c_X3 (by omega) (fun a17 => ?_))
  show nEv _ _ _ _ _ _ _ _ _ _ ((b, .inr (5, [.int 0, .int 0, .int (-1), .ref a1, .int 0, .ref o2, .ref o6, .ref o10])) :: (a1, .inl (y 6, 6, .inr (.inr (.inr (.inr (fun i => ([o14] : List Nat)[i]?)))))) :: (rowW y 6 o2 a3 a4 a5 ++ rowW y 10 o6 a7 a8 a9 ++ rowW y 8 o10 a11 a12 a13 ++ potW y o14 a15 ++ potW y o16 a17)) _
  refine ne_astm (q0 := 1) (t := 6) (ci := 3) (j := 1) (L := [o14]) (ws2 := (b, .inr (5, [.int 0, .int 0, .int (-1), .ref a1, .int 0, .ref o2, .ref o6, .ref o10])) :: (a1, .inl (y 6, 6, .inr (.inr (.inr (.inr (fun i => ([o14, o16] : List Nat)[i]?)))))) :: (rowW y 6 o2 a3 a4 a5 ++ rowW y 10 o6 a7 a8 a9 ++ rowW y 8 o10 a11 a12 a13 ++ potW y o14 a15 ++ potW y o16 a17)) dX5_init_92 rfl rfl (List.mem_cons_of_mem _ (List.mem_cons_of_mem _ (List.mem_append_right _ List.mem_cons_self))) rfl rfl (by decide) (by decide) rfl ?_
  refine ne_iinc (v := 2) (lv2 := [_, _]) dX5_init_93 (by decide) rfl (by decide) rfl ?_
  refine ne_goto (tgt := 74) dX5_init_96 (by decide) ?_
  refine ne_iload_n dX5_init_74 rfl ?_
  refine ne_bipush (v := 6) dX5_init_75 rfl ?_
  refine ne_icmp_ge (tgt := 99) dX5_init_77 (by decide) (fun z => absurd z (by decide)) (fun _ => ?_)
  refine ne_aload_n dX5_init_80 rfl ?_
  refine ne_getR (q0 := 0) dX5_init_81 flX5_23 rfl rfl ?_
  refine ne_iload_n dX5_init_84 rfl ?_
  refine ne_new (ci := 3) (fs := [.int 0, .int 0, .int 0, .int 0, .int 0, .int 0, .null]) tyX3 dX5_init_85 rfl inxX3 tyX3_ok (xT1 34 rfl rfl) (xT1 60 rfl rfl) iniX3 (by intro j hj; match j, hj with | 0, _ => rfl | 1, _ => rfl | 2, _ => rfl | 3, _ => rfl | 4, _ => rfl | 5, _ => rfl | 6, _ => rfl) (Nat.le_of_ble_eq_true rfl) (Nat.le_of_ble_eq_true rfl) (fun o18 => ?_)
  refine ne_dup dX5_init_88 rfl ?_
  refine ne_callN (k2 := kX3_init) (vs := []) (b := o18) (own := RX5) (host := RX8) rfl dX5_init_89 okX3_init rfl rfl (fun U h => h.1.1) imX3_init rfl rfl (Nat.le_of_ble_eq_true rfl) (Nat.le_of_ble_eq_true rfl) (Nat.le_of_ble_eq_true rfl) (Nat.le_of_ble_eq_true rfl) (c_X3 (by omega) (fun a19 => ?_))
  show nEv _ _ _ _ _ _ _ _ _ _ ((b, .inr (5, [.int 0, .int 0, .int (-1), .ref a1, .int 0, .ref o2, .ref o6, .ref o10])) :: (a1, .inl (y 6, 6, .inr (.inr (.inr (.inr (fun i => ([o14, o16] : List Nat)[i]?)))))) :: (rowW y 6 o2 a3 a4 a5 ++ rowW y 10 o6 a7 a8 a9 ++ rowW y 8 o10 a11 a12 a13 ++ potW y o14 a15 ++ potW y o16 a17 ++ potW y o18 a19)) _
  refine ne_astm (q0 := 1) (t := 6) (ci := 3) (j := 2) (L := [o14, o16]) (ws2 := (b, .inr (5, [.int 0, .int 0, .int (-1), .ref a1, .int 0, .ref o2, .ref o6, .ref o10])) :: (a1, .inl (y 6, 6, .inr (.inr (.inr (.inr (fun i => ([o14, o16, o18] : List Nat)[i]?)))))) :: (rowW y 6 o2 a3 a4 a5 ++ rowW y 10 o6 a7 a8 a9 ++ rowW y 8 o10 a11 a12 a13 ++ potW y o14 a15 ++ potW y o16 a17 ++ potW y o18 a19)) dX5_init_92 rfl rfl (List.mem_cons_of_mem _ (List.mem_cons_of_mem _ (List.mem_append_right _ List.mem_cons_self))) rfl rfl (by decide) (by decide) rfl ?_
  refine ne_iinc (v := 3) (lv2 := [_, _]) dX5_init_93 (by decide) rfl (by decide) rfl ?_
  refine ne_goto (tgt := 74) dX5_init_96 (by decide) ?_
  refine ne_iload_n dX5_init_74 rfl ?_
  refine ne_bipush (v := 6) dX5_init_75 rfl ?_
  refine ne_icmp_ge (tgt := 99) dX5_init_77 (by decide) (fun z => absurd z (by decide)) (fun _ => ?_)
  refine ne_aload_n dX5_init_80 rfl ?_
  refine ne_getR (q0 := 0) dX5_init_81 flX5_23 rfl rfl ?_
  refine ne_iload_n dX5_init_84 rfl ?_
  refine ne_new (ci := 3) (fs := [.int 0, .int 0, .int 0, .int 0, .int 0, .int 0, .null]) tyX3 dX5_init_85 rfl inxX3 tyX3_ok (xT1 34 rfl rfl) (xT1 60 rfl rfl) iniX3 (by intro j hj; match j, hj with | 0, _ => rfl | 1, _ => rfl | 2, _ => rfl | 3, _ => rfl | 4, _ => rfl | 5, _ => rfl | 6, _ => rfl) (Nat.le_of_ble_eq_true rfl) (Nat.le_of_ble_eq_true rfl) (fun o20 => ?_)
  refine ne_dup dX5_init_88 rfl ?_
  refine ne_callN (k2 := kX3_init) (vs := []) (b := o20) (own := RX5) (host := RX8) rfl dX5_init_89 okX3_init rfl rfl (fun U h => h.1.1) imX3_init rfl rfl (Nat.le_of_ble_eq_true rfl) (Nat.le_of_ble_eq_true rfl) (Nat.le_of_ble_eq_true rfl) (Nat.le_of_ble_eq_true rfl) (c_X3 (by omega) (fun a21 => ?_))
  show nEv _ _ _ _ _ _ _ _ _ _ ((b, .inr (5, [.int 0, .int 0, .int (-1), .ref a1, .int 0, .ref o2, .ref o6, .ref o10])) :: (a1, .inl (y 6, 6, .inr (.inr (.inr (.inr (fun i => ([o14, o16, o18] : List Nat)[i]?)))))) :: (rowW y 6 o2 a3 a4 a5 ++ rowW y 10 o6 a7 a8 a9 ++ rowW y 8 o10 a11 a12 a13 ++ potW y o14 a15 ++ potW y o16 a17 ++ potW y o18 a19 ++ potW y o20 a21)) _
  refine ne_astm (q0 := 1) (t := 6) (ci := 3) (j := 3) (L := [o14, o16, o18]) (ws2 := (b, .inr (5, [.int 0, .int 0, .int (-1), .ref a1, .int 0, .ref o2, .ref o6, .ref o10])) :: (a1, .inl (y 6, 6, .inr (.inr (.inr (.inr (fun i => ([o14, o16, o18, o20] : List Nat)[i]?)))))) :: (rowW y 6 o2 a3 a4 a5 ++ rowW y 10 o6 a7 a8 a9 ++ rowW y 8 o10 a11 a12 a13 ++ potW y o14 a15 ++ potW y o16 a17 ++ potW y o18 a19 ++ potW y o20 a21)) dX5_init_92 rfl rfl (List.mem_cons_of_mem _ (List.mem_cons_of_mem _ (List.mem_append_right _ List.mem_cons_self))) rfl rfl (by decide) (by decide) rfl ?_
  refine ne_iinc (v := 4) (lv2 := [_, _]) dX5_init_93 (by decide) rfl (by decide) rfl ?_
  refine ne_goto (tgt := 74) dX5_init_96 (by decide) ?_
  refine ne_iload_n dX5_init_74 rfl ?_
  refine ne_bipush (v := 6) dX5_init_75 rfl ?_
  refine ne_icmp_ge (tgt := 99) dX5_init_77 (by decide) (fun z => absurd z (by decide)) (fun _ => ?_)
  refine ne_aload_n dX5_init_80 rfl ?_
  refine ne_getR (q0 := 0) dX5_init_81 flX5_23 rfl rfl ?_
  refine ne_iload_n dX5_init_84 rfl ?_
  refine ne_new (ci := 3) (fs := [.int 0, .int 0, .int 0, .int 0, .int 0, .int 0, .null]) tyX3 dX5_init_85 rfl inxX3 tyX3_ok (xT1 34 rfl rfl) (xT1 60 rfl rfl) iniX3 (by intro j hj; match j, hj with | 0, _ => rfl | 1, _ => rfl | 2, _ => rfl | 3, _ => rfl | 4, _ => rfl | 5, _ => rfl | 6, _ => rfl) (Nat.le_of_ble_eq_true rfl) (Nat.le_of_ble_eq_true rfl) (fun o22 => ?_)
  refine ne_dup dX5_init_88 rfl ?_
  refine ne_callN (k2 := kX3_init) (vs := []) (b := o22) (own := RX5) (host := RX8) rfl dX5_init_89 okX3_init rfl rfl (fun U h => h.1.1) imX3_init rfl rfl (Nat.le_of_ble_eq_true rfl) (Nat.le_of_ble_eq_true rfl) (Nat.le_of_ble_eq_true rfl) (Nat.le_of_ble_eq_true rfl) (c_X3 (by omega) (fun a23 => ?_))
  show nEv _ _ _ _ _ _ _ _ _ _ ((b, .inr (5, [.int 0, .int 0, .int (-1), .ref a1, .int 0, .ref o2, .ref o6, .ref o10])) :: (a1, .inl (y 6, 6, .inr (.inr (.inr (.inr (fun i => ([o14, o16, o18, o20] : List Nat)[i]?)))))) :: (rowW y 6 o2 a3 a4 a5 ++ rowW y 10 o6 a7 a8 a9 ++ rowW y 8 o10 a11 a12 a13 ++ potW y o14 a15 ++ potW y o16 a17 ++ potW y o18 a19 ++ potW y o20 a21 ++ potW y o22 a23)) _
  refine ne_astm (q0 := 1) (t := 6) (ci := 3) (j := 4) (L := [o14, o16, o18, o20]) (ws2 := (b, .inr (5, [.int 0, .int 0, .int (-1), .ref a1, .int 0, .ref o2, .ref o6, .ref o10])) :: (a1, .inl (y 6, 6, .inr (.inr (.inr (.inr (fun i => ([o14, o16, o18, o20, o22] : List Nat)[i]?)))))) :: (rowW y 6 o2 a3 a4 a5 ++ rowW y 10 o6 a7 a8 a9 ++ rowW y 8 o10 a11 a12 a13 ++ potW y o14 a15 ++ potW y o16 a17 ++ potW y o18 a19 ++ potW y o20 a21 ++ potW y o22 a23)) dX5_init_92 rfl rfl (List.mem_cons_of_mem _ (List.mem_cons_of_mem _ (List.mem_append_right _ List.mem_cons_self))) rfl rfl (by decide) (by decide) rfl ?_
  refine ne_iinc (v := 5) (lv2 := [_, _]) dX5_init_93 (by decide) rfl (by decide) rfl ?_
  refine ne_goto (tgt := 74) dX5_init_96 (by decide) ?_
  refine ne_iload_n dX5_init_74 rfl ?_
  refine ne_bipush (v := 6) dX5_init_75 rfl ?_
  refine ne_icmp_ge (tgt := 99) dX5_init_77 (by decide) (fun z => absurd z (by decide)) (fun _ => ?_)
  refine ne_aload_n dX5_init_80 rfl ?_
  refine ne_getR (q0 := 0) dX5_init_81 flX5_23 rfl rfl ?_
  refine ne_iload_n dX5_init_84 rfl ?_
  refine ne_new (ci := 3) (fs := [.int 0, .int 0, .int 0, .int 0, .int 0, .int 0, .null]) tyX3 dX5_init_85 rfl inxX3 tyX3_ok (xT1 34 rfl rfl) (xT1 60 rfl rfl) iniX3 (by intro j hj; match j, hj with | 0, _ => rfl | 1, _ => rfl | 2, _ => rfl | 3, _ => rfl | 4, _ => rfl | 5, _ => rfl | 6, _ => rfl) (Nat.le_of_ble_eq_true rfl) (Nat.le_of_ble_eq_true rfl) (fun o24 => ?_)
  refine ne_dup dX5_init_88 rfl ?_
  refine ne_callN (k2 := kX3_init) (vs := []) (b := o24) (own := RX5) (host := RX8) rfl dX5_init_89 okX3_init rfl rfl (fun U h => h.1.1) imX3_init rfl rfl (Nat.le_of_ble_eq_true rfl) (Nat.le_of_ble_eq_true rfl) (Nat.le_of_ble_eq_true rfl) (Nat.le_of_ble_eq_true rfl) (c_X3 (by omega) (fun a25 => ?_))
  show nEv _ _ _ _ _ _ _ _ _ _ ((b, .inr (5, [.int 0, .int 0, .int (-1), .ref a1, .int 0, .ref o2, .ref o6, .ref o10])) :: (a1, .inl (y 6, 6, .inr (.inr (.inr (.inr (fun i => ([o14, o16, o18, o20, o22] : List Nat)[i]?)))))) :: (rowW y 6 o2 a3 a4 a5 ++ rowW y 10 o6 a7 a8 a9 ++ rowW y 8 o10 a11 a12 a13 ++ potW y o14 a15 ++ potW y o16 a17 ++ potW y o18 a19 ++ potW y o20 a21 ++ potW y o22 a23 ++ potW y o24 a25)) _
  refine ne_astm (q0 := 1) (t := 6) (ci := 3) (j := 5) (L := [o14, o16, o18, o20, o22]) (ws2 := (b, .inr (5, [.int 0, .int 0, .int (-1), .ref a1, .int 0, .ref o2, .ref o6, .ref o10])) :: (a1, .inl (y 6, 6, .inr (.inr (.inr (.inr (fun i => ([o14, o16, o18, o20, o22, o24] : List Nat)[i]?)))))) :: (rowW y 6 o2 a3 a4 a5 ++ rowW y 10 o6 a7 a8 a9 ++ rowW y 8 o10 a11 a12 a13 ++ potW y o14 a15 ++ potW y o16 a17 ++ potW y o18 a19 ++ potW y o20 a21 ++ potW y o22 a23 ++ potW y o24 a25)) dX5_init_92 rfl rfl (List.mem_cons_of_mem _ (List.mem_cons_of_mem _ (List.mem_append_right _ List.mem_cons_self))) rfl rfl (by decide) (by decide) rfl ?_
  refine ne_iinc (v := 6) (lv2 := [_, _]) dX5_init_93 (by decide) rfl (by decide) rfl ?_
  refine ne_goto (tgt := 74) dX5_init_96 (by decide) ?_
  refine ne_iload_n dX5_init_74 rfl ?_
  refine ne_bipush (v := 6) dX5_init_75 rfl ?_
  refine ne_icmp_ge (tgt := 99) dX5_init_77 (by decide) (fun _ => ?_) (fun z => absurd (by decide) z)
  refine ne_retP (w2 := stW y (fun c => [b, a1, o14, a15, o16, a17, o18, a19, o20, a21, o22, a23, o24, a25, o2, a3, a4, a5, o6, a7, a8, a9, o10, a11, a12, a13].getD c 0)) dX5_init_99 rfl ?_ (Nat.le_of_ble_eq_true rfl) (Nat.le_of_ble_eq_true rfl) (h _ rfl)
  show (_ :: _ :: (rowW y 6 o2 a3 a4 a5 ++ rowW y 10 o6 a7 a8 a9 ++ rowW y 8 o10 a11 a12 a13 ++ potW y o14 a15 ++ potW y o16 a17 ++ potW y o18 a19 ++ potW y o20 a21 ++ potW y o22 a23 ++ potW y o24 a25)).Perm (_ :: _ :: (potW y o14 a15 ++ potW y o16 a17 ++ potW y o18 a19 ++ potW y o20 a21 ++ potW y o22 a23 ++ potW y o24 a25 ++ rowW y 6 o2 a3 a4 a5 ++ rowW y 10 o6 a7 a8 a9 ++ rowW y 8 o10 a11 a12 a13))
  refine List.Perm.cons _ (List.Perm.cons _ ?_)
  have q : ((rowW y 6 o2 a3 a4 a5 ++ rowW y 10 o6 a7 a8 a9 ++ rowW y 8 o10 a11 a12 a13) ++ (potW y o14 a15 ++ potW y o16 a17 ++ potW y o18 a19 ++ potW y o20 a21 ++ potW y o22 a23 ++ potW y o24 a25)).Perm ((potW y o14 a15 ++ potW y o16 a17 ++ potW y o18 a19 ++ potW y o20 a21 ++ potW y o22 a23 ++ potW y o24 a25) ++ (rowW y 6 o2 a3 a4 a5 ++ rowW y 10 o6 a7 a8 a9 ++ rowW y 8 o10 a11 a12 a13)) := List.perm_append_comm
  simpa only [List.append_assoc] using q
end NCON
