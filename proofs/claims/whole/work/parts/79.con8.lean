/-! JamOath's constructor -/
def celsW (y : Nat → ClassId) (h : Nat → Nat) : va_W := celW y (h 0) (h 1) ++ celW y (h 2) (h 3) ++ celW y (h 4) (h 5) ++ celW y (h 6) (h 7) ++ celW y (h 8) (h 9) ++ celW y (h 10) (h 11)
def tapsW (y : Nat → ClassId) (h : Nat → Nat) : va_W := tapW y (h 0) (h 1) ++ tapW y (h 2) (h 3) ++ tapW y (h 4) (h 5) ++ tapW y (h 6) (h 7) ++ tapW y (h 8) (h 9) ++ tapW y (h 10) (h 11)
def jamH (b : Nat) (g1 g2 g3 h : Nat → Nat) (c t : Nat) : Nat × va_E := (b, .inr (8, [.ref (g1 0), .ref (g2 0), .ref (g3 0), .ref (h 0), .int 0, .ref (h 2), .ref c, .ref (h 4), .int 0, .ref (h 6), .ref (h 7), .ref (h 8), .ref t]))
def jamX (y : Nat → ClassId) (g1 g2 g3 h : Nat → Nat) : va_W := stW y g1 ++ stW y g2 ++ stW y g3 ++ potW y (h 0) (h 1) ++ texW y (h 2) (h 3)
def jamB (y : Nat → ClassId) (h : Nat → Nat) : va_W := celW y (h 4) (h 5) ++ fitW (h 6) ++ [(h 7, .inl (y 0, 6, .inl (fun _ => 0)))] ++ actW y (h 8) (h 9)
def jamC (y : Nat → ClassId) (c : Nat) (k : Nat → Nat) : Nat × va_E := (c, .inl (y 5, 6, .inr (.inr (.inr (.inr (fun i => [k 0, k 2, k 4, k 6, k 8, k 10][i]?))))))
def jamT (y : Nat → ClassId) (c : Nat) (k : Nat → Nat) : Nat × va_E := (c, .inl (y 7, 6, .inr (.inr (.inr (.inr (fun i => [k 0, k 2, k 4, k 6, k 8, k 10][i]?))))))
def jamW (y : Nat → ClassId) (b : Nat) (g1 g2 g3 h k t : Nat → Nat) (ca ta : Nat) : va_W := jamH b g1 g2 g3 h ca ta :: (jamX y g1 g2 g3 h ++ (jamC y ca k :: (celsW y k ++ (jamB y h ++ (jamT y ta t :: tapsW y t)))))
theorem jam_perm {α : Type} (a b c : α) (X B Cs Ts : List α) : (a :: b :: c :: (((X ++ B) ++ Cs) ++ Ts)).Perm (a :: (X ++ (c :: (Cs ++ (B ++ (b :: Ts)))))) := by
  refine List.Perm.cons a ?_
  have h1 : (B ++ Cs).Perm (Cs ++ B) := List.perm_append_comm
  have h2 : ((X ++ B) ++ Cs ++ Ts).Perm (X ++ (Cs ++ (B ++ Ts))) := by
    have h3 := (h1.append_right Ts).append_left X
    simpa only [List.append_assoc] using h3
  have h4 : (X ++ (c :: (Cs ++ (B ++ (b :: Ts))))).Perm (c :: (X ++ (Cs ++ (B ++ (b :: Ts))))) := List.perm_middle
  have h5 : (X ++ (Cs ++ (B ++ (b :: Ts)))).Perm (b :: (X ++ (Cs ++ (B ++ Ts)))) := by
    have h6 : ((X ++ Cs ++ B) ++ b :: Ts).Perm (b :: ((X ++ Cs ++ B) ++ Ts)) := List.perm_middle
    simpa only [List.append_assoc] using h6
  refine List.Perm.trans ?_ (h4.trans (h5.cons c)).symm
  exact (List.Perm.swap c b _).trans (List.Perm.cons c (List.Perm.cons b h2))
section NCON8
variable {y : Nat → ClassId} {b d : Nat} {Post : va_W → Prop}
theorem c8_n4 {fs : List Value} {R : va_W} {c0 s0 : Nat} (hd : 2 ≤ d) (hl : fs.length = 13) (hc : c0 + 26 ≤ 114) (hs : s0 + 164 ≤ 1749) (h : ∀ g : Nat → Nat, nEv kX8_init (d + 1) 114 1749 y (c0 + 1 + 25) (s0 + 8 + 156) 15 [some (.ref b), none] [] ((b, .inr (8, fs.set 0 (.ref (g 0)))) :: (R ++ stW y g)) Post) : nEv kX8_init (d + 1) 114 1749 y c0 s0 4 [some (.ref b), none] [] ((b, .inr (8, fs)) :: R) Post := by
  refine ne_aload_n dX8_init_4 rfl ?_
  refine ne_new (ci := 5) (fs := [.int 0, .int 0, .int 0, .null, .int 0, .null, .null, .null]) tyX5 dX8_init_5 rfl inxX5 tyX5_ok (xT1 28 rfl rfl) (xT1 29 rfl rfl) iniX5 (by intro j hj; match j, hj with | 0, _ => rfl | 1, _ => rfl | 2, _ => rfl | 3, _ => rfl | 4, _ => rfl | 5, _ => rfl | 6, _ => rfl | 7, _ => rfl) (by omega) (by omega) (fun o => ?_)
  refine ne_dup dX8_init_8 rfl ?_
  refine ne_callI (k2 := kX5_init) (vs := []) (b := o) dX8_init_9 okX5_init rfl rfl mlX8_11 imX5_init rfl rfl (Nat.le_of_ble_eq_true rfl) (Nat.le_of_ble_eq_true rfl) (by omega) (by omega) (c_X5 (by omega) (fun g hf => ?_))
  subst hf
  refine ne_putR (q0 := 0) (ws2 := (b, .inr (8, fs.set 0 (.ref (g 0)))) :: (R ++ stW y g)) dX8_init_12 flX8_12 (fun r z => by cases z; rfl) rfl (by omega) rfl rfl rfl ?_
  exact h g
theorem c8_n15 {fs : List Value} {R : va_W} {c0 s0 : Nat} (hd : 2 ≤ d) (hl : fs.length = 13) (hc : c0 + 26 ≤ 114) (hs : s0 + 164 ≤ 1749) (h : ∀ g : Nat → Nat, nEv kX8_init (d + 1) 114 1749 y (c0 + 1 + 25) (s0 + 8 + 156) 26 [some (.ref b), none] [] ((b, .inr (8, fs.set 1 (.ref (g 0)))) :: (R ++ stW y g)) Post) : nEv kX8_init (d + 1) 114 1749 y c0 s0 15 [some (.ref b), none] [] ((b, .inr (8, fs)) :: R) Post := by
  refine ne_aload_n dX8_init_15 rfl ?_
  refine ne_new (ci := 5) (fs := [.int 0, .int 0, .int 0, .null, .int 0, .null, .null, .null]) tyX5 dX8_init_16 rfl inxX5 tyX5_ok (xT1 28 rfl rfl) (xT1 29 rfl rfl) iniX5 (by intro j hj; match j, hj with | 0, _ => rfl | 1, _ => rfl | 2, _ => rfl | 3, _ => rfl | 4, _ => rfl | 5, _ => rfl | 6, _ => rfl | 7, _ => rfl) (by omega) (by omega) (fun o => ?_)
  refine ne_dup dX8_init_19 rfl ?_
  refine ne_callI (k2 := kX5_init) (vs := []) (b := o) dX8_init_20 okX5_init rfl rfl mlX8_11 imX5_init rfl rfl (Nat.le_of_ble_eq_true rfl) (Nat.le_of_ble_eq_true rfl) (by omega) (by omega) (c_X5 (by omega) (fun g hf => ?_))
  subst hf
  refine ne_putR (q0 := 0) (ws2 := (b, .inr (8, fs.set 1 (.ref (g 0)))) :: (R ++ stW y g)) dX8_init_23 flX8_18 (fun r z => by cases z; rfl) rfl (by omega) rfl rfl rfl ?_
  exact h g
theorem c8_n26 {fs : List Value} {R : va_W} {c0 s0 : Nat} (hd : 2 ≤ d) (hl : fs.length = 13) (hc : c0 + 26 ≤ 114) (hs : s0 + 164 ≤ 1749) (h : ∀ g : Nat → Nat, nEv kX8_init (d + 1) 114 1749 y (c0 + 1 + 25) (s0 + 8 + 156) 37 [some (.ref b), none] [] ((b, .inr (8, fs.set 2 (.ref (g 0)))) :: (R ++ stW y g)) Post) : nEv kX8_init (d + 1) 114 1749 y c0 s0 26 [some (.ref b), none] [] ((b, .inr (8, fs)) :: R) Post := by
  refine ne_aload_n dX8_init_26 rfl ?_
  refine ne_new (ci := 5) (fs := [.int 0, .int 0, .int 0, .null, .int 0, .null, .null, .null]) tyX5 dX8_init_27 rfl inxX5 tyX5_ok (xT1 28 rfl rfl) (xT1 29 rfl rfl) iniX5 (by intro j hj; match j, hj with | 0, _ => rfl | 1, _ => rfl | 2, _ => rfl | 3, _ => rfl | 4, _ => rfl | 5, _ => rfl | 6, _ => rfl | 7, _ => rfl) (by omega) (by omega) (fun o => ?_)
  refine ne_dup dX8_init_30 rfl ?_
  refine ne_callI (k2 := kX5_init) (vs := []) (b := o) dX8_init_31 okX5_init rfl rfl mlX8_11 imX5_init rfl rfl (Nat.le_of_ble_eq_true rfl) (Nat.le_of_ble_eq_true rfl) (by omega) (by omega) (c_X5 (by omega) (fun g hf => ?_))
  subst hf
  refine ne_putR (q0 := 0) (ws2 := (b, .inr (8, fs.set 2 (.ref (g 0)))) :: (R ++ stW y g)) dX8_init_34 flX8_21 (fun r z => by cases z; rfl) rfl (by omega) rfl rfl rfl ?_
  exact h g
theorem c8_n37 {fs : List Value} {R : va_W} {c0 s0 : Nat} (hd : 2 ≤ d) (hl : fs.length = 13) (hc : c0 + 2 ≤ 114) (hs : s0 + 11 ≤ 1749) (h : ∀ o a : Nat, nEv kX8_init (d + 1) 114 1749 y (c0 + 1 + 1) (s0 + 7 + 4) 48 [some (.ref b), none] [] ((b, .inr (8, fs.set 3 (.ref o))) :: (R ++ potW y o a)) Post) : nEv kX8_init (d + 1) 114 1749 y c0 s0 37 [some (.ref b), none] [] ((b, .inr (8, fs)) :: R) Post := by
  refine ne_aload_n dX8_init_37 rfl ?_
  refine ne_new (ci := 3) (fs := [.int 0, .int 0, .int 0, .int 0, .int 0, .int 0, .null]) tyX3 dX8_init_38 rfl inxX3 tyX3_ok (xT1 137 rfl rfl) (xT1 60 rfl rfl) iniX3 (by intro j hj; match j, hj with | 0, _ => rfl | 1, _ => rfl | 2, _ => rfl | 3, _ => rfl | 4, _ => rfl | 5, _ => rfl | 6, _ => rfl) (by omega) (by omega) (fun o => ?_)
  refine ne_dup dX8_init_41 rfl ?_
  refine ne_callN (k2 := kX3_init) (vs := []) (b := o) (own := RX8) (host := RX8) rfl dX8_init_42 okX3_init rfl rfl (fun U h => h.1.2.1) imX3_init rfl rfl (Nat.le_of_ble_eq_true rfl) (Nat.le_of_ble_eq_true rfl) (by omega) (by omega) (c_X3 (by omega) (fun a => ?_))
  refine ne_putR (q0 := 0) (ws2 := (b, .inr (8, fs.set 3 (.ref o))) :: (R ++ potW y o a)) dX8_init_45 flX8_27 (fun r z => by cases z; rfl) rfl (by omega) rfl rfl rfl ?_
  exact h o a
theorem c8_n48 {fs : List Value} {R : va_W} {c0 s0 : Nat} (hd : 2 ≤ d) (hl : fs.length = 13) (hc : c0 + 0 ≤ 114) (hs : s0 + 0 ≤ 1749) (h : nEv kX8_init (d + 1) 114 1749 y (c0 + 0) (s0 + 0) 53 [some (.ref b), none] [] ((b, .inr (8, fs.set 4 (.int 0))) :: R) Post) : nEv kX8_init (d + 1) 114 1749 y c0 s0 48 [some (.ref b), none] [] ((b, .inr (8, fs)) :: R) Post := by
  refine ne_aload_n dX8_init_48 rfl ?_
  refine ne_iconst (v := 0) dX8_init_49 rfl ?_
  refine ne_putI (q0 := 0) (ws2 := (b, .inr (8, fs.set 4 (.int 0))) :: R) dX8_init_50 flX8_31 (fun r z => by cases z; rfl) rfl (by omega) rfl rfl rfl ?_
  exact h
theorem c8_n53 {fs : List Value} {R : va_W} {c0 s0 : Nat} (hd : 2 ≤ d) (hl : fs.length = 13) (hc : c0 + 2 ≤ 114) (hs : s0 + 104 ≤ 1749) (h : ∀ o a : Nat, nEv kX8_init (d + 1) 114 1749 y (c0 + 1 + 1) (s0 + 4 + 100) 64 [some (.ref b), none] [] ((b, .inr (8, fs.set 5 (.ref o))) :: (R ++ texW y o a)) Post) : nEv kX8_init (d + 1) 114 1749 y c0 s0 53 [some (.ref b), none] [] ((b, .inr (8, fs)) :: R) Post := by
  refine ne_aload_n dX8_init_53 rfl ?_
  refine ne_new (ci := 7) (fs := [.null, .int 0, .int 0, .int 0]) tyX7 dX8_init_54 rfl inxX7 tyX7_ok (xT1 139 rfl rfl) (xT1 140 rfl rfl) iniX7 (by intro j hj; match j, hj with | 0, _ => rfl | 1, _ => rfl | 2, _ => rfl | 3, _ => rfl) (by omega) (by omega) (fun o => ?_)
  refine ne_dup dX8_init_57 rfl ?_
  refine ne_callN (k2 := kX7_init) (vs := []) (b := o) (own := RX8) (host := RX8) rfl dX8_init_58 okX7_init rfl rfl (fun U h => h.1.2.2.1) imX7_init rfl rfl (Nat.le_of_ble_eq_true rfl) (Nat.le_of_ble_eq_true rfl) (by omega) (by omega) (c_X7 (by omega) (fun a => ?_))
  refine ne_putR (q0 := 0) (ws2 := (b, .inr (8, fs.set 5 (.ref o))) :: (R ++ texW y o a)) dX8_init_61 flX8_38 (fun r z => by cases z; rfl) rfl (by omega) rfl rfl rfl ?_
  exact h o a
theorem c8_n64 {fs : List Value} {R : va_W} {c0 s0 : Nat} (hd : 2 ≤ d) (hl : fs.length = 13) (hc : c0 + 1 ≤ 114) (hs : s0 + 6 ≤ 1749) (h : ∀ a : Nat, nEv kX8_init (d + 1) 114 1749 y (c0 + 1) (s0 + 6) 73 [some (.ref b), none] [] ((b, .inr (8, fs.set 6 (.ref a))) :: ((a, .inl (y 5, 6, .inr (.inr (.inr (.inr (fun i => ([] : List Nat)[i]?)))))) : Nat × va_E) :: R) Post) : nEv kX8_init (d + 1) 114 1749 y c0 s0 64 [some (.ref b), none] [] ((b, .inr (8, fs)) :: R) Post := by
  refine ne_aload_n dX8_init_64 rfl ?_
  refine ne_bipush (v := nI 6) dX8_init_65 rfl ?_
  refine ne_newq_cellar (n := 6) dX8_init_67 (xT1 160 rfl rfl) (by decide) (by omega) (by omega) (fun a => ?_)
  refine ne_front0 (S := R) ?_
  refine ne_putR (q0 := 0) (ws2 := (b, .inr (8, fs.set 6 (.ref a))) :: ((a, .inl (y 5, 6, .inr (.inr (.inr (.inr (fun i => ([] : List Nat)[i]?)))))) : Nat × va_E) :: R) dX8_init_70 flX8_44 (fun r z => by cases z; rfl) rfl (by omega) rfl rfl rfl ?_
  exact h a
theorem c8_n73 {fs : List Value} {R : va_W} {c0 s0 : Nat} (hd : 2 ≤ d) (hl : fs.length = 13) (hc : c0 + 2 ≤ 114) (hs : s0 + 103 ≤ 1749) (h : ∀ o a : Nat, nEv kX8_init (d + 1) 114 1749 y (c0 + 1 + 1) (s0 + 3 + 100) 84 [some (.ref b), none] [] ((b, .inr (8, fs.set 7 (.ref o))) :: (R ++ celW y o a)) Post) : nEv kX8_init (d + 1) 114 1749 y c0 s0 73 [some (.ref b), none] [] ((b, .inr (8, fs)) :: R) Post := by
  refine ne_aload_n dX8_init_73 rfl ?_
  refine ne_new (ci := 1) (fs := [.null, .int 0, .int 0]) tyX1 dX8_init_74 rfl inxX1 tyX1_ok (xT1 160 rfl rfl) (xT1 162 rfl rfl) iniX1 (by intro j hj; match j, hj with | 0, _ => rfl | 1, _ => rfl | 2, _ => rfl) (by omega) (by omega) (fun o => ?_)
  refine ne_dup dX8_init_77 rfl ?_
  refine ne_callN (k2 := kX1_init) (vs := []) (b := o) (own := RX8) (host := RX8) rfl dX8_init_78 okX1_init rfl rfl (fun U h => h.1.2.2.2.1) imX1_init rfl rfl (Nat.le_of_ble_eq_true rfl) (Nat.le_of_ble_eq_true rfl) (by omega) (by omega) (c_X1 (by omega) (fun a => ?_))
  refine ne_putR (q0 := 0) (ws2 := (b, .inr (8, fs.set 7 (.ref o))) :: (R ++ celW y o a)) dX8_init_81 flX8_49 (fun r z => by cases z; rfl) rfl (by omega) rfl rfl rfl ?_
  exact h o a
theorem c8_n84 {fs : List Value} {R : va_W} {c0 s0 : Nat} (hd : 2 ≤ d) (hl : fs.length = 13) (hc : c0 + 0 ≤ 114) (hs : s0 + 0 ≤ 1749) (h : nEv kX8_init (d + 1) 114 1749 y (c0 + 0) (s0 + 0) 89 [some (.ref b), none] [] ((b, .inr (8, fs.set 8 (.int 0))) :: R) Post) : nEv kX8_init (d + 1) 114 1749 y c0 s0 84 [some (.ref b), none] [] ((b, .inr (8, fs)) :: R) Post := by
  refine ne_aload_n dX8_init_84 rfl ?_
  refine ne_iconst (v := 0) dX8_init_85 rfl ?_
  refine ne_putI (q0 := 0) (ws2 := (b, .inr (8, fs.set 8 (.int 0))) :: R) dX8_init_86 flX8_53 (fun r z => by cases z; rfl) rfl (by omega) rfl rfl rfl ?_
  exact h
theorem c8_n89 {fs : List Value} {R : va_W} {c0 s0 : Nat} (hd : 2 ≤ d) (hl : fs.length = 13) (hc : c0 + 1 ≤ 114) (hs : s0 + 3 ≤ 1749) (h : ∀ o : Nat, nEv kX8_init (d + 1) 114 1749 y (c0 + 1 + 0) (s0 + 3 + 0) 100 [some (.ref b), none] [] ((b, .inr (8, fs.set 9 (.ref o))) :: (R ++ fitW o)) Post) : nEv kX8_init (d + 1) 114 1749 y c0 s0 89 [some (.ref b), none] [] ((b, .inr (8, fs)) :: R) Post := by
  refine ne_aload_n dX8_init_89 rfl ?_
  refine ne_new (ci := 2) (fs := [.int 0, .int 0, .int 0]) tyX2 dX8_init_90 rfl inxX2 tyX2_ok (xT1 179 rfl rfl) (xT1 180 rfl rfl) iniX2 (by intro j hj; match j, hj with | 0, _ => rfl | 1, _ => rfl | 2, _ => rfl) (by omega) (by omega) (fun o => ?_)
  refine ne_dup dX8_init_93 rfl ?_
  refine ne_callN (k2 := kX2_init) (vs := []) (b := o) (own := RX8) (host := RX8) rfl dX8_init_94 okX2_init rfl rfl (fun U h => h.1.2.2.2.2.1) imX2_init rfl rfl (Nat.le_of_ble_eq_true rfl) (Nat.le_of_ble_eq_true rfl) (by omega) (by omega) (c_X2 (by omega) ?_)
  refine ne_putR (q0 := 0) (ws2 := (b, .inr (8, fs.set 9 (.ref o))) :: (R ++ fitW o)) dX8_init_97 flX8_60 (fun r z => by cases z; rfl) rfl (by omega) rfl rfl rfl ?_
  exact h o
theorem c8_n100 {fs : List Value} {R : va_W} {c0 s0 : Nat} (hd : 2 ≤ d) (hl : fs.length = 13) (hc : c0 + 1 ≤ 114) (hs : s0 + 6 ≤ 1749) (h : ∀ a : Nat, nEv kX8_init (d + 1) 114 1749 y (c0 + 1) (s0 + 6) 108 [some (.ref b), none] [] ((b, .inr (8, fs.set 10 (.ref a))) :: (R ++ [(a, .inl (y 0, 6, .inl (fun _ => 0)))])) Post) : nEv kX8_init (d + 1) 114 1749 y c0 s0 100 [some (.ref b), none] [] ((b, .inr (8, fs)) :: R) Post := by
  refine ne_aload_n dX8_init_100 rfl ?_
  refine ne_bipush (v := nI 6) dX8_init_101 rfl ?_
  refine ne_newa_int (n := 6) dX8_init_103 (by decide) (by omega) (by omega) (fun a => ?_)
  refine ne_putR (q0 := 0) (ws2 := (b, .inr (8, fs.set 10 (.ref a))) :: (R ++ [(a, .inl (y 0, 6, .inl (fun _ => 0)))])) dX8_init_105 flX8_64 (fun r z => by cases z; rfl) rfl (by omega) rfl rfl rfl ?_
  exact h a
theorem c8_n108 {fs : List Value} {R : va_W} {c0 s0 : Nat} (hd : 2 ≤ d) (hl : fs.length = 13) (hc : c0 + 2 ≤ 114) (hs : s0 + 22 ≤ 1749) (h : ∀ o a : Nat, nEv kX8_init (d + 1) 114 1749 y (c0 + 1 + 1) (s0 + 2 + 20) 119 [some (.ref b), none] [] ((b, .inr (8, fs.set 11 (.ref o))) :: (R ++ actW y o a)) Post) : nEv kX8_init (d + 1) 114 1749 y c0 s0 108 [some (.ref b), none] [] ((b, .inr (8, fs)) :: R) Post := by
  refine ne_aload_n dX8_init_108 rfl ?_
  refine ne_new (ci := 0) (fs := [.null, .int 0]) tyX0 dX8_init_109 rfl inxX0 tyX0_ok (xT1 198 rfl rfl) (xT1 199 rfl rfl) iniX0 (by intro j hj; match j, hj with | 0, _ => rfl | 1, _ => rfl) (by omega) (by omega) (fun o => ?_)
  refine ne_dup dX8_init_112 rfl ?_
  refine ne_callN (k2 := kX0_init) (vs := []) (b := o) (own := RX8) (host := RX8) rfl dX8_init_113 okX0_init rfl rfl (fun U h => h.1.2.2.2.2.2.1) imX0_init rfl rfl (Nat.le_of_ble_eq_true rfl) (Nat.le_of_ble_eq_true rfl) (by omega) (by omega) (c_X0 (by omega) (fun a => ?_))
  refine ne_putR (q0 := 0) (ws2 := (b, .inr (8, fs.set 11 (.ref o))) :: (R ++ actW y o a)) dX8_init_116 flX8_71 (fun r z => by cases z; rfl) rfl (by omega) rfl rfl rfl ?_
  exact h o a
theorem c8_n119 {fs : List Value} {R : va_W} {c0 s0 : Nat} (hd : 2 ≤ d) (hl : fs.length = 13) (hc : c0 + 1 ≤ 114) (hs : s0 + 6 ≤ 1749) (h : ∀ a : Nat, nEv kX8_init (d + 1) 114 1749 y (c0 + 1) (s0 + 6) 128 [some (.ref b), none] [] ((b, .inr (8, fs.set 12 (.ref a))) :: ((a, .inl (y 7, 6, .inr (.inr (.inr (.inr (fun i => ([] : List Nat)[i]?)))))) : Nat × va_E) :: R) Post) : nEv kX8_init (d + 1) 114 1749 y c0 s0 119 [some (.ref b), none] [] ((b, .inr (8, fs)) :: R) Post := by
  refine ne_aload_n dX8_init_119 rfl ?_
  refine ne_bipush (v := nI 6) dX8_init_120 rfl ?_
  refine ne_newq_tape (n := 6) dX8_init_122 (xT1 213 rfl rfl) (by decide) (by omega) (by omega) (fun a => ?_)
  refine ne_front0 (S := R) ?_
  refine ne_putR (q0 := 0) (ws2 := (b, .inr (8, fs.set 12 (.ref a))) :: ((a, .inl (y 7, 6, .inr (.inr (.inr (.inr (fun i => ([] : List Nat)[i]?)))))) : Nat × va_E) :: R) dX8_init_125 flX8_77 (fun r z => by cases z; rfl) rfl (by omega) rfl rfl rfl ?_
  exact h a
theorem c8_A (hd : 2 ≤ d) (h : ∀ (g1 g2 g3 h : Nat → Nat) (ca ta : Nat), nEv kX8_init (d + 1) 114 1749 y 90 753 130 [some (.ref b), some (.int (nI 0))] [] (jamH b g1 g2 g3 h ca ta :: ((ta, .inl (y 7, 6, .inr (.inr (.inr (.inr (fun i => ([] : List Nat)[i]?)))))) : Nat × va_E) :: ((ca, .inl (y 5, 6, .inr (.inr (.inr (.inr (fun i => ([] : List Nat)[i]?)))))) : Nat × va_E) :: (jamX y g1 g2 g3 h ++ jamB y h)) Post) : nEv kX8_init (d + 1) 114 1749 y 0 0 0 (xen [.ref b] 2) [] [(b, .inr (8, [.null, .null, .null, .null, .int 0, .null, .null, .null, .int 0, .null, .null, .null, .null]))] Post := by
  show nEv kX8_init (d + 1) 114 1749 y 0 0 0 [some (.ref b), none] [] _ _
  refine ne_aload_n dX8_init_0 rfl ?_
  refine ne_init dX8_init_1 mlX8_3 (by omega) rfl ?_
  refine c8_n4 (by omega) rfl (Nat.le_of_ble_eq_true rfl) (Nat.le_of_ble_eq_true rfl) (fun g1 => ?_)
  show nEv _ _ _ _ _ _ _ _ _ _ ((b, .inr (8, [.ref (g1 0), .null, .null, .null, .int 0, .null, .null, .null, .int 0, .null, .null, .null, .null])) :: _) _
  refine c8_n15 (by omega) rfl (Nat.le_of_ble_eq_true rfl) (Nat.le_of_ble_eq_true rfl) (fun g2 => ?_)
  show nEv _ _ _ _ _ _ _ _ _ _ ((b, .inr (8, [.ref (g1 0), .ref (g2 0), .null, .null, .int 0, .null, .null, .null, .int 0, .null, .null, .null, .null])) :: _) _
  refine c8_n26 (by omega) rfl (Nat.le_of_ble_eq_true rfl) (Nat.le_of_ble_eq_true rfl) (fun g3 => ?_)
  show nEv _ _ _ _ _ _ _ _ _ _ ((b, .inr (8, [.ref (g1 0), .ref (g2 0), .ref (g3 0), .null, .int 0, .null, .null, .null, .int 0, .null, .null, .null, .null])) :: _) _
  refine c8_n37 (by omega) rfl (Nat.le_of_ble_eq_true rfl) (Nat.le_of_ble_eq_true rfl) (fun o6 a6 => ?_)
  show nEv _ _ _ _ _ _ _ _ _ _ ((b, .inr (8, [.ref (g1 0), .ref (g2 0), .ref (g3 0), .ref o6, .int 0, .null, .null, .null, .int 0, .null, .null, .null, .null])) :: _) _
  refine c8_n48 (by omega) rfl (Nat.le_of_ble_eq_true rfl) (Nat.le_of_ble_eq_true rfl) ?_
  show nEv _ _ _ _ _ _ _ _ _ _ ((b, .inr (8, [.ref (g1 0), .ref (g2 0), .ref (g3 0), .ref o6, .int 0, .null, .null, .null, .int 0, .null, .null, .null, .null])) :: _) _
  refine c8_n53 (by omega) rfl (Nat.le_of_ble_eq_true rfl) (Nat.le_of_ble_eq_true rfl) (fun o10 a10 => ?_)
  show nEv _ _ _ _ _ _ _ _ _ _ ((b, .inr (8, [.ref (g1 0), .ref (g2 0), .ref (g3 0), .ref o6, .int 0, .ref o10, .null, .null, .int 0, .null, .null, .null, .null])) :: _) _
  refine c8_n64 (by omega) rfl (Nat.le_of_ble_eq_true rfl) (Nat.le_of_ble_eq_true rfl) (fun q6 => ?_)
  show nEv _ _ _ _ _ _ _ _ _ _ ((b, .inr (8, [.ref (g1 0), .ref (g2 0), .ref (g3 0), .ref o6, .int 0, .ref o10, .ref q6, .null, .int 0, .null, .null, .null, .null])) :: _) _
  refine c8_n73 (by omega) rfl (Nat.le_of_ble_eq_true rfl) (Nat.le_of_ble_eq_true rfl) (fun o14 a14 => ?_)
  show nEv _ _ _ _ _ _ _ _ _ _ ((b, .inr (8, [.ref (g1 0), .ref (g2 0), .ref (g3 0), .ref o6, .int 0, .ref o10, .ref q6, .ref o14, .int 0, .null, .null, .null, .null])) :: _) _
  refine c8_n84 (by omega) rfl (Nat.le_of_ble_eq_true rfl) (Nat.le_of_ble_eq_true rfl) ?_
  show nEv _ _ _ _ _ _ _ _ _ _ ((b, .inr (8, [.ref (g1 0), .ref (g2 0), .ref (g3 0), .ref o6, .int 0, .ref o10, .ref q6, .ref o14, .int 0, .null, .null, .null, .null])) :: _) _
  refine c8_n89 (by omega) rfl (Nat.le_of_ble_eq_true rfl) (Nat.le_of_ble_eq_true rfl) (fun o18 => ?_)
  show nEv _ _ _ _ _ _ _ _ _ _ ((b, .inr (8, [.ref (g1 0), .ref (g2 0), .ref (g3 0), .ref o6, .int 0, .ref o10, .ref q6, .ref o14, .int 0, .ref o18, .null, .null, .null])) :: _) _
  refine c8_n100 (by omega) rfl (Nat.le_of_ble_eq_true rfl) (Nat.le_of_ble_eq_true rfl) (fun q10 => ?_)
  show nEv _ _ _ _ _ _ _ _ _ _ ((b, .inr (8, [.ref (g1 0), .ref (g2 0), .ref (g3 0), .ref o6, .int 0, .ref o10, .ref q6, .ref o14, .int 0, .ref o18, .ref q10, .null, .null])) :: _) _
  refine c8_n108 (by omega) rfl (Nat.le_of_ble_eq_true rfl) (Nat.le_of_ble_eq_true rfl) (fun o22 a22 => ?_)
  show nEv _ _ _ _ _ _ _ _ _ _ ((b, .inr (8, [.ref (g1 0), .ref (g2 0), .ref (g3 0), .ref o6, .int 0, .ref o10, .ref q6, .ref o14, .int 0, .ref o18, .ref q10, .ref o22, .null])) :: _) _
  refine c8_n119 (by omega) rfl (Nat.le_of_ble_eq_true rfl) (Nat.le_of_ble_eq_true rfl) (fun q12 => ?_)
  show nEv _ _ _ _ _ _ _ _ _ _ ((b, .inr (8, [.ref (g1 0), .ref (g2 0), .ref (g3 0), .ref o6, .int 0, .ref o10, .ref q6, .ref o14, .int 0, .ref o18, .ref q10, .ref o22, .ref q12])) :: _) _
  refine ne_iconst (v := nI 0) dX8_init_128 rfl ?_
  refine ne_istore_n (lv2 := [some (.ref b), some (.int (nI 0))]) dX8_init_129 (by decide) rfl ?_
  have q := h g1 g2 g3 (fun c => [o6, a6, o10, a10, o14, a14, o18, q10, o22, a22].getD c 0) q6 q12
  simp only [jamH, jamX, jamB, List.append_assoc, List.cons_append, List.nil_append] at q ⊢
  exact q
theorem c8_c {j a : Nat} {h1 : Nat × va_E} {fs : List Value} {L : List Nat} {S : va_W} {c0 s0 : Nat} (hd : 1 ≤ d) (hj : j = L.length) (hj6 : j < 6) (hf : fs[6]? = some (.ref a)) (hc : c0 + 2 ≤ 114) (hs : s0 + 103 ≤ 1749) (h : ∀ o a2 : Nat, nEv kX8_init (d + 1) 114 1749 y (c0 + 2) (s0 + 103) 130 [some (.ref b), some (.int (nI (j + 1)))] [] ((b, .inr (8, fs)) :: h1 :: ((a, .inl (y 5, 6, .inr (.inr (.inr (.inr (fun i => (L ++ [o])[i]?)))))) : Nat × va_E) :: (S ++ celW y o a2)) Post) : nEv kX8_init (d + 1) 114 1749 y c0 s0 130 [some (.ref b), some (.int (nI j))] [] ((b, .inr (8, fs)) :: h1 :: ((a, .inl (y 5, 6, .inr (.inr (.inr (.inr (fun i => L[i]?)))))) : Nat × va_E) :: S) Post := by
  refine ne_iload_n dX8_init_130 rfl ?_
  refine ne_bipush (v := nI 6) dX8_init_131 rfl ?_
  refine ne_icmp_ge (tgt := 155) dX8_init_133 (by decide) (fun z => absurd z ?_) (fun _ => ?_)
  · intro z2; have := nLe (a := 6) (b := j) (by omega) (by omega) z2; omega
  refine ne_aload_n dX8_init_136 rfl ?_
  refine ne_getR (q0 := 0) dX8_init_137 flX8_44 rfl hf ?_
  refine ne_iload_n dX8_init_140 rfl ?_
  refine ne_new (ci := 1) (fs := [.null, .int 0, .int 0]) tyX1 dX8_init_141 rfl inxX1 tyX1_ok (xT1 160 rfl rfl) (xT1 162 rfl rfl) iniX1 (by intro j hj; match j, hj with | 0, _ => rfl | 1, _ => rfl | 2, _ => rfl) (by omega) (by omega) (fun o => ?_)
  refine ne_dup dX8_init_144 rfl ?_
  refine ne_callN (k2 := kX1_init) (vs := []) (b := o) (own := RX8) (host := RX8) rfl dX8_init_145 okX1_init rfl rfl (fun U h => h.1.2.2.2.1) imX1_init rfl rfl (Nat.le_of_ble_eq_true rfl) (Nat.le_of_ble_eq_true rfl) (by omega) (by omega) (c_X1 (by omega) (fun a2 => ?_))
  refine ne_astm (q0 := 2) (t := 5) (ci := 1) (j := j) (L := L) (ws2 := (b, .inr (8, fs)) :: h1 :: ((a, .inl (y 5, 6, .inr (.inr (.inr (.inr (fun i => (L ++ [o])[i]?)))))) : Nat × va_E) :: (S ++ celW y o a2)) dX8_init_148 rfl rfl (List.mem_cons_of_mem _ (List.mem_cons_of_mem _ (List.mem_cons_of_mem _ (List.mem_append_right _ List.mem_cons_self)))) rfl hj hj6 (by decide) rfl ?_
  refine ne_iinc (v := nI (j + 1)) (lv2 := [some (.ref b), some (.int (nI (j + 1)))]) dX8_init_149 (by decide) rfl (nI_add j 1) rfl ?_
  refine ne_goto (tgt := 130) dX8_init_152 (by decide) ?_
  exact h o a2
theorem c8_t {j a : Nat} {h1 : Nat × va_E} {fs : List Value} {L : List Nat} {S : va_W} {c0 s0 : Nat} (hd : 1 ≤ d) (hj : j = L.length) (hj6 : j < 6) (hf : fs[12]? = some (.ref a)) (hc : c0 + 2 ≤ 114) (hs : s0 + 63 ≤ 1749) (h : ∀ o a2 : Nat, nEv kX8_init (d + 1) 114 1749 y (c0 + 2) (s0 + 63) 157 [some (.ref b), some (.int (nI (j + 1)))] [] ((b, .inr (8, fs)) :: ((a, .inl (y 7, 6, .inr (.inr (.inr (.inr (fun i => (L ++ [o])[i]?)))))) : Nat × va_E) :: h1 :: (S ++ tapW y o a2)) Post) : nEv kX8_init (d + 1) 114 1749 y c0 s0 157 [some (.ref b), some (.int (nI j))] [] ((b, .inr (8, fs)) :: ((a, .inl (y 7, 6, .inr (.inr (.inr (.inr (fun i => L[i]?)))))) : Nat × va_E) :: h1 :: S) Post := by
  refine ne_iload_n dX8_init_157 rfl ?_
  refine ne_bipush (v := nI 6) dX8_init_158 rfl ?_
  refine ne_icmp_ge (tgt := 182) dX8_init_160 (by decide) (fun z => absurd z ?_) (fun _ => ?_)
  · intro z2; have := nLe (a := 6) (b := j) (by omega) (by omega) z2; omega
  refine ne_aload_n dX8_init_163 rfl ?_
  refine ne_getR (q0 := 0) dX8_init_164 flX8_77 rfl hf ?_
  refine ne_iload_n dX8_init_167 rfl ?_
  refine ne_new (ci := 6) (fs := [.null, .int 0, .int 0]) tyX6 dX8_init_168 rfl inxX6 tyX6_ok (xT1 213 rfl rfl) (xT1 215 rfl rfl) iniX6 (by intro j hj; match j, hj with | 0, _ => rfl | 1, _ => rfl | 2, _ => rfl) (by omega) (by omega) (fun o => ?_)
  refine ne_dup dX8_init_171 rfl ?_
  refine ne_callN (k2 := kX6_init) (vs := []) (b := o) (own := RX8) (host := RX8) rfl dX8_init_172 okX6_init rfl rfl (fun U h => h.1.2.2.2.2.2.2) imX6_init rfl rfl (Nat.le_of_ble_eq_true rfl) (Nat.le_of_ble_eq_true rfl) (by omega) (by omega) (c_X6 (by omega) (fun a2 => ?_))
  refine ne_astm (q0 := 1) (t := 7) (ci := 6) (j := j) (L := L) (ws2 := (b, .inr (8, fs)) :: ((a, .inl (y 7, 6, .inr (.inr (.inr (.inr (fun i => (L ++ [o])[i]?)))))) : Nat × va_E) :: h1 :: (S ++ tapW y o a2)) dX8_init_175 rfl rfl (List.mem_cons_of_mem _ (List.mem_cons_of_mem _ (List.mem_cons_of_mem _ (List.mem_append_right _ List.mem_cons_self)))) rfl hj hj6 (by decide) rfl ?_
  refine ne_iinc (v := nI (j + 1)) (lv2 := [some (.ref b), some (.int (nI (j + 1)))]) dX8_init_176 (by decide) rfl (nI_add j 1) rfl ?_
  refine ne_goto (tgt := 157) dX8_init_179 (by decide) ?_
  exact h o a2
set_option maxHeartbeats 4000000 in
theorem c_X8 (hd : 3 ≤ d) (h : ∀ (g1 g2 g3 h k t : Nat → Nat) (ca ta : Nat), Post (jamW y b g1 g2 g3 h k t ca ta)) : nEv kX8_init d 114 1749 y 0 0 0 (xen [.ref b] 2) [] [(b, .inr (8, [.null, .null, .null, .null, .int 0, .null, .null, .null, .int 0, .null, .null, .null, .null]))] Post := by
  obtain ⟨d, rfl⟩ : ∃ e, d = e + 1 := ⟨d - 1, by omega⟩
  refine c8_A (by omega) (fun g1 g2 g3 hh ca ta => ?_)
  refine c8_c (j := 0) (by omega) rfl (by decide) rfl (Nat.le_of_ble_eq_true rfl) (Nat.le_of_ble_eq_true rfl) (fun o0 p0 => ?_)
  refine c8_c (j := 1) (by omega) rfl (by decide) rfl (Nat.le_of_ble_eq_true rfl) (Nat.le_of_ble_eq_true rfl) (fun o1 p1 => ?_)
  refine c8_c (j := 2) (by omega) rfl (by decide) rfl (Nat.le_of_ble_eq_true rfl) (Nat.le_of_ble_eq_true rfl) (fun o2 p2 => ?_)
  refine c8_c (j := 3) (by omega) rfl (by decide) rfl (Nat.le_of_ble_eq_true rfl) (Nat.le_of_ble_eq_true rfl) (fun o3 p3 => ?_)
  refine c8_c (j := 4) (by omega) rfl (by decide) rfl (Nat.le_of_ble_eq_true rfl) (Nat.le_of_ble_eq_true rfl) (fun o4 p4 => ?_)
  refine c8_c (j := 5) (by omega) rfl (by decide) rfl (Nat.le_of_ble_eq_true rfl) (Nat.le_of_ble_eq_true rfl) (fun o5 p5 => ?_)
  refine ne_iload_n dX8_init_130 rfl ?_
  refine ne_bipush (v := nI 6) dX8_init_131 rfl ?_
  refine ne_icmp_ge (tgt := 155) dX8_init_133 (by decide) (fun _ => ?_) (fun z => absurd (by decide) z)
  refine ne_iconst (v := nI 0) dX8_init_155 rfl ?_
  refine ne_istore_n (lv2 := [some (.ref b), some (.int (nI 0))]) dX8_init_156 (by decide) rfl ?_
  refine c8_t (j := 0) (by omega) rfl (by decide) rfl (Nat.le_of_ble_eq_true rfl) (Nat.le_of_ble_eq_true rfl) (fun u0 v0 => ?_)
  refine c8_t (j := 1) (by omega) rfl (by decide) rfl (Nat.le_of_ble_eq_true rfl) (Nat.le_of_ble_eq_true rfl) (fun u1 v1 => ?_)
  refine c8_t (j := 2) (by omega) rfl (by decide) rfl (Nat.le_of_ble_eq_true rfl) (Nat.le_of_ble_eq_true rfl) (fun u2 v2 => ?_)
  refine c8_t (j := 3) (by omega) rfl (by decide) rfl (Nat.le_of_ble_eq_true rfl) (Nat.le_of_ble_eq_true rfl) (fun u3 v3 => ?_)
  refine c8_t (j := 4) (by omega) rfl (by decide) rfl (Nat.le_of_ble_eq_true rfl) (Nat.le_of_ble_eq_true rfl) (fun u4 v4 => ?_)
  refine c8_t (j := 5) (by omega) rfl (by decide) rfl (Nat.le_of_ble_eq_true rfl) (Nat.le_of_ble_eq_true rfl) (fun u5 v5 => ?_)
  refine ne_iload_n dX8_init_157 rfl ?_
  refine ne_bipush (v := nI 6) dX8_init_158 rfl ?_
  refine ne_icmp_ge (tgt := 182) dX8_init_160 (by decide) (fun _ => ?_) (fun z => absurd (by decide) z)
  refine ne_retP (w2 := jamW y b g1 g2 g3 hh (fun c => [o0, p0, o1, p1, o2, p2, o3, p3, o4, p4, o5, p5].getD c 0) (fun c => [u0, v0, u1, v1, u2, v2, u3, v3, u4, v4, u5, v5].getD c 0) ca ta) dX8_init_182 rfl ?_ (Nat.le_of_ble_eq_true rfl) (Nat.le_of_ble_eq_true rfl) (h _ _ _ _ _ _ _ _)
  have q := jam_perm (jamH b g1 g2 g3 hh ca ta) (jamT y ta (fun c => [u0, v0, u1, v1, u2, v2, u3, v3, u4, v4, u5, v5].getD c 0)) (jamC y ca (fun c => [o0, p0, o1, p1, o2, p2, o3, p3, o4, p4, o5, p5].getD c 0)) (jamX y g1 g2 g3 hh) (jamB y hh) (celW y o0 p0 ++ celW y o1 p1 ++ celW y o2 p2 ++ celW y o3 p3 ++ celW y o4 p4 ++ celW y o5 p5) (tapW y u0 v0 ++ tapW y u1 v1 ++ tapW y u2 v2 ++ tapW y u3 v3 ++ tapW y u4 v4 ++ tapW y u5 v5)
  have e : (((jamX y g1 g2 g3 hh ++ jamB y hh) ++ (celW y o0 p0 ++ celW y o1 p1 ++ celW y o2 p2 ++ celW y o3 p3 ++ celW y o4 p4 ++ celW y o5 p5)) ++ (tapW y u0 v0 ++ tapW y u1 v1 ++ tapW y u2 v2 ++ tapW y u3 v3 ++ tapW y u4 v4 ++ tapW y u5 v5)) = jamX y g1 g2 g3 hh ++ jamB y hh ++ celW y o0 p0 ++ celW y o1 p1 ++ celW y o2 p2 ++ celW y o3 p3 ++ celW y o4 p4 ++ celW y o5 p5 ++ tapW y u0 v0 ++ tapW y u1 v1 ++ tapW y u2 v2 ++ tapW y u3 v3 ++ tapW y u4 v4 ++ tapW y u5 v5 := by simp only [List.append_assoc]
  rw [e] at q
  exact q
end NCON8
