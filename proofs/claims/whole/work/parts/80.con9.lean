/-! JamOathModel's constructor -/
def m0_letters : Nat → Int32 := upd (upd (upd (upd (upd (upd (fun _ => 0) 0 112) 1 107) 2 118) 3 102) 4 115) 5 97
def m0_begins : Nat → Int32 := upd (upd (upd (fun _ => 0) 0 115) 1 104) 2 107
def m0_words : Nat → Int32 := upd (upd (upd (upd (upd (upd (upd (upd (upd (upd (upd (upd (upd (upd (upd (fun _ => 0) 0 115) 1 119) 2 101) 3 101) 4 116) 5 104) 6 97) 7 122) 8 101) 9 0) 10 107) 11 101) 12 101) 13 112) 14 0
def m0_above : Nat → Int32 := upd (upd (upd (upd (upd (upd (upd (fun _ => 0) 0 (-1)) 1 0) 2 0) 3 0) 4 1) 5 2) 6 3
def m0_bodies : Nat → Int32 := upd (upd (upd (upd (upd (upd (upd (upd (upd (upd (upd (upd (upd (upd (upd (upd (upd (upd (upd (upd (upd (fun _ => 0) 0 10) 1 11) 2 12) 3 0) 4 20) 5 0) 6 30) 7 0) 8 0) 9 0) 10 0) 11 40) 12 50) 13 51) 14 0) 15 0) 16 0) 17 60) 18 71) 19 70) 20 0
def m0_sorts : Nat → Int32 := upd (upd (upd (upd (upd (upd (fun _ => 0) 0 (-1)) 1 (-1)) 2 (-1)) 3 (-1)) 4 (-1)) 5 (-1)
def modH (b : Nat) (f : Nat → Nat) : Nat × va_E := (b, .inr (9, [.ref (f 0), .ref (f 1), .ref (f 2), .int 0, .ref (f 3), .int 0, .ref (f 4), .ref (f 5), .int 0, .ref (f 6), .int 0, .int 0, .int 0, .int 0, .int 0, .int 0, .ref (f 7), .ref (f 8), .ref (f 9), .ref (f 10), .ref (f 11), .ref (f 12), .ref (f 13), .ref (f 14), .ref (f 15), .ref (f 16), .ref (f 17), .int 0, .ref (f 18), .ref (f 19), .ref (f 20), .ref (f 21)]))
def modL (y : Nat → ClassId) (f : Nat → Nat) : va_W := [(f 0, .inl (y 0, 115, .inl (fun _ => 0))), (f 1, .inl (y 0, 115, .inl (fun _ => 0))), (f 2, .inl (y 0, 115, .inl (fun _ => 0))), (f 3, .inl (y 0, 100, .inl (fun _ => 0))), (f 4, .inl (y 0, 600, .inl (fun _ => 0))), (f 5, .inl (y 0, 6, .inl (fun _ => 0))), (f 6, .inl (y 0, 100, .inl (fun _ => 0))), (f 7, .inl (y 0, 6, .inl (fun _ => 0))), (f 8, .inl (y 2, 6, .inl m0_letters)), (f 9, .inl (y 2, 3, .inl m0_begins)), (f 10, .inl (y 2, 15, .inl m0_words)), (f 11, .inl (y 0, 6, .inl (fun _ => 0))), (f 12, .inl (y 4, 256, .inl (fun _ => 0))), (f 13, .inl (y 0, 3, .inl (fun _ => 0))), (f 14, .inl (y 0, 6, .inl (fun _ => 0))), (f 15, .inl (y 0, 7, .inl m0_above)), (f 16, .inl (y 0, 21, .inl m0_bodies)), (f 17, .inl (y 0, 20, .inl (fun _ => 0))), (f 18, .inl (y 0, 6, .inl m0_sorts)), (f 19, .inl (y 0, 6, .inl (fun _ => 0))), (f 20, .inl (y 3, 360, .inr (.inl (fun _ => 0)))), (f 21, .inl (y 3, 60, .inr (.inl (fun _ => 0))))]
section NCON9
variable {y : Nat → ClassId} {b d : Nat} {Post : va_W → Prop}
theorem c9_n4 {fs : List Value} {R : va_W} {c0 s0 : Nat} (hl : fs.length = 32) (hc : c0 + 1 ≤ 22) (hs : s0 + 115 ≤ 1932) (h : ∀ a : Nat, nEv kX9_init d 22 1932 y (c0 + 1) (s0 + 115) 12 [some (.ref b)] [] ((b, .inr (9, fs.set 0 (.ref a))) :: (a, .inl (y 0, 115, .inl (fun _ => 0))) :: R) Post) : nEv kX9_init d 22 1932 y c0 s0 4 [some (.ref b)] [] ((b, .inr (9, fs)) :: R) Post := by
  refine ne_aload_n dX9_init_4 rfl ?_
  refine ne_bipush (v := nI 115) dX9_init_5 rfl ?_
  refine ne_newa_int (n := 115) dX9_init_7 (by decide) (by omega) (by omega) (fun a => ?_)
  refine ne_front0 (S := R) ?_
  refine ne_putR (q0 := 0) (ws2 := (b, .inr (9, fs.set 0 (.ref a))) :: (a, .inl (y 0, 115, .inl (fun _ => 0))) :: R) dX9_init_9 flX9_9 (fun r z => by cases z; rfl) rfl (by omega) rfl rfl rfl ?_
  exact h a
theorem c9_n12 {fs : List Value} {R : va_W} {c0 s0 : Nat} (hl : fs.length = 32) (hc : c0 + 1 ≤ 22) (hs : s0 + 115 ≤ 1932) (h : ∀ a : Nat, nEv kX9_init d 22 1932 y (c0 + 1) (s0 + 115) 20 [some (.ref b)] [] ((b, .inr (9, fs.set 1 (.ref a))) :: (a, .inl (y 0, 115, .inl (fun _ => 0))) :: R) Post) : nEv kX9_init d 22 1932 y c0 s0 12 [some (.ref b)] [] ((b, .inr (9, fs)) :: R) Post := by
  refine ne_aload_n dX9_init_12 rfl ?_
  refine ne_bipush (v := nI 115) dX9_init_13 rfl ?_
  refine ne_newa_int (n := 115) dX9_init_15 (by decide) (by omega) (by omega) (fun a => ?_)
  refine ne_front0 (S := R) ?_
  refine ne_putR (q0 := 0) (ws2 := (b, .inr (9, fs.set 1 (.ref a))) :: (a, .inl (y 0, 115, .inl (fun _ => 0))) :: R) dX9_init_17 flX9_15 (fun r z => by cases z; rfl) rfl (by omega) rfl rfl rfl ?_
  exact h a
theorem c9_n20 {fs : List Value} {R : va_W} {c0 s0 : Nat} (hl : fs.length = 32) (hc : c0 + 1 ≤ 22) (hs : s0 + 115 ≤ 1932) (h : ∀ a : Nat, nEv kX9_init d 22 1932 y (c0 + 1) (s0 + 115) 28 [some (.ref b)] [] ((b, .inr (9, fs.set 2 (.ref a))) :: (a, .inl (y 0, 115, .inl (fun _ => 0))) :: R) Post) : nEv kX9_init d 22 1932 y c0 s0 20 [some (.ref b)] [] ((b, .inr (9, fs)) :: R) Post := by
  refine ne_aload_n dX9_init_20 rfl ?_
  refine ne_bipush (v := nI 115) dX9_init_21 rfl ?_
  refine ne_newa_int (n := 115) dX9_init_23 (by decide) (by omega) (by omega) (fun a => ?_)
  refine ne_front0 (S := R) ?_
  refine ne_putR (q0 := 0) (ws2 := (b, .inr (9, fs.set 2 (.ref a))) :: (a, .inl (y 0, 115, .inl (fun _ => 0))) :: R) dX9_init_25 flX9_18 (fun r z => by cases z; rfl) rfl (by omega) rfl rfl rfl ?_
  exact h a
theorem c9_n28 {fs : List Value} {R : va_W} {c0 s0 : Nat} (hl : fs.length = 32) (hc : c0 + 1 ≤ 22) (hs : s0 + 100 ≤ 1932) (h : ∀ a : Nat, nEv kX9_init d 22 1932 y (c0 + 1) (s0 + 100) 36 [some (.ref b)] [] ((b, .inr (9, fs.set 4 (.ref a))) :: (a, .inl (y 0, 100, .inl (fun _ => 0))) :: R) Post) : nEv kX9_init d 22 1932 y c0 s0 28 [some (.ref b)] [] ((b, .inr (9, fs)) :: R) Post := by
  refine ne_aload_n dX9_init_28 rfl ?_
  refine ne_bipush (v := nI 100) dX9_init_29 rfl ?_
  refine ne_newa_int (n := 100) dX9_init_31 (by decide) (by omega) (by omega) (fun a => ?_)
  refine ne_front0 (S := R) ?_
  refine ne_putR (q0 := 0) (ws2 := (b, .inr (9, fs.set 4 (.ref a))) :: (a, .inl (y 0, 100, .inl (fun _ => 0))) :: R) dX9_init_33 flX9_21 (fun r z => by cases z; rfl) rfl (by omega) rfl rfl rfl ?_
  exact h a
theorem c9_n36 {fs : List Value} {R : va_W} {c0 s0 : Nat} (hl : fs.length = 32) (hc : c0 + 1 ≤ 22) (hs : s0 + 600 ≤ 1932) (h : ∀ a : Nat, nEv kX9_init d 22 1932 y (c0 + 1) (s0 + 600) 45 [some (.ref b)] [] ((b, .inr (9, fs.set 6 (.ref a))) :: (a, .inl (y 0, 600, .inl (fun _ => 0))) :: R) Post) : nEv kX9_init d 22 1932 y c0 s0 36 [some (.ref b)] [] ((b, .inr (9, fs)) :: R) Post := by
  refine ne_aload_n dX9_init_36 rfl ?_
  refine ne_sipush (v := nI 600) dX9_init_37 rfl ?_
  refine ne_newa_int (n := 600) dX9_init_40 (by decide) (by omega) (by omega) (fun a => ?_)
  refine ne_front0 (S := R) ?_
  refine ne_putR (q0 := 0) (ws2 := (b, .inr (9, fs.set 6 (.ref a))) :: (a, .inl (y 0, 600, .inl (fun _ => 0))) :: R) dX9_init_42 flX9_24 (fun r z => by cases z; rfl) rfl (by omega) rfl rfl rfl ?_
  exact h a
theorem c9_n45 {fs : List Value} {R : va_W} {c0 s0 : Nat} (hl : fs.length = 32) (hc : c0 + 1 ≤ 22) (hs : s0 + 6 ≤ 1932) (h : ∀ a : Nat, nEv kX9_init d 22 1932 y (c0 + 1) (s0 + 6) 53 [some (.ref b)] [] ((b, .inr (9, fs.set 7 (.ref a))) :: (a, .inl (y 0, 6, .inl (fun _ => 0))) :: R) Post) : nEv kX9_init d 22 1932 y c0 s0 45 [some (.ref b)] [] ((b, .inr (9, fs)) :: R) Post := by
  refine ne_aload_n dX9_init_45 rfl ?_
  refine ne_bipush (v := nI 6) dX9_init_46 rfl ?_
  refine ne_newa_int (n := 6) dX9_init_48 (by decide) (by omega) (by omega) (fun a => ?_)
  refine ne_front0 (S := R) ?_
  refine ne_putR (q0 := 0) (ws2 := (b, .inr (9, fs.set 7 (.ref a))) :: (a, .inl (y 0, 6, .inl (fun _ => 0))) :: R) dX9_init_50 flX9_27 (fun r z => by cases z; rfl) rfl (by omega) rfl rfl rfl ?_
  exact h a
theorem c9_n53 {fs : List Value} {R : va_W} {c0 s0 : Nat} (hl : fs.length = 32) (hc : c0 + 1 ≤ 22) (hs : s0 + 100 ≤ 1932) (h : ∀ a : Nat, nEv kX9_init d 22 1932 y (c0 + 1) (s0 + 100) 61 [some (.ref b)] [] ((b, .inr (9, fs.set 9 (.ref a))) :: (a, .inl (y 0, 100, .inl (fun _ => 0))) :: R) Post) : nEv kX9_init d 22 1932 y c0 s0 53 [some (.ref b)] [] ((b, .inr (9, fs)) :: R) Post := by
  refine ne_aload_n dX9_init_53 rfl ?_
  refine ne_bipush (v := nI 100) dX9_init_54 rfl ?_
  refine ne_newa_int (n := 100) dX9_init_56 (by decide) (by omega) (by omega) (fun a => ?_)
  refine ne_front0 (S := R) ?_
  refine ne_putR (q0 := 0) (ws2 := (b, .inr (9, fs.set 9 (.ref a))) :: (a, .inl (y 0, 100, .inl (fun _ => 0))) :: R) dX9_init_58 flX9_30 (fun r z => by cases z; rfl) rfl (by omega) rfl rfl rfl ?_
  exact h a
theorem c9_n61 {fs : List Value} {R : va_W} {c0 s0 : Nat} (hl : fs.length = 32) (hc : c0 + 1 ≤ 22) (hs : s0 + 6 ≤ 1932) (h : ∀ a : Nat, nEv kX9_init d 22 1932 y (c0 + 1) (s0 + 6) 69 [some (.ref b)] [] ((b, .inr (9, fs.set 16 (.ref a))) :: (a, .inl (y 0, 6, .inl (fun _ => 0))) :: R) Post) : nEv kX9_init d 22 1932 y c0 s0 61 [some (.ref b)] [] ((b, .inr (9, fs)) :: R) Post := by
  refine ne_aload_n dX9_init_61 rfl ?_
  refine ne_bipush (v := nI 6) dX9_init_62 rfl ?_
  refine ne_newa_int (n := 6) dX9_init_64 (by decide) (by omega) (by omega) (fun a => ?_)
  refine ne_front0 (S := R) ?_
  refine ne_putR (q0 := 0) (ws2 := (b, .inr (9, fs.set 16 (.ref a))) :: (a, .inl (y 0, 6, .inl (fun _ => 0))) :: R) dX9_init_66 flX9_33 (fun r z => by cases z; rfl) rfl (by omega) rfl rfl rfl ?_
  exact h a
theorem c9_n69 {fs : List Value} {R : va_W} {c0 s0 : Nat} (hl : fs.length = 32) (hc : c0 + 1 ≤ 22) (hs : s0 + 6 ≤ 1932) (h : ∀ a : Nat, nEv kX9_init d 22 1932 y (c0 + 1) (s0 + 6) 107 [some (.ref b)] [] ((b, .inr (9, fs.set 17 (.ref a))) :: (a, .inl (y 2, 6, .inl m0_letters)) :: R) Post) : nEv kX9_init d 22 1932 y c0 s0 69 [some (.ref b)] [] ((b, .inr (9, fs)) :: R) Post := by
  refine ne_aload_n dX9_init_69 rfl ?_
  refine ne_bipush (v := nI 6) dX9_init_70 rfl ?_
  refine ne_newa_char (n := 6) dX9_init_72 (by decide) (by omega) (by omega) (fun a => ?_)
  refine ne_front0 (S := R) ?_
  refine ne_dup dX9_init_74 rfl ?_
  refine ne_iconst (v := nI 0) dX9_init_75 rfl ?_
  refine ne_bipush (v := 112) dX9_init_76 rfl ?_
  refine ne_cast (q0 := 1) (j := 0) (x2 := 112) (ws2 := (b, .inr (9, fs)) :: (a, .inl (y 2, 6, .inl (upd (fun _ => 0) 0 112))) :: R) dX9_init_78 rfl (by decide) (by decide) (by decide) rfl ?_
  refine ne_dup dX9_init_79 rfl ?_
  refine ne_iconst (v := nI 1) dX9_init_80 rfl ?_
  refine ne_bipush (v := 107) dX9_init_81 rfl ?_
  refine ne_cast (q0 := 1) (j := 1) (x2 := 107) (ws2 := (b, .inr (9, fs)) :: (a, .inl (y 2, 6, .inl (upd (upd (fun _ => 0) 0 112) 1 107))) :: R) dX9_init_83 rfl (by decide) (by decide) (by decide) rfl ?_
  refine ne_dup dX9_init_84 rfl ?_
  refine ne_iconst (v := nI 2) dX9_init_85 rfl ?_
  refine ne_bipush (v := 118) dX9_init_86 rfl ?_
  refine ne_cast (q0 := 1) (j := 2) (x2 := 118) (ws2 := (b, .inr (9, fs)) :: (a, .inl (y 2, 6, .inl (upd (upd (upd (fun _ => 0) 0 112) 1 107) 2 118))) :: R) dX9_init_88 rfl (by decide) (by decide) (by decide) rfl ?_
  refine ne_dup dX9_init_89 rfl ?_
  refine ne_iconst (v := nI 3) dX9_init_90 rfl ?_
  refine ne_bipush (v := 102) dX9_init_91 rfl ?_
  refine ne_cast (q0 := 1) (j := 3) (x2 := 102) (ws2 := (b, .inr (9, fs)) :: (a, .inl (y 2, 6, .inl (upd (upd (upd (upd (fun _ => 0) 0 112) 1 107) 2 118) 3 102))) :: R) dX9_init_93 rfl (by decide) (by decide) (by decide) rfl ?_
  refine ne_dup dX9_init_94 rfl ?_
  refine ne_iconst (v := nI 4) dX9_init_95 rfl ?_
  refine ne_bipush (v := 115) dX9_init_96 rfl ?_
  refine ne_cast (q0 := 1) (j := 4) (x2 := 115) (ws2 := (b, .inr (9, fs)) :: (a, .inl (y 2, 6, .inl (upd (upd (upd (upd (upd (fun _ => 0) 0 112) 1 107) 2 118) 3 102) 4 115))) :: R) dX9_init_98 rfl (by decide) (by decide) (by decide) rfl ?_
  refine ne_dup dX9_init_99 rfl ?_
  refine ne_iconst (v := nI 5) dX9_init_100 rfl ?_
  refine ne_bipush (v := 97) dX9_init_101 rfl ?_
  refine ne_cast (q0 := 1) (j := 5) (x2 := 97) (ws2 := (b, .inr (9, fs)) :: (a, .inl (y 2, 6, .inl (upd (upd (upd (upd (upd (upd (fun _ => 0) 0 112) 1 107) 2 118) 3 102) 4 115) 5 97))) :: R) dX9_init_103 rfl (by decide) (by decide) (by decide) rfl ?_
  refine ne_putR (q0 := 0) (ws2 := (b, .inr (9, fs.set 17 (.ref a))) :: (a, .inl (y 2, 6, .inl m0_letters)) :: R) dX9_init_104 flX9_36 (fun r z => by cases z; rfl) rfl (by omega) rfl rfl rfl ?_
  exact h a
theorem c9_n107 {fs : List Value} {R : va_W} {c0 s0 : Nat} (hl : fs.length = 32) (hc : c0 + 1 ≤ 22) (hs : s0 + 3 ≤ 1932) (h : ∀ a : Nat, nEv kX9_init d 22 1932 y (c0 + 1) (s0 + 3) 129 [some (.ref b)] [] ((b, .inr (9, fs.set 18 (.ref a))) :: (a, .inl (y 2, 3, .inl m0_begins)) :: R) Post) : nEv kX9_init d 22 1932 y c0 s0 107 [some (.ref b)] [] ((b, .inr (9, fs)) :: R) Post := by
  refine ne_aload_n dX9_init_107 rfl ?_
  refine ne_iconst (v := nI 3) dX9_init_108 rfl ?_
  refine ne_newa_char (n := 3) dX9_init_109 (by decide) (by omega) (by omega) (fun a => ?_)
  refine ne_front0 (S := R) ?_
  refine ne_dup dX9_init_111 rfl ?_
  refine ne_iconst (v := nI 0) dX9_init_112 rfl ?_
  refine ne_bipush (v := 115) dX9_init_113 rfl ?_
  refine ne_cast (q0 := 1) (j := 0) (x2 := 115) (ws2 := (b, .inr (9, fs)) :: (a, .inl (y 2, 3, .inl (upd (fun _ => 0) 0 115))) :: R) dX9_init_115 rfl (by decide) (by decide) (by decide) rfl ?_
  refine ne_dup dX9_init_116 rfl ?_
  refine ne_iconst (v := nI 1) dX9_init_117 rfl ?_
  refine ne_bipush (v := 104) dX9_init_118 rfl ?_
  refine ne_cast (q0 := 1) (j := 1) (x2 := 104) (ws2 := (b, .inr (9, fs)) :: (a, .inl (y 2, 3, .inl (upd (upd (fun _ => 0) 0 115) 1 104))) :: R) dX9_init_120 rfl (by decide) (by decide) (by decide) rfl ?_
  refine ne_dup dX9_init_121 rfl ?_
  refine ne_iconst (v := nI 2) dX9_init_122 rfl ?_
  refine ne_bipush (v := 107) dX9_init_123 rfl ?_
  refine ne_cast (q0 := 1) (j := 2) (x2 := 107) (ws2 := (b, .inr (9, fs)) :: (a, .inl (y 2, 3, .inl (upd (upd (upd (fun _ => 0) 0 115) 1 104) 2 107))) :: R) dX9_init_125 rfl (by decide) (by decide) (by decide) rfl ?_
  refine ne_putR (q0 := 0) (ws2 := (b, .inr (9, fs.set 18 (.ref a))) :: (a, .inl (y 2, 3, .inl m0_begins)) :: R) dX9_init_126 flX9_40 (fun r z => by cases z; rfl) rfl (by omega) rfl rfl rfl ?_
  exact h a
theorem c9_n129 {fs : List Value} {R : va_W} {c0 s0 : Nat} (hl : fs.length = 32) (hc : c0 + 1 ≤ 22) (hs : s0 + 15 ≤ 1932) (h : ∀ a : Nat, nEv kX9_init d 22 1932 y (c0 + 1) (s0 + 15) 219 [some (.ref b)] [] ((b, .inr (9, fs.set 19 (.ref a))) :: (a, .inl (y 2, 15, .inl m0_words)) :: R) Post) : nEv kX9_init d 22 1932 y c0 s0 129 [some (.ref b)] [] ((b, .inr (9, fs)) :: R) Post := by
  refine ne_aload_n dX9_init_129 rfl ?_
  refine ne_bipush (v := nI 15) dX9_init_130 rfl ?_
  refine ne_newa_char (n := 15) dX9_init_132 (by decide) (by omega) (by omega) (fun a => ?_)
  refine ne_front0 (S := R) ?_
  refine ne_dup dX9_init_134 rfl ?_
  refine ne_iconst (v := nI 0) dX9_init_135 rfl ?_
  refine ne_bipush (v := 115) dX9_init_136 rfl ?_
  refine ne_cast (q0 := 1) (j := 0) (x2 := 115) (ws2 := (b, .inr (9, fs)) :: (a, .inl (y 2, 15, .inl (upd (fun _ => 0) 0 115))) :: R) dX9_init_138 rfl (by decide) (by decide) (by decide) rfl ?_
  refine ne_dup dX9_init_139 rfl ?_
  refine ne_iconst (v := nI 1) dX9_init_140 rfl ?_
  refine ne_bipush (v := 119) dX9_init_141 rfl ?_
  refine ne_cast (q0 := 1) (j := 1) (x2 := 119) (ws2 := (b, .inr (9, fs)) :: (a, .inl (y 2, 15, .inl (upd (upd (fun _ => 0) 0 115) 1 119))) :: R) dX9_init_143 rfl (by decide) (by decide) (by decide) rfl ?_
  refine ne_dup dX9_init_144 rfl ?_
  refine ne_iconst (v := nI 2) dX9_init_145 rfl ?_
  refine ne_bipush (v := 101) dX9_init_146 rfl ?_
  refine ne_cast (q0 := 1) (j := 2) (x2 := 101) (ws2 := (b, .inr (9, fs)) :: (a, .inl (y 2, 15, .inl (upd (upd (upd (fun _ => 0) 0 115) 1 119) 2 101))) :: R) dX9_init_148 rfl (by decide) (by decide) (by decide) rfl ?_
  refine ne_dup dX9_init_149 rfl ?_
  refine ne_iconst (v := nI 3) dX9_init_150 rfl ?_
  refine ne_bipush (v := 101) dX9_init_151 rfl ?_
  refine ne_cast (q0 := 1) (j := 3) (x2 := 101) (ws2 := (b, .inr (9, fs)) :: (a, .inl (y 2, 15, .inl (upd (upd (upd (upd (fun _ => 0) 0 115) 1 119) 2 101) 3 101))) :: R) dX9_init_153 rfl (by decide) (by decide) (by decide) rfl ?_
  refine ne_dup dX9_init_154 rfl ?_
  refine ne_iconst (v := nI 4) dX9_init_155 rfl ?_
  refine ne_bipush (v := 116) dX9_init_156 rfl ?_
  refine ne_cast (q0 := 1) (j := 4) (x2 := 116) (ws2 := (b, .inr (9, fs)) :: (a, .inl (y 2, 15, .inl (upd (upd (upd (upd (upd (fun _ => 0) 0 115) 1 119) 2 101) 3 101) 4 116))) :: R) dX9_init_158 rfl (by decide) (by decide) (by decide) rfl ?_
  refine ne_dup dX9_init_159 rfl ?_
  refine ne_iconst (v := nI 5) dX9_init_160 rfl ?_
  refine ne_bipush (v := 104) dX9_init_161 rfl ?_
  refine ne_cast (q0 := 1) (j := 5) (x2 := 104) (ws2 := (b, .inr (9, fs)) :: (a, .inl (y 2, 15, .inl (upd (upd (upd (upd (upd (upd (fun _ => 0) 0 115) 1 119) 2 101) 3 101) 4 116) 5 104))) :: R) dX9_init_163 rfl (by decide) (by decide) (by decide) rfl ?_
  refine ne_dup dX9_init_164 rfl ?_
  refine ne_bipush (v := nI 6) dX9_init_165 rfl ?_
  refine ne_bipush (v := 97) dX9_init_167 rfl ?_
  refine ne_cast (q0 := 1) (j := 6) (x2 := 97) (ws2 := (b, .inr (9, fs)) :: (a, .inl (y 2, 15, .inl (upd (upd (upd (upd (upd (upd (upd (fun _ => 0) 0 115) 1 119) 2 101) 3 101) 4 116) 5 104) 6 97))) :: R) dX9_init_169 rfl (by decide) (by decide) (by decide) rfl ?_
  refine ne_dup dX9_init_170 rfl ?_
  refine ne_bipush (v := nI 7) dX9_init_171 rfl ?_
  refine ne_bipush (v := 122) dX9_init_173 rfl ?_
  refine ne_cast (q0 := 1) (j := 7) (x2 := 122) (ws2 := (b, .inr (9, fs)) :: (a, .inl (y 2, 15, .inl (upd (upd (upd (upd (upd (upd (upd (upd (fun _ => 0) 0 115) 1 119) 2 101) 3 101) 4 116) 5 104) 6 97) 7 122))) :: R) dX9_init_175 rfl (by decide) (by decide) (by decide) rfl ?_
  refine ne_dup dX9_init_176 rfl ?_
  refine ne_bipush (v := nI 8) dX9_init_177 rfl ?_
  refine ne_bipush (v := 101) dX9_init_179 rfl ?_
  refine ne_cast (q0 := 1) (j := 8) (x2 := 101) (ws2 := (b, .inr (9, fs)) :: (a, .inl (y 2, 15, .inl (upd (upd (upd (upd (upd (upd (upd (upd (upd (fun _ => 0) 0 115) 1 119) 2 101) 3 101) 4 116) 5 104) 6 97) 7 122) 8 101))) :: R) dX9_init_181 rfl (by decide) (by decide) (by decide) rfl ?_
  refine ne_dup dX9_init_182 rfl ?_
  refine ne_bipush (v := nI 9) dX9_init_183 rfl ?_
  refine ne_iconst (v := 0) dX9_init_185 rfl ?_
  refine ne_cast (q0 := 1) (j := 9) (x2 := 0) (ws2 := (b, .inr (9, fs)) :: (a, .inl (y 2, 15, .inl (upd (upd (upd (upd (upd (upd (upd (upd (upd (upd (fun _ => 0) 0 115) 1 119) 2 101) 3 101) 4 116) 5 104) 6 97) 7 122) 8 101) 9 0))) :: R) dX9_init_186 rfl (by decide) (by decide) (by decide) rfl ?_
  refine ne_dup dX9_init_187 rfl ?_
  refine ne_bipush (v := nI 10) dX9_init_188 rfl ?_
  refine ne_bipush (v := 107) dX9_init_190 rfl ?_
  refine ne_cast (q0 := 1) (j := 10) (x2 := 107) (ws2 := (b, .inr (9, fs)) :: (a, .inl (y 2, 15, .inl (upd (upd (upd (upd (upd (upd (upd (upd (upd (upd (upd (fun _ => 0) 0 115) 1 119) 2 101) 3 101) 4 116) 5 104) 6 97) 7 122) 8 101) 9 0) 10 107))) :: R) dX9_init_192 rfl (by decide) (by decide) (by decide) rfl ?_
  refine ne_dup dX9_init_193 rfl ?_
  refine ne_bipush (v := nI 11) dX9_init_194 rfl ?_
  refine ne_bipush (v := 101) dX9_init_196 rfl ?_
  refine ne_cast (q0 := 1) (j := 11) (x2 := 101) (ws2 := (b, .inr (9, fs)) :: (a, .inl (y 2, 15, .inl (upd (upd (upd (upd (upd (upd (upd (upd (upd (upd (upd (upd (fun _ => 0) 0 115) 1 119) 2 101) 3 101) 4 116) 5 104) 6 97) 7 122) 8 101) 9 0) 10 107) 11 101))) :: R) dX9_init_198 rfl (by decide) (by decide) (by decide) rfl ?_
  refine ne_dup dX9_init_199 rfl ?_
  refine ne_bipush (v := nI 12) dX9_init_200 rfl ?_
  refine ne_bipush (v := 101) dX9_init_202 rfl ?_
  refine ne_cast (q0 := 1) (j := 12) (x2 := 101) (ws2 := (b, .inr (9, fs)) :: (a, .inl (y 2, 15, .inl (upd (upd (upd (upd (upd (upd (upd (upd (upd (upd (upd (upd (upd (fun _ => 0) 0 115) 1 119) 2 101) 3 101) 4 116) 5 104) 6 97) 7 122) 8 101) 9 0) 10 107) 11 101) 12 101))) :: R) dX9_init_204 rfl (by decide) (by decide) (by decide) rfl ?_
  refine ne_dup dX9_init_205 rfl ?_
  refine ne_bipush (v := nI 13) dX9_init_206 rfl ?_
  refine ne_bipush (v := 112) dX9_init_208 rfl ?_
  refine ne_cast (q0 := 1) (j := 13) (x2 := 112) (ws2 := (b, .inr (9, fs)) :: (a, .inl (y 2, 15, .inl (upd (upd (upd (upd (upd (upd (upd (upd (upd (upd (upd (upd (upd (upd (fun _ => 0) 0 115) 1 119) 2 101) 3 101) 4 116) 5 104) 6 97) 7 122) 8 101) 9 0) 10 107) 11 101) 12 101) 13 112))) :: R) dX9_init_210 rfl (by decide) (by decide) (by decide) rfl ?_
  refine ne_dup dX9_init_211 rfl ?_
  refine ne_bipush (v := nI 14) dX9_init_212 rfl ?_
  refine ne_iconst (v := 0) dX9_init_214 rfl ?_
  refine ne_cast (q0 := 1) (j := 14) (x2 := 0) (ws2 := (b, .inr (9, fs)) :: (a, .inl (y 2, 15, .inl (upd (upd (upd (upd (upd (upd (upd (upd (upd (upd (upd (upd (upd (upd (upd (fun _ => 0) 0 115) 1 119) 2 101) 3 101) 4 116) 5 104) 6 97) 7 122) 8 101) 9 0) 10 107) 11 101) 12 101) 13 112) 14 0))) :: R) dX9_init_215 rfl (by decide) (by decide) (by decide) rfl ?_
  refine ne_putR (q0 := 0) (ws2 := (b, .inr (9, fs.set 19 (.ref a))) :: (a, .inl (y 2, 15, .inl m0_words)) :: R) dX9_init_216 flX9_43 (fun r z => by cases z; rfl) rfl (by omega) rfl rfl rfl ?_
  exact h a
theorem c9_n219 {fs : List Value} {R : va_W} {c0 s0 : Nat} (hl : fs.length = 32) (hc : c0 + 1 ≤ 22) (hs : s0 + 6 ≤ 1932) (h : ∀ a : Nat, nEv kX9_init d 22 1932 y (c0 + 1) (s0 + 6) 227 [some (.ref b)] [] ((b, .inr (9, fs.set 20 (.ref a))) :: (a, .inl (y 0, 6, .inl (fun _ => 0))) :: R) Post) : nEv kX9_init d 22 1932 y c0 s0 219 [some (.ref b)] [] ((b, .inr (9, fs)) :: R) Post := by
  refine ne_aload_n dX9_init_219 rfl ?_
  refine ne_bipush (v := nI 6) dX9_init_220 rfl ?_
  refine ne_newa_int (n := 6) dX9_init_222 (by decide) (by omega) (by omega) (fun a => ?_)
  refine ne_front0 (S := R) ?_
  refine ne_putR (q0 := 0) (ws2 := (b, .inr (9, fs.set 20 (.ref a))) :: (a, .inl (y 0, 6, .inl (fun _ => 0))) :: R) dX9_init_224 flX9_46 (fun r z => by cases z; rfl) rfl (by omega) rfl rfl rfl ?_
  exact h a
theorem c9_n227 {fs : List Value} {R : va_W} {c0 s0 : Nat} (hl : fs.length = 32) (hc : c0 + 1 ≤ 22) (hs : s0 + 256 ≤ 1932) (h : ∀ a : Nat, nEv kX9_init d 22 1932 y (c0 + 1) (s0 + 256) 236 [some (.ref b)] [] ((b, .inr (9, fs.set 21 (.ref a))) :: (a, .inl (y 4, 256, .inl (fun _ => 0))) :: R) Post) : nEv kX9_init d 22 1932 y c0 s0 227 [some (.ref b)] [] ((b, .inr (9, fs)) :: R) Post := by
  refine ne_aload_n dX9_init_227 rfl ?_
  refine ne_sipush (v := nI 256) dX9_init_228 rfl ?_
  refine ne_newa_boolean (n := 256) dX9_init_231 (by decide) (by omega) (by omega) (fun a => ?_)
  refine ne_front0 (S := R) ?_
  refine ne_putR (q0 := 0) (ws2 := (b, .inr (9, fs.set 21 (.ref a))) :: (a, .inl (y 4, 256, .inl (fun _ => 0))) :: R) dX9_init_233 flX9_49 (fun r z => by cases z; rfl) rfl (by omega) rfl rfl rfl ?_
  exact h a
theorem c9_n236 {fs : List Value} {R : va_W} {c0 s0 : Nat} (hl : fs.length = 32) (hc : c0 + 1 ≤ 22) (hs : s0 + 3 ≤ 1932) (h : ∀ a : Nat, nEv kX9_init d 22 1932 y (c0 + 1) (s0 + 3) 243 [some (.ref b)] [] ((b, .inr (9, fs.set 22 (.ref a))) :: (a, .inl (y 0, 3, .inl (fun _ => 0))) :: R) Post) : nEv kX9_init d 22 1932 y c0 s0 236 [some (.ref b)] [] ((b, .inr (9, fs)) :: R) Post := by
  refine ne_aload_n dX9_init_236 rfl ?_
  refine ne_iconst (v := nI 3) dX9_init_237 rfl ?_
  refine ne_newa_int (n := 3) dX9_init_238 (by decide) (by omega) (by omega) (fun a => ?_)
  refine ne_front0 (S := R) ?_
  refine ne_putR (q0 := 0) (ws2 := (b, .inr (9, fs.set 22 (.ref a))) :: (a, .inl (y 0, 3, .inl (fun _ => 0))) :: R) dX9_init_240 flX9_53 (fun r z => by cases z; rfl) rfl (by omega) rfl rfl rfl ?_
  exact h a
theorem c9_n243 {fs : List Value} {R : va_W} {c0 s0 : Nat} (hl : fs.length = 32) (hc : c0 + 1 ≤ 22) (hs : s0 + 6 ≤ 1932) (h : ∀ a : Nat, nEv kX9_init d 22 1932 y (c0 + 1) (s0 + 6) 251 [some (.ref b)] [] ((b, .inr (9, fs.set 23 (.ref a))) :: (a, .inl (y 0, 6, .inl (fun _ => 0))) :: R) Post) : nEv kX9_init d 22 1932 y c0 s0 243 [some (.ref b)] [] ((b, .inr (9, fs)) :: R) Post := by
  refine ne_aload_n dX9_init_243 rfl ?_
  refine ne_bipush (v := nI 6) dX9_init_244 rfl ?_
  refine ne_newa_int (n := 6) dX9_init_246 (by decide) (by omega) (by omega) (fun a => ?_)
  refine ne_front0 (S := R) ?_
  refine ne_putR (q0 := 0) (ws2 := (b, .inr (9, fs.set 23 (.ref a))) :: (a, .inl (y 0, 6, .inl (fun _ => 0))) :: R) dX9_init_248 flX9_56 (fun r z => by cases z; rfl) rfl (by omega) rfl rfl rfl ?_
  exact h a
theorem c9_n251 {fs : List Value} {R : va_W} {c0 s0 : Nat} (hl : fs.length = 32) (hc : c0 + 1 ≤ 22) (hs : s0 + 7 ≤ 1932) (h : ∀ a : Nat, nEv kX9_init d 22 1932 y (c0 + 1) (s0 + 7) 288 [some (.ref b)] [] ((b, .inr (9, fs.set 24 (.ref a))) :: (a, .inl (y 0, 7, .inl m0_above)) :: R) Post) : nEv kX9_init d 22 1932 y c0 s0 251 [some (.ref b)] [] ((b, .inr (9, fs)) :: R) Post := by
  refine ne_aload_n dX9_init_251 rfl ?_
  refine ne_bipush (v := nI 7) dX9_init_252 rfl ?_
  refine ne_newa_int (n := 7) dX9_init_254 (by decide) (by omega) (by omega) (fun a => ?_)
  refine ne_front0 (S := R) ?_
  refine ne_dup dX9_init_256 rfl ?_
  refine ne_iconst (v := nI 0) dX9_init_257 rfl ?_
  refine ne_iconst (v := (-1)) dX9_init_258 rfl ?_
  refine ne_iast (q0 := 1) (j := 0) (ws2 := (b, .inr (9, fs)) :: (a, .inl (y 0, 7, .inl (upd (fun _ => 0) 0 (-1)))) :: R) dX9_init_259 rfl (by decide) (by decide) rfl ?_
  refine ne_dup dX9_init_260 rfl ?_
  refine ne_iconst (v := nI 1) dX9_init_261 rfl ?_
  refine ne_iconst (v := 0) dX9_init_262 rfl ?_
  refine ne_iast (q0 := 1) (j := 1) (ws2 := (b, .inr (9, fs)) :: (a, .inl (y 0, 7, .inl (upd (upd (fun _ => 0) 0 (-1)) 1 0))) :: R) dX9_init_263 rfl (by decide) (by decide) rfl ?_
  refine ne_dup dX9_init_264 rfl ?_
  refine ne_iconst (v := nI 2) dX9_init_265 rfl ?_
  refine ne_iconst (v := 0) dX9_init_266 rfl ?_
  refine ne_iast (q0 := 1) (j := 2) (ws2 := (b, .inr (9, fs)) :: (a, .inl (y 0, 7, .inl (upd (upd (upd (fun _ => 0) 0 (-1)) 1 0) 2 0))) :: R) dX9_init_267 rfl (by decide) (by decide) rfl ?_
  refine ne_dup dX9_init_268 rfl ?_
  refine ne_iconst (v := nI 3) dX9_init_269 rfl ?_
  refine ne_iconst (v := 0) dX9_init_270 rfl ?_
  refine ne_iast (q0 := 1) (j := 3) (ws2 := (b, .inr (9, fs)) :: (a, .inl (y 0, 7, .inl (upd (upd (upd (upd (fun _ => 0) 0 (-1)) 1 0) 2 0) 3 0))) :: R) dX9_init_271 rfl (by decide) (by decide) rfl ?_
  refine ne_dup dX9_init_272 rfl ?_
  refine ne_iconst (v := nI 4) dX9_init_273 rfl ?_
  refine ne_iconst (v := 1) dX9_init_274 rfl ?_
  refine ne_iast (q0 := 1) (j := 4) (ws2 := (b, .inr (9, fs)) :: (a, .inl (y 0, 7, .inl (upd (upd (upd (upd (upd (fun _ => 0) 0 (-1)) 1 0) 2 0) 3 0) 4 1))) :: R) dX9_init_275 rfl (by decide) (by decide) rfl ?_
  refine ne_dup dX9_init_276 rfl ?_
  refine ne_iconst (v := nI 5) dX9_init_277 rfl ?_
  refine ne_iconst (v := 2) dX9_init_278 rfl ?_
  refine ne_iast (q0 := 1) (j := 5) (ws2 := (b, .inr (9, fs)) :: (a, .inl (y 0, 7, .inl (upd (upd (upd (upd (upd (upd (fun _ => 0) 0 (-1)) 1 0) 2 0) 3 0) 4 1) 5 2))) :: R) dX9_init_279 rfl (by decide) (by decide) rfl ?_
  refine ne_dup dX9_init_280 rfl ?_
  refine ne_bipush (v := nI 6) dX9_init_281 rfl ?_
  refine ne_iconst (v := 3) dX9_init_283 rfl ?_
  refine ne_iast (q0 := 1) (j := 6) (ws2 := (b, .inr (9, fs)) :: (a, .inl (y 0, 7, .inl (upd (upd (upd (upd (upd (upd (upd (fun _ => 0) 0 (-1)) 1 0) 2 0) 3 0) 4 1) 5 2) 6 3))) :: R) dX9_init_284 rfl (by decide) (by decide) rfl ?_
  refine ne_putR (q0 := 0) (ws2 := (b, .inr (9, fs.set 24 (.ref a))) :: (a, .inl (y 0, 7, .inl m0_above)) :: R) dX9_init_285 flX9_59 (fun r z => by cases z; rfl) rfl (by omega) rfl rfl rfl ?_
  exact h a
theorem c9_n288 {fs : List Value} {R : va_W} {c0 s0 : Nat} (hl : fs.length = 32) (hc : c0 + 1 ≤ 22) (hs : s0 + 21 ≤ 1932) (h : ∀ a : Nat, nEv kX9_init d 22 1932 y (c0 + 1) (s0 + 21) 406 [some (.ref b)] [] ((b, .inr (9, fs.set 25 (.ref a))) :: (a, .inl (y 0, 21, .inl m0_bodies)) :: R) Post) : nEv kX9_init d 22 1932 y c0 s0 288 [some (.ref b)] [] ((b, .inr (9, fs)) :: R) Post := by
  refine ne_aload_n dX9_init_288 rfl ?_
  refine ne_bipush (v := nI 21) dX9_init_289 rfl ?_
  refine ne_newa_int (n := 21) dX9_init_291 (by decide) (by omega) (by omega) (fun a => ?_)
  refine ne_front0 (S := R) ?_
  refine ne_dup dX9_init_293 rfl ?_
  refine ne_iconst (v := nI 0) dX9_init_294 rfl ?_
  refine ne_bipush (v := 10) dX9_init_295 rfl ?_
  refine ne_iast (q0 := 1) (j := 0) (ws2 := (b, .inr (9, fs)) :: (a, .inl (y 0, 21, .inl (upd (fun _ => 0) 0 10))) :: R) dX9_init_297 rfl (by decide) (by decide) rfl ?_
  refine ne_dup dX9_init_298 rfl ?_
  refine ne_iconst (v := nI 1) dX9_init_299 rfl ?_
  refine ne_bipush (v := 11) dX9_init_300 rfl ?_
  refine ne_iast (q0 := 1) (j := 1) (ws2 := (b, .inr (9, fs)) :: (a, .inl (y 0, 21, .inl (upd (upd (fun _ => 0) 0 10) 1 11))) :: R) dX9_init_302 rfl (by decide) (by decide) rfl ?_
  refine ne_dup dX9_init_303 rfl ?_
  refine ne_iconst (v := nI 2) dX9_init_304 rfl ?_
  refine ne_bipush (v := 12) dX9_init_305 rfl ?_
  refine ne_iast (q0 := 1) (j := 2) (ws2 := (b, .inr (9, fs)) :: (a, .inl (y 0, 21, .inl (upd (upd (upd (fun _ => 0) 0 10) 1 11) 2 12))) :: R) dX9_init_307 rfl (by decide) (by decide) rfl ?_
  refine ne_dup dX9_init_308 rfl ?_
  refine ne_iconst (v := nI 3) dX9_init_309 rfl ?_
  refine ne_iconst (v := 0) dX9_init_310 rfl ?_
  refine ne_iast (q0 := 1) (j := 3) (ws2 := (b, .inr (9, fs)) :: (a, .inl (y 0, 21, .inl (upd (upd (upd (upd (fun _ => 0) 0 10) 1 11) 2 12) 3 0))) :: R) dX9_init_311 rfl (by decide) (by decide) rfl ?_
  refine ne_dup dX9_init_312 rfl ?_
  refine ne_iconst (v := nI 4) dX9_init_313 rfl ?_
  refine ne_bipush (v := 20) dX9_init_314 rfl ?_
  refine ne_iast (q0 := 1) (j := 4) (ws2 := (b, .inr (9, fs)) :: (a, .inl (y 0, 21, .inl (upd (upd (upd (upd (upd (fun _ => 0) 0 10) 1 11) 2 12) 3 0) 4 20))) :: R) dX9_init_316 rfl (by decide) (by decide) rfl ?_
  refine ne_dup dX9_init_317 rfl ?_
  refine ne_iconst (v := nI 5) dX9_init_318 rfl ?_
  refine ne_iconst (v := 0) dX9_init_319 rfl ?_
  refine ne_iast (q0 := 1) (j := 5) (ws2 := (b, .inr (9, fs)) :: (a, .inl (y 0, 21, .inl (upd (upd (upd (upd (upd (upd (fun _ => 0) 0 10) 1 11) 2 12) 3 0) 4 20) 5 0))) :: R) dX9_init_320 rfl (by decide) (by decide) rfl ?_
  refine ne_dup dX9_init_321 rfl ?_
  refine ne_bipush (v := nI 6) dX9_init_322 rfl ?_
  refine ne_bipush (v := 30) dX9_init_324 rfl ?_
  refine ne_iast (q0 := 1) (j := 6) (ws2 := (b, .inr (9, fs)) :: (a, .inl (y 0, 21, .inl (upd (upd (upd (upd (upd (upd (upd (fun _ => 0) 0 10) 1 11) 2 12) 3 0) 4 20) 5 0) 6 30))) :: R) dX9_init_326 rfl (by decide) (by decide) rfl ?_
  refine ne_dup dX9_init_327 rfl ?_
  refine ne_bipush (v := nI 7) dX9_init_328 rfl ?_
  refine ne_iconst (v := 0) dX9_init_330 rfl ?_
  refine ne_iast (q0 := 1) (j := 7) (ws2 := (b, .inr (9, fs)) :: (a, .inl (y 0, 21, .inl (upd (upd (upd (upd (upd (upd (upd (upd (fun _ => 0) 0 10) 1 11) 2 12) 3 0) 4 20) 5 0) 6 30) 7 0))) :: R) dX9_init_331 rfl (by decide) (by decide) rfl ?_
  refine ne_dup dX9_init_332 rfl ?_
  refine ne_bipush (v := nI 8) dX9_init_333 rfl ?_
  refine ne_iconst (v := 0) dX9_init_335 rfl ?_
  refine ne_iast (q0 := 1) (j := 8) (ws2 := (b, .inr (9, fs)) :: (a, .inl (y 0, 21, .inl (upd (upd (upd (upd (upd (upd (upd (upd (upd (fun _ => 0) 0 10) 1 11) 2 12) 3 0) 4 20) 5 0) 6 30) 7 0) 8 0))) :: R) dX9_init_336 rfl (by decide) (by decide) rfl ?_
  refine ne_dup dX9_init_337 rfl ?_
  refine ne_bipush (v := nI 9) dX9_init_338 rfl ?_
  refine ne_iconst (v := 0) dX9_init_340 rfl ?_
  refine ne_iast (q0 := 1) (j := 9) (ws2 := (b, .inr (9, fs)) :: (a, .inl (y 0, 21, .inl (upd (upd (upd (upd (upd (upd (upd (upd (upd (upd (fun _ => 0) 0 10) 1 11) 2 12) 3 0) 4 20) 5 0) 6 30) 7 0) 8 0) 9 0))) :: R) dX9_init_341 rfl (by decide) (by decide) rfl ?_
  refine ne_dup dX9_init_342 rfl ?_
  refine ne_bipush (v := nI 10) dX9_init_343 rfl ?_
  refine ne_iconst (v := 0) dX9_init_345 rfl ?_
  refine ne_iast (q0 := 1) (j := 10) (ws2 := (b, .inr (9, fs)) :: (a, .inl (y 0, 21, .inl (upd (upd (upd (upd (upd (upd (upd (upd (upd (upd (upd (fun _ => 0) 0 10) 1 11) 2 12) 3 0) 4 20) 5 0) 6 30) 7 0) 8 0) 9 0) 10 0))) :: R) dX9_init_346 rfl (by decide) (by decide) rfl ?_
  refine ne_dup dX9_init_347 rfl ?_
  refine ne_bipush (v := nI 11) dX9_init_348 rfl ?_
  refine ne_bipush (v := 40) dX9_init_350 rfl ?_
  refine ne_iast (q0 := 1) (j := 11) (ws2 := (b, .inr (9, fs)) :: (a, .inl (y 0, 21, .inl (upd (upd (upd (upd (upd (upd (upd (upd (upd (upd (upd (upd (fun _ => 0) 0 10) 1 11) 2 12) 3 0) 4 20) 5 0) 6 30) 7 0) 8 0) 9 0) 10 0) 11 40))) :: R) dX9_init_352 rfl (by decide) (by decide) rfl ?_
  refine ne_dup dX9_init_353 rfl ?_
  refine ne_bipush (v := nI 12) dX9_init_354 rfl ?_
  refine ne_bipush (v := 50) dX9_init_356 rfl ?_
  refine ne_iast (q0 := 1) (j := 12) (ws2 := (b, .inr (9, fs)) :: (a, .inl (y 0, 21, .inl (upd (upd (upd (upd (upd (upd (upd (upd (upd (upd (upd (upd (upd (fun _ => 0) 0 10) 1 11) 2 12) 3 0) 4 20) 5 0) 6 30) 7 0) 8 0) 9 0) 10 0) 11 40) 12 50))) :: R) dX9_init_358 rfl (by decide) (by decide) rfl ?_
  refine ne_dup dX9_init_359 rfl ?_
  refine ne_bipush (v := nI 13) dX9_init_360 rfl ?_
  refine ne_bipush (v := 51) dX9_init_362 rfl ?_
  refine ne_iast (q0 := 1) (j := 13) (ws2 := (b, .inr (9, fs)) :: (a, .inl (y 0, 21, .inl (upd (upd (upd (upd (upd (upd (upd (upd (upd (upd (upd (upd (upd (upd (fun _ => 0) 0 10) 1 11) 2 12) 3 0) 4 20) 5 0) 6 30) 7 0) 8 0) 9 0) 10 0) 11 40) 12 50) 13 51))) :: R) dX9_init_364 rfl (by decide) (by decide) rfl ?_
  refine ne_dup dX9_init_365 rfl ?_
  refine ne_bipush (v := nI 14) dX9_init_366 rfl ?_
  refine ne_iconst (v := 0) dX9_init_368 rfl ?_
  refine ne_iast (q0 := 1) (j := 14) (ws2 := (b, .inr (9, fs)) :: (a, .inl (y 0, 21, .inl (upd (upd (upd (upd (upd (upd (upd (upd (upd (upd (upd (upd (upd (upd (upd (fun _ => 0) 0 10) 1 11) 2 12) 3 0) 4 20) 5 0) 6 30) 7 0) 8 0) 9 0) 10 0) 11 40) 12 50) 13 51) 14 0))) :: R) dX9_init_369 rfl (by decide) (by decide) rfl ?_
  refine ne_dup dX9_init_370 rfl ?_
  refine ne_bipush (v := nI 15) dX9_init_371 rfl ?_
  refine ne_iconst (v := 0) dX9_init_373 rfl ?_
  refine ne_iast (q0 := 1) (j := 15) (ws2 := (b, .inr (9, fs)) :: (a, .inl (y 0, 21, .inl (upd (upd (upd (upd (upd (upd (upd (upd (upd (upd (upd (upd (upd (upd (upd (upd (fun _ => 0) 0 10) 1 11) 2 12) 3 0) 4 20) 5 0) 6 30) 7 0) 8 0) 9 0) 10 0) 11 40) 12 50) 13 51) 14 0) 15 0))) :: R) dX9_init_374 rfl (by decide) (by decide) rfl ?_
  refine ne_dup dX9_init_375 rfl ?_
  refine ne_bipush (v := nI 16) dX9_init_376 rfl ?_
  refine ne_iconst (v := 0) dX9_init_378 rfl ?_
  refine ne_iast (q0 := 1) (j := 16) (ws2 := (b, .inr (9, fs)) :: (a, .inl (y 0, 21, .inl (upd (upd (upd (upd (upd (upd (upd (upd (upd (upd (upd (upd (upd (upd (upd (upd (upd (fun _ => 0) 0 10) 1 11) 2 12) 3 0) 4 20) 5 0) 6 30) 7 0) 8 0) 9 0) 10 0) 11 40) 12 50) 13 51) 14 0) 15 0) 16 0))) :: R) dX9_init_379 rfl (by decide) (by decide) rfl ?_
  refine ne_dup dX9_init_380 rfl ?_
  refine ne_bipush (v := nI 17) dX9_init_381 rfl ?_
  refine ne_bipush (v := 60) dX9_init_383 rfl ?_
  refine ne_iast (q0 := 1) (j := 17) (ws2 := (b, .inr (9, fs)) :: (a, .inl (y 0, 21, .inl (upd (upd (upd (upd (upd (upd (upd (upd (upd (upd (upd (upd (upd (upd (upd (upd (upd (upd (fun _ => 0) 0 10) 1 11) 2 12) 3 0) 4 20) 5 0) 6 30) 7 0) 8 0) 9 0) 10 0) 11 40) 12 50) 13 51) 14 0) 15 0) 16 0) 17 60))) :: R) dX9_init_385 rfl (by decide) (by decide) rfl ?_
  refine ne_dup dX9_init_386 rfl ?_
  refine ne_bipush (v := nI 18) dX9_init_387 rfl ?_
  refine ne_bipush (v := 71) dX9_init_389 rfl ?_
  refine ne_iast (q0 := 1) (j := 18) (ws2 := (b, .inr (9, fs)) :: (a, .inl (y 0, 21, .inl (upd (upd (upd (upd (upd (upd (upd (upd (upd (upd (upd (upd (upd (upd (upd (upd (upd (upd (upd (fun _ => 0) 0 10) 1 11) 2 12) 3 0) 4 20) 5 0) 6 30) 7 0) 8 0) 9 0) 10 0) 11 40) 12 50) 13 51) 14 0) 15 0) 16 0) 17 60) 18 71))) :: R) dX9_init_391 rfl (by decide) (by decide) rfl ?_
  refine ne_dup dX9_init_392 rfl ?_
  refine ne_bipush (v := nI 19) dX9_init_393 rfl ?_
  refine ne_bipush (v := 70) dX9_init_395 rfl ?_
  refine ne_iast (q0 := 1) (j := 19) (ws2 := (b, .inr (9, fs)) :: (a, .inl (y 0, 21, .inl (upd (upd (upd (upd (upd (upd (upd (upd (upd (upd (upd (upd (upd (upd (upd (upd (upd (upd (upd (upd (fun _ => 0) 0 10) 1 11) 2 12) 3 0) 4 20) 5 0) 6 30) 7 0) 8 0) 9 0) 10 0) 11 40) 12 50) 13 51) 14 0) 15 0) 16 0) 17 60) 18 71) 19 70))) :: R) dX9_init_397 rfl (by decide) (by decide) rfl ?_
  refine ne_dup dX9_init_398 rfl ?_
  refine ne_bipush (v := nI 20) dX9_init_399 rfl ?_
  refine ne_iconst (v := 0) dX9_init_401 rfl ?_
  refine ne_iast (q0 := 1) (j := 20) (ws2 := (b, .inr (9, fs)) :: (a, .inl (y 0, 21, .inl (upd (upd (upd (upd (upd (upd (upd (upd (upd (upd (upd (upd (upd (upd (upd (upd (upd (upd (upd (upd (upd (fun _ => 0) 0 10) 1 11) 2 12) 3 0) 4 20) 5 0) 6 30) 7 0) 8 0) 9 0) 10 0) 11 40) 12 50) 13 51) 14 0) 15 0) 16 0) 17 60) 18 71) 19 70) 20 0))) :: R) dX9_init_402 rfl (by decide) (by decide) rfl ?_
  refine ne_putR (q0 := 0) (ws2 := (b, .inr (9, fs.set 25 (.ref a))) :: (a, .inl (y 0, 21, .inl m0_bodies)) :: R) dX9_init_403 flX9_62 (fun r z => by cases z; rfl) rfl (by omega) rfl rfl rfl ?_
  exact h a
theorem c9_n406 {fs : List Value} {R : va_W} {c0 s0 : Nat} (hl : fs.length = 32) (hc : c0 + 1 ≤ 22) (hs : s0 + 20 ≤ 1932) (h : ∀ a : Nat, nEv kX9_init d 22 1932 y (c0 + 1) (s0 + 20) 414 [some (.ref b)] [] ((b, .inr (9, fs.set 26 (.ref a))) :: (a, .inl (y 0, 20, .inl (fun _ => 0))) :: R) Post) : nEv kX9_init d 22 1932 y c0 s0 406 [some (.ref b)] [] ((b, .inr (9, fs)) :: R) Post := by
  refine ne_aload_n dX9_init_406 rfl ?_
  refine ne_bipush (v := nI 20) dX9_init_407 rfl ?_
  refine ne_newa_int (n := 20) dX9_init_409 (by decide) (by omega) (by omega) (fun a => ?_)
  refine ne_front0 (S := R) ?_
  refine ne_putR (q0 := 0) (ws2 := (b, .inr (9, fs.set 26 (.ref a))) :: (a, .inl (y 0, 20, .inl (fun _ => 0))) :: R) dX9_init_411 flX9_65 (fun r z => by cases z; rfl) rfl (by omega) rfl rfl rfl ?_
  exact h a
theorem c9_n414 {fs : List Value} {R : va_W} {c0 s0 : Nat} (hl : fs.length = 32) (hc : c0 + 1 ≤ 22) (hs : s0 + 6 ≤ 1932) (h : ∀ a : Nat, nEv kX9_init d 22 1932 y (c0 + 1) (s0 + 6) 446 [some (.ref b)] [] ((b, .inr (9, fs.set 28 (.ref a))) :: (a, .inl (y 0, 6, .inl m0_sorts)) :: R) Post) : nEv kX9_init d 22 1932 y c0 s0 414 [some (.ref b)] [] ((b, .inr (9, fs)) :: R) Post := by
  refine ne_aload_n dX9_init_414 rfl ?_
  refine ne_bipush (v := nI 6) dX9_init_415 rfl ?_
  refine ne_newa_int (n := 6) dX9_init_417 (by decide) (by omega) (by omega) (fun a => ?_)
  refine ne_front0 (S := R) ?_
  refine ne_dup dX9_init_419 rfl ?_
  refine ne_iconst (v := nI 0) dX9_init_420 rfl ?_
  refine ne_iconst (v := (-1)) dX9_init_421 rfl ?_
  refine ne_iast (q0 := 1) (j := 0) (ws2 := (b, .inr (9, fs)) :: (a, .inl (y 0, 6, .inl (upd (fun _ => 0) 0 (-1)))) :: R) dX9_init_422 rfl (by decide) (by decide) rfl ?_
  refine ne_dup dX9_init_423 rfl ?_
  refine ne_iconst (v := nI 1) dX9_init_424 rfl ?_
  refine ne_iconst (v := (-1)) dX9_init_425 rfl ?_
  refine ne_iast (q0 := 1) (j := 1) (ws2 := (b, .inr (9, fs)) :: (a, .inl (y 0, 6, .inl (upd (upd (fun _ => 0) 0 (-1)) 1 (-1)))) :: R) dX9_init_426 rfl (by decide) (by decide) rfl ?_
  refine ne_dup dX9_init_427 rfl ?_
  refine ne_iconst (v := nI 2) dX9_init_428 rfl ?_
  refine ne_iconst (v := (-1)) dX9_init_429 rfl ?_
  refine ne_iast (q0 := 1) (j := 2) (ws2 := (b, .inr (9, fs)) :: (a, .inl (y 0, 6, .inl (upd (upd (upd (fun _ => 0) 0 (-1)) 1 (-1)) 2 (-1)))) :: R) dX9_init_430 rfl (by decide) (by decide) rfl ?_
  refine ne_dup dX9_init_431 rfl ?_
  refine ne_iconst (v := nI 3) dX9_init_432 rfl ?_
  refine ne_iconst (v := (-1)) dX9_init_433 rfl ?_
  refine ne_iast (q0 := 1) (j := 3) (ws2 := (b, .inr (9, fs)) :: (a, .inl (y 0, 6, .inl (upd (upd (upd (upd (fun _ => 0) 0 (-1)) 1 (-1)) 2 (-1)) 3 (-1)))) :: R) dX9_init_434 rfl (by decide) (by decide) rfl ?_
  refine ne_dup dX9_init_435 rfl ?_
  refine ne_iconst (v := nI 4) dX9_init_436 rfl ?_
  refine ne_iconst (v := (-1)) dX9_init_437 rfl ?_
  refine ne_iast (q0 := 1) (j := 4) (ws2 := (b, .inr (9, fs)) :: (a, .inl (y 0, 6, .inl (upd (upd (upd (upd (upd (fun _ => 0) 0 (-1)) 1 (-1)) 2 (-1)) 3 (-1)) 4 (-1)))) :: R) dX9_init_438 rfl (by decide) (by decide) rfl ?_
  refine ne_dup dX9_init_439 rfl ?_
  refine ne_iconst (v := nI 5) dX9_init_440 rfl ?_
  refine ne_iconst (v := (-1)) dX9_init_441 rfl ?_
  refine ne_iast (q0 := 1) (j := 5) (ws2 := (b, .inr (9, fs)) :: (a, .inl (y 0, 6, .inl (upd (upd (upd (upd (upd (upd (fun _ => 0) 0 (-1)) 1 (-1)) 2 (-1)) 3 (-1)) 4 (-1)) 5 (-1)))) :: R) dX9_init_442 rfl (by decide) (by decide) rfl ?_
  refine ne_putR (q0 := 0) (ws2 := (b, .inr (9, fs.set 28 (.ref a))) :: (a, .inl (y 0, 6, .inl m0_sorts)) :: R) dX9_init_443 flX9_68 (fun r z => by cases z; rfl) rfl (by omega) rfl rfl rfl ?_
  exact h a
theorem c9_n446 {fs : List Value} {R : va_W} {c0 s0 : Nat} (hl : fs.length = 32) (hc : c0 + 1 ≤ 22) (hs : s0 + 6 ≤ 1932) (h : ∀ a : Nat, nEv kX9_init d 22 1932 y (c0 + 1) (s0 + 6) 454 [some (.ref b)] [] ((b, .inr (9, fs.set 29 (.ref a))) :: (a, .inl (y 0, 6, .inl (fun _ => 0))) :: R) Post) : nEv kX9_init d 22 1932 y c0 s0 446 [some (.ref b)] [] ((b, .inr (9, fs)) :: R) Post := by
  refine ne_aload_n dX9_init_446 rfl ?_
  refine ne_bipush (v := nI 6) dX9_init_447 rfl ?_
  refine ne_newa_int (n := 6) dX9_init_449 (by decide) (by omega) (by omega) (fun a => ?_)
  refine ne_front0 (S := R) ?_
  refine ne_putR (q0 := 0) (ws2 := (b, .inr (9, fs.set 29 (.ref a))) :: (a, .inl (y 0, 6, .inl (fun _ => 0))) :: R) dX9_init_451 flX9_71 (fun r z => by cases z; rfl) rfl (by omega) rfl rfl rfl ?_
  exact h a
theorem c9_n454 {fs : List Value} {R : va_W} {c0 s0 : Nat} (hl : fs.length = 32) (hc : c0 + 1 ≤ 22) (hs : s0 + 360 ≤ 1932) (h : ∀ a : Nat, nEv kX9_init d 22 1932 y (c0 + 1) (s0 + 360) 463 [some (.ref b)] [] ((b, .inr (9, fs.set 30 (.ref a))) :: (a, .inl (y 3, 360, .inr (.inl (fun _ => 0)))) :: R) Post) : nEv kX9_init d 22 1932 y c0 s0 454 [some (.ref b)] [] ((b, .inr (9, fs)) :: R) Post := by
  refine ne_aload_n dX9_init_454 rfl ?_
  refine ne_sipush (v := nI 360) dX9_init_455 rfl ?_
  refine ne_newa_long (n := 360) dX9_init_458 (by decide) (by omega) (by omega) (fun a => ?_)
  refine ne_front0 (S := R) ?_
  refine ne_putR (q0 := 0) (ws2 := (b, .inr (9, fs.set 30 (.ref a))) :: (a, .inl (y 3, 360, .inr (.inl (fun _ => 0)))) :: R) dX9_init_460 flX9_74 (fun r z => by cases z; rfl) rfl (by omega) rfl rfl rfl ?_
  exact h a
theorem c9_n463 {fs : List Value} {R : va_W} {c0 s0 : Nat} (hl : fs.length = 32) (hc : c0 + 1 ≤ 22) (hs : s0 + 60 ≤ 1932) (h : ∀ a : Nat, nEv kX9_init d 22 1932 y (c0 + 1) (s0 + 60) 471 [some (.ref b)] [] ((b, .inr (9, fs.set 31 (.ref a))) :: (a, .inl (y 3, 60, .inr (.inl (fun _ => 0)))) :: R) Post) : nEv kX9_init d 22 1932 y c0 s0 463 [some (.ref b)] [] ((b, .inr (9, fs)) :: R) Post := by
  refine ne_aload_n dX9_init_463 rfl ?_
  refine ne_bipush (v := nI 60) dX9_init_464 rfl ?_
  refine ne_newa_long (n := 60) dX9_init_466 (by decide) (by omega) (by omega) (fun a => ?_)
  refine ne_front0 (S := R) ?_
  refine ne_putR (q0 := 0) (ws2 := (b, .inr (9, fs.set 31 (.ref a))) :: (a, .inl (y 3, 60, .inr (.inl (fun _ => 0)))) :: R) dX9_init_468 flX9_78 (fun r z => by cases z; rfl) rfl (by omega) rfl rfl rfl ?_
  exact h a
theorem c_X9 (hd : 1 ≤ d) (h : ∀ f : Nat → Nat, Post (modH b f :: modL y f)) : nEv kX9_init d 22 1932 y 0 0 0 (xen [.ref b] 1) [] [(b, .inr (9, [.null, .null, .null, .int 0, .null, .int 0, .null, .null, .int 0, .null, .int 0, .int 0, .int 0, .int 0, .int 0, .int 0, .null, .null, .null, .null, .null, .null, .null, .null, .null, .null, .null, .int 0, .null, .null, .null, .null]))] Post := by
  show nEv kX9_init d 22 1932 y 0 0 0 [some (.ref b)] [] _ _
  refine ne_aload_n dX9_init_0 rfl ?_
  refine ne_init dX9_init_1 mlX9_3 (by omega) rfl ?_
  refine c9_n4 rfl (Nat.le_of_ble_eq_true rfl) (Nat.le_of_ble_eq_true rfl) (fun a0 => ?_)
  show nEv _ _ _ _ _ _ _ _ _ _ ((b, .inr (9, [.ref a0, .null, .null, .int 0, .null, .int 0, .null, .null, .int 0, .null, .int 0, .int 0, .int 0, .int 0, .int 0, .int 0, .null, .null, .null, .null, .null, .null, .null, .null, .null, .null, .null, .int 0, .null, .null, .null, .null])) :: _) _
  refine c9_n12 rfl (Nat.le_of_ble_eq_true rfl) (Nat.le_of_ble_eq_true rfl) (fun a1 => ?_)
  show nEv _ _ _ _ _ _ _ _ _ _ ((b, .inr (9, [.ref a0, .ref a1, .null, .int 0, .null, .int 0, .null, .null, .int 0, .null, .int 0, .int 0, .int 0, .int 0, .int 0, .int 0, .null, .null, .null, .null, .null, .null, .null, .null, .null, .null, .null, .int 0, .null, .null, .null, .null])) :: _) _
  refine c9_n20 rfl (Nat.le_of_ble_eq_true rfl) (Nat.le_of_ble_eq_true rfl) (fun a2 => ?_)
  show nEv _ _ _ _ _ _ _ _ _ _ ((b, .inr (9, [.ref a0, .ref a1, .ref a2, .int 0, .null, .int 0, .null, .null, .int 0, .null, .int 0, .int 0, .int 0, .int 0, .int 0, .int 0, .null, .null, .null, .null, .null, .null, .null, .null, .null, .null, .null, .int 0, .null, .null, .null, .null])) :: _) _
  refine c9_n28 rfl (Nat.le_of_ble_eq_true rfl) (Nat.le_of_ble_eq_true rfl) (fun a3 => ?_)
  show nEv _ _ _ _ _ _ _ _ _ _ ((b, .inr (9, [.ref a0, .ref a1, .ref a2, .int 0, .ref a3, .int 0, .null, .null, .int 0, .null, .int 0, .int 0, .int 0, .int 0, .int 0, .int 0, .null, .null, .null, .null, .null, .null, .null, .null, .null, .null, .null, .int 0, .null, .null, .null, .null])) :: _) _
  refine c9_n36 rfl (Nat.le_of_ble_eq_true rfl) (Nat.le_of_ble_eq_true rfl) (fun a4 => ?_)
  show nEv _ _ _ _ _ _ _ _ _ _ ((b, .inr (9, [.ref a0, .ref a1, .ref a2, .int 0, .ref a3, .int 0, .ref a4, .null, .int 0, .null, .int 0, .int 0, .int 0, .int 0, .int 0, .int 0, .null, .null, .null, .null, .null, .null, .null, .null, .null, .null, .null, .int 0, .null, .null, .null, .null])) :: _) _
  refine c9_n45 rfl (Nat.le_of_ble_eq_true rfl) (Nat.le_of_ble_eq_true rfl) (fun a5 => ?_)
  show nEv _ _ _ _ _ _ _ _ _ _ ((b, .inr (9, [.ref a0, .ref a1, .ref a2, .int 0, .ref a3, .int 0, .ref a4, .ref a5, .int 0, .null, .int 0, .int 0, .int 0, .int 0, .int 0, .int 0, .null, .null, .null, .null, .null, .null, .null, .null, .null, .null, .null, .int 0, .null, .null, .null, .null])) :: _) _
  refine c9_n53 rfl (Nat.le_of_ble_eq_true rfl) (Nat.le_of_ble_eq_true rfl) (fun a6 => ?_)
  show nEv _ _ _ _ _ _ _ _ _ _ ((b, .inr (9, [.ref a0, .ref a1, .ref a2, .int 0, .ref a3, .int 0, .ref a4, .ref a5, .int 0, .ref a6, .int 0, .int 0, .int 0, .int 0, .int 0, .int 0, .null, .null, .null, .null, .null, .null, .null, .null, .null, .null, .null, .int 0, .null, .null, .null, .null])) :: _) _
  refine c9_n61 rfl (Nat.le_of_ble_eq_true rfl) (Nat.le_of_ble_eq_true rfl) (fun a7 => ?_)
  show nEv _ _ _ _ _ _ _ _ _ _ ((b, .inr (9, [.ref a0, .ref a1, .ref a2, .int 0, .ref a3, .int 0, .ref a4, .ref a5, .int 0, .ref a6, .int 0, .int 0, .int 0, .int 0, .int 0, .int 0, .ref a7, .null, .null, .null, .null, .null, .null, .null, .null, .null, .null, .int 0, .null, .null, .null, .null])) :: _) _
  refine c9_n69 rfl (Nat.le_of_ble_eq_true rfl) (Nat.le_of_ble_eq_true rfl) (fun a8 => ?_)
  show nEv _ _ _ _ _ _ _ _ _ _ ((b, .inr (9, [.ref a0, .ref a1, .ref a2, .int 0, .ref a3, .int 0, .ref a4, .ref a5, .int 0, .ref a6, .int 0, .int 0, .int 0, .int 0, .int 0, .int 0, .ref a7, .ref a8, .null, .null, .null, .null, .null, .null, .null, .null, .null, .int 0, .null, .null, .null, .null])) :: _) _
  refine c9_n107 rfl (Nat.le_of_ble_eq_true rfl) (Nat.le_of_ble_eq_true rfl) (fun a9 => ?_)
  show nEv _ _ _ _ _ _ _ _ _ _ ((b, .inr (9, [.ref a0, .ref a1, .ref a2, .int 0, .ref a3, .int 0, .ref a4, .ref a5, .int 0, .ref a6, .int 0, .int 0, .int 0, .int 0, .int 0, .int 0, .ref a7, .ref a8, .ref a9, .null, .null, .null, .null, .null, .null, .null, .null, .int 0, .null, .null, .null, .null])) :: _) _
  refine c9_n129 rfl (Nat.le_of_ble_eq_true rfl) (Nat.le_of_ble_eq_true rfl) (fun a10 => ?_)
  show nEv _ _ _ _ _ _ _ _ _ _ ((b, .inr (9, [.ref a0, .ref a1, .ref a2, .int 0, .ref a3, .int 0, .ref a4, .ref a5, .int 0, .ref a6, .int 0, .int 0, .int 0, .int 0, .int 0, .int 0, .ref a7, .ref a8, .ref a9, .ref a10, .null, .null, .null, .null, .null, .null, .null, .int 0, .null, .null, .null, .null])) :: _) _
  refine c9_n219 rfl (Nat.le_of_ble_eq_true rfl) (Nat.le_of_ble_eq_true rfl) (fun a11 => ?_)
  show nEv _ _ _ _ _ _ _ _ _ _ ((b, .inr (9, [.ref a0, .ref a1, .ref a2, .int 0, .ref a3, .int 0, .ref a4, .ref a5, .int 0, .ref a6, .int 0, .int 0, .int 0, .int 0, .int 0, .int 0, .ref a7, .ref a8, .ref a9, .ref a10, .ref a11, .null, .null, .null, .null, .null, .null, .int 0, .null, .null, .null, .null])) :: _) _
  refine c9_n227 rfl (Nat.le_of_ble_eq_true rfl) (Nat.le_of_ble_eq_true rfl) (fun a12 => ?_)
  show nEv _ _ _ _ _ _ _ _ _ _ ((b, .inr (9, [.ref a0, .ref a1, .ref a2, .int 0, .ref a3, .int 0, .ref a4, .ref a5, .int 0, .ref a6, .int 0, .int 0, .int 0, .int 0, .int 0, .int 0, .ref a7, .ref a8, .ref a9, .ref a10, .ref a11, .ref a12, .null, .null, .null, .null, .null, .int 0, .null, .null, .null, .null])) :: _) _
  refine c9_n236 rfl (Nat.le_of_ble_eq_true rfl) (Nat.le_of_ble_eq_true rfl) (fun a13 => ?_)
  show nEv _ _ _ _ _ _ _ _ _ _ ((b, .inr (9, [.ref a0, .ref a1, .ref a2, .int 0, .ref a3, .int 0, .ref a4, .ref a5, .int 0, .ref a6, .int 0, .int 0, .int 0, .int 0, .int 0, .int 0, .ref a7, .ref a8, .ref a9, .ref a10, .ref a11, .ref a12, .ref a13, .null, .null, .null, .null, .int 0, .null, .null, .null, .null])) :: _) _
  refine c9_n243 rfl (Nat.le_of_ble_eq_true rfl) (Nat.le_of_ble_eq_true rfl) (fun a14 => ?_)
  show nEv _ _ _ _ _ _ _ _ _ _ ((b, .inr (9, [.ref a0, .ref a1, .ref a2, .int 0, .ref a3, .int 0, .ref a4, .ref a5, .int 0, .ref a6, .int 0, .int 0, .int 0, .int 0, .int 0, .int 0, .ref a7, .ref a8, .ref a9, .ref a10, .ref a11, .ref a12, .ref a13, .ref a14, .null, .null, .null, .int 0, .null, .null, .null, .null])) :: _) _
  refine c9_n251 rfl (Nat.le_of_ble_eq_true rfl) (Nat.le_of_ble_eq_true rfl) (fun a15 => ?_)
  show nEv _ _ _ _ _ _ _ _ _ _ ((b, .inr (9, [.ref a0, .ref a1, .ref a2, .int 0, .ref a3, .int 0, .ref a4, .ref a5, .int 0, .ref a6, .int 0, .int 0, .int 0, .int 0, .int 0, .int 0, .ref a7, .ref a8, .ref a9, .ref a10, .ref a11, .ref a12, .ref a13, .ref a14, .ref a15, .null, .null, .int 0, .null, .null, .null, .null])) :: _) _
  refine c9_n288 rfl (Nat.le_of_ble_eq_true rfl) (Nat.le_of_ble_eq_true rfl) (fun a16 => ?_)
  show nEv _ _ _ _ _ _ _ _ _ _ ((b, .inr (9, [.ref a0, .ref a1, .ref a2, .int 0, .ref a3, .int 0, .ref a4, .ref a5, .int 0, .ref a6, .int 0, .int 0, .int 0, .int 0, .int 0, .int 0, .ref a7, .ref a8, .ref a9, .ref a10, .ref a11, .ref a12, .ref a13, .ref a14, .ref a15, .ref a16, .null, .int 0, .null, .null, .null, .null])) :: _) _
  refine c9_n406 rfl (Nat.le_of_ble_eq_true rfl) (Nat.le_of_ble_eq_true rfl) (fun a17 => ?_)
  show nEv _ _ _ _ _ _ _ _ _ _ ((b, .inr (9, [.ref a0, .ref a1, .ref a2, .int 0, .ref a3, .int 0, .ref a4, .ref a5, .int 0, .ref a6, .int 0, .int 0, .int 0, .int 0, .int 0, .int 0, .ref a7, .ref a8, .ref a9, .ref a10, .ref a11, .ref a12, .ref a13, .ref a14, .ref a15, .ref a16, .ref a17, .int 0, .null, .null, .null, .null])) :: _) _
  refine c9_n414 rfl (Nat.le_of_ble_eq_true rfl) (Nat.le_of_ble_eq_true rfl) (fun a18 => ?_)
  show nEv _ _ _ _ _ _ _ _ _ _ ((b, .inr (9, [.ref a0, .ref a1, .ref a2, .int 0, .ref a3, .int 0, .ref a4, .ref a5, .int 0, .ref a6, .int 0, .int 0, .int 0, .int 0, .int 0, .int 0, .ref a7, .ref a8, .ref a9, .ref a10, .ref a11, .ref a12, .ref a13, .ref a14, .ref a15, .ref a16, .ref a17, .int 0, .ref a18, .null, .null, .null])) :: _) _
  refine c9_n446 rfl (Nat.le_of_ble_eq_true rfl) (Nat.le_of_ble_eq_true rfl) (fun a19 => ?_)
  show nEv _ _ _ _ _ _ _ _ _ _ ((b, .inr (9, [.ref a0, .ref a1, .ref a2, .int 0, .ref a3, .int 0, .ref a4, .ref a5, .int 0, .ref a6, .int 0, .int 0, .int 0, .int 0, .int 0, .int 0, .ref a7, .ref a8, .ref a9, .ref a10, .ref a11, .ref a12, .ref a13, .ref a14, .ref a15, .ref a16, .ref a17, .int 0, .ref a18, .ref a19, .null, .null])) :: _) _
  refine c9_n454 rfl (Nat.le_of_ble_eq_true rfl) (Nat.le_of_ble_eq_true rfl) (fun a20 => ?_)
  show nEv _ _ _ _ _ _ _ _ _ _ ((b, .inr (9, [.ref a0, .ref a1, .ref a2, .int 0, .ref a3, .int 0, .ref a4, .ref a5, .int 0, .ref a6, .int 0, .int 0, .int 0, .int 0, .int 0, .int 0, .ref a7, .ref a8, .ref a9, .ref a10, .ref a11, .ref a12, .ref a13, .ref a14, .ref a15, .ref a16, .ref a17, .int 0, .ref a18, .ref a19, .ref a20, .null])) :: _) _
  refine c9_n463 rfl (Nat.le_of_ble_eq_true rfl) (Nat.le_of_ble_eq_true rfl) (fun a21 => ?_)
  show nEv _ _ _ _ _ _ _ _ _ _ ((b, .inr (9, [.ref a0, .ref a1, .ref a2, .int 0, .ref a3, .int 0, .ref a4, .ref a5, .int 0, .ref a6, .int 0, .int 0, .int 0, .int 0, .int 0, .int 0, .ref a7, .ref a8, .ref a9, .ref a10, .ref a11, .ref a12, .ref a13, .ref a14, .ref a15, .ref a16, .ref a17, .int 0, .ref a18, .ref a19, .ref a20, .ref a21])) :: _) _
  exact ne_retP (w2 := modH b (fun c => [a0, a1, a2, a3, a4, a5, a6, a7, a8, a9, a10, a11, a12, a13, a14, a15, a16, a17, a18, a19, a20, a21].getD c 0) :: modL y (fun c => [a0, a1, a2, a3, a4, a5, a6, a7, a8, a9, a10, a11, a12, a13, a14, a15, a16, a17, a18, a19, a20, a21].getD c 0)) dX9_init_471 rfl (List.Perm.cons _ (List.reverse_perm (modL y (fun c => [a0, a1, a2, a3, a4, a5, a6, a7, a8, a9, a10, a11, a12, a13, a14, a15, a16, a17, a18, a19, a20, a21].getD c 0)))) (Nat.le_of_ble_eq_true rfl) (Nat.le_of_ble_eq_true rfl) (h _)
end NCON9
def s0I (c j : Nat) : Int32 := bif Nat.beq j 2 && (Nat.beq c 1 || (Nat.beq c 27 || Nat.beq c 53)) then -1 else bif Nat.beq j 2 && (Nat.ble 84 c && (Nat.ble c 96 && Nat.beq (c % 2) 0)) then 5 else bif Nat.beq j 1 && (Nat.ble 103 c && (Nat.ble c 113 && Nat.beq (c % 2) 1)) then -1 else 0
def s0A (c : Nat) : Nat → Int32 := bif Nat.beq c 124 then m0_letters else bif Nat.beq c 125 then m0_begins else bif Nat.beq c 126 then m0_words else bif Nat.beq c 131 then m0_above else bif Nat.beq c 132 then m0_bodies else bif Nat.beq c 134 then m0_sorts else fun _ => 0
def s0 : xSt := (s0I, s0A, fun _ _ => 0)
def xAr2 (q : Nat → Nat) (σ : xSt) (c t : Nat) (tg : List Nat) : (Nat → Int32) ⊕ (Nat → Int64) ⊕ (Nat → UInt32) ⊕ (Nat → UInt64) ⊕ (Nat → Option Nat) :=
  bif Nat.beq t 3 then .inr (.inl (σ.2.2 c)) else bif Nat.blt t 5 then .inl (σ.2.1 c) else .inr (.inr (.inr (.inr (fun i => (tg.map q)[i]?))))
def xEe2 (y : Nat → ClassId) (q : Nat → Nat) (σ : xSt) (c : Nat) : xSh → va_E
  | .inl a => .inl (y a.1, a.2.1, xAr2 q σ c a.1 a.2.2)
  | .inr o => .inr (o.1, xF q (σ.1 c) 0 o.2)
theorem xAr_eq (q : Nat → Nat) (σ : xSt) (c t : Nat) (tg : List Nat) : xAr q σ c t tg = xAr2 q σ c t tg := by
  unfold xAr xAr2
  have e : (fun i : Nat => (tg[i]?).map q) = fun i : Nat => (tg.map q)[i]? := by funext i; rw [List.getElem?_map]
  by_cases h3 : t = 3
  · subst h3; rfl
  · have h4 : Nat.beq t 3 = false := by
      cases h : Nat.beq t 3 with
      | true => exact absurd (Nat.eq_of_beq_eq_true h) h3
      | false => rfl
    rw [if_neg h3, h4]
    by_cases h5 : t < 5
    · have h6 : Nat.blt t 5 = true := by simp [Nat.blt]; omega
      rw [if_pos h5, h6]; rfl
    · have h6 : Nat.blt t 5 = false := by
        cases h : Nat.ble (t + 1) 5 with
        | true => exact absurd (Nat.le_of_ble_eq_true h) (by omega)
        | false => exact h
      rw [if_neg h5, h6, e]; rfl
theorem xEe_eq (y : Nat → ClassId) (q : Nat → Nat) (σ : xSt) (c : Nat) (x : xSh) : xEe y q σ c x = xEe2 y q σ c x := by
  cases x with
  | inl a => show Sum.inl _ = Sum.inl _; rw [xAr_eq]
  | inr o => rfl
def xWk (y : Nat → ClassId) (q : Nat → Nat) (σ : xSt) (k n : Nat) : va_W := (List.range' k n).map (fun c => (q c, xEe2 y q σ c (xsh c)))
theorem xWk_all (y : Nat → ClassId) (q : Nat → Nat) (σ : xSt) : xW y q σ = xWk y q σ 0 138 := by
  unfold xW xWk
  rw [List.range_eq_range']
  exact List.map_congr_left (fun c _ => by show (q c, xEe y q σ c (xsh c)) = _; rw [xEe_eq])
theorem xWk_add (y : Nat → ClassId) (q : Nat → Nat) (σ : xSt) (k a b : Nat) : xWk y q σ k (a + b) = xWk y q σ k a ++ xWk y q σ (k + a) b := by
  unfold xWk
  rw [← List.map_append, List.range'_append_1]
theorem s0_st (y : Nat → ClassId) (q : Nat → Nat) : xWk y q s0 1 26 = stW y (fun c => q (1 + c)) ∧ xWk y q s0 27 26 = stW y (fun c => q (27 + c)) ∧ xWk y q s0 53 26 = stW y (fun c => q (53 + c)) := ⟨rfl, rfl, rfl⟩
theorem s0_mod (y : Nat → ClassId) (q : Nat → Nat) : xWk y q s0 115 23 = modH (q 115) (fun c => q (116 + c)) :: modL y (fun c => q (116 + c)) := rfl
def hmap (q : Nat → Nat) (c : Nat) : Nat := q ([79, 80, 81, 82, 96, 97, 98, 99, 100, 101].getD c 0)
theorem s0_a (y : Nat → ClassId) (q : Nat → Nat) : xWk y q s0 0 1 = [jamH (q 0) (fun c => q (1 + c)) (fun c => q (27 + c)) (fun c => q (53 + c)) (hmap q) (q 83) (q 102)] ∧ xWk y q s0 79 4 = potW y (hmap q 0) (hmap q 1) ++ texW y (hmap q 2) (hmap q 3) ∧ xWk y q s0 83 1 = [jamC y (q 83) (fun c => q (84 + c))] ∧ xWk y q s0 84 12 = celsW y (fun c => q (84 + c)) ∧ xWk y q s0 96 6 = jamB y (hmap q) ∧ xWk y q s0 102 1 = [jamT y (q 102) (fun c => q (103 + c))] ∧ xWk y q s0 103 12 = tapsW y (fun c => q (103 + c)) := ⟨rfl, rfl, rfl, rfl, rfl, rfl, rfl⟩
