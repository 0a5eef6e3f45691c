theorem nIand3 {f : Nat} (h : f < 8) : nI f &&& 3 = nI (f % 4) := by
  match f, h with
  | 0, _ => decide
  | 1, _ => decide
  | 2, _ => decide
  | 3, _ => decide
  | 4, _ => decide
  | 5, _ => decide
  | 6, _ => decide
  | 7, _ => decide
/-- a cellar's cells -/
def isC (c : Nat) : Prop := (c < 138 ∧ xsh c = .inr (1, [some (c + 1), none, none])) ∧ xI (c + 1) 100
def jS (nm : Nat → Int32) (s : Int32 × Int32) (c : Nat × Nat) : Int32 × Int32 :=
  if c.1 = 18 then (s.1, s.2 ^^^ 1) else if c.1 = 19 then (s.1, s.2 >>> (1 &&& 31) &&& (-2 ||| s.2 &&& 1)) else if c.1 = 20 then (s.1, s.2 >>> (1 &&& 31) ||| s.2 &&& 1)
  else if c.1 = 21 then (s.1 + (s.2 &&& 1) * nI c.2, s.2 >>> (1 &&& 31)) else if c.1 = 22 then (s.1 - (s.2 &&& 1) * nI c.2, s.2 >>> (1 &&& 31)) else (s.1, s.2 <<< (1 &&& 31) ||| bI (mTst nm (c.1 / 3) (c.1 % 3) (nI c.2)))
def jRun (nm : Nat → Int32) (l : List (Nat × Nat)) (s : Int32 × Int32) : Int32 × Int32 := l.foldl (jS nm) s
theorem jS_tst {nm : Nat → Int32} {S : Int32 × Int32} {q n : Nat} (h : q < 18) : jS nm S (q, n) = (S.1, S.2 <<< (1 &&& 31) ||| bI (mTst nm (q / 3) (q % 3) (nI n))) := by
  unfold jS
  simp only
  rw [if_neg (by omega), if_neg (by omega), if_neg (by omega), if_neg (by omega), if_neg (by omega)]
theorem jRun_take {nm : Nat → Int32} {l : List (Nat × Nat)} {s : Int32 × Int32} {j : Nat} {c : Nat × Nat} (h : l[j]? = some c) : jRun nm (l.take (j + 1)) s = jS nm (jRun nm (l.take j) s) c := by
  unfold jRun
  rw [List.take_add_one, h]
  simp only [Option.toList, List.foldl_append, List.foldl_cons, List.foldl_nil]
def RepC (σ : xSt) (c : Nat) (l : List (Nat × Nat)) : Prop := σ.1 c 1 = nI l.length ∧ l.length ≤ 100 ∧ ∀ j q n, l[j]? = some (q, n) → q ≤ 22 ∧ n ≤ 99 ∧ σ.2.1 (c + 1) j = nI (100 * q + n)
abbrev cC (c b : Nat) : Prop := b = c ∨ b = c + 1
theorem RepC.un {P : Nat → Prop} {σ τ : xSt} {c : Nat} {l : List (Nat × Nat)} (h : RepC σ c l) (hu : Un P σ τ) (h1 : ¬ P c) (h2 : ¬ P (c + 1)) : RepC τ c l :=
  ⟨(hu.f h1 1).trans h.1, h.2.1, fun j q n hj => ⟨(h.2.2 j q n hj).1, (h.2.2 j q n hj).2.1, (congrFun (hu.a h2) j).trans (h.2.2 j q n hj).2.2⟩⟩

theorem sX3_clear {d : Nat} (hd : 0 ≤ d) {σ : xSt} {Post : Option Value → xSt → Prop} {c i f : Nat} (a : Nat → Int32) (sm : Int32) (hp : isP c) (hf : f < 8) (hr : RepP σ c i a) (h : Post (some (.int (clrF a sm f))) σ) : xM kX3_clear d [.ref c, .int sm, .int (nI f)] σ Post := by
  refine xM_start (lv := [some (.ref c), some (.int sm), some (.int (nI f))]) rfl ?_
  have h0 : σ.1 c 1 = a 0 := hr.2.1 0 (by omega); have h1 : σ.1 c 2 = a 1 := hr.2.1 1 (by omega); have h3 : σ.1 c 4 = a 3 := hr.2.1 3 (by omega); have h4 : σ.1 c 5 = a 4 := hr.2.1 4 (by omega)
  refine xe_aload_n dX3_clear_0 rfl ?_
  refine xe_getf dX3_clear_1 flX3_19 hp.1.1 hp.1.2 rfl ?_
  refine xn_tsw (tgs := [44, 51, 55, 64, 86, 104]) (td := 124) dX3_clear_4 rfl rfl rfl (fun i4 t4 hg4 hx4 => ?_) (fun hx4 => ?_)
  · match i4, hg4, hx4 with
    | 0, hg4, hx4 =>
      cases hg4
      have c0 : a 0 = 1 := (h0.symm.trans (Int32.toInt_inj.mp (by rw [hx4]; rfl)))
      refine xe_iload_n dX3_clear_44 rfl ?_
      refine xe_aload_n dX3_clear_45 rfl ?_
      refine xe_getf dX3_clear_46 flX3_22 hp.1.1 hp.1.2 rfl ?_
      rw [h1]
      refine xe_iadd dX3_clear_49 ?_
      refine xe_iret dX3_clear_50 rfl rfl ?_
      have e := h
      rw [clrF] at e
      simp only [c0] at e
      exact e
    | 1, hg4, hx4 =>
      cases hg4
      have c0 : a 0 = 2 := (h0.symm.trans (Int32.toInt_inj.mp (by rw [hx4]; rfl)))
      refine xe_iload_n dX3_clear_51 rfl ?_
      refine xe_iconst (v := 2) dX3_clear_52 rfl ?_
      refine xe_idiv dX3_clear_53 (by decide) ?_
      refine xe_iret dX3_clear_54 rfl rfl ?_
      have e := h
      rw [clrF] at e
      simp only [c0] at e
      exact e
    | 2, hg4, hx4 =>
      cases hg4
      have c0 : a 0 = 3 := (h0.symm.trans (Int32.toInt_inj.mp (by rw [hx4]; rfl)))
      refine xe_iload_n dX3_clear_55 rfl ?_
      refine xe_iconst (v := 2) dX3_clear_56 rfl ?_
      refine xe_aload_n dX3_clear_57 rfl ?_
      refine xe_getf dX3_clear_58 flX3_31 hp.1.1 hp.1.2 rfl ?_
      rw [h4]
      refine xe_imul dX3_clear_61 ?_
      refine xe_isub dX3_clear_62 ?_
      refine xe_iret dX3_clear_63 rfl rfl ?_
      have e := h
      rw [clrF] at e
      simp only [c0] at e
      exact e
    | 3, hg4, hx4 =>
      cases hg4
      have c0 : a 0 = 4 := (h0.symm.trans (Int32.toInt_inj.mp (by rw [hx4]; rfl)))
      refine xe_aload_n dX3_clear_64 rfl ?_
      refine xe_getf dX3_clear_65 flX3_28 hp.1.1 hp.1.2 rfl ?_
      rw [h3]
      refine xe_aload_n dX3_clear_68 rfl ?_
      refine xe_getf dX3_clear_69 flX3_22 hp.1.1 hp.1.2 rfl ?_
      rw [h1]
      refine xe_icmp_ge (tgt := 79) dX3_clear_72 (by decide) (fun h72 => ?_) (fun h72 => ?_)
      · refine xe_iload_n dX3_clear_79 rfl ?_
        refine xe_aload_n dX3_clear_80 rfl ?_
        refine xe_getf dX3_clear_81 flX3_22 hp.1.1 hp.1.2 rfl ?_
        rw [h1]
        refine xe_iadd dX3_clear_84 ?_
        refine xe_iret dX3_clear_85 rfl rfl ?_
        have e := h
        rw [clrF] at e
        simp only [c0] at e
        first
        | (have q : ¬ a 3 < a 1 := Int32.not_lt.mpr h72; simp only [q] at e; exact e)
        | (have q : a 3 < a 1 := Int32.not_le.mp h72; simp only [q] at e; exact e)
      · refine xe_iconst (v := 0) dX3_clear_75 rfl ?_
        refine xe_goto (tgt := 85) dX3_clear_76 (by decide) ?_
        refine xe_iret dX3_clear_85 rfl rfl ?_
        have e := h
        rw [clrF] at e
        simp only [c0] at e
        first
        | (have q : ¬ a 3 < a 1 := Int32.not_lt.mpr h72; simp only [q] at e; exact e)
        | (have q : a 3 < a 1 := Int32.not_le.mp h72; simp only [q] at e; exact e)
    | 4, hg4, hx4 =>
      cases hg4
      have c0 : a 0 = 5 := (h0.symm.trans (Int32.toInt_inj.mp (by rw [hx4]; rfl)))
      refine xe_iload_n dX3_clear_86 rfl ?_
      refine xe_iconst (v := 2) dX3_clear_87 rfl ?_
      refine xe_idiv dX3_clear_88 (by decide) ?_
      refine xe_iload_n dX3_clear_89 rfl ?_
      refine xe_iconst (v := 2) dX3_clear_90 rfl ?_
      refine xe_irem dX3_clear_91 (by decide) ?_
      refine xe_top (x2 := nI (f % 2)) (by rw [show (2 : Int32) = nI 2 from rfl]; exact pk_rem (by omega) (by omega) (by omega)) ?_
      refine xe_iconst (v := 1) dX3_clear_92 rfl ?_
      refine xe_icmp_ne (tgt := 101) dX3_clear_93 (by decide) (fun h93 => ?_) (fun h93 => ?_)
      · refine xe_iconst (v := 0) dX3_clear_101 rfl ?_
        refine xe_isub dX3_clear_102 ?_
        refine xe_iret dX3_clear_103 rfl rfl ?_
        have e := h
        rw [clrF] at e
        simp only [c0] at e
        first
        | (have q : f % 2 = 1 := nEq (b := 1) (by omega) (by omega) h93; simp only [q] at e; exact e)
        | (have q : ¬ f % 2 = 1 := fun z => h93 (by rw [z]; rfl); simp only [q] at e; exact e)
      · refine xe_bipush (v := 6) dX3_clear_96 rfl ?_
        refine xe_goto (tgt := 102) dX3_clear_98 (by decide) ?_
        refine xe_isub dX3_clear_102 ?_
        refine xe_iret dX3_clear_103 rfl rfl ?_
        have e := h
        rw [clrF] at e
        simp only [c0] at e
        first
        | (have q : f % 2 = 1 := nEq (b := 1) (by omega) (by omega) h93; simp only [q] at e; exact e)
        | (have q : ¬ f % 2 = 1 := fun z => h93 (by rw [z]; rfl); simp only [q] at e; exact e)
    | 5, hg4, hx4 =>
      cases hg4
      have c0 : a 0 = 6 := (h0.symm.trans (Int32.toInt_inj.mp (by rw [hx4]; rfl)))
      refine xe_iload_n dX3_clear_104 rfl ?_
      refine xe_iconst (v := 2) dX3_clear_105 rfl ?_
      refine xe_aload_n dX3_clear_106 rfl ?_
      refine xe_getf dX3_clear_107 flX3_31 hp.1.1 hp.1.2 rfl ?_
      rw [h4]
      refine xe_imul dX3_clear_110 ?_
      refine xe_isub dX3_clear_111 ?_
      refine xe_aload_n dX3_clear_112 rfl ?_
      refine xe_getr dX3_clear_113 flX3_9 hp.1.1 hp.1.2 rfl ?_
      refine xe_iload_n dX3_clear_116 rfl ?_
      refine xe_iconst (v := 3) dX3_clear_117 rfl ?_
      refine xe_iand dX3_clear_118 ?_
      rw [nIand3 hf]
      refine xn_iaload (j := f % 4) dX3_clear_119 hp.2.1 hp.2.2 (by first | with_reducible rfl | (simp only [xl, pk_mul, nI_add, nI_1]; done) | (simp only [xl, pk_mul, nI_add, nI_1]; rfl)) (by omega) (by first | decide | omega) ?_
      rw [hr.2.2 _ (by omega : f % 4 < 4)]
      refine xe_iadd dX3_clear_120 ?_
      refine xe_iconst (v := 4) dX3_clear_121 rfl ?_
      refine xe_isub dX3_clear_122 ?_
      refine xe_iret dX3_clear_123 rfl rfl ?_
      have e := h
      rw [clrF] at e
      simp only [c0] at e
      exact e
    | i4 + 6, hg4, hx4 => simp at hg4
  · skip
    have c0 : ∀ n : Int32, 1 ≤ n.toInt → n.toInt ≤ 6 → ¬ a 0 = n := fun n q1 q2 z => by rw [h0, z] at hx4; omega
    refine xe_iload_n dX3_clear_124 rfl ?_
    refine xe_iret dX3_clear_125 rfl rfl ?_
    rw [clrF, if_neg (c0 1 (by decide) (by decide)), if_neg (c0 2 (by decide) (by decide)), if_neg (c0 3 (by decide) (by decide)), if_neg (c0 4 (by decide) (by decide)), if_neg (c0 5 (by decide) (by decide)), if_neg (c0 6 (by decide) (by decide))] at h
    exact h

theorem lX1_holds87 {d : Nat} {σ : xSt} {Post : Option Value → xSt → Prop} (L R c : Nat) (hL : L < 6) (hR : R < 3) (n f v : Int32) (nm : Nat → Int32) (hv : nm L = v) (h : Post (some (.int (bI (mTst nm L R n)))) σ) : xEv kX1_holds d 87 [some (.int (nI (3 * L + R))), some (.int n), some (.ref c), some (.int f), some (.int v), none] [] σ Post := by
  refine xe_iload_n dX1_holds_87 rfl ?_
  refine xe_iconst (v := 3) dX1_holds_88 rfl ?_
  refine xe_irem dX1_holds_89 (by decide) ?_
  refine xe_top (x2 := nI R) (by rw [show (3 : Int32) = nI 3 from rfl, pk_rem (by omega) (by omega) (by omega)]; congr 1; omega) ?_
  refine xe_istore (lv2 := [_, _, _, _, _, _]) dX1_holds_90 (by decide) rfl ?_
  refine xe_iload dX1_holds_92 rfl ?_
  refine xe_if_ne (tgt := 111) dX1_holds_94 (by decide) (fun h94 => ?_) (fun h94 => ?_)
  · refine xe_iload dX1_holds_111 rfl ?_
    refine xe_iconst (v := 1) dX1_holds_113 rfl ?_
    refine xe_icmp_ne (tgt := 131) dX1_holds_114 (by decide) (fun h114 => ?_) (fun h114 => ?_)
    · obtain rfl : R = 2 := by have z0 : ¬ R = 0 := fun z => h94 (by rw [z]; rfl); have z1 : ¬ R = 1 := fun z => h114 (by rw [z]; rfl); omega
      rw [mTst] at h
      refine xe_iload dX1_holds_131 rfl ?_
      refine xe_iload_n dX1_holds_133 rfl ?_
      refine xe_icmp_le (tgt := 141) dX1_holds_134 (by decide) (fun h134 => ?_) (fun h134 => ?_)
      · refine xe_iconst (v := 0) dX1_holds_141 rfl ?_
        refine xe_iret dX1_holds_142 rfl (by first | rfl | decide | assumption | exact bI_nar _ | exact xb_narrow (by assumption)) ?_
        subst hv
        first
        | (have q : nm L < n := Int32.not_le.mp h100; simp only [q] at h; exact h)
        | (have q : ¬ nm L < n := Int32.not_lt.mpr h100; simp only [q] at h; exact h)
        | (have q : nm L = n := h120; simp only [q] at h; exact h)
        | (have q : ¬ nm L = n := h120; simp only [q] at h; exact h)
        | (have q : n < nm L := Int32.not_le.mp h134; simp only [q] at h; exact h)
        | (have q : ¬ n < nm L := Int32.not_lt.mpr h134; simp only [q] at h; exact h)
      · refine xe_iconst (v := 1) dX1_holds_137 rfl ?_
        refine xe_goto (tgt := 142) dX1_holds_138 (by decide) ?_
        refine xe_iret dX1_holds_142 rfl (by first | rfl | decide | assumption | exact bI_nar _ | exact xb_narrow (by assumption)) ?_
        subst hv
        first
        | (have q : nm L < n := Int32.not_le.mp h100; simp only [q] at h; exact h)
        | (have q : ¬ nm L < n := Int32.not_lt.mpr h100; simp only [q] at h; exact h)
        | (have q : nm L = n := h120; simp only [q] at h; exact h)
        | (have q : ¬ nm L = n := h120; simp only [q] at h; exact h)
        | (have q : n < nm L := Int32.not_le.mp h134; simp only [q] at h; exact h)
        | (have q : ¬ n < nm L := Int32.not_lt.mpr h134; simp only [q] at h; exact h)
    · obtain rfl : R = 1 := nEq (b := 1) (by omega) (by omega) h114
      rw [mTst] at h
      refine xe_iload dX1_holds_117 rfl ?_
      refine xe_iload_n dX1_holds_119 rfl ?_
      refine xe_icmp_ne (tgt := 127) dX1_holds_120 (by decide) (fun h120 => ?_) (fun h120 => ?_)
      · refine xe_iconst (v := 0) dX1_holds_127 rfl ?_
        refine xe_goto (tgt := 142) dX1_holds_128 (by decide) ?_
        refine xe_iret dX1_holds_142 rfl (by first | rfl | decide | assumption | exact bI_nar _ | exact xb_narrow (by assumption)) ?_
        subst hv
        first
        | (have q : nm L < n := Int32.not_le.mp h100; simp only [q] at h; exact h)
        | (have q : ¬ nm L < n := Int32.not_lt.mpr h100; simp only [q] at h; exact h)
        | (have q : nm L = n := h120; simp only [q] at h; exact h)
        | (have q : ¬ nm L = n := h120; simp only [q] at h; exact h)
        | (have q : n < nm L := Int32.not_le.mp h134; simp only [q] at h; exact h)
        | (have q : ¬ n < nm L := Int32.not_lt.mpr h134; simp only [q] at h; exact h)
      · refine xe_iconst (v := 1) dX1_holds_123 rfl ?_
        refine xe_goto (tgt := 142) dX1_holds_124 (by decide) ?_
        refine xe_iret dX1_holds_142 rfl (by first | rfl | decide | assumption | exact bI_nar _ | exact xb_narrow (by assumption)) ?_
        subst hv
        first
        | (have q : nm L < n := Int32.not_le.mp h100; simp only [q] at h; exact h)
        | (have q : ¬ nm L < n := Int32.not_lt.mpr h100; simp only [q] at h; exact h)
        | (have q : nm L = n := h120; simp only [q] at h; exact h)
        | (have q : ¬ nm L = n := h120; simp only [q] at h; exact h)
        | (have q : n < nm L := Int32.not_le.mp h134; simp only [q] at h; exact h)
        | (have q : ¬ n < nm L := Int32.not_lt.mpr h134; simp only [q] at h; exact h)
  · obtain rfl : R = 0 := nEq (b := 0) (by omega) (by omega) h94
    rw [mTst] at h
    refine xe_iload dX1_holds_97 rfl ?_
    refine xe_iload_n dX1_holds_99 rfl ?_
    refine xe_icmp_ge (tgt := 107) dX1_holds_100 (by decide) (fun h100 => ?_) (fun h100 => ?_)
    · refine xe_iconst (v := 0) dX1_holds_107 rfl ?_
      refine xe_goto (tgt := 142) dX1_holds_108 (by decide) ?_
      refine xe_iret dX1_holds_142 rfl (by first | rfl | decide | assumption | exact bI_nar _ | exact xb_narrow (by assumption)) ?_
      subst hv
      first
      | (have q : nm L < n := Int32.not_le.mp h100; simp only [q] at h; exact h)
      | (have q : ¬ nm L < n := Int32.not_lt.mpr h100; simp only [q] at h; exact h)
      | (have q : nm L = n := h120; simp only [q] at h; exact h)
      | (have q : ¬ nm L = n := h120; simp only [q] at h; exact h)
      | (have q : n < nm L := Int32.not_le.mp h134; simp only [q] at h; exact h)
      | (have q : ¬ n < nm L := Int32.not_lt.mpr h134; simp only [q] at h; exact h)
    · refine xe_iconst (v := 1) dX1_holds_103 rfl ?_
      refine xe_goto (tgt := 142) dX1_holds_104 (by decide) ?_
      refine xe_iret dX1_holds_142 rfl (by first | rfl | decide | assumption | exact bI_nar _ | exact xb_narrow (by assumption)) ?_
      subst hv
      first
      | (have q : nm L < n := Int32.not_le.mp h100; simp only [q] at h; exact h)
      | (have q : ¬ nm L < n := Int32.not_lt.mpr h100; simp only [q] at h; exact h)
      | (have q : nm L = n := h120; simp only [q] at h; exact h)
      | (have q : ¬ nm L = n := h120; simp only [q] at h; exact h)
      | (have q : n < nm L := Int32.not_le.mp h134; simp only [q] at h; exact h)
      | (have q : ¬ n < nm L := Int32.not_lt.mpr h134; simp only [q] at h; exact h)

theorem sX1_holds {d : Nat} (hd : 0 ≤ d) {σ : xSt} {Post : Option Value → xSt → Prop} {c i : Nat} (L R : Nat) (n f : Int32) (a : Nat → Int32) (hp : isP c) (hL : L < 6) (hR : R < 3) (hr : RepP σ c i a) (h : Post (some (.int (bI (mTst (nmO i a f) L R n)))) σ) : xM kX1_holds d [.int (nI (3 * L + R)), .int n, .ref c, .int f] σ Post := by
  refine xM_start (lv := [some (.int (nI (3 * L + R))), some (.int n), some (.ref c), some (.int f), none, none]) rfl ?_
  refine xe_iload_n dX1_holds_0 rfl ?_
  refine xe_iconst (v := 3) dX1_holds_1 rfl ?_
  refine xe_idiv dX1_holds_2 (by decide) ?_
  refine xe_top (x2 := nI L) (by rw [show (3 : Int32) = nI 3 from rfl, pk_div (by omega) (by omega) (by omega)]; congr 1; omega) ?_
  refine xn_tsw (tgs := [36, 45, 54, 63, 69]) (td := 78) dX1_holds_3 rfl rfl rfl (fun i3 t3 hg3 hx3 => ?_) (fun hx3 => ?_)
  · match i3, hg3, hx3 with
    | 0, hg3, hx3 =>
      cases hg3
      obtain rfl : L = 0 := by rw [nI_toInt (by omega)] at hx3; omega
      refine xe_aload_n dX1_holds_36 rfl ?_
      refine xe_getf dX1_holds_37 flX1_31 hp.1.1 hp.1.2 rfl ?_
      refine xe_istore (lv2 := [_, _, _, _, _, _]) dX1_holds_40 (by decide) rfl ?_
      refine xe_goto (tgt := 87) dX1_holds_42 (by decide) ?_
      refine lX1_holds87 (d := d) _ R c hL hR n f _ (nmO i a f) ?_ h
      first | exact hr.1.symm | exact (hr.2.1 0 (by omega)).symm | exact (hr.2.1 1 (by omega)).symm | rfl | exact (hr.2.1 2 (by omega)).symm | (rw [show σ.1 c 4 = a 3 from hr.2.1 3 (by omega)]; rfl)
    | 1, hg3, hx3 =>
      cases hg3
      obtain rfl : L = 1 := by rw [nI_toInt (by omega)] at hx3; omega
      refine xe_aload_n dX1_holds_45 rfl ?_
      refine xe_getf dX1_holds_46 flX1_34 hp.1.1 hp.1.2 rfl ?_
      refine xe_istore (lv2 := [_, _, _, _, _, _]) dX1_holds_49 (by decide) rfl ?_
      refine xe_goto (tgt := 87) dX1_holds_51 (by decide) ?_
      refine lX1_holds87 (d := d) _ R c hL hR n f _ (nmO i a f) ?_ h
      first | exact hr.1.symm | exact (hr.2.1 0 (by omega)).symm | exact (hr.2.1 1 (by omega)).symm | rfl | exact (hr.2.1 2 (by omega)).symm | (rw [show σ.1 c 4 = a 3 from hr.2.1 3 (by omega)]; rfl)
    | 2, hg3, hx3 =>
      cases hg3
      obtain rfl : L = 2 := by rw [nI_toInt (by omega)] at hx3; omega
      refine xe_aload_n dX1_holds_54 rfl ?_
      refine xe_getf dX1_holds_55 flX1_37 hp.1.1 hp.1.2 rfl ?_
      refine xe_istore (lv2 := [_, _, _, _, _, _]) dX1_holds_58 (by decide) rfl ?_
      refine xe_goto (tgt := 87) dX1_holds_60 (by decide) ?_
      refine lX1_holds87 (d := d) _ R c hL hR n f _ (nmO i a f) ?_ h
      first | exact hr.1.symm | exact (hr.2.1 0 (by omega)).symm | exact (hr.2.1 1 (by omega)).symm | rfl | exact (hr.2.1 2 (by omega)).symm | (rw [show σ.1 c 4 = a 3 from hr.2.1 3 (by omega)]; rfl)
    | 3, hg3, hx3 =>
      cases hg3
      obtain rfl : L = 3 := by rw [nI_toInt (by omega)] at hx3; omega
      refine xe_iload_n dX1_holds_63 rfl ?_
      refine xe_istore (lv2 := [_, _, _, _, _, _]) dX1_holds_64 (by decide) rfl ?_
      refine xe_goto (tgt := 87) dX1_holds_66 (by decide) ?_
      refine lX1_holds87 (d := d) _ R c hL hR n f _ (nmO i a f) ?_ h
      first | exact hr.1.symm | exact (hr.2.1 0 (by omega)).symm | exact (hr.2.1 1 (by omega)).symm | rfl | exact (hr.2.1 2 (by omega)).symm | (rw [show σ.1 c 4 = a 3 from hr.2.1 3 (by omega)]; rfl)
    | 4, hg3, hx3 =>
      cases hg3
      obtain rfl : L = 4 := by rw [nI_toInt (by omega)] at hx3; omega
      refine xe_aload_n dX1_holds_69 rfl ?_
      refine xe_getf dX1_holds_70 flX1_22 hp.1.1 hp.1.2 rfl ?_
      refine xe_istore (lv2 := [_, _, _, _, _, _]) dX1_holds_73 (by decide) rfl ?_
      refine xe_goto (tgt := 87) dX1_holds_75 (by decide) ?_
      refine lX1_holds87 (d := d) _ R c hL hR n f _ (nmO i a f) ?_ h
      first | exact hr.1.symm | exact (hr.2.1 0 (by omega)).symm | exact (hr.2.1 1 (by omega)).symm | rfl | exact (hr.2.1 2 (by omega)).symm | (rw [show σ.1 c 4 = a 3 from hr.2.1 3 (by omega)]; rfl)
    | i3 + 5, hg3, hx3 => simp at hg3
  · skip
    obtain rfl : L = 5 := by rw [nI_toInt (by omega)] at hx3; omega
    refine xe_aload_n dX1_holds_78 rfl ?_
    refine xe_getf dX1_holds_79 flX1_40 hp.1.1 hp.1.2 rfl ?_
    refine xe_bipush (v := 10) dX1_holds_82 rfl ?_
    refine xe_irem dX1_holds_84 (by decide) ?_
    refine xe_istore (lv2 := [_, _, _, _, _, _]) dX1_holds_85 (by decide) rfl ?_
    refine lX1_holds87 (d := d) _ R c hL hR n f _ (nmO i a f) ?_ h
    first | exact hr.1.symm | exact (hr.2.1 0 (by omega)).symm | exact (hr.2.1 1 (by omega)).symm | rfl | exact (hr.2.1 2 (by omega)).symm | (rw [show σ.1 c 4 = a 3 from hr.2.1 3 (by omega)]; rfl)

theorem tX1_holds {d : Nat} {σ : xSt} {Post : Option Value → xSt → Prop} {c i : Nat} (q : Nat) (n f : Int32) (a : Nat → Int32) (hp : isP c) (hq : q < 18) (hr : RepP σ c i a) (h : Post (some (.int (bI (mTst (nmO i a f) (q / 3) (q % 3) n)))) σ) : xM kX1_holds d [.int (nI q), .int n, .ref c, .int f] σ Post := by
  have e : nI q = nI (3 * (q / 3) + q % 3) := by congr 1; omega
  rw [e]
  exact sX1_holds (Nat.zero_le _) (q / 3) (q % 3) n f a hp (by omega) (by omega) hr h

theorem lX1_sum {d : Nat} {σ : xSt} {Post : Option Value → xSt → Prop} {cc c i : Nat} (hd : 0 ≤ d) (f : Int32) (a : Nat → Int32) (l : List (Nat × Nat)) (hc : isC cc) (hp : isP c) (hr : RepP σ c i a) (hl : RepC σ cc l) (h : Post (some (.int (jRun (nmO i a f) l (a 2, 0)).1)) σ) : ∀ (q_ j : Nat) (v6 v7 v8 : Option Value), l.length + 1 ≤ j + q_ → j ≤ l.length → xEv kX1_sum (d + 1) 11 [some (.ref cc), some (.ref c), some (.int f), some (.int (jRun (nmO i a f) (l.take j) (a 2, 0)).1), some (.int (jRun (nmO i a f) (l.take j) (a 2, 0)).2), some (.int (nI j)), v6, v7, v8] [] σ Post := by
  intro q_
  induction q_ with
  | zero => intro j v6 v7 v8 hq hj; omega
  | succ q_ ih =>
    intro j v6 v7 v8 hq hj
    have hlen := hl.2.1
    refine xe_iload dX1_sum_11 rfl ?_
    refine xe_aload_n dX1_sum_13 rfl ?_
    refine xe_getf dX1_sum_14 flX1_15 hc.1.1 hc.1.2 rfl ?_
    refine xe_icmp_ge (tgt := 188) dX1_sum_17 (by decide) (fun h17 => ?_) (fun h17 => ?_)
    · rw [hl.1] at h17
      obtain rfl : j = l.length := by have := nLe (by omega) (by omega) h17; omega
      rw [List.take_length]
      refine xe_iload_n dX1_sum_188 rfl ?_
      refine xe_iret dX1_sum_189 rfl rfl ?_
      exact h
    · rw [hl.1] at h17
      have hlt := nNle (by omega) (by omega) h17
      obtain ⟨⟨q, n⟩, hg⟩ : ∃ x, l[j]? = some x := ⟨l[j], List.getElem?_eq_getElem hlt⟩
      obtain ⟨hq22, hn99, hst⟩ := hl.2.2 j q n hg
      have hT := jRun_take (nm := nmO i a f) (s := (a 2, 0)) hg
      generalize hS : jRun (nmO i a f) (l.take j) (a 2, 0) = S at hT ⊢
      have IH := ih (j + 1)
      rw [hT] at IH
      refine xe_aload_n dX1_sum_20 rfl ?_
      refine xe_getr dX1_sum_21 flX1_9 hc.1.1 hc.1.2 rfl ?_
      refine xe_iload dX1_sum_24 rfl ?_
      refine xn_iaload (j := j) dX1_sum_26 hc.2.1 hc.2.2 (by first | with_reducible rfl | (simp only [xl, pk_mul, nI_add, nI_1]; done) | (simp only [xl, pk_mul, nI_add, nI_1]; rfl)) (by omega) (by first | decide | omega) ?_
      refine xe_bipush (v := 100) dX1_sum_27 rfl ?_
      refine xe_idiv dX1_sum_29 (by decide) ?_
      refine xe_top (x2 := nI q) (by rw [hst, show (100 : Int32) = nI 100 from rfl, pk_div (by omega) (by omega) (by omega)]; congr 1; omega) ?_
      refine xe_istore (lv2 := [_, _, _, _, _, _, _, _, _]) dX1_sum_30 (by decide) rfl ?_
      refine xe_aload_n dX1_sum_32 rfl ?_
      refine xe_getr dX1_sum_33 flX1_9 hc.1.1 hc.1.2 rfl ?_
      refine xe_iload dX1_sum_36 rfl ?_
      refine xn_iaload (j := j) dX1_sum_38 hc.2.1 hc.2.2 (by first | with_reducible rfl | (simp only [xl, pk_mul, nI_add, nI_1]; done) | (simp only [xl, pk_mul, nI_add, nI_1]; rfl)) (by omega) (by first | decide | omega) ?_
      refine xe_bipush (v := 100) dX1_sum_39 rfl ?_
      refine xe_irem dX1_sum_41 (by decide) ?_
      refine xe_top (x2 := nI n) (by rw [hst, show (100 : Int32) = nI 100 from rfl, pk_rem (by omega) (by omega) (by omega)]; congr 1; omega) ?_
      refine xe_istore (lv2 := [_, _, _, _, _, _, _, _, _]) dX1_sum_42 (by decide) rfl ?_
      refine xe_iload dX1_sum_44 rfl ?_
      refine xe_iconst (v := 1) dX1_sum_46 rfl ?_
      refine xe_iand dX1_sum_47 ?_
      refine xe_istore (lv2 := [_, _, _, _, _, _, _, _, _]) dX1_sum_48 (by decide) rfl ?_
      refine xe_iload dX1_sum_50 rfl ?_
      refine xn_tsw (tgs := [88, 97, 112, 124, 141]) (td := 158) dX1_sum_52 rfl rfl rfl (fun i52 t52 hg52 hx52 => ?_) (fun hx52 => ?_)
      · match i52, hg52, hx52 with
        | 0, hg52, hx52 =>
          cases hg52
          have hqv : q = 18 := by rw [nI_toInt (by omega)] at hx52; omega
          have eS : jS (nmO i a f) S (q, n) = (S.1, S.2 ^^^ 1) := by rw [hqv]; rfl
          refine xe_iload dX1_sum_88 rfl ?_
          refine xe_iconst (v := 1) dX1_sum_90 rfl ?_
          refine xe_ixor dX1_sum_91 ?_
          refine xe_istore (lv2 := [_, _, _, _, _, _, _, _, _]) dX1_sum_92 (by decide) rfl ?_
          refine xe_goto (tgt := 182) dX1_sum_94 (by decide) ?_
          refine xn_inc (j := j) (lv2 := [_, _, _, _, _, _, _, _, _]) dX1_sum_182 (by decide) rfl rfl ?_
          refine xe_goto (tgt := 11) dX1_sum_185 (by decide) ?_
          have L := IH (some (.int (nI q))) (some (.int (nI n))) (some (.int (S.2 &&& 1))) (by omega) (by omega)
          first
          | (rw [eS] at L; exact L)
          | (rw [jS_tst hq18] at L; revert L h171; cases hb : mTst (nmO i a f) (q / 3) (q % 3) (nI n) <;> intro h171 L <;> first | exact L | exact absurd rfl h171 | exact absurd h171 (by decide))
        | 1, hg52, hx52 =>
          cases hg52
          have hqv : q = 19 := by rw [nI_toInt (by omega)] at hx52; omega
          have eS : jS (nmO i a f) S (q, n) = (S.1, S.2 >>> (1 &&& 31) &&& (-2 ||| S.2 &&& 1)) := by rw [hqv]; rfl
          refine xe_iload dX1_sum_97 rfl ?_
          refine xe_iconst (v := 1) dX1_sum_99 rfl ?_
          refine xe_ishr dX1_sum_100 ?_
          refine xe_bipush (v := -2) dX1_sum_101 rfl ?_
          refine xe_iload dX1_sum_103 rfl ?_
          refine xe_ior dX1_sum_105 ?_
          refine xe_iand dX1_sum_106 ?_
          refine xe_istore (lv2 := [_, _, _, _, _, _, _, _, _]) dX1_sum_107 (by decide) rfl ?_
          refine xe_goto (tgt := 182) dX1_sum_109 (by decide) ?_
          refine xn_inc (j := j) (lv2 := [_, _, _, _, _, _, _, _, _]) dX1_sum_182 (by decide) rfl rfl ?_
          refine xe_goto (tgt := 11) dX1_sum_185 (by decide) ?_
          have L := IH (some (.int (nI q))) (some (.int (nI n))) (some (.int (S.2 &&& 1))) (by omega) (by omega)
          first
          | (rw [eS] at L; exact L)
          | (rw [jS_tst hq18] at L; revert L h171; cases hb : mTst (nmO i a f) (q / 3) (q % 3) (nI n) <;> intro h171 L <;> first | exact L | exact absurd rfl h171 | exact absurd h171 (by decide))
        | 2, hg52, hx52 =>
          cases hg52
          have hqv : q = 20 := by rw [nI_toInt (by omega)] at hx52; omega
          have eS : jS (nmO i a f) S (q, n) = (S.1, S.2 >>> (1 &&& 31) ||| S.2 &&& 1) := by rw [hqv]; rfl
          refine xe_iload dX1_sum_112 rfl ?_
          refine xe_iconst (v := 1) dX1_sum_114 rfl ?_
          refine xe_ishr dX1_sum_115 ?_
          refine xe_iload dX1_sum_116 rfl ?_
          refine xe_ior dX1_sum_118 ?_
          refine xe_istore (lv2 := [_, _, _, _, _, _, _, _, _]) dX1_sum_119 (by decide) rfl ?_
          refine xe_goto (tgt := 182) dX1_sum_121 (by decide) ?_
          refine xn_inc (j := j) (lv2 := [_, _, _, _, _, _, _, _, _]) dX1_sum_182 (by decide) rfl rfl ?_
          refine xe_goto (tgt := 11) dX1_sum_185 (by decide) ?_
          have L := IH (some (.int (nI q))) (some (.int (nI n))) (some (.int (S.2 &&& 1))) (by omega) (by omega)
          first
          | (rw [eS] at L; exact L)
          | (rw [jS_tst hq18] at L; revert L h171; cases hb : mTst (nmO i a f) (q / 3) (q % 3) (nI n) <;> intro h171 L <;> first | exact L | exact absurd rfl h171 | exact absurd h171 (by decide))
        | 3, hg52, hx52 =>
          cases hg52
          have hqv : q = 21 := by rw [nI_toInt (by omega)] at hx52; omega
          have eS : jS (nmO i a f) S (q, n) = (S.1 + (S.2 &&& 1) * nI n, S.2 >>> (1 &&& 31)) := by rw [hqv]; rfl
          refine xe_iload_n dX1_sum_124 rfl ?_
          refine xe_iload dX1_sum_125 rfl ?_
          refine xe_iload dX1_sum_127 rfl ?_
          refine xe_imul dX1_sum_129 ?_
          refine xe_iadd dX1_sum_130 ?_
          refine xe_istore_n (lv2 := [_, _, _, _, _, _, _, _, _]) dX1_sum_131 (by decide) rfl ?_
          refine xe_iload dX1_sum_132 rfl ?_
          refine xe_iconst (v := 1) dX1_sum_134 rfl ?_
          refine xe_ishr dX1_sum_135 ?_
          refine xe_istore (lv2 := [_, _, _, _, _, _, _, _, _]) dX1_sum_136 (by decide) rfl ?_
          refine xe_goto (tgt := 182) dX1_sum_138 (by decide) ?_
          refine xn_inc (j := j) (lv2 := [_, _, _, _, _, _, _, _, _]) dX1_sum_182 (by decide) rfl rfl ?_
          refine xe_goto (tgt := 11) dX1_sum_185 (by decide) ?_
          have L := IH (some (.int (nI q))) (some (.int (nI n))) (some (.int (S.2 &&& 1))) (by omega) (by omega)
          first
          | (rw [eS] at L; exact L)
          | (rw [jS_tst hq18] at L; revert L h171; cases hb : mTst (nmO i a f) (q / 3) (q % 3) (nI n) <;> intro h171 L <;> first | exact L | exact absurd rfl h171 | exact absurd h171 (by decide))
        | 4, hg52, hx52 =>
          cases hg52
          have hqv : q = 22 := by rw [nI_toInt (by omega)] at hx52; omega
          have eS : jS (nmO i a f) S (q, n) = (S.1 - (S.2 &&& 1) * nI n, S.2 >>> (1 &&& 31)) := by rw [hqv]; rfl
          refine xe_iload_n dX1_sum_141 rfl ?_
          refine xe_iload dX1_sum_142 rfl ?_
          refine xe_iload dX1_sum_144 rfl ?_
          refine xe_imul dX1_sum_146 ?_
          refine xe_isub dX1_sum_147 ?_
          refine xe_istore_n (lv2 := [_, _, _, _, _, _, _, _, _]) dX1_sum_148 (by decide) rfl ?_
          refine xe_iload dX1_sum_149 rfl ?_
          refine xe_iconst (v := 1) dX1_sum_151 rfl ?_
          refine xe_ishr dX1_sum_152 ?_
          refine xe_istore (lv2 := [_, _, _, _, _, _, _, _, _]) dX1_sum_153 (by decide) rfl ?_
          refine xe_goto (tgt := 182) dX1_sum_155 (by decide) ?_
          refine xn_inc (j := j) (lv2 := [_, _, _, _, _, _, _, _, _]) dX1_sum_182 (by decide) rfl rfl ?_
          refine xe_goto (tgt := 11) dX1_sum_185 (by decide) ?_
          have L := IH (some (.int (nI q))) (some (.int (nI n))) (some (.int (S.2 &&& 1))) (by omega) (by omega)
          first
          | (rw [eS] at L; exact L)
          | (rw [jS_tst hq18] at L; revert L h171; cases hb : mTst (nmO i a f) (q / 3) (q % 3) (nI n) <;> intro h171 L <;> first | exact L | exact absurd rfl h171 | exact absurd h171 (by decide))
        | i52 + 5, hg52, hx52 => simp at hg52
      · skip
        have hq18 : q < 18 := by rw [nI_toInt (by omega)] at hx52; omega
        have e3 : q = 3 * (q / 3) + q % 3 := by omega
        refine xe_iload dX1_sum_158 rfl ?_
        refine xe_iconst (v := 1) dX1_sum_160 rfl ?_
        refine xe_ishl dX1_sum_161 ?_
        refine xe_iload dX1_sum_162 rfl ?_
        refine xe_iload dX1_sum_164 rfl ?_
        refine xe_aload_n dX1_sum_166 rfl ?_
        refine xe_iload_n dX1_sum_167 rfl ?_
        refine xe_calls (k2 := kX1_holds) (vs := [_, _, _, _]) dX1_sum_168 okX1_holds mlX1_27 stX1_holds rfl rfl (Nat.le_of_ble_eq_true rfl) (Nat.le_of_ble_eq_true rfl) (tX1_holds q (nI n) f a hp hq18 hr ?_)
        refine xe_if_eq (tgt := 178) dX1_sum_171 (by decide) (fun h171 => ?_) (fun h171 => ?_)
        · refine xe_iconst (v := 0) dX1_sum_178 rfl ?_
          refine xe_ior dX1_sum_179 ?_
          refine xe_istore (lv2 := [_, _, _, _, _, _, _, _, _]) dX1_sum_180 (by decide) rfl ?_
          refine xn_inc (j := j) (lv2 := [_, _, _, _, _, _, _, _, _]) dX1_sum_182 (by decide) rfl rfl ?_
          refine xe_goto (tgt := 11) dX1_sum_185 (by decide) ?_
          have L := IH (some (.int (nI q))) (some (.int (nI n))) (some (.int (S.2 &&& 1))) (by omega) (by omega)
          first
          | (rw [eS] at L; exact L)
          | (rw [jS_tst hq18] at L; revert L h171; cases hb : mTst (nmO i a f) (q / 3) (q % 3) (nI n) <;> intro h171 L <;> first | exact L | exact absurd rfl h171 | exact absurd h171 (by decide))
        · refine xe_iconst (v := 1) dX1_sum_174 rfl ?_
          refine xe_goto (tgt := 179) dX1_sum_175 (by decide) ?_
          refine xe_ior dX1_sum_179 ?_
          refine xe_istore (lv2 := [_, _, _, _, _, _, _, _, _]) dX1_sum_180 (by decide) rfl ?_
          refine xn_inc (j := j) (lv2 := [_, _, _, _, _, _, _, _, _]) dX1_sum_182 (by decide) rfl rfl ?_
          refine xe_goto (tgt := 11) dX1_sum_185 (by decide) ?_
          have L := IH (some (.int (nI q))) (some (.int (nI n))) (some (.int (S.2 &&& 1))) (by omega) (by omega)
          first
          | (rw [eS] at L; exact L)
          | (rw [jS_tst hq18] at L; revert L h171; cases hb : mTst (nmO i a f) (q / 3) (q % 3) (nI n) <;> intro h171 L <;> first | exact L | exact absurd rfl h171 | exact absurd h171 (by decide))

theorem sX1_sum {d : Nat} (hd : 1 ≤ d) {σ : xSt} {Post : Option Value → xSt → Prop} {cc c i : Nat} (f : Int32) (a : Nat → Int32) (l : List (Nat × Nat)) (hc : isC cc) (hp : isP c) (hr : RepP σ c i a) (hl : RepC σ cc l) (h : Post (some (.int (jRun (nmO i a f) l (a 2, 0)).1)) σ) : xM kX1_sum d [.ref cc, .ref c, .int f] σ Post := by
  obtain ⟨d, rfl⟩ : ∃ e, d = e + 1 := ⟨d - 1, by omega⟩
  refine xM_start (lv := [some (.ref cc), some (.ref c), some (.int f), none, none, none, none, none, none]) rfl ?_
  refine xe_aload_n dX1_sum_0 rfl ?_
  refine xe_getf dX1_sum_1 flX1_22 hp.1.1 hp.1.2 rfl ?_
  rw [show σ.1 c 3 = a 2 from hr.2.1 2 (by omega)]
  refine xe_istore_n (lv2 := [_, _, _, _, _, _, _, _, _]) dX1_sum_4 (by decide) rfl ?_
  refine xe_iconst (v := 0) dX1_sum_5 rfl ?_
  refine xe_istore (lv2 := [_, _, _, _, _, _, _, _, _]) dX1_sum_6 (by decide) rfl ?_
  refine xe_iconst (v := 0) dX1_sum_8 rfl ?_
  refine xe_istore (lv2 := [_, _, _, _, _, _, _, _, _]) dX1_sum_9 (by decide) rfl ?_
  exact lX1_sum (d := d) (by omega) f a l hc hp hr hl h (l.length + 1) 0 _ _ _ (by omega) (by omega)
