/-! what holds at the law's entry -/
theorem lT1 (n : Nat) {w : Cond} (h : tables_1_1[n]? = some w) : w ∈ lw_tbl := (List.mem_append_right _ (List.mem_append_left _ (List.mem_of_getElem? h)))
theorem lT2 (n : Nat) {w : Cond} (h : tables_1_2[n]? = some w) : w ∈ lw_tbl := (List.mem_append_right _ (List.mem_append_right _ (List.mem_append_left _ (List.mem_of_getElem? h))))
theorem lT3 (n : Nat) {w : Cond} (h : tables_1_3[n]? = some w) : w ∈ lw_tbl := (List.mem_append_right _ (List.mem_append_right _ (List.mem_append_right _ (List.mem_append_left _ (List.mem_of_getElem? h)))))
theorem lT4 (n : Nat) {w : Cond} (h : tables_1_4[n]? = some w) : w ∈ lw_tbl := (List.mem_append_right _ (List.mem_append_right _ (List.mem_append_right _ (List.mem_append_right _ (List.mem_append_left _ (List.mem_of_getElem? h))))))
theorem lT5 (n : Nat) {w : Cond} (h : tables_1_5[n]? = some w) : w ∈ lw_tbl := (List.mem_append_right _ (List.mem_append_right _ (List.mem_append_right _ (List.mem_append_right _ (List.mem_append_right _ (List.mem_append_left _ (List.mem_of_getElem? h)))))))
theorem lT6 (n : Nat) {w : Cond} (h : tables_1_6[n]? = some w) : w ∈ lw_tbl := (List.mem_append_right _ (List.mem_append_right _ (List.mem_append_right _ (List.mem_append_right _ (List.mem_append_right _ (List.mem_append_right _ (List.mem_of_getElem? h)))))))
theorem st_w {p : Program} {s : State} {m : MethodId} {meth : Method} {c : Code} {b L : Nat} {xs : Nat → Int32} (C0 : lw_At p s m meth c b L xs) {w : Cond} (h : w ∈ xtb) : w.before #[Value.ref b] s = true := C0.2.2.2.2.2.1 w (List.mem_filter.mp h).1
theorem st_C {p : Program} {s : State} {m : MethodId} {meth : Method} {c : Code} {b L : Nat} {xs : Nat → Int32} (C0 : lw_At p s m meth c b L xs) : ∃ D : va_G, ∀ (k : Nat) (q : vw_C), vwCl[k]? = some q → u_Kn s q.1 q.2.1 q.2.2 (D.1 k) (D.2 k) := by
  obtain ⟨cX0, iX0, hX0⟩ := u_known (C := RX0) (T := TX0) (N := 2) (n := 2) C0.2.2.2.2.2.1 inX0 (st_w C0 (xT1 199 rfl rfl))
  obtain ⟨cX1, iX1, hX1⟩ := u_known (C := RX1) (T := TX1) (N := 3) (n := 3) C0.2.2.2.2.2.1 inX1 (st_w C0 (xT1 162 rfl rfl))
  obtain ⟨cX2, iX2, hX2⟩ := u_known (C := RX2) (T := TX2) (N := 3) (n := 3) C0.2.2.2.2.2.1 inX2 (st_w C0 (xT1 180 rfl rfl))
  obtain ⟨cX3, iX3, hX3⟩ := u_known (C := RX3) (T := TX3) (N := 7) (n := 7) C0.2.2.2.2.2.1 inX3 (st_w C0 (xT1 60 rfl rfl))
  obtain ⟨cX4, iX4, hX4⟩ := u_known (C := RX4) (T := TX4) (N := 4) (n := 4) C0.2.2.2.2.2.1 inX4 (st_w C0 (xT1 37 rfl rfl))
  obtain ⟨cX5, iX5, hX5⟩ := u_known (C := RX5) (T := TX5) (N := 8) (n := 8) C0.2.2.2.2.2.1 inX5 (st_w C0 (xT1 29 rfl rfl))
  obtain ⟨cX6, iX6, hX6⟩ := u_known (C := RX6) (T := TX6) (N := 3) (n := 3) C0.2.2.2.2.2.1 inX6 (st_w C0 (xT1 215 rfl rfl))
  obtain ⟨cX7, iX7, hX7⟩ := u_known (C := RX7) (T := TX7) (N := 4) (n := 4) C0.2.2.2.2.2.1 inX7 (st_w C0 (xT1 140 rfl rfl))
  obtain ⟨cX8, iX8, hX8⟩ := u_known (C := RX8) (T := TX8) (N := 13) (n := 13) C0.2.2.2.2.2.1 inX8 (st_w C0 (xT1 21 rfl rfl))
  obtain ⟨cX9, iX9, hX9⟩ := u_known (C := RX9) (T := TX9) (N := 32) (n := 32) C0.2.2.2.2.2.1 inX9 (st_w C0 (xT4 101 rfl rfl))
  refine ⟨(fun k => [cX0, cX1, cX2, cX3, cX4, cX5, cX6, cX7, cX8, cX9].getD k cX0, fun k => [iX0, iX1, iX2, iX3, iX4, iX5, iX6, iX7, iX8, iX9].getD k iX0), ?_⟩
  intro k q hq
  match k, hq with
  | 0, hq => cases hq; exact hX0
  | 1, hq => cases hq; exact hX1
  | 2, hq => cases hq; exact hX2
  | 3, hq => cases hq; exact hX3
  | 4, hq => cases hq; exact hX4
  | 5, hq => cases hq; exact hX5
  | 6, hq => cases hq; exact hX6
  | 7, hq => cases hq; exact hX7
  | 8, hq => cases hq; exact hX8
  | 9, hq => cases hq; exact hX9
  | k + 10, hq => simp [vwCl] at hq
theorem st_A {p : Program} {s : State} {m : MethodId} {meth : Method} {c : Code} {b L : Nat} {xs : Nat → Int32} (C0 : lw_At p s m meth c b L xs) {ty : FieldType} (hw : Cond.arrayClass ty ∈ xtb) (hr : ∀ cA, s.vm.findClass ("[" ++ ty.toString) = some cA → va_RA s cA ty) : ∃ cA : ClassId, ArrOfT s cA ty ∧ va_RA s cA ty := by
  obtain ⟨cA, kA, comp, h1, h2, h3⟩ := Cond.arrayClass_spec (st_w C0 hw)
  exact ⟨cA, fun N z => ⟨(fun k h => by cases h), kA, h2, comp, h3⟩, hr cA h1⟩
theorem st_O {p : Program} {s : State} {m : MethodId} {meth : Method} {c : Code} {b L : Nat} {xs : Nat → Int32} (C0 : lw_At p s m meth c b L xs) {C : String} (hw : Cond.arrayOver (.object C) ∈ lw_tbl) : ∃ cA : ClassId, ArrOfT s cA (.object C) ∧ va_RA s cA (.object C) := by
  obtain ⟨comp, cA, kA, f1, -, f2, f3, f4⟩ := Cond.arrayOver_spec (C0.2.2.2.2.2.1 _ hw)
  exact ⟨cA, fun N z => ⟨(fun k h => by cases h), kA, f2, comp, f3⟩, kA, comp, f2, f3, f1, f4⟩
theorem st_Y {p : Program} {s : State} {m : MethodId} {meth : Method} {c : Code} {b L : Nat} {xs : Nat → Int32} (C0 : lw_At p s m meth c b L xs) : ∃ y : Nat → ClassId, ∀ (k : Nat) (q : ClassId × FieldType), (xty y)[k]? = some q → ArrOfT s q.1 q.2 ∧ va_RA s q.1 q.2 := by
  obtain ⟨yint, aint⟩ := st_A C0 (ty := .int) (xT1 59 rfl rfl) (fun _ z => z)
  obtain ⟨ybyte, abyte⟩ := st_A C0 (ty := .byte) (xT1 159 rfl rfl) (fun _ z => z)
  obtain ⟨ychar, achar⟩ := st_A C0 (ty := .char) (xT4 203 rfl rfl) (fun _ z => z)
  obtain ⟨ylong, along⟩ := st_A C0 (ty := .long) (xT1 232 rfl rfl) (fun _ z => z)
  obtain ⟨yboolean, aboolean⟩ := st_A C0 (ty := .boolean) (xT4 204 rfl rfl) (fun _ z => z)
  obtain ⟨yX1, aX1⟩ := st_O C0 (C := RX1) (lT1 161 rfl)
  obtain ⟨yX3, aX3⟩ := st_O C0 (C := RX3) (lT1 35 rfl)
  obtain ⟨yX6, aX6⟩ := st_O C0 (C := RX6) (lT1 214 rfl)
  refine ⟨fun k => [yint, ybyte, ychar, ylong, yboolean, yX1, yX3, yX6].getD k yint, ?_⟩
  intro k q hq
  match k, hq with
  | 0, hq => cases hq; exact aint
  | 1, hq => cases hq; exact abyte
  | 2, hq => cases hq; exact achar
  | 3, hq => cases hq; exact along
  | 4, hq => cases hq; exact aboolean
  | 5, hq => cases hq; exact aX1
  | 6, hq => cases hq; exact aX3
  | 7, hq => cases hq; exact aX6
  | k + 8, hq => simp at hq
theorem st_N {p : Program} {s : State} {m : MethodId} {meth : Method} {c : Code} {b L : Nat} {xs : Nat → Int32} (C0 : lw_At p s m meth c b L xs) : nNs s ∧ xNs s := ⟨⟨⟨va_Nw.of rfl (C0.2.2.2.2.2.1 _ (lT1 61 rfl)), va_Nw.of rfl (C0.2.2.2.2.2.1 _ (lT1 138 rfl)), va_Nw.of rfl (C0.2.2.2.2.2.1 _ (lT1 141 rfl)), va_Nw.of rfl (C0.2.2.2.2.2.1 _ (lT1 163 rfl)), va_Nw.of rfl (C0.2.2.2.2.2.1 _ (lT1 181 rfl)), va_Nw.of rfl (C0.2.2.2.2.2.1 _ (lT1 200 rfl)), va_Nw.of rfl (C0.2.2.2.2.2.1 _ (lT1 216 rfl))⟩, va_AO.of (C0.2.2.2.2.2.1 _ (lT1 35 rfl)), va_AO.of (C0.2.2.2.2.2.1 _ (lT1 161 rfl)), va_AO.of (C0.2.2.2.2.2.1 _ (lT1 214 rfl))⟩, va_Nw.of rfl (C0.2.2.2.2.2.1 _ (lT3 116 rfl)), va_Nw.of rfl (C0.2.2.2.2.2.1 _ (lT4 29 rfl)), va_Nw.of rfl (C0.2.2.2.2.2.1 _ (lT4 38 rfl))⟩
def st_tm (i : Nat) : Term := [Term.string RX7 45, .string RX7 47, .string RX7 49, .string RX7 80, .string RX7 86].getD i (.string RX7 45)
def st_v (i : Nat) : Term := .field (st_tm i) "java/lang/String" "value" "[B"
theorem st_S {p : Program} {s : State} {m : MethodId} {meth : Method} {c : Code} {b L : Nat} {xs : Nat → Int32} (C0 : lw_At p s m meth c b L xs) : ∃ adK adV : Nat → Nat, vk_S 5 xlen xbyt adK adV (fun a => s.heap.size ≤ a) s s.heap ∧ ∀ i : Nat, i < 5 → (st_tm i).eval #[Value.ref b] s none [] s = some (.ref (adK i)) := by
  have hs := flat_of_before _ C0.2.2.2.2.2.2.2.2.2
  refine vk_Sof (tm := st_tm) (s0_fin 5 (by decide +kernel)) (fun i hi => hs _ (?_ : _)) (fun i hi => hs _ ?_) (fun i hi => hs _ ?_) (fun i hi => hs _ ?_) (fun i hi j hj => hs _ ?_) (fun i j hi hj hij => ?_) (fun a h => Nat.not_le.mpr h)
  · revert i; exact s0_fin 5 (by decide +kernel)
  · revert i; exact s0_fin 5 (by decide +kernel)
  · revert i; exact s0_fin 5 (by decide +kernel)
  · revert i; exact s0_fin 5 (by decide +kernel)
  · revert j; revert i; exact s0_fin 5 (by decide +kernel)
  · match i, j, hi, hj with
    | 0, 0, _, _ => exact absurd rfl hij
    | 0, 1, _, _ => exact Or.inl (hs _ (by decide +kernel))
    | 0, 2, _, _ => exact Or.inl (hs _ (by decide +kernel))
    | 0, 3, _, _ => exact Or.inl (hs _ (by decide +kernel))
    | 0, 4, _, _ => exact Or.inl (hs _ (by decide +kernel))
    | 1, 0, _, _ => exact Or.inr (hs _ (by decide +kernel))
    | 1, 1, _, _ => exact absurd rfl hij
    | 1, 2, _, _ => exact Or.inl (hs _ (by decide +kernel))
    | 1, 3, _, _ => exact Or.inl (hs _ (by decide +kernel))
    | 1, 4, _, _ => exact Or.inl (hs _ (by decide +kernel))
    | 2, 0, _, _ => exact Or.inr (hs _ (by decide +kernel))
    | 2, 1, _, _ => exact Or.inr (hs _ (by decide +kernel))
    | 2, 2, _, _ => exact absurd rfl hij
    | 2, 3, _, _ => exact Or.inl (hs _ (by decide +kernel))
    | 2, 4, _, _ => exact Or.inl (hs _ (by decide +kernel))
    | 3, 0, _, _ => exact Or.inr (hs _ (by decide +kernel))
    | 3, 1, _, _ => exact Or.inr (hs _ (by decide +kernel))
    | 3, 2, _, _ => exact Or.inr (hs _ (by decide +kernel))
    | 3, 3, _, _ => exact absurd rfl hij
    | 3, 4, _, _ => exact Or.inl (hs _ (by decide +kernel))
    | 4, 0, _, _ => exact Or.inr (hs _ (by decide +kernel))
    | 4, 1, _, _ => exact Or.inr (hs _ (by decide +kernel))
    | 4, 2, _, _ => exact Or.inr (hs _ (by decide +kernel))
    | 4, 3, _, _ => exact Or.inr (hs _ (by decide +kernel))
    | 4, 4, _, _ => exact absurd rfl hij
    | i + 5, _, h, _ => omega
    | _, j + 5, _, h => omega
theorem st_all {p : Program} {s : State} {m : MethodId} {meth : Method} {c : Code} {b L : Nat} {xs : Nat → Int32} (C0 : lw_At p s m meth c b L xs) : ∃ (D : va_G) (y : Nat → ClassId) (Q2 : Nat → Nat), nX D y s ∧ ∀ q : Nat → Nat, (∀ c, 200 ≤ c → q c = Q2 c) → xWx D y q (fun a => s.heap.size ≤ a) s s.heap ∧ q 300 = b := by
  have hs := flat_of_before _ C0.2.2.2.2.2.2.2.2.2
  have hA : ∀ a : Nat, a < s.heap.size → ¬ (fun a => s.heap.size ≤ a) a := fun a h => Nat.not_le.mpr h
  obtain ⟨D, hD⟩ := st_C C0
  obtain ⟨y, hY⟩ := st_Y C0
  obtain ⟨adK, adV, hV, hev⟩ := st_S C0
  have hK : va_K D vwCl (xty y) s := ⟨hD, hY⟩
  obtain ⟨t1, ht1, hT1⟩ := va_Tof (tm := .static RX8 "ABOVE" "[I") (N := 7) (f := fun j => .int (xABOVE j)) (A := fun a => s.heap.size ≤ a) (by decide) (hs (.arrayOf (.static RX8 "ABOVE" "[I") .int) (by decide +kernel)) (va_eqt (hs (.eq (.length (.static RX8 "ABOVE" "[I")) (.int (Int32.ofNat 7))) (by decide +kernel))) (fun j hj => va_eqt (hs (.eq (.elem (.static RX8 "ABOVE" "[I") (.int (Int32.ofNat j))) (.int (xABOVE j))) (by revert j; exact s0_fin 7 (by decide +kernel)))) hA
  obtain ⟨t2, ht2, hT2⟩ := va_Tof (tm := .static RX0 "BODIES" "[I") (N := 21) (f := fun j => .int (xBODIES j)) (A := fun a => s.heap.size ≤ a) (by decide) (hs (.arrayOf (.static RX0 "BODIES" "[I") .int) (by decide +kernel)) (va_eqt (hs (.eq (.length (.static RX0 "BODIES" "[I")) (.int (Int32.ofNat 21))) (by decide +kernel))) (fun j hj => va_eqt (hs (.eq (.elem (.static RX0 "BODIES" "[I") (.int (Int32.ofNat j))) (.int (xBODIES j))) (by revert j; exact s0_fin 21 (by decide +kernel)))) hA
  have hZ1 : va_Z RX8 "ABOVE" "[I" (.ref t1) (fun a => s.heap.size ≤ a) s s.heap := va_Zof (C0.2.2.2.2.2.1 _ (lT4 39 rfl)) (st_w C0 iniX8) ht1 hA
  have hZ2 : va_Z RX0 "BODIES" "[I" (.ref t2) (fun a => s.heap.size ≤ a) s s.heap := va_Zof (C0.2.2.2.2.2.1 _ (lT4 37 rfl)) (st_w C0 iniX0) ht2 hA
  have hZ3 : va_Z RJ0 "COMPACT_STRINGS" "Z" (.int 1) (fun a => s.heap.size ≤ a) s s.heap := va_Zof (C0.2.2.2.2.2.1 _ (lT2 187 rfl)) (st_w C0 iniJ0) (va_eqt (hs (.eq (.static RJ0 "COMPACT_STRINGS" "Z") (.int 1)) (by decide +kernel))) hA
  obtain ⟨t3, hZ4⟩ : ∃ t3 : Nat, va_Z RJ3 "SIOOBE_FORMATTER" "Ljava/util/function/BiFunction;" .null (fun a => s.heap.size ≤ a) s s.heap ∨ va_Z RJ3 "SIOOBE_FORMATTER" "Ljava/util/function/BiFunction;" (.ref t3) (fun a => s.heap.size ≤ a) s s.heap := by
    rcases va_Zqof (C := RJ3) (n := "SIOOBE_FORMATTER") (d := "Ljava/util/function/BiFunction;") (C0.2.2.2.2.2.1 _ (lT2 203 rfl)) (st_w C0 iniJ3) (hs (.isRef (.static RJ3 "SIOOBE_FORMATTER" "Ljava/util/function/BiFunction;")) (by decide +kernel)) hA with h | ⟨t, h⟩
    · exact ⟨0, Or.inl h⟩
    · exact ⟨t, Or.inr h⟩
  refine ⟨D, y, fun c => bif Nat.beq c 200 then t1 else bif Nat.beq c 201 then t2 else bif Nat.beq c 202 then t3 else bif Nat.beq c 300 then b else bif Nat.ble 220 c then adV (c - 220) else adK (c - 210), ⟨hK, (st_N C0).1⟩, fun q hq => ?_⟩
  have e0 : q 200 = t1 := hq 200 (by decide)
  have e1 : q 201 = t2 := hq 201 (by decide)
  have e2 : q 202 = t3 := hq 202 (by decide)
  have eK : ∀ i, i < 5 → q (210 + i) = adK i := fun i hi => by
    match i, hi with
    | 0, _ => exact hq 210 (by decide)
    | 1, _ => exact hq 211 (by decide)
    | 2, _ => exact hq 212 (by decide)
    | 3, _ => exact hq 213 (by decide)
    | 4, _ => exact hq 214 (by decide)
    | i + 5, h => omega
  have eV : ∀ i, i < 5 → q (220 + i) = adV i := fun i hi => by
    match i, hi with
    | 0, _ => exact hq 220 (by decide)
    | 1, _ => exact hq 221 (by decide)
    | 2, _ => exact hq 222 (by decide)
    | 3, _ => exact hq 223 (by decide)
    | 4, _ => exact hq 224 (by decide)
    | i + 5, h => omega
  have hV2 : vk_S 5 xlen xbyt (fun i => q (210 + i)) (fun i => q (220 + i)) (fun a => s.heap.size ≤ a) s s.heap := by
    refine ⟨fun i hi => ?_, fun i j hi hj e => hV.2 i j hi hj ?_⟩
    · have h := hV.1 i hi
      rw [← eK i hi, ← eV i hi] at h
      exact h
    · rw [← eK i hi, ← eK j hj]; exact e
  refine ⟨⟨hK, ⟨?_, ?_, ?_, ?_, ⟨hZ3, ?_⟩, hV2⟩, ⟨?_, ?_, ?_, ?_, ?_⟩, (st_N C0).2⟩, hq 300 (by decide)⟩
  · rw [e0]; exact hZ1
  · rw [e0]; exact hT1
  · rw [e1]; exact hZ2
  · rw [e1]; exact hT2
  · rw [e2]; exact hZ4
  · exact vk_R.of (C0.2.2.2.2.2.1 _ (lT2 175 rfl)) (by rw [show q 210 = adK 0 from eK 0 (by decide)]; exact hev 0 (by decide))
  · exact vk_R.of (C0.2.2.2.2.2.1 _ (lT2 176 rfl)) (by rw [show q 211 = adK 1 from eK 1 (by decide)]; exact hev 1 (by decide))
  · exact vk_R.of (C0.2.2.2.2.2.1 _ (lT2 177 rfl)) (by rw [show q 212 = adK 2 from eK 2 (by decide)]; exact hev 2 (by decide))
  · exact vk_R.of (C0.2.2.2.2.2.1 _ (lT3 6 rfl)) (by rw [show q 213 = adK 3 from eK 3 (by decide)]; exact hev 3 (by decide))
  · exact vk_R.of (C0.2.2.2.2.2.1 _ (lT3 66 rfl)) (by rw [show q 214 = adK 4 from eK 4 (by decide)]; exact hev 4 (by decide))
