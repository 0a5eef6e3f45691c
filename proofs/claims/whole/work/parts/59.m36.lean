/-! texts: their length, their signs, where a sign stands in them -/
abbrev kJ3_checkIndex_8e157 : xMD := (yJ3_checkIndex_8e157, cJ3_checkIndex_8e157, 3, (some .int))
theorem okJ3_checkIndex_8e157 : xOk kJ3_checkIndex_8e157 3 := ⟨by decide +kernel, xT2 206 rfl rfl, iniJ3, ⟨by decide +kernel, by decide +kernel, by decide +kernel⟩, by decide⟩
theorem stJ3_checkIndex_8e157 : Cond.static yJ3_checkIndex_8e157 ∈ xtb := xT2 205 rfl rfl
theorem mlJ0_1059 : Cond.methodLink RJ0 1059 yJ3_checkIndex_8e157 ∈ xtb := xT2 204 rfl rfl
def ixF (b : List Int32) (x : Int32) : Nat → Nat → Option Nat
  | 0, _ => none
  | n + 1, j => if b.getD j 0 = x then some j else ixF b x n (j + 1)
def oX : Option Nat → Int32
  | none => -1
  | some L => nI L
def ixO (i : Nat) (x : Int32) : Option Nat := ixF (xbyt.getD i []) x (xlen.getD i 0) 0
theorem ln6 : ∀ i, i < 5 → xlen.getD i 0 ≤ 6 := by decide
theorem lnS : ∀ i, i < 5 → nI (xlen.getD i 0) >>> (0 &&& 31) = nI (xlen.getD i 0) := by decide
theorem chB : ∀ i, i < 5 → ∀ j, j < xlen.getD i 0 → ((((xbyt.getD i []).getD j 0) &&& 255).toUInt32 % 65536).toInt32 = (xbyt.getD i []).getD j 0 := by decide
theorem chC : ∀ i, i < 5 → ∀ j, j < xlen.getD i 0 → ((xbyt.getD i []).getD j 0).toUInt32.toUInt16.toUInt32.toInt32 = (xbyt.getD i []).getD j 0 := by decide
theorem chN {i j : Nat} (hi : i < 5) (hj : j < xlen.getD i 0) : narrow .char (.int ((xbyt.getD i []).getD j 0)) = .int ((xbyt.getD i []).getD j 0) := congrArg Value.int (chC i hi j hj)

theorem sJ0_coder_7d493 {d : Nat} (hd : 0 ≤ d) {σ : xSt} {Post : Option Value → xSt → Prop} {i : Nat} (hi : i < 5) (h : Post (some (.int 0)) σ) : xM kJ0_coder_7d493 d [.ref (210 + i)] σ Post := by
  refine xM_start (lv := [some (.ref (210 + i))]) rfl ?_
  refine xe_compact dJ0_coder_7d493_0 fwJ0_38 ?_
  refine xe_if_eq (tgt := 13) dJ0_coder_7d493_3 (by decide) (fun h3 => absurd h3 (by decide)) (fun h3 => ?_)
  refine xe_aload_n dJ0_coder_7d493_6 rfl ?_
  refine xe_strCoder dJ0_coder_7d493_7 fwJ0_15 hi ?_
  refine xe_goto (tgt := 14) dJ0_coder_7d493_10 (by decide) ?_
  refine xe_iret dJ0_coder_7d493_14 rfl (by first | rfl | decide | assumption | exact bI_nar _ | exact xb_narrow rfl | exact xb_narrow (by assumption)) ?_
  exact h

theorem sJ0_isLatin1_aae02 {d : Nat} (hd : 0 ≤ d) {σ : xSt} {Post : Option Value → xSt → Prop} {i : Nat} (hi : i < 5) (h : Post (some (.int 1)) σ) : xM kJ0_isLatin1_aae02 d [.ref (210 + i)] σ Post := by
  refine xM_start (lv := [some (.ref (210 + i))]) rfl ?_
  refine xe_compact dJ0_isLatin1_aae02_0 fwJ0_38 ?_
  refine xe_if_eq (tgt := 17) dJ0_isLatin1_aae02_3 (by decide) (fun h3 => absurd h3 (by decide)) (fun h3 => ?_)
  refine xe_aload_n dJ0_isLatin1_aae02_6 rfl ?_
  refine xe_strCoder dJ0_isLatin1_aae02_7 fwJ0_15 hi ?_
  refine xe_if_ne (tgt := 17) dJ0_isLatin1_aae02_10 (by decide) (fun h10 => absurd rfl h10) (fun h10 => ?_)
  refine xe_iconst (v := 1) dJ0_isLatin1_aae02_13 rfl ?_
  refine xe_goto (tgt := 18) dJ0_isLatin1_aae02_14 (by decide) ?_
  refine xe_iret dJ0_isLatin1_aae02_18 rfl (by first | rfl | decide | assumption | exact bI_nar _ | exact xb_narrow rfl | exact xb_narrow (by assumption)) ?_
  exact h

theorem sJ0_length_8abf5 {d : Nat} (hd : 1 ≤ d) {σ : xSt} {Post : Option Value → xSt → Prop} {i : Nat} (hi : i < 5) (h : Post (some (.int (nI (xlen.getD i 0)))) σ) : xM kJ0_length_8abf5 d [.ref (210 + i)] σ Post := by
  obtain ⟨d, rfl⟩ : ∃ e, d = e + 1 := ⟨d - 1, by omega⟩
  refine xM_start (lv := [some (.ref (210 + i))]) rfl ?_
  refine xe_aload_n dJ0_length_8abf5_0 rfl ?_
  refine xe_strValue dJ0_length_8abf5_1 fwJ0_9 hi ?_
  refine xe_strLen dJ0_length_8abf5_4 hi ?_
  refine xe_aload_n dJ0_length_8abf5_5 rfl ?_
  refine xe_callv (k2 := kJ0_coder_7d493) (vs := []) dJ0_length_8abf5_6 okJ0_coder_7d493 mlJ0_335 imJ0_coder_7d493 slJ0_coder_7d493 (Or.inr ⟨rfl, i, hi, rfl⟩) rfl rfl (Nat.le_of_ble_eq_true rfl) (Nat.le_of_ble_eq_true rfl) (sJ0_coder_7d493 (by omega) hi ?_)
  refine xe_ishr dJ0_length_8abf5_9 ?_
  rw [lnS i hi]
  refine xe_iret dJ0_length_8abf5_10 rfl rfl ?_
  exact h

theorem sJ3_checkIndex_8e157 {d : Nat} (hd : 0 ≤ d) {σ : xSt} {Post : Option Value → xSt → Prop} (j n : Nat) (hj : j < n) (hn : n ≤ 6) (h : Post (some (.int (nI j))) σ) : xM kJ3_checkIndex_8e157 d [.int (nI j), .int (nI n), .ref 202] σ Post := by
  refine xM_start (lv := [some (.int (nI j)), some (.int (nI n)), some (.ref 202)]) rfl ?_
  refine xe_iload_n dJ3_checkIndex_8e157_0 rfl ?_
  refine xe_if_lt (tgt := 9) dJ3_checkIndex_8e157_1 (by decide) (fun h1 => absurd h1 (nI_pos (by omega))) (fun h1 => ?_)
  refine xe_iload_n dJ3_checkIndex_8e157_4 rfl ?_
  refine xe_iload_n dJ3_checkIndex_8e157_5 rfl ?_
  refine xe_icmp_lt (tgt := 16) dJ3_checkIndex_8e157_6 (by decide) (fun h6 => ?_) (fun h6 => absurd (nI_lt hj (by omega)) h6)
  refine xe_iload_n dJ3_checkIndex_8e157_16 rfl ?_
  refine xe_iret dJ3_checkIndex_8e157_17 rfl rfl ?_
  exact h

theorem sJ3_checkIndex_8e157N {d : Nat} (hd : 0 ≤ d) {σ : xSt} {Post : Option Value → xSt → Prop} (j n : Nat) (hj : j < n) (hn : n ≤ 6) (h : Post (some (.int (nI j))) σ) : xM kJ3_checkIndex_8e157 d [.int (nI j), .int (nI n), .null] σ Post := by
  refine xM_start (lv := [some (.int (nI j)), some (.int (nI n)), some (.null)]) rfl ?_
  refine xe_iload_n dJ3_checkIndex_8e157_0 rfl ?_
  refine xe_if_lt (tgt := 9) dJ3_checkIndex_8e157_1 (by decide) (fun h1 => absurd h1 (nI_pos (by omega))) (fun h1 => ?_)
  refine xe_iload_n dJ3_checkIndex_8e157_4 rfl ?_
  refine xe_iload_n dJ3_checkIndex_8e157_5 rfl ?_
  refine xe_icmp_lt (tgt := 16) dJ3_checkIndex_8e157_6 (by decide) (fun h6 => ?_) (fun h6 => absurd (nI_lt hj (by omega)) h6)
  refine xe_iload_n dJ3_checkIndex_8e157_16 rfl ?_
  refine xe_iret dJ3_checkIndex_8e157_17 rfl rfl ?_
  exact h

theorem sJ0_checkIndex_df160 {d : Nat} (hd : 1 ≤ d) {σ : xSt} {Post : Option Value → xSt → Prop} (j n : Nat) (hj : j < n) (hn : n ≤ 6) (h : Post none σ) : xM kJ0_checkIndex_df160 d [.int (nI j), .int (nI n)] σ Post := by
  obtain ⟨d, rfl⟩ : ∃ e, d = e + 1 := ⟨d - 1, by omega⟩
  refine xM_start (lv := [some (.int (nI j)), some (.int (nI n))]) rfl ?_
  refine xe_iload_n dJ0_checkIndex_df160_0 rfl ?_
  refine xe_iload_n dJ0_checkIndex_df160_1 rfl ?_
  refine xe_sioobe dJ0_checkIndex_df160_2 fwJ0_1053 ?_ ?_
  · refine xe_calls (k2 := kJ3_checkIndex_8e157) (vs := [_, _, _]) dJ0_checkIndex_df160_5 okJ3_checkIndex_8e157 mlJ0_1059 stJ3_checkIndex_8e157 rfl rfl (Nat.le_of_ble_eq_true rfl) (Nat.le_of_ble_eq_true rfl) (sJ3_checkIndex_8e157N (by omega) j n hj hn ?_)
    refine xe_pop dJ0_checkIndex_df160_8 rfl ?_
    refine xe_vret dJ0_checkIndex_df160_9 rfl ?_
    exact h
  · refine xe_calls (k2 := kJ3_checkIndex_8e157) (vs := [_, _, _]) dJ0_checkIndex_df160_5 okJ3_checkIndex_8e157 mlJ0_1059 stJ3_checkIndex_8e157 rfl rfl (Nat.le_of_ble_eq_true rfl) (Nat.le_of_ble_eq_true rfl) (sJ3_checkIndex_8e157 (by omega) j n hj hn ?_)
    refine xe_pop dJ0_checkIndex_df160_8 rfl ?_
    refine xe_vret dJ0_checkIndex_df160_9 rfl ?_
    exact h

theorem sJ1_charAt_3b067 {d : Nat} (hd : 2 ≤ d) {σ : xSt} {Post : Option Value → xSt → Prop} {i : Nat} (j : Nat) (hi : i < 5) (hj : j < xlen.getD i 0) (h : Post (some (.int ((xbyt.getD i []).getD j 0))) σ) : xM kJ1_charAt_3b067 d [.ref (220 + i), .int (nI j)] σ Post := by
  obtain ⟨d, rfl⟩ : ∃ e, d = e + 1 := ⟨d - 1, by omega⟩
  refine xM_start (lv := [some (.ref (220 + i)), some (.int (nI j))]) rfl ?_
  have h6 := ln6 i hi
  have hn := chN hi hj
  refine xe_iload_n dJ1_charAt_3b067_0 rfl ?_
  refine xe_aload_n dJ1_charAt_3b067_1 rfl ?_
  refine xe_strLen dJ1_charAt_3b067_2 hi ?_
  refine xe_calls (k2 := kJ0_checkIndex_df160) (vs := [_, _]) dJ1_charAt_3b067_3 okJ0_checkIndex_df160 mlJ1_9 stJ0_checkIndex_df160 rfl rfl (Nat.le_of_ble_eq_true rfl) (Nat.le_of_ble_eq_true rfl) (sJ0_checkIndex_df160 (by omega) j _ hj h6 ?_)
  refine xe_aload_n dJ1_charAt_3b067_6 rfl ?_
  refine xe_iload_n dJ1_charAt_3b067_7 rfl ?_
  refine xe_strByte dJ1_charAt_3b067_8 hi (vp_in_nI hj (by omega)) ?_
  rw [nI_clamp (by omega)]
  refine xe_sipush (v := 255) dJ1_charAt_3b067_9 rfl ?_
  refine xe_iand dJ1_charAt_3b067_12 ?_
  refine xe_i2c dJ1_charAt_3b067_13 ?_
  rw [chB i hi j hj]
  refine xe_iret dJ1_charAt_3b067_14 rfl (by first | rfl | decide | assumption | exact bI_nar _ | exact xb_narrow rfl | exact xb_narrow (by assumption)) ?_
  exact h

theorem sJ0_charAt_5068e {d : Nat} (hd : 3 ≤ d) {σ : xSt} {Post : Option Value → xSt → Prop} {i : Nat} (j : Nat) (hi : i < 5) (hj : j < xlen.getD i 0) (h : Post (some (.int ((xbyt.getD i []).getD j 0))) σ) : xM kJ0_charAt_5068e d [.ref (210 + i), .int (nI j)] σ Post := by
  obtain ⟨d, rfl⟩ : ∃ e, d = e + 1 := ⟨d - 1, by omega⟩
  refine xM_start (lv := [some (.ref (210 + i)), some (.int (nI j))]) rfl ?_
  have hn := chN hi hj
  refine xe_aload_n dJ0_charAt_5068e_0 rfl ?_
  refine xe_callv (k2 := kJ0_isLatin1_aae02) (vs := []) dJ0_charAt_5068e_1 okJ0_isLatin1_aae02 mlJ0_492 imJ0_isLatin1_aae02 slJ0_isLatin1_aae02 (Or.inr ⟨rfl, i, hi, rfl⟩) rfl rfl (Nat.le_of_ble_eq_true rfl) (Nat.le_of_ble_eq_true rfl) (sJ0_isLatin1_aae02 (by omega) hi ?_)
  refine xe_if_eq (tgt := 16) dJ0_charAt_5068e_4 (by decide) (fun h4 => absurd h4 (by decide)) (fun h4 => ?_)
  refine xe_aload_n dJ0_charAt_5068e_7 rfl ?_
  refine xe_strValue dJ0_charAt_5068e_8 fwJ0_9 hi ?_
  refine xe_iload_n dJ0_charAt_5068e_11 rfl ?_
  refine xe_calls (k2 := kJ1_charAt_3b067) (vs := [_, _]) dJ0_charAt_5068e_12 okJ1_charAt_3b067 mlJ0_495 stJ1_charAt_3b067 rfl rfl (Nat.le_of_ble_eq_true rfl) (Nat.le_of_ble_eq_true rfl) (sJ1_charAt_3b067 (by omega) j hi hj ?_)
  refine xe_iret dJ0_charAt_5068e_15 rfl (by first | rfl | decide | assumption | exact bI_nar _ | exact xb_narrow rfl | exact xb_narrow (by assumption)) ?_
  exact h

theorem sJ1_canEncode_9a6ad {d : Nat} (hd : 0 ≤ d) {σ : xSt} {Post : Option Value → xSt → Prop} (x : Nat) (hx : x < 128) (h : Post (some (.int 1)) σ) : xM kJ1_canEncode_9a6ad d [.int (nI x)] σ Post := by
  refine xM_start (lv := [some (.int (nI x))]) rfl ?_
  refine xe_iload_n dJ1_canEncode_9a6ad_0 rfl ?_
  refine xe_if_lt (tgt := 15) dJ1_canEncode_9a6ad_1 (by decide) (fun h1 => absurd h1 (nI_pos (by omega))) (fun h1 => ?_)
  refine xe_iload_n dJ1_canEncode_9a6ad_4 rfl ?_
  refine xe_sipush (v := 255) dJ1_canEncode_9a6ad_5 rfl ?_
  refine xe_icmp_gt (tgt := 15) dJ1_canEncode_9a6ad_8 (by decide) (fun h8 => absurd h8 (show ¬ nI 255 < nI x from fun z => absurd (nLt (by omega) (by omega) z) (by omega))) (fun h8 => ?_)
  refine xe_iconst (v := 1) dJ1_canEncode_9a6ad_11 rfl ?_
  refine xe_goto (tgt := 16) dJ1_canEncode_9a6ad_12 (by decide) ?_
  refine xe_iret dJ1_canEncode_9a6ad_16 rfl (by first | rfl | decide | assumption | exact bI_nar _ | exact xb_narrow rfl | exact xb_narrow (by assumption)) ?_
  exact h

theorem lJ1_indexOfChar_4cfef {d : Nat} {σ : xSt} {Post : Option Value → xSt → Prop} {i : Nat} (hi : i < 5) (x : Int32) : ∀ (q j : Nat), j + q = xlen.getD i 0 → Post (some (.int (oX (ixF (xbyt.getD i []) x q j)))) σ → xEv kJ1_indexOfChar_4cfef d 7 [some (.ref (220 + i)), some (.int x), some (.int 0), some (.int (nI (xlen.getD i 0))), some (.int x), some (.int (nI j))] [] σ Post := by
  have h6 := ln6 i hi
  intro q
  induction q with
  | zero =>
    intro j hq h
    refine xe_iload dJ1_indexOfChar_4cfef_7 rfl ?_
    refine xe_iload_n dJ1_indexOfChar_4cfef_9 rfl ?_
    refine xe_icmp_ge (tgt := 31) dJ1_indexOfChar_4cfef_10 (by decide) (fun h10 => ?_) (fun h10 => absurd (nI_le (by omega) (by omega)) h10)
    refine xe_iconst (v := -1) dJ1_indexOfChar_4cfef_31 rfl ?_
    refine xe_iret dJ1_indexOfChar_4cfef_32 rfl rfl ?_
    exact h
  | succ q ih =>
    intro j hq h
    rw [ixF] at h
    refine xe_iload dJ1_indexOfChar_4cfef_7 rfl ?_
    refine xe_iload_n dJ1_indexOfChar_4cfef_9 rfl ?_
    refine xe_icmp_ge (tgt := 31) dJ1_indexOfChar_4cfef_10 (by decide) (fun h10 => absurd h10 (nI_ge (by omega) (by omega))) (fun h10 => ?_)
    refine xe_aload_n dJ1_indexOfChar_4cfef_13 rfl ?_
    refine xe_iload dJ1_indexOfChar_4cfef_14 rfl ?_
    refine xe_strByte dJ1_indexOfChar_4cfef_16 hi (vp_in_nI (by omega) (by omega)) ?_
    rw [nI_clamp (by omega)]
    refine xe_iload dJ1_indexOfChar_4cfef_17 rfl ?_
    refine xe_icmp_ne (tgt := 25) dJ1_indexOfChar_4cfef_19 (by decide) (fun h19 => ?_) (fun h19 => ?_)
    · refine xn_inc (j := j) (lv2 := [_, _, _, _, _, _]) dJ1_indexOfChar_4cfef_25 (by decide) rfl rfl ?_
      refine xe_goto (tgt := 7) dJ1_indexOfChar_4cfef_28 (by decide) ?_
      rw [if_neg h19] at h
      exact ih (j + 1) (by omega) h
    · refine xe_iload dJ1_indexOfChar_4cfef_22 rfl ?_
      refine xe_iret dJ1_indexOfChar_4cfef_24 rfl rfl ?_
      rw [if_pos h19] at h
      exact h

theorem sJ1_indexOfChar_4cfef {d : Nat} (hd : 0 ≤ d) {σ : xSt} {Post : Option Value → xSt → Prop} {i : Nat} (x : Int32) (hi : i < 5) (hx : x.toInt8.toInt32 = x) (h : Post (some (.int (oX (ixO i x)))) σ) : xM kJ1_indexOfChar_4cfef d [.ref (220 + i), .int x, .int 0, .int (nI (xlen.getD i 0))] σ Post := by
  refine xM_start (lv := [some (.ref (220 + i)), some (.int x), some (.int 0), some (.int (nI (xlen.getD i 0))), none, none]) rfl ?_
  refine xe_iload_n dJ1_indexOfChar_4cfef_0 rfl ?_
  refine xe_i2b dJ1_indexOfChar_4cfef_1 ?_
  rw [hx]
  refine xe_istore (lv2 := [_, _, _, _, _, _]) dJ1_indexOfChar_4cfef_2 (by decide) rfl ?_
  refine xe_iload_n dJ1_indexOfChar_4cfef_4 rfl ?_
  refine xe_istore (lv2 := [_, _, _, _, _, _]) dJ1_indexOfChar_4cfef_5 (by decide) rfl ?_
  exact lJ1_indexOfChar_4cfef (d := d) hi x _ 0 (by omega) h

theorem i2b128 : ∀ x, x < 128 → (nI x).toInt8.toInt32 = nI x := by decide +kernel

theorem sJ1_indexOf_4cfef {d : Nat} (hd : 1 ≤ d) {σ : xSt} {Post : Option Value → xSt → Prop} {i : Nat} (x : Nat) (hi : i < 5) (hx : x < 128) (h : Post (some (.int (oX (ixO i (nI x))))) σ) : xM kJ1_indexOf_4cfef d [.ref (220 + i), .int (nI x), .int 0, .int (nI (xlen.getD i 0))] σ Post := by
  obtain ⟨d, rfl⟩ : ∃ e, d = e + 1 := ⟨d - 1, by omega⟩
  refine xM_start (lv := [some (.ref (220 + i)), some (.int (nI x)), some (.int 0), some (.int (nI (xlen.getD i 0)))]) rfl ?_
  have h6 := ln6 i hi
  have h0 : 0 < xlen.getD i 0 := (show ∀ i, i < 5 → 0 < xlen.getD i 0 by decide) i hi
  refine xe_iload_n dJ1_indexOf_4cfef_0 rfl ?_
  refine xe_calls (k2 := kJ1_canEncode_9a6ad) (vs := [_]) dJ1_indexOf_4cfef_1 okJ1_canEncode_9a6ad mlJ1_88 stJ1_canEncode_9a6ad rfl rfl (Nat.le_of_ble_eq_true rfl) (Nat.le_of_ble_eq_true rfl) (sJ1_canEncode_9a6ad (by omega) x hx ?_)
  refine xe_if_ne (tgt := 9) dJ1_indexOf_4cfef_4 (by decide) (fun h4 => ?_) (fun h4 => absurd h4 (by decide))
  refine xe_iload_n dJ1_indexOf_4cfef_9 rfl ?_
  refine xe_iconst (v := 0) dJ1_indexOf_4cfef_10 rfl ?_
  refine xe_mmax dJ1_indexOf_4cfef_11 mlJ1_92 (by omega) (Nat.le_of_ble_eq_true rfl) ?_
  refine xe_top (x2 := 0) (by decide) ?_
  refine xe_istore_n (lv2 := [_, _, _, _]) dJ1_indexOf_4cfef_14 (by decide) rfl ?_
  refine xe_iload_n dJ1_indexOf_4cfef_15 rfl ?_
  refine xe_aload_n dJ1_indexOf_4cfef_16 rfl ?_
  refine xe_strLen dJ1_indexOf_4cfef_17 hi ?_
  refine xe_mmin dJ1_indexOf_4cfef_18 mlJ1_38 (by omega) (Nat.le_of_ble_eq_true rfl) ?_
  refine xe_top (x2 := nI (xlen.getD i 0)) (if_neg (fun z => Int32.lt_irrefl z)) ?_
  refine xe_istore_n (lv2 := [_, _, _, _]) dJ1_indexOf_4cfef_21 (by decide) rfl ?_
  refine xe_iload_n dJ1_indexOf_4cfef_22 rfl ?_
  refine xe_iload_n dJ1_indexOf_4cfef_23 rfl ?_
  refine xe_icmp_lt (tgt := 29) dJ1_indexOf_4cfef_24 (by decide) (fun h24 => ?_) (fun h24 => absurd (nI_lt (a := 0) h0 (by omega)) h24)
  refine xe_aload_n dJ1_indexOf_4cfef_29 rfl ?_
  refine xe_iload_n dJ1_indexOf_4cfef_30 rfl ?_
  refine xe_iload_n dJ1_indexOf_4cfef_31 rfl ?_
  refine xe_iload_n dJ1_indexOf_4cfef_32 rfl ?_
  refine xe_calls (k2 := kJ1_indexOfChar_4cfef) (vs := [_, _, _, _]) dJ1_indexOf_4cfef_33 okJ1_indexOfChar_4cfef mlJ1_95 stJ1_indexOfChar_4cfef rfl rfl (Nat.le_of_ble_eq_true rfl) (Nat.le_of_ble_eq_true rfl) (sJ1_indexOfChar_4cfef (by omega) (nI x) hi (i2b128 x hx) ?_)
  refine xe_iret dJ1_indexOf_4cfef_36 rfl rfl ?_
  exact h

theorem sJ0_indexOf_7cf53 {d : Nat} (hd : 2 ≤ d) {σ : xSt} {Post : Option Value → xSt → Prop} {i : Nat} (x : Nat) (hi : i < 5) (hx : x < 128) (h : Post (some (.int (oX (ixO i (nI x))))) σ) : xM kJ0_indexOf_7cf53 d [.ref (210 + i), .int (nI x), .int 0] σ Post := by
  obtain ⟨d, rfl⟩ : ∃ e, d = e + 1 := ⟨d - 1, by omega⟩
  refine xM_start (lv := [some (.ref (210 + i)), some (.int (nI x)), some (.int 0)]) rfl ?_
  refine xe_aload_n dJ0_indexOf_7cf53_0 rfl ?_
  refine xe_callv (k2 := kJ0_isLatin1_aae02) (vs := []) dJ0_indexOf_7cf53_1 okJ0_isLatin1_aae02 mlJ0_492 imJ0_isLatin1_aae02 slJ0_isLatin1_aae02 (Or.inr ⟨rfl, i, hi, rfl⟩) rfl rfl (Nat.le_of_ble_eq_true rfl) (Nat.le_of_ble_eq_true rfl) (sJ0_isLatin1_aae02 (by omega) hi ?_)
  refine xe_if_eq (tgt := 23) dJ0_indexOf_7cf53_4 (by decide) (fun h4 => absurd h4 (by decide)) (fun h4 => ?_)
  refine xe_aload_n dJ0_indexOf_7cf53_7 rfl ?_
  refine xe_strValue dJ0_indexOf_7cf53_8 fwJ0_9 hi ?_
  refine xe_iload_n dJ0_indexOf_7cf53_11 rfl ?_
  refine xe_iload_n dJ0_indexOf_7cf53_12 rfl ?_
  refine xe_aload_n dJ0_indexOf_7cf53_13 rfl ?_
  refine xe_callv (k2 := kJ0_length_8abf5) (vs := []) dJ0_indexOf_7cf53_14 okJ0_length_8abf5 mlJ0_505 imJ0_length_8abf5 slJ0_length_8abf5 (Or.inr ⟨rfl, i, hi, rfl⟩) rfl rfl (Nat.le_of_ble_eq_true rfl) (Nat.le_of_ble_eq_true rfl) (sJ0_length_8abf5 (by omega) hi ?_)
  refine xe_calls (k2 := kJ1_indexOf_4cfef) (vs := [_, _, _, _]) dJ0_indexOf_7cf53_17 okJ1_indexOf_4cfef mlJ0_637 stJ1_indexOf_4cfef rfl rfl (Nat.le_of_ble_eq_true rfl) (Nat.le_of_ble_eq_true rfl) (sJ1_indexOf_4cfef (by omega) x hi hx ?_)
  refine xe_goto (tgt := 36) dJ0_indexOf_7cf53_20 (by decide) ?_
  refine xe_iret dJ0_indexOf_7cf53_36 rfl rfl ?_
  exact h

theorem sJ0_indexOf_0f7a4 {d : Nat} (hd : 3 ≤ d) {σ : xSt} {Post : Option Value → xSt → Prop} {i : Nat} (x : Nat) (hi : i < 5) (hx : x < 128) (h : Post (some (.int (oX (ixO i (nI x))))) σ) : xM kJ0_indexOf_0f7a4 d [.ref (210 + i), .int (nI x)] σ Post := by
  obtain ⟨d, rfl⟩ : ∃ e, d = e + 1 := ⟨d - 1, by omega⟩
  refine xM_start (lv := [some (.ref (210 + i)), some (.int (nI x))]) rfl ?_
  refine xe_aload_n dJ0_indexOf_0f7a4_0 rfl ?_
  refine xe_iload_n dJ0_indexOf_0f7a4_1 rfl ?_
  refine xe_iconst (v := 0) dJ0_indexOf_0f7a4_2 rfl ?_
  refine xe_callv (k2 := kJ0_indexOf_7cf53) (vs := [_, _]) dJ0_indexOf_0f7a4_3 okJ0_indexOf_7cf53 mlJ0_633 imJ0_indexOf_7cf53 slJ0_indexOf_7cf53 (Or.inr ⟨rfl, i, hi, rfl⟩) rfl rfl (Nat.le_of_ble_eq_true rfl) (Nat.le_of_ble_eq_true rfl) (sJ0_indexOf_7cf53 (by omega) x hi hx ?_)
  refine xe_iret dJ0_indexOf_0f7a4_6 rfl rfl ?_
  exact h
