/-- the cellar that holds, and its steps -/
def JH (σ : xSt) (cc : Nat) (l : List (Nat × Nat)) : Prop := isC cc ∧ RepC σ cc l ∧ ((∃ h ru, h < ru ∧ ru ≤ 6 ∧ σ.1 1 2 = nI h ∧ σ.1 0 8 = nI ru ∧ cc = 84 + 2 * h) ∨ (σ.1 1 2 < 0 ∧ cc = 96))
def JSem (σ : xSt) (S : xSem) : Prop := ∃ cc l, JH σ cc l ∧ σ.1 cc 2 = kpS S ∧ ∀ nm, (jRun nm l (nm 4, 0)).1 = (S nm).1
theorem JH.un {P : Nat → Prop} {σ τ : xSt} {cc : Nat} {l : List (Nat × Nat)} (h : JH σ cc l) (hu : Un P σ τ) (h0 : ¬ P 0) (h1 : ¬ P 1) (hc : ∀ c, 84 ≤ c → c ≤ 97 → ¬ P c) : JH τ cc l := by
  obtain ⟨a, b, c⟩ := h
  have hcc : 84 ≤ cc ∧ cc ≤ 96 := by rcases c with ⟨x, ru, h1, h2, _, _, rfl⟩ | ⟨_, rfl⟩ <;> omega
  refine ⟨a, b.un hu (hc _ (by omega) (by omega)) (hc _ (by omega) (by omega)), ?_⟩
  rw [hu.f h1, hu.f h0]
  exact c
theorem JSem.un {P : Nat → Prop} {σ τ : xSt} {S : xSem} (h : JSem σ S) (hu : Un P σ τ) (h0 : ¬ P 0) (h1 : ¬ P 1) (hc : ∀ c, 84 ≤ c → c ≤ 97 → ¬ P c) : JSem τ S := by
  obtain ⟨cc, l, a, b, c⟩ := h
  have hcc : 84 ≤ cc ∧ cc ≤ 96 := by rcases a.2.2 with ⟨x, ru, h1, h2, _, _, rfl⟩ | ⟨_, rfl⟩ <;> omega
  exact ⟨cc, l, a.un hu h0 h1 hc, (hu.f (hc cc (by omega) (by omega)) 2).trans b, c⟩
/-- what a question may change: trial, tasted, fits, spoken -/
abbrev JSc (c : Nat) : Prop := (53 ≤ c ∧ c ≤ 80) ∨ c = 98 ∨ c = 99
abbrev JK (σ τ : xSt) : Prop := Un JSc σ τ
theorem JSem.jk {σ τ : xSt} {S : xSem} (h : JSem σ S) (hu : JK σ τ) : JSem τ S := h.un hu (by unfold JSc; omega) (by unfold JSc; omega) (fun c _ _ => by unfold JSc; omega)
theorem RepJ.jk {σ τ : xSt} {G : Nat → Int32} {n m p k : Nat} (h : RepJ σ 1 G n m p k) (h6 : n ≤ 6) (hu : JK σ τ) : RepJ τ 1 G n m p k := h.un h6 hu (fun c hc => by unfold JSc; unfold sC at hc; omega)
theorem RepT.jk {σ τ : xSt} {G : Nat → Int32} {n : Nat} (h : RepT σ 1 n G) (h6 : n ≤ 6) (hu : JK σ τ) : RepT τ 1 n G := h.un hu h6 (by unfold JSc; omega) (fun c _ _ => by unfold JSc; omega)
theorem JK.p {σ τ : xSt} (h : Un (pC 79) σ τ) : JK σ τ := h.mono (fun c hc => by unfold JSc; unfold pC at hc; omega)
theorem JK.t {σ τ : xSt} (h : UnT 53 σ τ) : JK σ τ := h.1.mono (fun c hc => by unfold JSc; unfold tC at hc; omega)
def voc (c : Int32) : Int32 := if 4 ≤ c then 1 else if c < 0 then -1 else 0

theorem sX8_isDigit {d : Nat} (hd : 0 ≤ d) {σ : xSt} {Post : Option Value → xSt → Prop} (x : Int32) (h : Post (some (.int (xb (rng x 0 9)))) σ) : xM kX8_isDigit d [.int x] σ Post := by
  refine xM_start (lv := [some (.int x)]) rfl ?_
  refine xe_iload_n dX8_isDigit_0 rfl ?_
  refine xe_if_lt (tgt := 14) dX8_isDigit_1 (by decide) (fun h1 => ?_) (fun h1 => ?_)
  · refine xe_iconst (v := 0) dX8_isDigit_14 rfl ?_
    refine xe_iret dX8_isDigit_15 rfl (by first | rfl | decide | assumption | exact bI_nar _ | exact xb_narrow (by assumption)) ?_
    first
    | (rw [xb, if_pos (c := rng x 0 9) ⟨Int32.not_lt.mp h1, Int32.not_lt.mp h7⟩] at h; exact h)
    | (rw [xb, if_neg (c := rng x 0 9) (fun z => absurd z.1 (Int32.not_le.mpr h1))] at h; exact h)
    | (rw [xb, if_neg (c := rng x 0 9) (fun z => absurd z.2 (Int32.not_le.mpr h7))] at h; exact h)
  · refine xe_iload_n dX8_isDigit_4 rfl ?_
    refine xe_bipush (v := 9) dX8_isDigit_5 rfl ?_
    refine xe_icmp_gt (tgt := 14) dX8_isDigit_7 (by decide) (fun h7 => ?_) (fun h7 => ?_)
    · refine xe_iconst (v := 0) dX8_isDigit_14 rfl ?_
      refine xe_iret dX8_isDigit_15 rfl (by first | rfl | decide | assumption | exact bI_nar _ | exact xb_narrow (by assumption)) ?_
      first
      | (rw [xb, if_pos (c := rng x 0 9) ⟨Int32.not_lt.mp h1, Int32.not_lt.mp h7⟩] at h; exact h)
      | (rw [xb, if_neg (c := rng x 0 9) (fun z => absurd z.1 (Int32.not_le.mpr h1))] at h; exact h)
      | (rw [xb, if_neg (c := rng x 0 9) (fun z => absurd z.2 (Int32.not_le.mpr h7))] at h; exact h)
    · refine xe_iconst (v := 1) dX8_isDigit_10 rfl ?_
      refine xe_goto (tgt := 15) dX8_isDigit_11 (by decide) ?_
      refine xe_iret dX8_isDigit_15 rfl (by first | rfl | decide | assumption | exact bI_nar _ | exact xb_narrow (by assumption)) ?_
      first
      | (rw [xb, if_pos (c := rng x 0 9) ⟨Int32.not_lt.mp h1, Int32.not_lt.mp h7⟩] at h; exact h)
      | (rw [xb, if_neg (c := rng x 0 9) (fun z => absurd z.1 (Int32.not_le.mpr h1))] at h; exact h)
      | (rw [xb, if_neg (c := rng x 0 9) (fun z => absurd z.2 (Int32.not_le.mpr h7))] at h; exact h)

theorem lt8 {x : Int32} : x < 8 ↔ x ≤ 7 := by
  rw [Int32.lt_iff_toInt_lt, Int32.le_iff_toInt_le, show (8 : Int32).toInt = 8 from rfl, show (7 : Int32).toInt = 7 from rfl]; omega

theorem sX8_isFact {d : Nat} (hd : 0 ≤ d) {σ : xSt} {Post : Option Value → xSt → Prop} (x : Int32) (h : Post (some (.int (xb (rng x 0 7)))) σ) : xM kX8_isFact d [.int x] σ Post := by
  refine xM_start (lv := [some (.int x)]) rfl ?_
  refine xe_iload_n dX8_isFact_0 rfl ?_
  refine xe_if_lt (tgt := 14) dX8_isFact_1 (by decide) (fun h1 => ?_) (fun h1 => ?_)
  · refine xe_iconst (v := 0) dX8_isFact_14 rfl ?_
    refine xe_iret dX8_isFact_15 rfl (by first | rfl | decide | assumption | exact bI_nar _ | exact xb_narrow (by assumption)) ?_
    first
    | (rw [xb, if_pos (c := rng x 0 7) ⟨Int32.not_lt.mp h1, lt8.mp (Int32.not_le.mp h7)⟩] at h; exact h)
    | (rw [xb, if_neg (c := rng x 0 7) (fun z => absurd z.1 (Int32.not_le.mpr h1))] at h; exact h)
    | (rw [xb, if_neg (c := rng x 0 7) (fun z => absurd (lt8.mpr z.2) (Int32.not_lt.mpr h7))] at h; exact h)
  · refine xe_iload_n dX8_isFact_4 rfl ?_
    refine xe_bipush (v := 8) dX8_isFact_5 rfl ?_
    refine xe_icmp_ge (tgt := 14) dX8_isFact_7 (by decide) (fun h7 => ?_) (fun h7 => ?_)
    · refine xe_iconst (v := 0) dX8_isFact_14 rfl ?_
      refine xe_iret dX8_isFact_15 rfl (by first | rfl | decide | assumption | exact bI_nar _ | exact xb_narrow (by assumption)) ?_
      first
      | (rw [xb, if_pos (c := rng x 0 7) ⟨Int32.not_lt.mp h1, lt8.mp (Int32.not_le.mp h7)⟩] at h; exact h)
      | (rw [xb, if_neg (c := rng x 0 7) (fun z => absurd z.1 (Int32.not_le.mpr h1))] at h; exact h)
      | (rw [xb, if_neg (c := rng x 0 7) (fun z => absurd (lt8.mpr z.2) (Int32.not_lt.mpr h7))] at h; exact h)
    · refine xe_iconst (v := 1) dX8_isFact_10 rfl ?_
      refine xe_goto (tgt := 15) dX8_isFact_11 (by decide) ?_
      refine xe_iret dX8_isFact_15 rfl (by first | rfl | decide | assumption | exact bI_nar _ | exact xb_narrow (by assumption)) ?_
      first
      | (rw [xb, if_pos (c := rng x 0 7) ⟨Int32.not_lt.mp h1, lt8.mp (Int32.not_le.mp h7)⟩] at h; exact h)
      | (rw [xb, if_neg (c := rng x 0 7) (fun z => absurd z.1 (Int32.not_le.mpr h1))] at h; exact h)
      | (rw [xb, if_neg (c := rng x 0 7) (fun z => absurd (lt8.mpr z.2) (Int32.not_lt.mpr h7))] at h; exact h)

theorem sX8_isIn {d : Nat} (hd : 0 ≤ d) {σ : xSt} {Post : Option Value → xSt → Prop} (x : Int32) (f : Nat) (h : Post (some (.int (bit x f))) σ) : xM kX8_isIn d [.int x, .int (nI f)] σ Post := by
  refine xM_start (lv := [some (.int x), some (.int (nI f))]) rfl ?_
  refine xe_iload_n dX8_isIn_0 rfl ?_
  refine xe_iload_n dX8_isIn_1 rfl ?_
  refine xe_ishr dX8_isIn_2 ?_
  refine xe_iconst (v := 1) dX8_isIn_3 rfl ?_
  refine xe_iand dX8_isIn_4 ?_
  refine xe_iconst (v := 1) dX8_isIn_5 rfl ?_
  refine xe_icmp_ne (tgt := 13) dX8_isIn_6 (by decide) (fun h6 => ?_) (fun h6 => ?_)
  · refine xe_iconst (v := 0) dX8_isIn_13 rfl ?_
    refine xe_iret dX8_isIn_14 rfl (by first | rfl | decide | assumption | exact bI_nar _ | exact xb_narrow (by assumption)) ?_
    first
    | (rw [bit, h6] at h; exact h)
    | (have q : bit x f = 0 := (bit01 x f).resolve_right h6; rw [q] at h; exact h)
  · refine xe_iconst (v := 1) dX8_isIn_9 rfl ?_
    refine xe_goto (tgt := 14) dX8_isIn_10 (by decide) ?_
    refine xe_iret dX8_isIn_14 rfl (by first | rfl | decide | assumption | exact bI_nar _ | exact xb_narrow (by assumption)) ?_
    first
    | (rw [bit, h6] at h; exact h)
    | (have q : bit x f = 0 := (bit01 x f).resolve_right h6; rw [q] at h; exact h)

theorem sX8_voiceOf {d : Nat} (hd : 0 ≤ d) {σ : xSt} {Post : Option Value → xSt → Prop} (x : Int32) (h : Post (some (.int (voc x))) σ) : xM kX8_voiceOf d [.int x] σ Post := by
  refine xM_start (lv := [some (.int x)]) rfl ?_
  refine xe_iload_n dX8_voiceOf_0 rfl ?_
  refine xe_iconst (v := 4) dX8_voiceOf_1 rfl ?_
  refine xe_icmp_lt (tgt := 7) dX8_voiceOf_2 (by decide) (fun h2 => ?_) (fun h2 => ?_)
  · refine xe_iload_n dX8_voiceOf_7 rfl ?_
    refine xe_if_ge (tgt := 15) dX8_voiceOf_8 (by decide) (fun h8 => ?_) (fun h8 => ?_)
    · refine xe_iconst (v := 0) dX8_voiceOf_15 rfl ?_
      refine xe_iret dX8_voiceOf_16 rfl rfl ?_
      first
      | (rw [voc, if_pos (c := 4 ≤ x) (Int32.not_lt.mp h2)] at h; exact h)
      | (rw [voc, if_neg (c := 4 ≤ x) (Int32.not_le.mpr h2), if_pos (c := x < 0) (Int32.not_le.mp h8)] at h; exact h)
      | (rw [voc, if_neg (c := 4 ≤ x) (Int32.not_le.mpr h2), if_neg (c := x < 0) (Int32.not_lt.mpr h8)] at h; exact h)
    · refine xe_iconst (v := -1) dX8_voiceOf_11 rfl ?_
      refine xe_goto (tgt := 16) dX8_voiceOf_12 (by decide) ?_
      refine xe_iret dX8_voiceOf_16 rfl rfl ?_
      first
      | (rw [voc, if_pos (c := 4 ≤ x) (Int32.not_lt.mp h2)] at h; exact h)
      | (rw [voc, if_neg (c := 4 ≤ x) (Int32.not_le.mpr h2), if_pos (c := x < 0) (Int32.not_le.mp h8)] at h; exact h)
      | (rw [voc, if_neg (c := 4 ≤ x) (Int32.not_le.mpr h2), if_neg (c := x < 0) (Int32.not_lt.mpr h8)] at h; exact h)
  · refine xe_iconst (v := 1) dX8_voiceOf_5 rfl ?_
    refine xe_iret dX8_voiceOf_6 rfl rfl ?_
    first
    | (rw [voc, if_pos (c := 4 ≤ x) (Int32.not_lt.mp h2)] at h; exact h)
    | (rw [voc, if_neg (c := 4 ≤ x) (Int32.not_le.mpr h2), if_pos (c := x < 0) (Int32.not_le.mp h8)] at h; exact h)
    | (rw [voc, if_neg (c := 4 ≤ x) (Int32.not_le.mpr h2), if_neg (c := x < 0) (Int32.not_lt.mpr h8)] at h; exact h)

theorem voc_cases (c : Int32) (f : Nat) (w : Int32) : (voc c = 1 ∧ 4 ≤ c ∧ syB c f w = bit w f) ∨ (voc c = -1 ∧ ¬ 4 ≤ c ∧ c < 0 ∧ syB c f w = 1 - bit w f) ∨ (voc c = 0 ∧ ¬ 4 ≤ c ∧ ¬ c < 0 ∧ syB c f w = -5) := by
  unfold voc syB
  by_cases h : 4 ≤ c
  · left; rw [if_pos h, if_pos h]; exact ⟨rfl, h, rfl⟩
  · by_cases h2 : c < 0
    · right; left; rw [if_neg h, if_neg h, if_pos h2, if_pos h2]; exact ⟨rfl, h, h2, rfl⟩
    · right; right; rw [if_neg h, if_neg h, if_neg h2, if_neg h2]; exact ⟨rfl, h, h2, rfl⟩

theorem sX8_saidBy {d : Nat} (hd : 1 ≤ d) {σ : xSt} {Post : Option Value → xSt → Prop} (c : Int32) (f : Nat) (h : Post (some (.int (syB c f (σ.1 1 0)))) σ) : xM kX8_saidBy d [.ref 0, .int c, .int (nI f)] σ Post := by
  obtain ⟨d, rfl⟩ : ∃ e, d = e + 1 := ⟨d - 1, by omega⟩
  refine xM_start (lv := [some (.ref 0), some (.int c), some (.int (nI f)), none]) rfl ?_
  have V := voc_cases c f (σ.1 1 0)
  refine xe_iload_n dX8_saidBy_0 rfl ?_
  refine xe_calls (k2 := kX8_voiceOf) (vs := [_]) dX8_saidBy_1 okX8_voiceOf mlX8_190 stX8_voiceOf rfl rfl (Nat.le_of_ble_eq_true rfl) (Nat.le_of_ble_eq_true rfl) (sX8_voiceOf (by omega) c ?_)
  refine xe_istore_n (lv2 := [_, _, _, _]) dX8_saidBy_4 (by decide) rfl ?_
  refine xe_iload_n dX8_saidBy_5 rfl ?_
  refine xe_if_ne (tgt := 12) dX8_saidBy_6 (by decide) (fun h6 => ?_) (fun h6 => ?_)
  · refine xe_aload_n dX8_saidBy_12 rfl ?_
    refine xe_getr dX8_saidBy_13 flX8_12 (by decide) rfl rfl ?_
    refine xe_getf dX8_saidBy_16 flX8_114 (by decide) rfl rfl ?_
    refine xe_iload_n dX8_saidBy_19 rfl ?_
    refine xe_calls (k2 := kX8_isIn) (vs := [_, _]) dX8_saidBy_20 okX8_isIn mlX8_193 stX8_isIn rfl rfl (Nat.le_of_ble_eq_true rfl) (Nat.le_of_ble_eq_true rfl) (sX8_isIn (by omega) _ f ?_)
    refine xe_iload_n dX8_saidBy_23 rfl ?_
    refine xe_if_le (tgt := 31) dX8_saidBy_24 (by decide) (fun h24 => ?_) (fun h24 => ?_)
    · refine xe_iconst (v := 0) dX8_saidBy_31 rfl ?_
      refine xe_icmp_ne (tgt := 39) dX8_saidBy_32 (by decide) (fun h32 => ?_) (fun h32 => ?_)
      · refine xe_iconst (v := 0) dX8_saidBy_39 rfl ?_
        refine xe_iret dX8_saidBy_40 rfl rfl ?_
        rcases V with ⟨a, _, e⟩ | ⟨a, _, _, e⟩ | ⟨a, _, _, e⟩
        · rw [a] at h24; rw [e] at h; rcases bit01 (σ.1 1 0) f with z | z <;> rw [z] at h h32 <;> first | exact h | exact absurd h24 (by decide) | exact absurd h32 (by decide) | exact absurd rfl h32
        · rw [a] at h24; rw [e] at h; rcases bit01 (σ.1 1 0) f with z | z <;> rw [z] at h h32 <;> first | exact h | exact absurd h24 (by decide) | exact absurd h32 (by decide) | exact absurd rfl h32
        · exact absurd a h6
      · refine xe_iconst (v := 1) dX8_saidBy_35 rfl ?_
        refine xe_goto (tgt := 40) dX8_saidBy_36 (by decide) ?_
        refine xe_iret dX8_saidBy_40 rfl rfl ?_
        rcases V with ⟨a, _, e⟩ | ⟨a, _, _, e⟩ | ⟨a, _, _, e⟩
        · rw [a] at h24; rw [e] at h; rcases bit01 (σ.1 1 0) f with z | z <;> rw [z] at h h32 <;> first | exact h | exact absurd h24 (by decide) | exact absurd h32 (by decide) | exact absurd rfl h32
        · rw [a] at h24; rw [e] at h; rcases bit01 (σ.1 1 0) f with z | z <;> rw [z] at h h32 <;> first | exact h | exact absurd h24 (by decide) | exact absurd h32 (by decide) | exact absurd rfl h32
        · exact absurd a h6
    · refine xe_iconst (v := 1) dX8_saidBy_27 rfl ?_
      refine xe_goto (tgt := 32) dX8_saidBy_28 (by decide) ?_
      refine xe_icmp_ne (tgt := 39) dX8_saidBy_32 (by decide) (fun h32 => ?_) (fun h32 => ?_)
      · refine xe_iconst (v := 0) dX8_saidBy_39 rfl ?_
        refine xe_iret dX8_saidBy_40 rfl rfl ?_
        rcases V with ⟨a, _, e⟩ | ⟨a, _, _, e⟩ | ⟨a, _, _, e⟩
        · rw [a] at h24; rw [e] at h; rcases bit01 (σ.1 1 0) f with z | z <;> rw [z] at h h32 <;> first | exact h | exact absurd h24 (by decide) | exact absurd h32 (by decide) | exact absurd rfl h32
        · rw [a] at h24; rw [e] at h; rcases bit01 (σ.1 1 0) f with z | z <;> rw [z] at h h32 <;> first | exact h | exact absurd h24 (by decide) | exact absurd h32 (by decide) | exact absurd rfl h32
        · exact absurd a h6
      · refine xe_iconst (v := 1) dX8_saidBy_35 rfl ?_
        refine xe_goto (tgt := 40) dX8_saidBy_36 (by decide) ?_
        refine xe_iret dX8_saidBy_40 rfl rfl ?_
        rcases V with ⟨a, _, e⟩ | ⟨a, _, _, e⟩ | ⟨a, _, _, e⟩
        · rw [a] at h24; rw [e] at h; rcases bit01 (σ.1 1 0) f with z | z <;> rw [z] at h h32 <;> first | exact h | exact absurd h24 (by decide) | exact absurd h32 (by decide) | exact absurd rfl h32
        · rw [a] at h24; rw [e] at h; rcases bit01 (σ.1 1 0) f with z | z <;> rw [z] at h h32 <;> first | exact h | exact absurd h24 (by decide) | exact absurd h32 (by decide) | exact absurd rfl h32
        · exact absurd a h6
  · refine xe_bipush (v := -5) dX8_saidBy_9 rfl ?_
    refine xe_iret dX8_saidBy_11 rfl rfl ?_
    rcases V with ⟨a, _, e⟩ | ⟨a, _, _, e⟩ | ⟨a, _, _, e⟩
    · rw [a] at h6; exact absurd h6 (by decide)
    · rw [a] at h6; exact absurd h6 (by decide)
    · rw [e] at h; exact h

theorem x83 {h : Nat} (hh : h < 6) : [84, 86, 88, 90, 92, 94][h]? = some (84 + 2 * h) := by
  match h, hh with
  | 0, _ => rfl
  | 1, _ => rfl
  | 2, _ => rfl
  | 3, _ => rfl
  | 4, _ => rfl
  | 5, _ => rfl

theorem sX8_holding {d : Nat} (hd : 0 ≤ d) {σ : xSt} {Post : Option Value → xSt → Prop} {cc : Nat} {l : List (Nat × Nat)} (hH : JH σ cc l) (h : Post (some (.ref cc)) σ) : xM kX8_holding d [.ref 0] σ Post := by
  refine xM_start (lv := [some (.ref 0), none]) rfl ?_
  obtain ⟨hc, hl, ⟨x, ru, hx1, hx2, e1, e2, rfl⟩ | ⟨e1, rfl⟩⟩ := hH
  · skip
    refine xe_aload_n dX8_holding_0 rfl ?_
    refine xe_getr dX8_holding_1 flX8_12 (by decide) rfl rfl ?_
    refine xe_getf dX8_holding_4 flX8_137 (by decide) rfl rfl ?_
    refine xe_istore_n (lv2 := [_, _]) dX8_holding_7 (by decide) rfl ?_
    refine xe_iload_n dX8_holding_8 rfl ?_
    refine xe_if_lt (tgt := 29) dX8_holding_9 (by decide) (fun h9 => ?_) (fun h9 => ?_)
    · first | exact absurd h9 (by rw [e1]; exact nI_pos (by omega)) | exact absurd h17 (by rw [e1, e2]; exact nI_ge hx1 (by omega))
    · refine xe_iload_n dX8_holding_12 rfl ?_
      refine xe_aload_n dX8_holding_13 rfl ?_
      refine xe_getf dX8_holding_14 flX8_53 (by decide) rfl rfl ?_
      refine xe_icmp_ge (tgt := 29) dX8_holding_17 (by decide) (fun h17 => ?_) (fun h17 => ?_)
      · first | exact absurd h9 (by rw [e1]; exact nI_pos (by omega)) | exact absurd h17 (by rw [e1, e2]; exact nI_ge hx1 (by omega))
      · refine xe_aload_n dX8_holding_20 rfl ?_
        refine xe_getr dX8_holding_21 flX8_44 (by decide) rfl rfl ?_
        refine xe_iload_n dX8_holding_24 rfl ?_
        refine xn_aaload dX8_holding_25 (by decide) rfl (by decide) e1 (by omega) (by decide) (x83 (by omega)) ?_
        refine xe_goto (tgt := 33) dX8_holding_26 (by decide) ?_
        refine xe_aret dX8_holding_33 rfl ?_
        exact h
  · skip
    refine xe_aload_n dX8_holding_0 rfl ?_
    refine xe_getr dX8_holding_1 flX8_12 (by decide) rfl rfl ?_
    refine xe_getf dX8_holding_4 flX8_137 (by decide) rfl rfl ?_
    refine xe_istore_n (lv2 := [_, _]) dX8_holding_7 (by decide) rfl ?_
    refine xe_iload_n dX8_holding_8 rfl ?_
    refine xe_if_lt (tgt := 29) dX8_holding_9 (by decide) (fun h9 => ?_) (fun h9 => ?_)
    · refine xe_aload_n dX8_holding_29 rfl ?_
      refine xe_getr dX8_holding_30 flX8_49 (by decide) rfl rfl ?_
      refine xe_aret dX8_holding_33 rfl ?_
      exact h
    · exact absurd e1 h9

theorem sX8_clearOf {d : Nat} (hd : 2 ≤ d) {σ : xSt} {Post : Option Value → xSt → Prop} {c i f : Nat} (S : xSem) (a : Nat → Int32) (hS : JSem σ S) (hp : isP c) (hf : f < 8) (hr : RepP σ c i a) (h : Post (some (.int (Clr S i a f))) σ) : xM kX8_clearOf d [.ref 0, .ref c, .int (nI f)] σ Post := by
  obtain ⟨d, rfl⟩ : ∃ e, d = e + 1 := ⟨d - 1, by omega⟩
  refine xM_start (lv := [some (.ref 0), some (.ref c), some (.int (nI f))]) rfl ?_
  obtain ⟨cc, l, hH, hk, hs⟩ := hS
  have e : (jRun (nmO i a (nI f)) l (a 2, 0)).1 = (S (nmO i a (nI f))).1 := hs (nmO i a (nI f))
  refine xe_aload_n dX8_clearOf_0 rfl ?_
  refine xe_aload_n dX8_clearOf_1 rfl ?_
  refine xe_callv (k2 := kX8_holding) (vs := []) dX8_clearOf_2 okX8_holding mlX8_146 imX8_holding slX8_holding (Or.inl ⟨8, _, _, by decide, rfl, rfl, rfl⟩) rfl rfl (Nat.le_of_ble_eq_true rfl) (Nat.le_of_ble_eq_true rfl) (sX8_holding (by omega) hH ?_)
  refine xe_aload_n dX8_clearOf_5 rfl ?_
  refine xe_iload_n dX8_clearOf_6 rfl ?_
  refine xe_callv (k2 := kX1_sum) (vs := [_, _]) dX8_clearOf_7 okX1_sum mlX8_183 imX1_sum slX1_sum (Or.inl ⟨1, _, _, hH.1.1.1, hH.1.1.2, rfl, rfl⟩) rfl rfl (Nat.le_of_ble_eq_true rfl) (Nat.le_of_ble_eq_true rfl) (sX1_sum (by omega) (nI f) a l hH.1 hp hr hH.2.1 ?_)
  rw [e]
  refine xe_iload_n dX8_clearOf_10 rfl ?_
  refine xe_callv (k2 := kX3_clear) (vs := [_, _]) dX8_clearOf_11 okX3_clear mlX8_186 imX3_clear slX3_clear (Or.inl ⟨3, _, _, hp.1.1, hp.1.2, rfl, rfl⟩) rfl rfl (Nat.le_of_ble_eq_true rfl) (Nat.le_of_ble_eq_true rfl) (sX3_clear (by omega) a _ hp hf hr ?_)
  refine xe_iret dX8_clearOf_14 rfl rfl ?_
  exact h

theorem sX8_says {d : Nat} (hd : 3 ≤ d) {σ : xSt} {Post : Option Value → xSt → Prop} {c i f : Nat} (S : xSem) (a : Nat → Int32) (hS : JSem σ S) (hp : isP c) (hf : f < 8) (hr : RepP σ c i a) (h : Post (some (.int (syB (Clr S i a f) f (σ.1 1 0)))) σ) : xM kX8_says d [.ref 0, .ref c, .int (nI f)] σ Post := by
  obtain ⟨d, rfl⟩ : ∃ e, d = e + 1 := ⟨d - 1, by omega⟩
  refine xM_start (lv := [some (.ref 0), some (.ref c), some (.int (nI f))]) rfl ?_
  refine xe_aload_n dX8_says_0 rfl ?_
  refine xe_aload_n dX8_says_1 rfl ?_
  refine xe_aload_n dX8_says_2 rfl ?_
  refine xe_iload_n dX8_says_3 rfl ?_
  refine xe_callv (k2 := kX8_clearOf) (vs := [_, _]) dX8_says_4 okX8_clearOf mlX8_105 imX8_clearOf slX8_clearOf (Or.inl ⟨8, _, _, by decide, rfl, rfl, rfl⟩) rfl rfl (Nat.le_of_ble_eq_true rfl) (Nat.le_of_ble_eq_true rfl) (sX8_clearOf (by omega) S a hS hp hf hr ?_)
  refine xe_iload_n dX8_says_7 rfl ?_
  refine xe_callv (k2 := kX8_saidBy) (vs := [_, _]) dX8_says_8 okX8_saidBy mlX8_197 imX8_saidBy slX8_saidBy (Or.inl ⟨8, _, _, by decide, rfl, rfl, rfl⟩) rfl rfl (Nat.le_of_ble_eq_true rfl) (Nat.le_of_ble_eq_true rfl) (sX8_saidBy (by omega) _ f ?_)
  refine xe_iret dX8_says_11 rfl rfl ?_
  exact h
