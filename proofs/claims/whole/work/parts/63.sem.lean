/-! Int32 by its bits (begun from the kit's rows to paste) -/
def bt (x : Int32) (i : Nat) : Bool := x.toBitVec.getLsbD i
theorem b_ext {x y : Int32} (h : ∀ i, i < 32 → bt x i = bt y i) : x = y := Int32.toBitVec_inj.mp (BitVec.eq_of_getLsbD_eq (fun i hi => h i hi))
theorem b_or (x y : Int32) (i : Nat) : bt (x ||| y) i = (bt x i || bt y i) := by unfold bt; rw [Int32.toBitVec_or, BitVec.getLsbD_or]
theorem b_and (x y : Int32) (i : Nat) : bt (x &&& y) i = (bt x i && bt y i) := by unfold bt; rw [Int32.toBitVec_and, BitVec.getLsbD_and]
theorem b_xor (x y : Int32) (i : Nat) : bt (x ^^^ y) i = (bt x i ^^ bt y i) := by unfold bt; rw [Int32.toBitVec_xor, BitVec.getLsbD_xor]
theorem b_big {x : Int32} {i : Nat} (h : 32 ≤ i) : bt x i = false := BitVec.getLsbD_of_ge _ _ h
theorem b_m1 : ∀ i, i < 32 → bt (-1) i = true := by decide +kernel
theorem b_0 (i : Nat) : bt 0 i = false := BitVec.getLsbD_zero
theorem s_l : ∀ n, n < 32 → ((nI n &&& 31).toBitVec.smod 32).toNat = n := by decide +kernel
theorem b_shl (n : Nat) (hn : n < 32) (x : Int32) {i : Nat} (hi : i < 32) : bt (x <<< (nI n &&& 31)) i = (decide (n ≤ i) && bt x (i - n)) := by
  unfold bt
  rw [Int32.toBitVec_shiftLeft]
  show (x.toBitVec <<< ((nI n &&& 31).toBitVec.smod 32).toNat).getLsbD i = _
  rw [s_l n hn, BitVec.getLsbD_shiftLeft]
  rcases Nat.lt_or_ge i n with h | h
  · simp [h, Nat.not_le.mpr h]
  · simp [hi, h, Nat.not_lt.mpr h]
theorem b_sshr (n : Nat) (hn : n < 32) (x : Int32) {i : Nat} (hi : i < 32) : bt (x >>> (nI n &&& 31)) i = if n + i < 32 then bt x (n + i) else bt x 31 := by
  unfold bt
  rw [Int32.toBitVec_shiftRight]
  show (x.toBitVec.sshiftRight ((nI n &&& 31).toBitVec.smod 32).toNat).getLsbD i = _
  rw [s_l n hn, BitVec.getLsbD_sshiftRight, BitVec.msb_eq_getLsbD_last]
  simp [hi]
theorem bt_nI (n : Nat) {i : Nat} (hi : i < 32) : bt (nI n) i = n.testBit i := by
  show (BitVec.ofNat 32 n).getLsbD i = _
  rw [BitVec.getLsbD_ofNat, decide_eq_true hi, Bool.true_and]
theorem b_ext2 {x y : Int32} (h0 : bt x 0 = bt y 0) (h1 : ∀ j, j < 31 → bt x (j + 1) = bt y (j + 1)) : x = y := b_ext (fun i hi => by
  cases i with
  | zero => exact h0
  | succ j => exact h1 j (by omega))
theorem tq0 (q : Nat) (b : Bool) : (2 * q + bN b).testBit 0 = b := by cases b <;> simp [bN, Nat.testBit_zero] <;> omega
theorem tqs (q j : Nat) (b : Bool) : (2 * q + bN b).testBit (j + 1) = q.testBit j := by
  rw [Nat.testBit_succ]; congr 1; cases b <;> simp [bN] <;> omega
theorem bt_q0 (q : Nat) (b : Bool) : bt (nI (2 * q + bN b)) 0 = b := by rw [bt_nI _ (by omega), tq0]
theorem bt_qs (q : Nat) (b : Bool) {j : Nat} (hj : j < 31) : bt (nI (2 * q + bN b)) (j + 1) = bt (nI q) j := by rw [bt_nI _ (by omega), bt_nI _ (by omega), tqs]
theorem bt_b0 (b : Bool) : bt (bI b) 0 = b := by cases b <;> rfl
theorem bt_bs (b : Bool) : ∀ j, j < 31 → bt (bI b) (j + 1) = false := by cases b <;> decide +kernel
theorem bt_m2 : bt (-2) 0 = false ∧ ∀ j, j < 31 → bt (-2) (j + 1) = true := by decide +kernel
theorem bt_10 : bt 1 0 = true ∧ ∀ j, j < 31 → bt 1 (j + 1) = false := by decide +kernel
theorem p_push (q : Nat) (b : Bool) : nI q <<< (1 &&& 31) ||| bI b = nI (2 * q + bN b) := by
  apply b_ext2
  · rw [b_or, show (1 : Int32) = nI 1 from rfl, b_shl 1 (by omega) _ (by omega), bt_b0, bt_q0]; simp
  · intro j hj
    rw [b_or, show (1 : Int32) = nI 1 from rfl, b_shl 1 (by omega) _ (by omega), bt_bs b j hj, bt_qs q b hj]; simp
theorem p_pop {q : Nat} (b : Bool) (hq : q < 2 ^ 30) : nI (2 * q + bN b) >>> (1 &&& 31) = nI q := by
  apply b_ext
  intro i hi
  rw [show (1 : Int32) = nI 1 from rfl, b_sshr 1 (by omega) _ hi]
  have hz : ∀ k, 30 ≤ k → q.testBit k = false := fun k hk => Nat.testBit_lt_two_pow (Nat.lt_of_lt_of_le hq (Nat.pow_le_pow_right (by omega) hk))
  split
  · rw [show 1 + i = i + 1 by omega, bt_qs q b (by omega)]
  · obtain rfl : i = 31 := by omega
    rw [bt_qs q b (j := 30) (by omega), bt_nI _ (by omega), bt_nI _ (by omega), hz 30 (by omega), hz 31 (by omega)]
theorem p_top (q : Nat) (b : Bool) : nI (2 * q + bN b) &&& 1 = bI b := by
  apply b_ext2
  · rw [b_and, bt_q0, bt_10.1, bt_b0]; simp
  · intro j hj; rw [b_and, bt_10.2 j hj, bt_bs b j hj]; simp
theorem p_not (q : Nat) (b : Bool) : nI (2 * q + bN b) ^^^ 1 = nI (2 * q + bN (!b)) := by
  apply b_ext2
  · rw [b_xor, bt_q0, bt_10.1, bt_q0]; cases b <;> rfl
  · intro j hj; rw [b_xor, bt_10.2 j hj, bt_qs q b hj, bt_qs q _ hj]; simp
theorem p_and (q : Nat) (a b : Bool) : nI (2 * q + bN a) &&& (-2 ||| bI b) = nI (2 * q + bN (a && b)) := by
  apply b_ext2
  · rw [b_and, b_or, bt_q0, bt_q0, bt_m2.1, bt_b0]; cases a <;> cases b <;> rfl
  · intro j hj; rw [b_and, b_or, bt_m2.2 j hj, bt_qs q _ hj, bt_qs q _ hj]; simp
theorem p_or (q : Nat) (a b : Bool) : nI (2 * q + bN a) ||| bI b = nI (2 * q + bN (a || b)) := by
  apply b_ext2
  · rw [b_or, bt_q0, bt_q0, bt_b0]
  · intro j hj; rw [b_or, bt_bs b j hj, bt_qs q _ hj, bt_qs q _ hj]; simp
/-! steps push what their text says -/
def Rh (nm : Nat → Int32) (h : Nat) (c : List (Nat × Nat)) (b : Bool) : Prop := ∀ (x : Int32) (p : Nat), p < 2 ^ (30 - h) → jRun nm c (x, nI p) = (x, nI (2 * p + bN b))
theorem Rh.up {nm : Nat → Int32} {h h2 : Nat} {c : List (Nat × Nat)} {b : Bool} (hr : Rh nm h c b) (hh : h ≤ h2) : Rh nm h2 c b := fun x p hp => hr x p (Nat.lt_of_lt_of_le hp (Nat.pow_le_pow_right (by omega) (by omega)))
theorem jRun_app (nm : Nat → Int32) (a b : List (Nat × Nat)) (s : Int32 × Int32) : jRun nm (a ++ b) s = jRun nm b (jRun nm a s) := by unfold jRun; rw [List.foldl_append]
theorem jRun_1 (nm : Nat → Int32) (c : Nat × Nat) (s : Int32 × Int32) : jRun nm [c] s = jS nm s c := rfl
theorem Rh.tst {nm : Nat → Int32} {L r n : Nat} (hL : L < 6) (hr : r < 3) : Rh nm 0 [(3 * L + r, n)] (mTst nm L r (nI n)) := by
  intro x p _
  rw [jRun_1, jS_tst (by omega), show (3 * L + r) / 3 = L by omega, show (3 * L + r) % 3 = r by omega]
  simp only
  rw [p_push]
theorem Rh.ng {nm : Nat → Int32} {h : Nat} {c : List (Nat × Nat)} {b : Bool} (hr : Rh nm h c b) : Rh nm h (jNg c) (!b) := by
  intro x p hp
  unfold jNg
  rw [jRun_app, hr x p hp, jRun_1]
  show (x, nI (2 * p + bN b) ^^^ 1) = _
  rw [p_not]
theorem pw_half {h p : Nat} (b : Bool) (hh : h < 30) (hp : p < 2 ^ (30 - (h + 1))) : 2 * p + bN b < 2 ^ (30 - h) := by
  have e : 2 ^ (30 - h) = 2 * 2 ^ (30 - (h + 1)) := by rw [show 30 - h = (30 - (h + 1)) + 1 by omega, Nat.pow_succ]; omega
  have : bN b ≤ 1 := by cases b <;> decide
  omega
theorem pw_le {h p : Nat} (hp : p < 2 ^ (30 - h)) : p < 2 ^ 30 := Nat.lt_of_lt_of_le hp (Nat.pow_le_pow_right (by omega) (by omega))
theorem Rh.an {nm : Nat → Int32} {h : Nat} (hh : h < 30) {c c2 : List (Nat × Nat)} {a b : Bool} (hr : Rh nm (h + 1) c a) (hr2 : Rh nm h c2 b) : Rh nm (h + 1) (jAn c c2) (a && b) := by
  intro x p hp
  unfold jAn
  rw [jRun_app, jRun_app, hr x p hp, hr2 x _ (pw_half a hh hp), jRun_1]
  show (x, nI (2 * (2 * p + bN a) + bN b) >>> (1 &&& 31) &&& (-2 ||| nI (2 * (2 * p + bN a) + bN b) &&& 1)) = _
  rw [p_top, p_pop b (pw_le (pw_half a hh hp)), p_and]
theorem Rh.or {nm : Nat → Int32} {h : Nat} (hh : h < 30) {c c2 : List (Nat × Nat)} {a b : Bool} (hr : Rh nm (h + 1) c a) (hr2 : Rh nm h c2 b) : Rh nm (h + 1) (jOr c c2) (a || b) := by
  intro x p hp
  unfold jOr
  rw [jRun_app, jRun_app, hr x p hp, hr2 x _ (pw_half a hh hp), jRun_1]
  show (x, nI (2 * (2 * p + bN a) + bN b) >>> (1 &&& 31) ||| nI (2 * (2 * p + bN a) + bN b) &&& 1) = _
  rw [p_top, p_pop b (pw_le (pw_half a hh hp)), p_or]
/-- two readings: they end alike, and where all was well they are related -/
def Qr {α β : Type} (R : α → β → Prop) (r : α × pS) (r2 : β × pS) : Prop := r.2 = r2.2 ∧ (r.2.2 = true → R r.1 r2.1)
theorem Qr.mono {α β : Type} {R R2 : α → β → Prop} {r : α × pS} {r2 : β × pS} (h : Qr R r r2) (hm : ∀ a b, R a b → R2 a b) : Qr R2 r r2 := ⟨h.1, fun z => hm _ _ (h.2 z)⟩
theorem pLp_q {α β : Type} {Ra Re : α → β → Prop} {op : α → α → α} {op2 : β → β → β} (ho : ∀ a b a2 b2, Ra a a2 → Re b b2 → Ra (op a b) (op2 a2 b2)) (T : Nat → Int32) (sz : Nat) (c : Int32) {f : pS → α × pS} {f2 : pS → β × pS} (hf : ∀ s, Qr Re (f s) (f2 s)) : ∀ (n : Nat) (r : α × pS) (r2 : β × pS), Qr Ra r r2 → Qr Ra (pLp T sz c op f n r) (pLp T sz c op2 f2 n r2) := by
  intro n
  induction n with
  | zero => intro r r2 h; exact h
  | succ n ih =>
    intro r r2 h
    unfold pLp
    rw [← h.1]
    cases q : pAt T sz r.2 c with
    | false => exact h
    | true => exact ih _ _ ⟨(hf _).1, fun z => ho _ _ _ _ (h.2 (pAt_ok q)) ((hf _).2 z)⟩
theorem pRl_lt (T : Nat → Int32) (sz : Nat) (s : pS) : pRl T sz s < 3 := by
  unfold pRl
  cases pAt T sz s 60 <;> cases pAt T sz s 62 <;> decide
theorem sem_Ts {T : Nat → Int32} {sz : Nat} (hT : ToK T sz) (nm : Nat → Int32) (s : pS) : Qr (Rh nm 0) (pTs jTs [] T sz s) (pTs (mTst nm) false T sz s) := by
  unfold pTs
  cases h : pLt T sz s with
  | none => exact ⟨rfl, fun z => by cases z⟩
  | some L =>
    refine ⟨rfl, fun _ => ?_⟩
    obtain ⟨n, hn, en⟩ := pNm_nat hT (pTk T sz (s.1 + 1, s.2) (pRc (pRl T sz (s.1 + 1, s.2))))
    simp only [jTs]
    rw [en, cN_nI (by omega)]
    exact Rh.tst (pLt_lt h).2.2.1 (pRl_lt _ _ _)
theorem sem_Bt {T : Nat → Int32} {sz : Nat} (nm : Nat → Int32) {h : Nat} (hh : h < 30) {f : pS → List (Nat × Nat) × pS} {f2 : pS → Bool × pS} (hf : ∀ s, Qr (Rh nm h) (f s) (f2 s)) (s : pS) : Qr (Rh nm (h + 1)) (pBt T sz jAn f s) (pBt T sz and f2 s) :=
  pLp_q (Ra := Rh nm (h + 1)) (Re := Rh nm h) (fun _ _ _ _ h1 h2 => Rh.an hh h1 h2) T sz 38 hf 100 _ _ ((hf s).mono (fun _ _ z => z.up (by omega)))
theorem sem_Ay {T : Nat → Int32} {sz : Nat} (nm : Nat → Int32) {h : Nat} (hh : h < 29) {f : pS → List (Nat × Nat) × pS} {f2 : pS → Bool × pS} (hf : ∀ s, Qr (Rh nm h) (f s) (f2 s)) (s : pS) : Qr (Rh nm (h + 2)) (pAy T sz jAn jOr f s) (pAy T sz and or f2 s) :=
  pLp_q (Ra := Rh nm (h + 2)) (Re := Rh nm (h + 1)) (fun _ _ _ _ h1 h2 => Rh.or (by omega) h1 h2) T sz 124 (sem_Bt nm (by omega) hf) 100 _ _ ((sem_Bt nm (by omega) hf s).mono (fun _ _ z => z.up (by omega)))
theorem pTk_ok {T : Nat → Int32} {sz : Nat} {s : pS} {c : Int32} (h : (pTk T sz s c).2 = true) : s.2 = true := by
  unfold pTk at h
  cases q : pAt T sz s c with
  | false => rw [q] at h; cases h
  | true => exact pAt_ok q
theorem sem_Fa {T : Nat → Int32} {sz : Nat} (hT : ToK T sz) (nm : Nat → Int32) : ∀ (r : Nat), r ≤ 4 → ∀ s, Qr (Rh nm (2 * r)) (jFa T sz r s) (mFa T nm sz r s) := by
  intro r
  induction r with
  | zero => intro _ s; exact sem_Ts hT nm s
  | succ r ih =>
    intro hr s
    have ihr := ih (by omega)
    show Qr _ (pFa T sz jTs [] jNg jAn jOr (r + 1) s) (pFa T sz (mTst nm) false not and or (r + 1) s)
    unfold pFa
    cases h1 : pAt T sz s 33 with
    | true => exact ⟨(ihr _).1, fun z => (((ihr _).2 z).ng).up (by omega)⟩
    | false =>
      cases h2 : pAt T sz s 40 with
      | false => exact (sem_Ts hT nm s).mono (fun _ _ z => z.up (by omega))
      | true =>
        have k := sem_Ay (T := T) (sz := sz) nm (h := 2 * r) (by omega) ihr (s.1 + 1, s.2)
        refine ⟨?_, fun z => (k.2 (pTk_ok z)).up (by omega)⟩
        show pTk T sz (pAy T sz jAn jOr (jFa T sz r) (s.1 + 1, s.2)).2 41 = pTk T sz (pAy T sz and or (mFa T nm sz r) (s.1 + 1, s.2)).2 41
        rw [k.1]
def Ka (nm : Nat → Int32) (a : jA) (a2 : Int32 × Int32) : Prop := jRun nm a.1 (nm 4, 0) = (a2.1, 0) ∧ a.2 = a2.2
theorem i32_1 (b : Bool) (n : Int32) : bI b * n = bif b then n else 0 := by
  cases b
  · show (0 : Int32) * n = 0; exact Int32.zero_mul
  · show (1 : Int32) * n = n; exact Int32.one_mul n
theorem sem_Cl {T : Nat → Int32} {sz : Nat} (hT : ToK T sz) (nm : Nat → Int32) (a : jA) (a2 : Int32 × Int32) (h : Ka nm a a2) (s : pS) : Qr (Ka nm) (jCl T sz a s) (mCl T nm sz a2 s) := by
  have hay : ∀ s, Qr (Rh nm 10) (jAy T sz s) (mAy T nm sz s) := fun s => sem_Ay nm (h := 8) (by omega) (sem_Fa hT nm 4 (by omega)) s
  unfold jCl mCl pCl
  cases hb : pBg T sz s with
  | none => exact ⟨rfl, fun z => by cases z⟩
  | some i =>
    obtain ⟨n, hn, en⟩ := pNm_nat hT (pTk T sz (pWd T sz i s) 32)
    have en : (pCn T sz i s).1 = nI n := en
    have k := hay (pTk T sz (pCn T sz i s).2 32)
    by_cases h2 : i = 2
    · subst h2
      exact ⟨rfl, fun _ => ⟨h.1, rfl⟩⟩
    · simp only [if_neg h2]
      by_cases h0 : i = 0
      · subst h0
        refine ⟨k.1, fun z => ⟨?_, h.2⟩⟩
        have kr := k.2 z (a2.1) 0 (by decide)
        simp only [if_true, jSw, mSw]
        rw [jRun_app, jRun_app, h.1, show (0 : Int32) = nI 0 from rfl, kr, jRun_1]
        show (a2.1 + (nI (2 * 0 + bN _) &&& 1) * nI (cN _), nI (2 * 0 + bN _) >>> (1 &&& 31)) = _
        rw [p_top, p_pop _ (by omega), en, cN_nI (by omega), i32_1]
        rfl
      · simp only [if_neg h0]
        refine ⟨k.1, fun z => ⟨?_, h.2⟩⟩
        have kr := k.2 z (a2.1) 0 (by decide)
        simp only [jHz, mHz]
        rw [jRun_app, jRun_app, h.1, show (0 : Int32) = nI 0 from rfl, kr, jRun_1]
        show (a2.1 - (nI (2 * 0 + bN _) &&& 1) * nI (cN _), nI (2 * 0 + bN _) >>> (1 &&& 31)) = _
        rw [p_top, p_pop _ (by omega), en, cN_nI (by omega), i32_1]
        cases (mAy T nm sz (pTk T sz (pCn T sz i s).2 32)).1
        · show (a2.1 - 0, _) = (a2.1 + 0, _); rw [Int32.sub_zero, Int32.add_zero]
        · show (a2.1 - nI n, _) = (a2.1 + -nI n, _); rw [Int32.sub_eq_add_neg]
theorem sem_Cs {T : Nat → Int32} {sz : Nat} (hT : ToK T sz) (nm : Nat → Int32) : ∀ (n : Nat) (r : jA × pS) (r2 : (Int32 × Int32) × pS), Qr (Ka nm) r r2 → Qr (Ka nm) (pCs T sz (jCl T sz) n r) (pCs T sz (mCl T nm sz) n r2) := by
  intro n
  induction n with
  | zero => intro r r2 h; exact h
  | succ n ih =>
    intro r r2 h
    unfold pCs
    rw [← h.1]
    cases q : pAt T sz r.2 59 with
    | false => exact h
    | true => exact ih _ _ (sem_Cl hT nm _ _ (h.2 (pAt_ok q)) _)
/-- a text's steps do what its reading says -/
theorem sem_Rd {T : Nat → Int32} {sz : Nat} (hT : ToK T sz) (nm : Nat → Int32) : Qr (Ka nm) (jRd T sz) (mRd T nm sz) :=
  sem_Cs hT nm 9 _ _ (sem_Cl hT nm ([], 5) (nm 4, 5) ⟨rfl, rfl⟩ (0, true))
