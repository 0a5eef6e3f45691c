/-! what is heard of one pot; fractions; the plan -/
def asR (S : xSem) (G : Nat → Int32) (i : Nat) : Nat → Bool
  | 0 => true
  | r + 1 => asR S G i r && (decide (¬ G (59 + 3 * r) = nI i) || decide (syB (Clr S i (pV G i) (cN (G (59 + 3 * r + 1)))) (cN (G (59 + 3 * r + 1))) (G 55) = said (G (59 + 3 * r + 2))))
def ftB (S : xSem) (G : Nat → Int32) (m i k : Nat) (j : Nat) : Int32 := iF (fun v b => b ||| (if asR S (upd G (9 * i + k) (nI v)) i m = true then one_ v else 0)) 0 j
theorem ftB_succ (S : xSem) (G : Nat → Int32) (m i k j : Nat) : ftB S G m i k (j + 1) = ftB S G m i k j ||| (if asR S (upd G (9 * i + k) (nI j)) i m = true then one_ j else 0) := rfl
def cnF (b : Int32) : Nat → Int32 × Int32
  | 0 => (0, -5)
  | j + 1 => ((cnF b j).1 + bit b (9 - j), if bit b (9 - j) = 1 then nI (9 - j) else (cnF b j).2)
def canV (S : xSem) (G : Nat → Int32) (m : Nat) (p w : Int32) : Int32 := if pOk (G 54) p ∧ rng w 0 1 then (if w = 0 then (cnF (ftB S G m (cN p) 1 10) 10).1 else (cnF (ftB S G m (cN p) 1 10) 10).2) else -1
def frV (x y : Nat) (pt : Int32) : Int64 := if pt = 0 then lN (x / Nat.gcd x y) else lN (y / Nat.gcd x y)
/-- sums of truths and of small numbers, as plain numbers -/
def nS (f : Nat → Nat) : Nat → Nat
  | 0 => 0
  | n + 1 => nS f n + f n
theorem iS_nS {g : Nat → Int32} {f : Nat → Nat} : ∀ n, (∀ i, i < n → g i = nI (f i)) → iS g n = nI (nS f n) := by
  intro n
  induction n with
  | zero => intro _; exact nI_0.symm
  | succ n ih => intro h; rw [iS, nS, ih (fun i hi => h i (by omega)), h n (by omega), nI_add]
theorem nS_le {f : Nat → Nat} {c : Nat} (h : ∀ i, f i ≤ c) : ∀ n, nS f n ≤ n * c := by
  intro n
  induction n with
  | zero => simp [nS]
  | succ n ih => rw [nS, Nat.succ_mul]; exact Nat.add_le_add ih (h n)
def bN (b : Bool) : Nat := bif b then 1 else 0
theorem bI_bN (b : Bool) : bI b = nI (bN b) := by cases b <;> rfl
def cntN (f : Nat → Bool) (n : Nat) : Nat := nS (fun w => bN (f w)) n
theorem cntF_N (f : Nat → Bool) (n : Nat) : cntF f n = nI (cntN f n) := iS_nS n (fun i _ => bI_bN (f i))
theorem cntN_le (f : Nat → Bool) (n : Nat) : cntN f n ≤ n := by have := nS_le (f := fun w => bN (f w)) (c := 1) (fun i => by cases f i <;> decide) n; simpa [cntN] using this
def bitN (w f : Nat) : Nat := cN (bit (nI w) f)
theorem bit_N (w f : Nat) : bit (nI w) f = nI (bitN w f) := by unfold bitN; rcases bit01 (nI w) f with h | h <;> rw [h] <;> rfl
theorem bitN_le (w f : Nat) : bitN w f ≤ 1 := by unfold bitN; rcases bit01 (nI w) f with h | h <;> rw [h] <;> decide
def somF (fit : Nat → Bool) (f n : Nat) : Int32 := iS (fun w => if fit w = true then bit (nI w) f else 0) n
def somN (fit : Nat → Bool) (f n : Nat) : Nat := nS (fun w => if fit w = true then bitN w f else 0) n
theorem somF_N (fit : Nat → Bool) (f n : Nat) : somF fit f n = nI (somN fit f n) := iS_nS n (fun i _ => by split <;> first | exact bit_N i f | exact nI_0.symm)
theorem somN_le (fit : Nat → Bool) (f n : Nat) : somN fit f n ≤ n := by have := nS_le (f := fun w => if fit w = true then bitN w f else 0) (c := 1) (fun i => by split <;> first | exact bitN_le i f | omega) n; simpa [somN] using this
def oddsV (fit : Nat → Bool) (f pt : Int32) : Int64 := if rng f 0 7 ∧ rng pt 0 1 then (if cntN fit 256 = 0 then -9223372036854775808 else frV (somN fit (cN f) 256) (cntN fit 256) pt) else -9223372036854775808
def meanV (S : xSem) (n : Nat) (G : Nat → Int32) (m pt : Int32) : Int64 := if (rng m 0 60 ∧ rng pt 0 1) ∧ ¬ n = 0 then frV (cN (iS (fun i => tkGs (kpS S) n G (cN m) (9 * i + 2)) n)) n pt else -9223372036854775808
/-- one row of the plan -/
def pl1 (kp : Int32) (n : Nat) (P : Nat → Int32) (r : Nat) (g : Nat → Int32) : Nat → Int32 :=
  if P (78 + 2 * r) = 0 then tkG kp n g else if P (78 + 2 * r) = 1 then opG g (cN (P (79 + 2 * r) / 10)) else if P (78 + 2 * r) = 2 then upd g (9 * cN (P (79 + 2 * r)) + 2) 0 else upd g 55 (g 55 ^^^ one_ (cN (P (79 + 2 * r))))
def plA (kp : Int32) (n : Nat) (P : Nat → Int32) (k : Nat) : Nat → Int32 := iF (fun r g => pl1 kp n P r g) P k
theorem plA_succ (kp : Int32) (n : Nat) (P : Nat → Int32) (k : Nat) : plA kp n P (k + 1) = pl1 kp n P k (plA kp n P k) := rfl
def PLo (n : Nat) (G : Nat → Int32) (b : Nat) : Prop := ∀ r, r < b → G (78 + 2 * r) = 0 ∨ (G (78 + 2 * r) = 1 ∧ ∃ p f, p < n ∧ f < 8 ∧ G (79 + 2 * r) = nI (10 * p + f)) ∨ (G (78 + 2 * r) = 2 ∧ ∃ p, p < n ∧ G (79 + 2 * r) = nI p) ∨ (G (78 + 2 * r) = 3 ∧ ∃ f, f < 8 ∧ G (79 + 2 * r) = nI f)
def endsV (S : xSem) (n : Nat) (G : Nat → Int32) (b : Nat) (w : Int32) : Int32 := if rng w 0 1 then (if w = 0 then iS (fun i => plA (kpS S) n G b (9 * i + 2)) n else iS (fun i => plA (kpS S) n G b (9 * i + 4)) n) else -1
def ofV (S : xSem) (G : Nat → Int32) (m : Nat) (p w : Int32) : Int32 := if pOk (G 54) p then (if rng w 0 4 then G (9 * cN p + cN w) else if w = 5 then ftB S G m (cN p) 2 10 else if rng (w - 10) 0 7 then Clr S (cN p) (pV G (cN p)) (cN (w - 10)) else if rng (w - 20) 0 7 then syB (Clr S (cN p) (pV G (cN p)) (cN (w - 20))) (cN (w - 20)) (G 55) else if rng (w - 30) 0 7 then whF S (cN p) (pV G (cN p)) (cN (w - 30)) 61 0 else -10001) else -10001
theorem opG_hi {g : Nat → Int32} {i c : Nat} (hi : i < 6) (hc : 54 ≤ c) : opG g i c = g c := by unfold opG; simp only [upd]; rw [if_neg (by omega), if_neg (by omega)]
/-- a row of the plan leaves the rest: but for THE WORLD and TERM -/
theorem pl1_hi {kp : Int32} {n b : Nat} {P g : Nat → Int32} {r c : Nat} (h6 : n ≤ 6) (hP : PLo n P b) (hr : r < b) (hc : 54 ≤ c) (h5 : c ≠ 55) (h56 : c ≠ 56) : pl1 kp n P r g c = g c := by
  unfold pl1
  rcases hP r hr with h | ⟨h, p, f, hp, hf, e⟩ | ⟨h, p, hp, e⟩ | ⟨h, f, hf, e⟩
  · rw [if_pos h]; exact tkG_hi h6 hc h56
  · rw [h, if_neg (by decide), if_pos rfl, e, show (10 : Int32) = nI 10 from rfl, pk_div (by omega) (by omega) (by omega), cN_nI (by omega)]; exact opG_hi (by omega) hc
  · rw [h, if_neg (by decide), if_neg (by decide), if_pos rfl, e, cN_nI (by omega)]; simp only [upd]; rw [if_neg (by omega)]
  · rw [h, if_neg (by decide), if_neg (by decide), if_neg (by decide)]; simp only [upd]; rw [if_neg h5]
theorem plA_hi {kp : Int32} {n b : Nat} {P : Nat → Int32} {c : Nat} (h6 : n ≤ 6) (hP : PLo n P b) (hc : 54 ≤ c) (h5 : c ≠ 55) (h56 : c ≠ 56) : ∀ k, k ≤ b → plA kp n P k c = P c := by
  intro k
  induction k with
  | zero => intro _; rfl
  | succ k ih => intro hk; rw [plA_succ, pl1_hi h6 hP (by omega) hc h5 h56, ih (by omega)]
theorem upd_self {f : Nat → Int32} {k : Nat} : upd f k (f k) = f := by funext j; unfold upd; split <;> simp_all
