/-! how clear a pot is, what it says, how terms go -/
def clrF (a : Nat → Int32) (sm : Int32) (f : Nat) : Int32 :=
  if a 0 = 1 then sm + a 1 else if a 0 = 2 then sm / 2 else if a 0 = 3 then sm - 2 * a 4 else if a 0 = 4 then (if a 3 < a 1 then 0 else sm + a 1) else if a 0 = 5 then sm / 2 - (if f % 2 = 1 then 6 else 0) else if a 0 = 6 then sm - 2 * a 4 + a (5 + f % 4) - 4 else sm
/-- the numbers of pot i in the row G -/
abbrev pV (G : Nat → Int32) (i : Nat) : Nat → Int32 := fun k => G (9 * i + k)
def Clr (S : xSem) (i : Nat) (a : Nat → Int32) (f : Nat) : Int32 := clrF a (S (nmO i a (nI f))).1 f
def bit (w : Int32) (f : Nat) : Int32 := w >>> (nI f &&& 31) &&& 1
def syB (c : Int32) (f : Nat) (w : Int32) : Int32 := if 4 ≤ c then bit w f else if c < 0 then 1 - bit w f else -5
/-- a term for a pot's numbers -/
def tkP (kp : Int32) (a : Nat → Int32) : Nat → Int32 := upd (upd a 3 (a 3 + 1)) 2 (mnI 9 (a 2 + (if 0 < kp ∧ a 3 + 1 - (a 3 + 1) / kp * kp = 0 then 1 else 0)))
/-- a term for the first n pots -/
def tkN (kp : Int32) (G : Nat → Int32) (n : Nat) : Nat → Int32 := iF (fun i g => upd (upd g (9 * i + 3) (g (9 * i + 3) + 1)) (9 * i + 2) (mnI 9 (g (9 * i + 2) + (if 0 < kp ∧ g (9 * i + 3) + 1 - (g (9 * i + 3) + 1) / kp * kp = 0 then 1 else 0)))) G n
def tkG (kp : Int32) (n : Nat) (G : Nat → Int32) : Nat → Int32 := upd (tkN kp G n) 56 (G 56 + 1)
def tkGs (kp : Int32) (n : Nat) (G : Nat → Int32) : Nat → (Nat → Int32)
  | 0 => G
  | m + 1 => tkG kp n (tkGs kp n G m)
theorem tkN_in {kp : Int32} {G : Nat → Int32} : ∀ (n i k : Nat), k < 9 → i < n → tkN kp G n (9 * i + k) = tkP kp (pV G i) k := by
  have out : ∀ (n c : Nat), 9 * n ≤ c → tkN kp G n c = G c := by
    intro n
    induction n with
    | zero => intro c _; rfl
    | succ n ih =>
      intro c hc
      unfold tkN iF
      simp only [upd]
      rw [if_neg (by omega), if_neg (by omega)]
      exact ih c (by omega)
  intro n
  induction n with
  | zero => intro i k hk hi; omega
  | succ n ih =>
    intro i k hk hi
    by_cases h : i = n
    · subst h
      have e : ∀ c, 9 * i ≤ c → iF (fun i g => upd (upd g (9 * i + 3) (g (9 * i + 3) + 1)) (9 * i + 2) (mnI 9 (g (9 * i + 2) + (if 0 < kp ∧ g (9 * i + 3) + 1 - (g (9 * i + 3) + 1) / kp * kp = 0 then 1 else 0)))) G i c = G c := fun c hc => out i c hc
      unfold tkN iF
      rw [e (9 * i + 3) (by omega), e (9 * i + 2) (by omega)]
      unfold tkP
      simp only [upd, pV]
      by_cases h2 : k = 2
      · subst h2; simp
      · by_cases h3 : k = 3
        · subst h3; simp
        · rw [if_neg (by omega), if_neg (by omega), if_neg h2, if_neg h3]
          exact e _ (by omega)
    · rw [← ih i k hk (by omega)]
      show iF _ G (n + 1) _ = iF _ G n _
      rw [iF]
      simp only [upd]
      rw [if_neg (by omega), if_neg (by omega)]
theorem tkN_out {kp : Int32} {G : Nat → Int32} : ∀ (n c : Nat), 9 * n ≤ c → tkN kp G n c = G c := by
  intro n
  induction n with
  | zero => intro c _; rfl
  | succ n ih =>
    intro c hc
    unfold tkN iF
    simp only [upd]
    rw [if_neg (by omega), if_neg (by omega)]
    exact ih c (by omega)
