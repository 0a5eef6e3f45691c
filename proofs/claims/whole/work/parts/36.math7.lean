/-! on; cases -/
abbrev onOk (G : Nat → Int32) (w : Int32) : Prop := w = 0 ∨ pOk (G 54) (w - 10) ∨ pOk (G 54) (w - 20)
def onV (S : xSem) (n : Nat) (G : Nat → Int32) (m w : Int32) : Int32 := if onOk G w then (if rng m 0 60 then (if w = 0 then iS (fun i => tkGs (kpS S) n G (cN m) (9 * i + 2)) n else if w < 20 then tkGs (kpS S) n G (cN m) (9 * cN (w - 10) + 2) else syB (Clr S (cN (w - 20)) (pV (tkGs (kpS S) n G (cN m)) (cN (w - 20))) 0) 0 (G 55)) else -2) else -10001
def one_ (f : Nat) : Int32 := 1 <<< (nI f &&& 31)
def tlB (S : xSem) (G : Nat → Int32) (i k : Nat) : Int32 := iF (fun f b => b ||| (if syB (Clr S i (pV G i) f) f (G 55) = -5 then 0 else one_ f)) 0 k
def tdB (tell : Nat → Int32) (set k : Nat) : Int32 := iF (fun i b => b ||| (if bit (nI set) i = 1 then tell i else 0)) 0 k
def enS (tell : Nat → Int32) (n : Nat) (F : Int32) (set : Nat) (best : Int32) : Int32 := if F &&& (tdB tell set n ^^^ (-1)) = 0 ∧ (best = -5 ∨ mMany (nI set) < mMany best) then nI set else best
def enF (tell : Nat → Int32) (n : Nat) (F : Int32) (k : Nat) : Int32 := iF (fun set b => enS tell n F set b) (-5) k
def owF (tell : Nat → Int32) (n : Nat) : Nat → Int32 → Int32
  | 0, _ => 0
  | r + 1, F => iF (fun f m => if F &&& tell (n - (r + 1)) &&& one_ f = 0 then m else mxI m (1 + owF tell n r (F &&& (one_ f ^^^ (-1))))) (owF tell n r F) 8
def casesV (S : xSem) (G : Nat → Int32) (n : Nat) (F w : Int32) : Int32 := if rng w 0 1 then (if rng F 0 255 then (if w = 0 then enF (fun i => tlB S G i 8) n F (2 ^ n) else owF (fun i => tlB S G i 8) n n F) else -2) else -1
theorem pow_n : ∀ n, n ≤ 6 → (1 : Int32) <<< (nI n &&& 31) = nI (2 ^ n) := by decide
theorem pow_le : ∀ n, n ≤ 6 → 2 ^ n ≤ 64 := by decide
theorem tlB_succ (S : xSem) (G : Nat → Int32) (i k : Nat) : tlB S G i (k + 1) = tlB S G i k ||| (if syB (Clr S i (pV G i) k) k (G 55) = -5 then 0 else one_ k) := rfl
theorem tdB_succ (tell : Nat → Int32) (set k : Nat) : tdB tell set (k + 1) = tdB tell set k ||| (if bit (nI set) k = 1 then tell k else 0) := rfl
theorem enF_succ (tell : Nat → Int32) (n : Nat) (F : Int32) (k : Nat) : enF tell n F (k + 1) = enS tell n F k (enF tell n F k) := rfl
/-- the row of what is in mind may be anything -/
theorem MCo.mind {σ : xSt} {g : Nat → Int32} (h : MCo σ) : MCo (xsA σ 117 g) := by unfold MCo; rw [xsA_ne (by decide), xsA_ne (by decide), xsA_ne (by decide), xsA_ne (by decide), xsA_ne (by decide)]; exact h
theorem RUo.mind {σ : xSt} {g : Nat → Int32} (h : RUo σ) : RUo (xsA σ 117 g) := by unfold RUo; rw [xsA_ne (by decide), xsA_ne (by decide)]; exact h
theorem mSem_mind {σ : xSt} {g : Nat → Int32} : mSem (xsA σ 117 g) = mSem σ := by unfold mSem rdT; rw [xsA_ne (by decide), xsA_ne (by decide), xsA_ne (by decide)]
theorem sub_nat {n c : Nat} {w : Int32} (hn : n ≤ 6) (hc : c ≤ 100) (h : pOk (nI n) (w - nI c)) : ∃ i, i < n ∧ w - nI c = nI i ∧ w = nI (c + i) := by
  obtain ⟨i, hi, e⟩ := pOk_nat (by omega) h
  refine ⟨i, hi, e, ?_⟩
  rw [← nI_add, ← e, Int32.add_comm, Int32.sub_add_cancel]
