/-! rows with a place that is a plain number -/
theorem xl (n : Nat) : (OfNat.ofNat n : Int32) = nI n := rfl
section XROWS
variable {k : xMD} {d pc : Nat} {lv : List (Option Value)} {st : List Value} {σ : xSt} {Post : Option Value → xSt → Prop} {c0 n j : Nat} {tg : List Nat} {x : Int32}
theorem xn_iaload (hd : decode k.2.1 pc = .ok (.iaload, 1)) (hc : c0 < 138) (hs : xsh c0 = .inl (0, n, tg)) (hx : x = nI j) (hj : j < n) (hn : n < 2 ^ 31) (h : xEv k d (pc + 1) lv (.int (σ.2.1 c0 j) :: st) σ Post) : xEv k d pc lv (.int x :: .ref c0 :: st) σ Post := by
  subst hx
  refine xe_iaload hd hc hs (vp_in_nI hj hn) ?_
  rw [nI_clamp (by omega)]; exact h
theorem xn_baload (hd : decode k.2.1 pc = .ok (.baload, 1)) (hc : c0 < 138) (hs : xsh c0 = .inl (1, n, tg)) (hx : x = nI j) (hj : j < n) (hn : n < 2 ^ 31) (h : xEv k d (pc + 1) lv (.int (σ.2.1 c0 j) :: st) σ Post) : xEv k d pc lv (.int x :: .ref c0 :: st) σ Post := by
  subst hx
  refine xe_baload hd hc hs (vp_in_nI hj hn) ?_
  rw [nI_clamp (by omega)]; exact h
theorem xn_zaload (hd : decode k.2.1 pc = .ok (.baload, 1)) (hc : c0 < 138) (hs : xsh c0 = .inl (4, n, tg)) (hx : x = nI j) (hj : j < n) (hn : n < 2 ^ 31) (h : xEv k d (pc + 1) lv (.int (σ.2.1 c0 j) :: st) σ Post) : xEv k d pc lv (.int x :: .ref c0 :: st) σ Post := by
  subst hx
  refine xe_zaload hd hc hs (vp_in_nI hj hn) ?_
  rw [nI_clamp (by omega)]; exact h
theorem xn_caload (hd : decode k.2.1 pc = .ok (.caload, 1)) (hc : c0 < 138) (hs : xsh c0 = .inl (2, n, tg)) (hx : x = nI j) (hj : j < n) (hn : n < 2 ^ 31) (h : xEv k d (pc + 1) lv (.int (σ.2.1 c0 j) :: st) σ Post) : xEv k d pc lv (.int x :: .ref c0 :: st) σ Post := by
  subst hx
  refine xe_caload hd hc hs (vp_in_nI hj hn) ?_
  rw [nI_clamp (by omega)]; exact h
theorem xn_laload (hd : decode k.2.1 pc = .ok (.laload, 1)) (hc : c0 < 138) (hs : xsh c0 = .inl (3, n, tg)) (hx : x = nI j) (hj : j < n) (hn : n < 2 ^ 31) (h : xEv k d (pc + 1) lv (.long (σ.2.2 c0 j) :: st) σ Post) : xEv k d pc lv (.int x :: .ref c0 :: st) σ Post := by
  subst hx
  refine xe_laload hd hc hs (vp_in_nI hj hn) ?_
  rw [nI_clamp (by omega)]; exact h
theorem xn_aaload {t tc : Nat} (hd : decode k.2.1 pc = .ok (.aaload, 1)) (hc : c0 < 138) (hs : xsh c0 = .inl (t, n, tg)) (ht : t = 5 ∨ t = 6 ∨ t = 7) (hx : x = nI j) (hj : j < n) (hn : n < 2 ^ 31) (hg : tg[j]? = some tc) (h : xEv k d (pc + 1) lv (.ref tc :: st) σ Post) : xEv k d pc lv (.int x :: .ref c0 :: st) σ Post := by
  subst hx
  exact xe_aaload hd hc hs ht (vp_in_nI hj hn) (by rw [nI_clamp (by omega)]; exact hg) h
theorem xn_iastore {v : Int32} (hd : decode k.2.1 pc = .ok (.iastore, 1)) (hc : c0 < 138) (hs : xsh c0 = .inl (0, n, tg)) (hx : x = nI j) (hj : j < n) (hn : n < 2 ^ 31) (h : xEv k d (pc + 1) lv st (xsA σ c0 (upd (σ.2.1 c0) j v)) Post) : xEv k d pc lv (.int v :: .int x :: .ref c0 :: st) σ Post := by
  subst hx
  refine xe_iastore hd hc hs (vp_in_nI hj hn) ?_
  rw [nI_clamp (by omega)]; exact h
theorem xn_bastore {v : Int32} (hd : decode k.2.1 pc = .ok (.bastore, 1)) (hc : c0 < 138) (hs : xsh c0 = .inl (1, n, tg)) (hx : x = nI j) (hj : j < n) (hn : n < 2 ^ 31) (h : xEv k d (pc + 1) lv st (xsA σ c0 (upd (σ.2.1 c0) j (vp_nar .byte v))) Post) : xEv k d pc lv (.int v :: .int x :: .ref c0 :: st) σ Post := by
  subst hx
  refine xe_bastore hd hc hs (vp_in_nI hj hn) ?_
  rw [nI_clamp (by omega)]; exact h
theorem xn_zastore {v : Int32} (hd : decode k.2.1 pc = .ok (.bastore, 1)) (hc : c0 < 138) (hs : xsh c0 = .inl (4, n, tg)) (hx : x = nI j) (hj : j < n) (hn : n < 2 ^ 31) (h : xEv k d (pc + 1) lv st (xsA σ c0 (upd (σ.2.1 c0) j (vp_nar .boolean v))) Post) : xEv k d pc lv (.int v :: .int x :: .ref c0 :: st) σ Post := by
  subst hx
  refine xe_zastore hd hc hs (vp_in_nI hj hn) ?_
  rw [nI_clamp (by omega)]; exact h
theorem xn_lastore {v : Int64} (hd : decode k.2.1 pc = .ok (.lastore, 1)) (hc : c0 < 138) (hs : xsh c0 = .inl (3, n, tg)) (hx : x = nI j) (hj : j < n) (hn : n < 2 ^ 31) (h : xEv k d (pc + 1) lv st (xsJ σ c0 (vp_updL (σ.2.2 c0) j v)) Post) : xEv k d pc lv (.long v :: .int x :: .ref c0 :: st) σ Post := by
  subst hx
  refine xe_lastore hd hc hs (vp_in_nI hj hn) ?_
  rw [nI_clamp (by omega)]; exact h
/-- a local counter goes on by one -/
theorem xn_inc {i : Nat} {lv2 : List (Option Value)} (hd : decode k.2.1 pc = .ok (.iinc i 1, 3)) (hn : i < k.2.2.1) (hg : lv[i]? = some (some (.int (nI j)))) (hl : xs1 lv i (.int (nI (j + 1))) = lv2) (h : xEv k d (pc + 3) lv2 st σ Post) : xEv k d pc lv st σ Post :=
  xe_iinc hd hn hg (nI_1 j) hl h
/-- switches: the cases one by one -/
theorem xn_tsw {dflt lo hi : Int} {offs : Array Int} {len td : Nat} {tgs : List Nat} (hd : decode k.2.1 pc = .ok (.tableswitch dflt lo hi offs, len)) (hl : offs.toList = tgs.map (fun t : Nat => (t : Int) - (pc : Int))) (hh : hi - lo + 1 = (tgs.length : Int)) (hdf : (pc : Int) + dflt = (td : Int))
    (h1 : ∀ (i t : Nat), tgs[i]? = some t → x.toInt = lo + (i : Int) → xEv k d t lv st σ Post) (h2 : (x.toInt < lo ∨ hi < x.toInt) → xEv k d td lv st σ Post) : xEv k d pc lv (.int x :: st) σ Post := by
  by_cases ho : x.toInt < lo ∨ hi < x.toInt
  · exact xe_tableOut hd ho hdf (h2 ho)
  · have ha : ¬ x.toInt < lo := fun z => ho (Or.inl z)
    have hb : ¬ hi < x.toInt := fun z => ho (Or.inr z)
    have hlt : (x.toInt - lo).toNat < tgs.length := by omega
    have hg : tgs[(x.toInt - lo).toNat]? = some (tgs[(x.toInt - lo).toNat]'hlt) := List.getElem?_eq_getElem hlt
    have ho2 : offs[(x.toInt - lo).toNat]? = some (((tgs[(x.toInt - lo).toNat]'hlt : Nat) : Int) - (pc : Int)) := by
      rw [← Array.getElem?_toList, hl, List.getElem?_map, hg]; rfl
    exact xe_tableIn (tgt := tgs[(x.toInt - lo).toNat]'hlt) hd ha hb ho2 (by omega) (h1 (x.toInt - lo).toNat _ hg (by omega))
end XROWS
