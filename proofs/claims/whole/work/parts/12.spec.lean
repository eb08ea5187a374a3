/-! ===== what each call answers, and the state behind it ===== -/
def sp_decree (S : St) (kind fr v : Int32) : Int64 × St := if ¬ inR kind 0 5 then sNo S 1 else if ¬ inR fr 0 1199 then sNo S 1 else if ¬ isVal kind v then sNo S 1 else if S.1 2 = 60 then sNo S 4 else ((S.1 2 + 1).toInt64, uI (uA (uA (uA (uA S 3 (upd (S.2.2.1 3) (nOf S 2) kind)) 4 (upd (S.2.2.1 4) (nOf S 2) fr)) 5 (upd (S.2.2.1 5) (nOf S 2) v)) 6 (upd (S.2.2.1 6) (nOf S 2) (S.1 0))) 2 (S.1 2 + 1))
def sp_force (S : St) (kind month known : Int32) : Int64 × St := if ¬ inR kind 0 5 then sNo S 1 else if ¬ inR month 0 1199 then sNo S 1 else if ¬ inR known 0 1199 then sNo S 1 else ((sInf S kind month known).toInt64, S)
def sp_rate (S : St) (y v : Int32) : Int64 × St := if ¬ inR y 1 20 then sNo S 1 else if ¬ inR v 100 1000 then sNo S 1 else ((S.2.2.1 7 y.toNatClampNeg).toInt64, uA S 7 (upd (S.2.2.1 7) y.toNatClampNeg v))
def sp_child (S : St) (mo : Int32) : Int64 × St := if ¬ inR mo 0 (S.1 0) then sNo S 1 else if S.1 8 = 30 then sNo S 4 else ((S.1 8 + 1 - 1).toInt64, uI (uA S 9 (upd (S.2.2.1 9) (nOf S 8) mo)) 8 (S.1 8 + 1))
def sp_fateT (S : St) (c f mo : Int32) : Int64 × St := if S.1 10 = 90 then sNo S 4 else ((S.1 10 + 1).toInt64, uI (uA (uA (uA (uA S 11 (upd (S.2.2.1 11) (nOf S 10) c)) 12 (upd (S.2.2.1 12) (nOf S 10) f)) 13 (upd (S.2.2.1 13) (nOf S 10) mo)) 14 (upd (S.2.2.1 14) (nOf S 10) (S.1 0))) 10 (S.1 10 + 1))
def sp_fate (S : St) (c f mo : Int32) : Int64 × St := if ¬ isC S c then sNo S 1 else if ¬ inR f 0 3 then sNo S 1 else if f < 3 then (if ¬ inR mo (S.2.2.1 9 c.toNatClampNeg) 1199 then sNo S 1 else sp_fateT S c f mo) else sp_fateT S c f mo
def sp_told (S : St) (c k mb : Int32) : Int64 × St := if ¬ isC S c then sNo S 1 else if ¬ inR k 0 1199 then sNo S 1 else match sFate S c k with
  | none => sNo S 2
  | some f => if mb = 0 then ((S.2.2.1 12 f).toInt64, S) else ((S.2.2.1 13 f).toInt64, S)
/-- the rate's year of a term -/
def sYear (term : Int32) : Int32 := if term / 12 ≤ 20 then term / 12 else 20
def sp_dep5 (S : St) (kind c o sum h : Int32) (d : Nat) (term : Int32) : St := uI (uA (uA (uA (uA (uB (uA (uA (uB (uA (uA (uA (uA S 16 (upd (S.2.2.1 16) d kind)) 17 (upd (S.2.2.1 17) d c)) 18 (upd (S.2.2.1 18) d (if kind = 1 then o else -1))) 19 (upd (S.2.2.1 19) d sum)) 20 (vp_updL (S.2.2.2 20) d (sum.toInt64 * (S.2.2.1 7 (sYear term).toNatClampNeg).toInt64 / 100))) 21 (upd (S.2.2.1 21) d (S.1 0 + term))) 22 (upd (S.2.2.1 22) d (S.1 0))) 23 (vp_updL (S.2.2.2 23) d 0)) 24 (upd (S.2.2.1 24) d 0)) 25 (upd (S.2.2.1 25) d 1)) 26 (upd (S.2.2.1 26) (7 * d) (S.1 0))) 27 (upd (S.2.2.1 27) (7 * d) h)) 15 (S.1 15 + 1)
def sp_dep4 (S : St) (kind c o sum h : Int32) : Int64 × St := if S.1 15 = 30 then sNo S 4 else ((S.1 15).toInt64, sp_dep5 S kind c o sum h (nOf S 15) (sInf S 5 (S.1 0) (S.1 0)))
def sp_dep3 (S : St) (kind c o sum h : Int32) : Int64 × St := match sFate S c (S.1 0) with
  | some _ => sNo S 3
  | none => if kind = 1 then (match sFate S o (S.1 0) with
    | some _ => sNo S 3
    | none => sp_dep4 S kind c o sum h) else sp_dep4 S kind c o sum h
def sp_dep2 (S : St) (kind c o sum h : Int32) : Int64 × St := if ¬ inR h 0 9 then sNo S 1 else if ¬ inR sum 1 10000 then sNo S 1 else if kind = 1 then (if c = o then sNo S 5 else sp_dep3 S kind c o sum h) else sp_dep3 S kind c o sum h
def sp_deposit (S : St) (kind c o sum h : Int32) : Int64 × St := if ¬ inR kind 0 2 then sNo S 1 else if ¬ isC S c then sNo S 1 else if kind = 1 then (if ¬ isC S o then sNo S 1 else sp_dep2 S kind c o sum h) else sp_dep2 S kind c o sum h
def sp_about (S : St) (d w : Int32) : Int64 × St := if ¬ isD S d then sNo S 1 else if ¬ inR w 0 8 then sNo S 1 else if w = 0 then ((S.2.2.1 16 d.toNatClampNeg).toInt64, S) else if w = 1 then ((S.2.2.1 17 d.toNatClampNeg).toInt64, S) else if w = 2 then (if S.2.2.1 16 d.toNatClampNeg = 1 then ((S.2.2.1 18 d.toNatClampNeg).toInt64, S) else sNo S 2) else if w = 3 then ((S.2.2.1 19 d.toNatClampNeg).toInt64, S) else if w = 4 then (S.2.2.2 20 d.toNatClampNeg, S) else if w = 5 then ((S.2.2.1 21 d.toNatClampNeg).toInt64, S) else if w = 6 then ((S.2.2.1 22 d.toNatClampNeg).toInt64, S) else if w = 7 then (S.2.2.2 23 d.toNatClampNeg, S) else if S.2.2.1 24 d.toNatClampNeg = 0 then (0, S) else (1, S)
def sp_as (S : St) (d k : Int32) : Int64 × St := if ¬ isD S d then sNo S 1 else if ¬ inR k 0 2 then sNo S 1 else if k = 0 then ((S.2.2.1 19 d.toNatClampNeg).toInt64, S) else if S.2.2.1 16 d.toNatClampNeg = k then ((S.2.2.1 19 d.toNatClampNeg).toInt64, S) else sNo S 5
/-- the place of deposit d's latest sale -/
def sLast (S : St) (d : Nat) : Nat := 7 * d + ((S.2.2.1 25 d).toNatClampNeg - 1)
def sp_sell (S : St) (d h : Int32) : Int64 × St := if ¬ isD S d then sNo S 1 else if ¬ inR h 0 9 then sNo S 1 else if S.2.2.1 24 d.toNatClampNeg = 0 then (if sHold S d.toNatClampNeg (S.1 0) = h then sNo S 5 else if S.2.2.1 26 (sLast S d.toNatClampNeg) = S.1 0 then ((sHold S d.toNatClampNeg (S.1 0)).toInt64, uA (uA S 26 (upd (S.2.2.1 26) (sLast S d.toNatClampNeg) (S.1 0))) 27 (upd (S.2.2.1 27) (sLast S d.toNatClampNeg) h)) else if S.2.2.1 25 d.toNatClampNeg = 7 then sNo S 4 else ((sHold S d.toNatClampNeg (S.1 0)).toInt64, uA (uA (uA S 25 (upd (S.2.2.1 25) d.toNatClampNeg (S.2.2.1 25 d.toNatClampNeg + 1))) 26 (upd (S.2.2.1 26) (sLast S d.toNatClampNeg + 1) (S.1 0))) 27 (upd (S.2.2.1 27) (sLast S d.toNatClampNeg + 1) h))) else sNo S 3
def sp_holder (S : St) (d m : Int32) : Int64 × St := if ¬ isD S d then sNo S 1 else if ¬ inR m 0 1199 then sNo S 1 else if 0 ≤ sHold S d.toNatClampNeg m then ((sHold S d.toNatClampNeg m).toInt64, S) else sNo S 2
def sp_due (S : St) (d k w : Int32) : Int64 × St := if ¬ isD S d then sNo S 1 else if ¬ inR k 0 1199 then sNo S 1 else if ¬ inR w 0 3 then sNo S 1 else match sFall S d.toNatClampNeg k with
  | none => sNo S 2
  | some f => if w = 0 then ((S.2.2.1 13 f).toInt64, S) else if w = 1 then ((sDueM S f k).toInt64, S) else if w = 2 then (sDue S d.toNatClampNeg f k, S) else ((S.2.2.1 12 f).toInt64, S)
/-- what the first deposits that are due in month m are due -/
def forL (S : St) (m : Int32) : Nat → Int64
  | 0 => 0
  | k + 1 => match sFall S k m with
    | none => forL S m k
    | some f => if sDueM S f m = m then forL S m k + sDue S k f m else forL S m k
def sp_foretold (S : St) (m : Int32) : Int64 × St := if ¬ inR m 0 1199 then sNo S 1 else (forL S m (nOf S 15), S)
def sp_income (S : St) (v : Int32) : Int64 × St := if ¬ inR v 0 1000000 then sNo S 1 else if S.2.1 28 + v.toInt64 ≤ 1000000000 then (S.2.1 28 + v.toInt64, uJ (uJ S 28 (S.2.1 28 + v.toInt64)) 29 (S.2.1 29 + v.toInt64)) else sNo S 4
def sp_purse (S : St) (w : Int32) : Int64 × St := if w = 0 then (S.2.1 28, S) else if w = 1 then (S.2.1 29, S) else if w = 2 then (S.2.1 30, S) else if w = 3 then (S.2.1 31, S) else if w = 4 then ((S.1 32).toInt64, S) else if w = 5 then ((outL S (nOf S 15)).toInt64, S) else sNo S 1
def sp_paid (S : St) (h : Int32) : Int64 × St := if ¬ inR h 0 9 then sNo S 1 else (S.2.2.2 33 h.toNatClampNeg, S)
def sp_lives (S : St) (a x y z : Int32) : Int64 × St := if ¬ inR a 0 20 then sNo S 1 else if ¬ inR x 0 1000 then sNo S 1 else if ¬ inR y 0 1000 then sNo S 1 else if ¬ inR z 0 1000 then sNo S 1 else if x + y + z ≤ 1000 then ((1000 - x - y - z).toInt64, uA (uA (uA S 34 (upd (S.2.2.1 34) a.toNatClampNeg x)) 35 (upd (S.2.2.1 35) a.toNatClampNeg y)) 36 (upd (S.2.2.1 36) a.toNatClampNeg z)) else sNo S 1
def sLv (S : St) (a b : Int32) : Int64 × Int64 := liveL S a.toNatClampNeg (b.toNatClampNeg - a.toNatClampNeg)
def sp_value (S : St) (a b d : Int32) : Int64 × St := if ¬ (inR a 0 20 ∧ inR b a 21) then sNo S 1 else if ¬ inR d 0 100000 then sNo S 1 else (d.toInt64 * (sLv S a b).2 / 1000000, uJ (uJ S 41 (sLv S a b).1) 42 (sLv S a b).2)
def sp_left (S : St) (a b : Int32) : Int64 × St := if ¬ (inR a 0 20 ∧ inR b a 21) then sNo S 1 else ((sLv S a b).1, uJ (uJ S 41 (sLv S a b).1) 42 (sLv S a b).2)
def sp_tell (S : St) (v : Int32) : Int64 × St := if S.1 37 = 30 then sNo S 4 else ((S.1 37 + 1).toInt64, uI (uA S 38 (upd (S.2.2.1 38) (nOf S 37) v)) 37 (S.1 37 + 1))
/-- what deposit k is due now -/
def sNow (S : St) (k : Nat) : Int64 := match sFall S k (S.1 0) with
  | none => 0
  | some f => sDue S k f (S.1 0)
def chkL (S : St) (many : Int32) : Nat → Nat → Int64
  | 0, _ => if many ≤ S.1 15 then 0 else 99
  | n + 1, k => if many ≤ nI k then (1 + nI k).toInt64 else if (S.2.2.1 38 k).toInt64 = sNow S k then chkL S many n (k + 1) else (1 + nI k).toInt64
def sp_check (S : St) : Int64 × St := (chkL S (S.1 37) (nOf S 15) 0, uI S 37 0)
def sp_count (S : St) (w : Int32) : Int64 × St := if w = 0 then ((S.1 0).toInt64, S) else if w = 1 then ((S.1 2).toInt64, S) else if w = 2 then ((S.1 8).toInt64, S) else if w = 3 then ((S.1 10).toInt64, S) else if w = 4 then ((S.1 15).toInt64, S) else if w = 5 then ((S.1 37).toInt64, S) else sNo S 1
def sp_found (S : St) (k : Int32) : Int64 × St := if ¬ inR k 1 5 then sNo S 1 else ((S.2.2.1 1 k.toNatClampNeg).toInt64, S)
/-! rows for indices -/
theorem isD_nat {S : St} {d : Int32} (h : isD S d) : ∃ d9 : Nat, d9 < nOf S 15 ∧ d = nI d9 := by
  have h1 := cl_eq h.1
  refine ⟨d.toNatClampNeg, ?_, h1⟩
  have h2 := h.2
  have h3 := h.1
  have h4 := cl_int h.1
  have h5 : 0 ≤ S.1 15 := by simp only [i3l, i3e, zi_0] at h2 h3 ⊢; omega
  have h6 := cl_int h5
  simp only [i3l] at h2
  rw [nOf]
  omega
theorem vp_ne {x M : Int32} {n : Nat} (h : 0 ≤ x ∧ x ≤ M) (h2 : ¬ x = M) (hM : M.toInt = (n : Int)) : vp_in x n := by
  obtain ⟨h0, h1⟩ := h
  simp only [i3e, i3q, zi_0] at h0 h1 h2
  exact vp_in_iff.mpr ⟨h0, by omega⟩
theorem vp_cnt {x y M : Int32} {n : Nat} (h : 0 ≤ x ∧ x < y) (h2 : y ≤ M) (hM : M.toInt ≤ (n : Int)) : vp_in x n := by
  obtain ⟨h0, h1⟩ := h
  simp only [i3e, i3l, zi_0] at h0 h1 h2
  exact vp_in_iff.mpr ⟨h0, by omega⟩
theorem vp_rng {x a M : Int32} {n : Nat} (h : inR x a M) (ha : 0 ≤ a) (hM : M.toInt < (n : Int)) : vp_in x n := by
  obtain ⟨h0, h1⟩ := h
  simp only [i3e, zi_0] at h0 h1 ha
  exact vp_in_iff.mpr ⟨by omega, by omega⟩
theorem inR_nat {x a b : Int32} (h : inR x a b) (ha : 0 ≤ a) : x = nI x.toNatClampNeg ∧ (x.toNatClampNeg : Int) = x.toInt ∧ a.toInt ≤ x.toInt ∧ x.toInt ≤ b.toInt := by
  have h0 : 0 ≤ x := by obtain ⟨h1, h2⟩ := h; simp only [i3e] at h1 h2 ha ⊢; omega
  exact ⟨cl_eq h0, cl_int h0, (i3e _ _).mp h.1, (i3e _ _).mp h.2⟩
theorem sw_ne {x : Int32} {n : Int} (h : x.toInt < 0 ∨ n < x.toInt) {y : Int32} (hy : 0 ≤ y.toInt ∧ y.toInt ≤ n) : ¬ x = y := by
  intro e
  subst e
  omega
