/-! ===== small rows: comparisons of longs, answers that may be null, switches, ranges ===== -/
section GLEM
variable {p : Program} {l : Launch} {e : Env} {R : Room} {s : State} {m : MethodId} {args : Array Value} {below : List Frame} {meth : Method} {c : Code} {H : Heap} {locs : List Loc} {cells slots : Nat} {Q : State → Prop}
variable {cc : ByteArray} {pc : Nat} {ls : Array Slot} {rest : List Value}
theorem gl_eq (hx : p.tables.exec = Jvm.exec) (hb : c.code = cc) {x y : Int64} {off : Int} {tgt : Nat} (h1 : decode cc pc = .ok (.lcmp, 1)) (h2 : decode cc (pc + 1) = .ok (.ifCond .eq off, 3)) (ht : ((pc + 1 : Nat) : Int) + off = (tgt : Int)) (kt : x = y → W p l e R s m args below meth c H locs cells slots Q (F0 m tgt ls rest)) (kf : ¬ x = y → W p l e R s m args below meth c H locs cells slots Q (F0 m (pc + 1 + 3) ls rest)) : W p l e R s m args below meth c H locs cells slots Q (F0 m pc ls (.long y :: .long x :: rest)) :=
  W.lcmp hx hb h1 (lv_if_eq hx hb h2 ht (fun h => kt ((lg_cmp_eq x y).mp h)) (fun h => kf (fun q => h ((lg_cmp_eq x y).mpr q))))
theorem gl_ne (hx : p.tables.exec = Jvm.exec) (hb : c.code = cc) {x y : Int64} {off : Int} {tgt : Nat} (h1 : decode cc pc = .ok (.lcmp, 1)) (h2 : decode cc (pc + 1) = .ok (.ifCond .ne off, 3)) (ht : ((pc + 1 : Nat) : Int) + off = (tgt : Int)) (kt : ¬ x = y → W p l e R s m args below meth c H locs cells slots Q (F0 m tgt ls rest)) (kf : x = y → W p l e R s m args below meth c H locs cells slots Q (F0 m (pc + 1 + 3) ls rest)) : W p l e R s m args below meth c H locs cells slots Q (F0 m pc ls (.long y :: .long x :: rest)) :=
  W.lcmp hx hb h1 (lv_if_ne hx hb h2 ht (fun h => kt (fun q => h ((lg_cmp_eq x y).mpr q))) (fun h => kf ((lg_cmp_eq x y).mp h)))
theorem gl_lt (hx : p.tables.exec = Jvm.exec) (hb : c.code = cc) {x y : Int64} {off : Int} {tgt : Nat} (h1 : decode cc pc = .ok (.lcmp, 1)) (h2 : decode cc (pc + 1) = .ok (.ifCond .lt off, 3)) (ht : ((pc + 1 : Nat) : Int) + off = (tgt : Int)) (kt : x < y → W p l e R s m args below meth c H locs cells slots Q (F0 m tgt ls rest)) (kf : ¬ x < y → W p l e R s m args below meth c H locs cells slots Q (F0 m (pc + 1 + 3) ls rest)) : W p l e R s m args below meth c H locs cells slots Q (F0 m pc ls (.long y :: .long x :: rest)) :=
  W.lcmp hx hb h1 (lv_if_lt hx hb h2 ht (fun h => kt ((lg_cmp_lt x y).mp h)) (fun h => kf (fun q => h ((lg_cmp_lt x y).mpr q))))
theorem gl_ge (hx : p.tables.exec = Jvm.exec) (hb : c.code = cc) {x y : Int64} {off : Int} {tgt : Nat} (h1 : decode cc pc = .ok (.lcmp, 1)) (h2 : decode cc (pc + 1) = .ok (.ifCond .ge off, 3)) (ht : ((pc + 1 : Nat) : Int) + off = (tgt : Int)) (kt : y ≤ x → W p l e R s m args below meth c H locs cells slots Q (F0 m tgt ls rest)) (kf : ¬ y ≤ x → W p l e R s m args below meth c H locs cells slots Q (F0 m (pc + 1 + 3) ls rest)) : W p l e R s m args below meth c H locs cells slots Q (F0 m pc ls (.long y :: .long x :: rest)) :=
  W.lcmp hx hb h1 (lv_if_ge hx hb h2 ht (fun h => kt ((lg_cmp_ge x y).mp h)) (fun h => kf (fun q => h ((lg_cmp_ge x y).mpr q))))
theorem gl_gt (hx : p.tables.exec = Jvm.exec) (hb : c.code = cc) {x y : Int64} {off : Int} {tgt : Nat} (h1 : decode cc pc = .ok (.lcmp, 1)) (h2 : decode cc (pc + 1) = .ok (.ifCond .gt off, 3)) (ht : ((pc + 1 : Nat) : Int) + off = (tgt : Int)) (kt : y < x → W p l e R s m args below meth c H locs cells slots Q (F0 m tgt ls rest)) (kf : ¬ y < x → W p l e R s m args below meth c H locs cells slots Q (F0 m (pc + 1 + 3) ls rest)) : W p l e R s m args below meth c H locs cells slots Q (F0 m pc ls (.long y :: .long x :: rest)) :=
  W.lcmp hx hb h1 (lv_if_gt hx hb h2 ht (fun h => kt ((lg_cmp_gt x y).mp h)) (fun h => kf (fun q => h ((lg_cmp_gt x y).mpr q))))
theorem gl_le (hx : p.tables.exec = Jvm.exec) (hb : c.code = cc) {x y : Int64} {off : Int} {tgt : Nat} (h1 : decode cc pc = .ok (.lcmp, 1)) (h2 : decode cc (pc + 1) = .ok (.ifCond .le off, 3)) (ht : ((pc + 1 : Nat) : Int) + off = (tgt : Int)) (kt : x ≤ y → W p l e R s m args below meth c H locs cells slots Q (F0 m tgt ls rest)) (kf : ¬ x ≤ y → W p l e R s m args below meth c H locs cells slots Q (F0 m (pc + 1 + 3) ls rest)) : W p l e R s m args below meth c H locs cells slots Q (F0 m pc ls (.long y :: .long x :: rest)) :=
  W.lcmp hx hb h1 (lv_if_le hx hb h2 ht (fun h => kt ((lg_cmp_le x y).mp h)) (fun h => kf (fun q => h ((lg_cmp_le x y).mpr q))))
theorem gc_f {P : Prop} [Decidable P] {k : Nat} {a : Array Value} {st0 : List Value} (hr : va_Run p l e R s m args below meth c H locs cells slots 0 0 (F0 m pc ls st0) rest (va_Sq (fun r => r = if P then some k else none) a) (fun _ => False)) (kt : P → W p l e R s m args below meth c H locs cells slots Q (F0 m (pc + 3) ls (.ref k :: rest))) (kf : ¬ P → W p l e R s m args below meth c H locs cells slots Q (F0 m (pc + 3) ls (.null :: rest))) : W p l e R s m args below meth c H locs cells slots Q (F0 m pc ls st0) := by
  refine gc_q hr (fun r h => ?_)
  by_cases hP : P
  · rw [if_pos hP] at h; subst h; exact kt hP
  · rw [if_neg hP] at h; subst h; exact kf hP
end GLEM
theorem i3l (a b : Int32) : a < b ↔ a.toInt < b.toInt := Int32.lt_iff_toInt_lt
theorem i3e (a b : Int32) : a ≤ b ↔ a.toInt ≤ b.toInt := Int32.le_iff_toInt_le
theorem i3q (a b : Int32) : a = b ↔ a.toInt = b.toInt := Int32.toInt_inj.symm
theorem i6l (a b : Int64) : a < b ↔ a.toInt < b.toInt := Int64.lt_iff_toInt_lt
theorem i6e (a b : Int64) : a ≤ b ↔ a.toInt ≤ b.toInt := Int64.le_iff_toInt_le
theorem i6q (a b : Int64) : a = b ↔ a.toInt = b.toInt := Int64.toInt_inj.symm
theorem vp_le {x M : Int32} {n : Nat} (h0 : 0 ≤ x) (h1 : x ≤ M) (hM : M.toInt < (n : Int)) : vp_in x n := by
  rw [i3e] at h0 h1
  exact vp_in_iff.mpr ⟨h0, by omega⟩
theorem vp_lt {x M : Int32} {n : Nat} (h0 : 0 ≤ x) (h1 : x < M) (hM : M.toInt ≤ (n : Int)) : vp_in x n := by
  rw [i3e] at h0
  rw [i3l] at h1
  exact vp_in_iff.mpr ⟨h0, by omega⟩
theorem sw_n (x : Int32) (n : Nat) (hn : n < 2 ^ 31) : (∃ j, j ≤ n ∧ x = nI j) ∨ (x.toInt < 0 ∨ (n : Int) < x.toInt) := by
  by_cases h0 : x < 0
  · exact Or.inr (Or.inl ((i3l x 0).mp h0))
  · obtain ⟨j, h1, rfl⟩ := nI_of h0
    by_cases h2 : j ≤ n
    · exact Or.inl ⟨j, h2, rfl⟩
    · right; right; rw [nI_toInt h1]; omega
theorem sw_7 (x : Int32) : x = 0 ∨ x = 1 ∨ x = 2 ∨ x = 3 ∨ x = 4 ∨ x = 5 ∨ x = 6 ∨ x = 7 ∨ (x.toInt < 0 ∨ 7 < x.toInt) := by
  rcases sw_n x 7 (by decide) with ⟨j, hj, rfl⟩ | h
  · rcases (show j = 0 ∨ j = 1 ∨ j = 2 ∨ j = 3 ∨ j = 4 ∨ j = 5 ∨ j = 6 ∨ j = 7 by omega) with rfl | rfl | rfl | rfl | rfl | rfl | rfl | rfl <;> decide
  · exact Or.inr (Or.inr (Or.inr (Or.inr (Or.inr (Or.inr (Or.inr (Or.inr h)))))))
theorem sw_5 (x : Int32) : x = 0 ∨ x = 1 ∨ x = 2 ∨ x = 3 ∨ x = 4 ∨ x = 5 ∨ (x.toInt < 0 ∨ 5 < x.toInt) := by
  rcases sw_n x 5 (by decide) with ⟨j, hj, rfl⟩ | h
  · rcases (show j = 0 ∨ j = 1 ∨ j = 2 ∨ j = 3 ∨ j = 4 ∨ j = 5 by omega) with rfl | rfl | rfl | rfl | rfl | rfl <;> decide
  · exact Or.inr (Or.inr (Or.inr (Or.inr (Or.inr (Or.inr h)))))
theorem sw_2 (x : Int32) : x = 0 ∨ x = 1 ∨ x = 2 ∨ (x.toInt < 0 ∨ 2 < x.toInt) := by
  rcases sw_n x 2 (by decide) with ⟨j, hj, rfl⟩ | h
  · rcases (show j = 0 ∨ j = 1 ∨ j = 2 by omega) with rfl | rfl | rfl <;> decide
  · exact Or.inr (Or.inr (Or.inr h))
/-! ===== what a state's numbers say: the reference's own recursions ===== -/
def nOf (S : St) (k : Nat) : Nat := (S.1 k).toNatClampNeg
/-- an index that may be none -/
def oI : Option Nat → Int32
  | none => -1
  | some k => nI k
def dflt (kind : Int32) : Int32 := if kind = 1 then 500 else if kind = 2 then 400 else if kind = 5 then 180 else 0
/-- of the first decrees: the value in force, and the month from which it holds -/
def infL (S : St) (kind month known : Int32) : Nat → Int32 × Int32
  | 0 => (dflt kind, 0)
  | k + 1 => if S.2.2.1 3 k = kind ∧ S.2.2.1 6 k ≤ known ∧ S.2.2.1 4 k ≤ month ∧ (infL S kind month known k).2 ≤ S.2.2.1 4 k then (S.2.2.1 5 k, S.2.2.1 4 k) else infL S kind month known k
def sInf (S : St) (kind month known : Int32) : Int32 := (infL S kind month known (nOf S 2)).1
/-- the fate told last of the first ones -/
def lastF (S : St) (child known : Int32) : Nat → Option Nat
  | 0 => none
  | k + 1 => if S.2.2.1 11 k = child ∧ S.2.2.1 14 k ≤ known then some k else lastF S child known k
def sFate (S : St) (child known : Int32) : Option Nat := match lastF S child known (nOf S 10) with
  | none => none
  | some k => if S.2.2.1 12 k < 3 then some k else none
def sCnt (S : St) (made child known : Int32) : Option Nat := match sFate S child known with
  | none => none
  | some f => if made ≤ S.2.2.1 13 f then some f else none
def sAhead (S : St) (a b : Option Nat) : Option Nat := match a, b with
  | none, b => b
  | some a, none => some a
  | some a, some b => if (S.2.2.1 12 a = 0) = (S.2.2.1 12 b = 0) then (if S.2.2.1 13 b < S.2.2.1 13 a then some b else some a) else if S.2.2.1 12 a = 0 then some a else some b
def sFall (S : St) (d : Nat) (known : Int32) : Option Nat := if known < S.2.2.1 22 d then none else sAhead S (sCnt S (S.2.2.1 22 d) (S.2.2.1 17 d) known) (if S.2.2.1 16 d = 1 then sCnt S (S.2.2.1 22 d) (S.2.2.1 18 d) known else none)
def sDueM (S : St) (f : Nat) (known : Int32) : Int32 := S.2.2.1 13 f + sInf S 0 (S.2.2.1 13 f) known
def th (x : Int64) (h : Int32) : Int64 := x * h.toInt64 / 1000
def sPre (S : St) (d f : Nat) (known : Int32) : Int64 := if S.2.2.1 12 f = 2 then th (S.2.2.1 19 d).toInt64 (sInf S 1 (S.2.2.1 13 f) known) else if S.2.2.1 12 f = 1 ∧ ¬ S.2.2.1 16 d = 2 then th (S.2.2.2 20 d) (sInf S 2 (S.2.2.1 13 f) known) else if S.2.2.1 21 d ≤ S.2.2.1 13 f then S.2.2.2 20 d else th (S.2.2.2 20 d) (sInf S 3 (S.2.2.1 13 f) known)
def sDue (S : St) (d f : Nat) (known : Int32) : Int64 := sPre S d f known - th (sPre S d f known) (sInf S 4 (sDueM S f known) known)
/-- a finding is answered, and counted -/
def sNo (S : St) (k : Int32) : Int64 × St := ((-1000000000000) - k.toInt64, uA S 1 (upd (S.2.2.1 1) k.toNatClampNeg (S.2.2.1 1 k.toNatClampNeg + 1)))
/-- who holds deposit d in a month: of the first k sales -/
def holdL (S : St) (d : Nat) (month : Int32) : Nat → Int32
  | 0 => -1
  | k + 1 => if S.2.2.1 26 (7 * d + k) ≤ month then S.2.2.1 27 (7 * d + k) else holdL S d month k
def sHold (S : St) (d : Nat) (month : Int32) : Int32 := holdL S d month (S.2.2.1 25 d).toNatClampNeg
abbrev inR (x a b : Int32) : Prop := a ≤ x ∧ x ≤ b
abbrev isC (S : St) (c : Int32) : Prop := 0 ≤ c ∧ c < S.1 8
abbrev isD (S : St) (d : Int32) : Prop := 0 ≤ d ∧ d < S.1 15
/-! what holds of every state that calls can reach -/
def okN (S : St) : Prop := (0 ≤ S.1 0 ∧ S.1 0 ≤ 1199) ∧ (0 ≤ S.1 2 ∧ S.1 2 ≤ 60) ∧ (0 ≤ S.1 8 ∧ S.1 8 ≤ 30) ∧ (0 ≤ S.1 10 ∧ S.1 10 ≤ 90) ∧ (0 ≤ S.1 15 ∧ S.1 15 ≤ 30) ∧ (0 ≤ S.1 37 ∧ S.1 37 ≤ 30)
def okD (S : St) : Prop := ∀ k, k < nOf S 2 → (0 ≤ S.2.2.1 3 k ∧ S.2.2.1 3 k ≤ 5) ∧ (0 ≤ S.2.2.1 4 k ∧ S.2.2.1 4 k ≤ 1199) ∧ S.2.2.1 6 k ≤ S.1 0 ∧ (0 ≤ S.2.2.1 5 k ∧ S.2.2.1 5 k ≤ 1000) ∧ (S.2.2.1 3 k = 0 → S.2.2.1 5 k ≤ 60) ∧ (S.2.2.1 3 k = 5 → 12 ≤ S.2.2.1 5 k ∧ S.2.2.1 5 k ≤ 240)
def okR (S : St) : Prop := ∀ k, 1 ≤ k → k ≤ 20 → 100 ≤ S.2.2.1 7 k ∧ S.2.2.1 7 k ≤ 1000
def okC (S : St) : Prop := ∀ k, k < nOf S 8 → 0 ≤ S.2.2.1 9 k ∧ S.2.2.1 9 k ≤ S.1 0
def okF (S : St) : Prop := ∀ k, k < nOf S 10 → (0 ≤ S.2.2.1 12 k ∧ S.2.2.1 12 k ≤ 3) ∧ (S.2.2.1 12 k < 3 → 0 ≤ S.2.2.1 13 k ∧ S.2.2.1 13 k ≤ 1199) ∧ S.2.2.1 14 k ≤ S.1 0
def okS (S : St) (k : Nat) : Prop := (1 ≤ S.2.2.1 25 k ∧ S.2.2.1 25 k ≤ 7) ∧ S.2.2.1 26 (7 * k) = S.2.2.1 22 k ∧ (∀ j, j + 1 < (S.2.2.1 25 k).toNatClampNeg → S.2.2.1 26 (7 * k + j) < S.2.2.1 26 (7 * k + (j + 1))) ∧ S.2.2.1 26 (7 * k + ((S.2.2.1 25 k).toNatClampNeg - 1)) ≤ S.1 0 ∧ (∀ j, j < (S.2.2.1 25 k).toNatClampNeg → 0 ≤ S.2.2.1 27 (7 * k + j) ∧ S.2.2.1 27 (7 * k + j) ≤ 9)
def okP (S : St) : Prop := ∀ k, k < nOf S 15 → (0 ≤ S.2.2.1 16 k ∧ S.2.2.1 16 k ≤ 2) ∧ 0 ≤ S.2.2.1 17 k ∧ (S.2.2.1 16 k = 1 → 0 ≤ S.2.2.1 18 k) ∧ (¬ S.2.2.1 16 k = 1 → S.2.2.1 18 k = -1) ∧ (1 ≤ S.2.2.1 19 k ∧ S.2.2.1 19 k ≤ 10000) ∧ (0 ≤ S.2.2.2 20 k ∧ S.2.2.2 20 k ≤ 100000) ∧ (0 ≤ S.2.2.1 22 k ∧ S.2.2.1 22 k ≤ S.1 0) ∧ (0 ≤ S.2.2.2 23 k ∧ S.2.2.2 23 k ≤ 100000) ∧ (S.2.2.1 24 k = 0 ∨ S.2.2.1 24 k = 1) ∧ okS S k
def okZ (S : St) : Prop := ∀ q, 7 * nOf S 15 ≤ q → S.2.2.1 26 q = 0 ∧ S.2.2.1 27 q = 0
def okM (S : St) : Prop := 0 ≤ S.2.1 28 ∧ S.2.1 28 ≤ 1000000000
def Ok (S : St) : Prop := okN S ∧ okD S ∧ okR S ∧ okC S ∧ okF S ∧ okP S ∧ okZ S ∧ okM S
theorem nOf_eq {S : St} {k : Nat} (h : 0 ≤ S.1 k) : S.1 k = nI (nOf S k) := by
  obtain ⟨j, h1, h2⟩ := nI_of (x := S.1 k) (by rw [i3l]; rw [i3e] at h; omega)
  rw [nOf, h2, nI_clamp h1]
theorem nOf_le {S : St} {k : Nat} {M : Int32} {n : Nat} (h : 0 ≤ S.1 k) (h2 : S.1 k ≤ M) (hM : M.toInt ≤ (n : Int)) : nOf S k ≤ n := by
  obtain ⟨j, h1, h3⟩ := nI_of (x := S.1 k) (by rw [i3l]; rw [i3e] at h; omega)
  rw [nOf, h3, nI_clamp h1]
  rw [i3e, h3, nI_toInt h1] at h2
  omega
theorem cl_eq {x : Int32} (h : 0 ≤ x) : x = nI x.toNatClampNeg := by
  obtain ⟨j, h1, h2⟩ := nI_of (x := x) (by rw [i3l]; rw [i3e] at h; omega)
  rw [h2, nI_clamp h1]
theorem cl_lt {x : Int32} : x.toNatClampNeg < 2 ^ 31 := by
  have h := Int32.toInt_lt x
  show x.toInt.toNat < 2 ^ 31
  omega
theorem cl_int {x : Int32} (h : 0 ≤ x) : (x.toNatClampNeg : Int) = x.toInt := by
  have h1 := cl_eq h
  have h2 := nI_toInt (cl_lt (x := x))
  rw [← h1] at h2
  omega
theorem nI_m1 {n : Nat} (h : n < 2 ^ 31) : ¬ nI n = -1 := by
  intro q
  rw [i3q, nI_toInt h] at q
  exact absurd q (by show ¬ (n : Int) = -1; omega)
theorem n7 (d k : Nat) : (7 : Int32) * nI d + nI k = nI (7 * d + k) := by rw [show (7 : Int32) = nI 7 from rfl, pk_mul, nI_add]
theorem infL_b {S : St} {kind month known : Int32} : ∀ {n : Nat}, n ≤ nOf S 2 → okD S → 0 ≤ (infL S kind month known n).2
  | 0, _, _ => by simp only [infL]; decide
  | n + 1, h, hd => by
    rw [infL]
    split
    · exact (hd n (by omega)).2.1.1
    · exact infL_b (by omega) hd
theorem lastF_lt {S : St} {child known : Int32} {f : Nat} : ∀ {n : Nat}, lastF S child known n = some f → f < n
  | 0, h => by simp [lastF] at h
  | n + 1, h => by
    rw [lastF] at h
    split at h
    · cases h; omega
    · have := lastF_lt h; omega
theorem sFate_lt {S : St} {child known : Int32} {f : Nat} (h : sFate S child known = some f) : f < nOf S 10 ∧ S.2.2.1 12 f < 3 := by
  rw [sFate] at h
  cases hl : lastF S child known (nOf S 10) with
  | none => rw [hl] at h; cases h
  | some k =>
    rw [hl] at h
    dsimp only at h
    split at h
    · cases h; exact ⟨lastF_lt hl, by assumption⟩
    · cases h
theorem sCnt_lt {S : St} {made child known : Int32} {f : Nat} (h : sCnt S made child known = some f) : f < nOf S 10 ∧ S.2.2.1 12 f < 3 := by
  rw [sCnt] at h
  cases hl : sFate S child known with
  | none => rw [hl] at h; cases h
  | some k =>
    rw [hl] at h
    dsimp only at h
    split at h
    · cases h; exact sFate_lt hl
    · cases h
theorem sFall_lt {S : St} {d : Nat} {known : Int32} {f : Nat} (h : sFall S d known = some f) : f < nOf S 10 ∧ S.2.2.1 12 f < 3 := by
  rw [sFall] at h
  split at h
  · cases h
  · rw [sAhead.eq_def] at h
    split at h
    · rename_i h2
      split at h
      · exact sCnt_lt h
      · cases h
    · rename_i a h1 h2
      cases h
      exact sCnt_lt h1
    · rename_i a b h1 h2
      have h3 := sCnt_lt h1
      have h4 : b < nOf S 10 ∧ S.2.2.1 12 b < 3 := by
        split at h2
        · exact sCnt_lt h2
        · cases h2
      split at h
      · split at h
        · cases h; exact h4
        · cases h; exact h3
      · split at h
        · cases h; exact h3
        · cases h; exact h4
theorem i3m1 : Int32.toInt (-1) = -1 := rfl
theorem sub1 {x : Int32} (h0 : 0 ≤ x) : (x - 1).toInt = x.toInt - 1 := by
  rw [i3e] at h0
  have h1 := Int32.toInt_lt x
  have h2 : (0 : Int) ≤ x.toInt := h0
  rw [Int32.toInt_sub]
  show (x.toInt - 1).bmod (2 ^ 32) = x.toInt - 1
  rw [Int.bmod_eq_of_le (by omega) (by omega)]
theorem zi_0 : Int32.toInt 0 = 0 := rfl
theorem zi_1 : Int32.toInt 1 = 1 := rfl
theorem zi_2 : Int32.toInt 2 = 2 := rfl
theorem zi_3 : Int32.toInt 3 = 3 := rfl
theorem zi_4 : Int32.toInt 4 = 4 := rfl
theorem zi_5 : Int32.toInt 5 = 5 := rfl
theorem zi_6 : Int32.toInt 6 = 6 := rfl
theorem zi_7 : Int32.toInt 7 = 7 := rfl
theorem zi_8 : Int32.toInt 8 = 8 := rfl
theorem zi_9 : Int32.toInt 9 = 9 := rfl
theorem zi_10 : Int32.toInt 10 = 10 := rfl
theorem zi_12 : Int32.toInt 12 = 12 := rfl
theorem zi_20 : Int32.toInt 20 = 20 := rfl
theorem zi_21 : Int32.toInt 21 = 21 := rfl
theorem zi_30 : Int32.toInt 30 = 30 := rfl
theorem zi_60 : Int32.toInt 60 = 60 := rfl
theorem zi_90 : Int32.toInt 90 = 90 := rfl
theorem zi_99 : Int32.toInt 99 = 99 := rfl
theorem zi_100 : Int32.toInt 100 = 100 := rfl
theorem zi_180 : Int32.toInt 180 = 180 := rfl
theorem zi_240 : Int32.toInt 240 = 240 := rfl
theorem zi_400 : Int32.toInt 400 = 400 := rfl
theorem zi_500 : Int32.toInt 500 = 500 := rfl
theorem zi_1000 : Int32.toInt 1000 = 1000 := rfl
theorem zi_1199 : Int32.toInt 1199 = 1199 := rfl
theorem zi_10000 : Int32.toInt 10000 = 10000 := rfl
theorem zi_100000 : Int32.toInt 100000 = 100000 := rfl
theorem zi_1000000 : Int32.toInt 1000000 = 1000000 := rfl
theorem zj_0 : Int64.toInt 0 = 0 := rfl
theorem zj_1 : Int64.toInt 1 = 1 := rfl
theorem zj_100 : Int64.toInt 100 = 100 := rfl
theorem zj_1000 : Int64.toInt 1000 = 1000 := rfl
theorem zj_1199 : Int64.toInt 1199 = 1199 := rfl
theorem zj_100000 : Int64.toInt 100000 = 100000 := rfl
theorem zj_1000000 : Int64.toInt 1000000 = 1000000 := rfl
theorem zj_1000000000 : Int64.toInt 1000000000 = 1000000000 := rfl
theorem vp_d {i : Int32} {n : Nat} (h : ¬ (i < 0 ∨ n ≤ i.toNatClampNeg)) : vp_in i n := h
