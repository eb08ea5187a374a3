/-! ===== the state: ints, longs, rows of ints, rows of longs, by the reference's field numbers ===== -/
abbrev St : Type := (Nat → Int32) × (Nat → Int64) × (Nat → Nat → Int32) × (Nat → Nat → Int64)
def uI (S : St) (k : Nat) (x : Int32) : St := (va_up S.1 k x, S.2.1, S.2.2.1, S.2.2.2)
def uJ (S : St) (k : Nat) (x : Int64) : St := (S.1, va_up S.2.1 k x, S.2.2.1, S.2.2.2)
def uA (S : St) (k : Nat) (f : Nat → Int32) : St := (S.1, S.2.1, va_up S.2.2.1 k f, S.2.2.2)
def uB (S : St) (k : Nat) (f : Nat → Int64) : St := (S.1, S.2.1, S.2.2.1, va_up S.2.2.2 k f)
theorem up_lit {α : Type} (f : Nat → α) (k : Nat) (v : α) (j : Nat) : va_up f k v j = if j = k then v else f j := rfl
/-- the numbers of the reference's cells: the object is 0, a row has its field's number -/
def Lm : List Nat := [0, 1, 3, 4, 5, 6, 7, 9, 11, 12, 13, 14, 16, 17, 18, 19, 20, 21, 22, 23, 24, 25, 26, 27, 33, 34, 35, 36, 38, 39, 40]
def mF (α : Nat → Nat) (S : St) : List Value := [.int (S.1 0), .ref (α 1), .int (S.1 2), .ref (α 3), .ref (α 4), .ref (α 5), .ref (α 6), .ref (α 7), .int (S.1 8), .ref (α 9), .int (S.1 10), .ref (α 11), .ref (α 12), .ref (α 13), .ref (α 14), .int (S.1 15), .ref (α 16), .ref (α 17), .ref (α 18), .ref (α 19), .ref (α 20), .ref (α 21), .ref (α 22), .ref (α 23), .ref (α 24), .ref (α 25), .ref (α 26), .ref (α 27), .long (S.2.1 28), .long (S.2.1 29), .long (S.2.1 30), .long (S.2.1 31), .int (S.1 32), .ref (α 33), .ref (α 34), .ref (α 35), .ref (α 36), .int (S.1 37), .ref (α 38), .ref (α 39), .ref (α 40), .long (S.2.1 41), .long (S.2.1 42)]
def mC (G : Nat → ClassId) (α : Nat → Nat) (S : St) : List va_E := [.inr (11, mF α S), .inl (G 0, 6, .inl (S.2.2.1 1)), .inr (0, []), .inl (G 0, 60, .inl (S.2.2.1 3)), .inl (G 0, 60, .inl (S.2.2.1 4)), .inl (G 0, 60, .inl (S.2.2.1 5)), .inl (G 0, 60, .inl (S.2.2.1 6)), .inl (G 0, 21, .inl (S.2.2.1 7)), .inr (0, []), .inl (G 0, 30, .inl (S.2.2.1 9)), .inr (0, []), .inl (G 0, 90, .inl (S.2.2.1 11)), .inl (G 0, 90, .inl (S.2.2.1 12)), .inl (G 0, 90, .inl (S.2.2.1 13)), .inl (G 0, 90, .inl (S.2.2.1 14)), .inr (0, []), .inl (G 0, 30, .inl (S.2.2.1 16)), .inl (G 0, 30, .inl (S.2.2.1 17)), .inl (G 0, 30, .inl (S.2.2.1 18)), .inl (G 0, 30, .inl (S.2.2.1 19)), .inl (G 1, 30, .inr (.inl (S.2.2.2 20))), .inl (G 0, 30, .inl (S.2.2.1 21)), .inl (G 0, 30, .inl (S.2.2.1 22)), .inl (G 1, 30, .inr (.inl (S.2.2.2 23))), .inl (G 2, 30, .inl (S.2.2.1 24)), .inl (G 0, 30, .inl (S.2.2.1 25)), .inl (G 0, 210, .inl (S.2.2.1 26)), .inl (G 0, 210, .inl (S.2.2.1 27)), .inr (0, []), .inr (0, []), .inr (0, []), .inr (0, []), .inr (0, []), .inl (G 1, 10, .inr (.inl (S.2.2.2 33))), .inl (G 0, 21, .inl (S.2.2.1 34)), .inl (G 0, 21, .inl (S.2.2.1 35)), .inl (G 0, 21, .inl (S.2.2.1 36)), .inr (0, []), .inl (G 0, 30, .inl (S.2.2.1 38)), .inl (G 2, 30, .inl (S.2.2.1 39)), .inl (G 1, 30, .inr (.inl (S.2.2.2 40))), .inr (0, []), .inr (0, [])]
def cJ (l : List va_E) (dep : Nat → va_E) : Nat → va_E := fun k => match l[k]? with
  | some e => e
  | none => dep k
theorem cJ_set {l : List va_E} {dep : Nat → va_E} {k : Nat} {e : va_E} (hk : k < l.length) : va_up (cJ l dep) k e = cJ (l.set k e) dep := by
  funext j
  by_cases hj : j = k
  · subst hj
    simp [va_up, cJ, List.getElem?_set_self hk]
  · simp [va_up, cJ, hj, List.getElem?_set_ne (Ne.symm hj)]
theorem cJ_setD {l : List va_E} {dep : Nat → va_E} {k : Nat} {e : va_E} (hk : l.length ≤ k) : va_up (cJ l dep) k e = cJ l (va_up dep k e) := by
  funext j
  by_cases hj : j = k
  · subst hj
    simp [va_up, cJ, List.getElem?_eq_none hk]
  · simp only [va_up, cJ, if_neg hj]
theorem cJ_out {l : List va_E} {dep : Nat → va_E} {k : Nat} (hk : l.length ≤ k) : cJ l dep k = dep k := by
  simp [cJ, List.getElem?_eq_none hk]
/-- the reference's cells -/
def mE (G : Nat → ClassId) (α : Nat → Nat) (S : St) : Nat → va_E := cJ (mC G α S) (fun _ => .inr (0, []))
section MST
variable {G : Nat → ClassId} {α : Nat → Nat} {S : St}
theorem mE_0 : mE G α S 0 = .inr (11, mF α S) := rfl
theorem mE_1 : mE G α S 1 = .inl (G 0, 6, .inl (S.2.2.1 1)) := rfl
theorem mE_3 : mE G α S 3 = .inl (G 0, 60, .inl (S.2.2.1 3)) := rfl
theorem mE_4 : mE G α S 4 = .inl (G 0, 60, .inl (S.2.2.1 4)) := rfl
theorem mE_5 : mE G α S 5 = .inl (G 0, 60, .inl (S.2.2.1 5)) := rfl
theorem mE_6 : mE G α S 6 = .inl (G 0, 60, .inl (S.2.2.1 6)) := rfl
theorem mE_7 : mE G α S 7 = .inl (G 0, 21, .inl (S.2.2.1 7)) := rfl
theorem mE_9 : mE G α S 9 = .inl (G 0, 30, .inl (S.2.2.1 9)) := rfl
theorem mE_11 : mE G α S 11 = .inl (G 0, 90, .inl (S.2.2.1 11)) := rfl
theorem mE_12 : mE G α S 12 = .inl (G 0, 90, .inl (S.2.2.1 12)) := rfl
theorem mE_13 : mE G α S 13 = .inl (G 0, 90, .inl (S.2.2.1 13)) := rfl
theorem mE_14 : mE G α S 14 = .inl (G 0, 90, .inl (S.2.2.1 14)) := rfl
theorem mE_16 : mE G α S 16 = .inl (G 0, 30, .inl (S.2.2.1 16)) := rfl
theorem mE_17 : mE G α S 17 = .inl (G 0, 30, .inl (S.2.2.1 17)) := rfl
theorem mE_18 : mE G α S 18 = .inl (G 0, 30, .inl (S.2.2.1 18)) := rfl
theorem mE_19 : mE G α S 19 = .inl (G 0, 30, .inl (S.2.2.1 19)) := rfl
theorem mE_20 : mE G α S 20 = .inl (G 1, 30, .inr (.inl (S.2.2.2 20))) := rfl
theorem mE_21 : mE G α S 21 = .inl (G 0, 30, .inl (S.2.2.1 21)) := rfl
theorem mE_22 : mE G α S 22 = .inl (G 0, 30, .inl (S.2.2.1 22)) := rfl
theorem mE_23 : mE G α S 23 = .inl (G 1, 30, .inr (.inl (S.2.2.2 23))) := rfl
theorem mE_24 : mE G α S 24 = .inl (G 2, 30, .inl (S.2.2.1 24)) := rfl
theorem mE_25 : mE G α S 25 = .inl (G 0, 30, .inl (S.2.2.1 25)) := rfl
theorem mE_26 : mE G α S 26 = .inl (G 0, 210, .inl (S.2.2.1 26)) := rfl
theorem mE_27 : mE G α S 27 = .inl (G 0, 210, .inl (S.2.2.1 27)) := rfl
theorem mE_33 : mE G α S 33 = .inl (G 1, 10, .inr (.inl (S.2.2.2 33))) := rfl
theorem mE_34 : mE G α S 34 = .inl (G 0, 21, .inl (S.2.2.1 34)) := rfl
theorem mE_35 : mE G α S 35 = .inl (G 0, 21, .inl (S.2.2.1 35)) := rfl
theorem mE_36 : mE G α S 36 = .inl (G 0, 21, .inl (S.2.2.1 36)) := rfl
theorem mE_38 : mE G α S 38 = .inl (G 0, 30, .inl (S.2.2.1 38)) := rfl
theorem mE_39 : mE G α S 39 = .inl (G 2, 30, .inl (S.2.2.1 39)) := rfl
theorem mE_40 : mE G α S 40 = .inl (G 1, 30, .inr (.inl (S.2.2.2 40))) := rfl
theorem mF_0 : (mF α S)[0]? = some (.int (S.1 0)) := rfl
theorem mF_1 : (mF α S)[1]? = some (.ref (α 1)) := rfl
theorem mF_2 : (mF α S)[2]? = some (.int (S.1 2)) := rfl
theorem mF_3 : (mF α S)[3]? = some (.ref (α 3)) := rfl
theorem mF_4 : (mF α S)[4]? = some (.ref (α 4)) := rfl
theorem mF_5 : (mF α S)[5]? = some (.ref (α 5)) := rfl
theorem mF_6 : (mF α S)[6]? = some (.ref (α 6)) := rfl
theorem mF_7 : (mF α S)[7]? = some (.ref (α 7)) := rfl
theorem mF_8 : (mF α S)[8]? = some (.int (S.1 8)) := rfl
theorem mF_9 : (mF α S)[9]? = some (.ref (α 9)) := rfl
theorem mF_10 : (mF α S)[10]? = some (.int (S.1 10)) := rfl
theorem mF_11 : (mF α S)[11]? = some (.ref (α 11)) := rfl
theorem mF_12 : (mF α S)[12]? = some (.ref (α 12)) := rfl
theorem mF_13 : (mF α S)[13]? = some (.ref (α 13)) := rfl
theorem mF_14 : (mF α S)[14]? = some (.ref (α 14)) := rfl
theorem mF_15 : (mF α S)[15]? = some (.int (S.1 15)) := rfl
theorem mF_16 : (mF α S)[16]? = some (.ref (α 16)) := rfl
theorem mF_17 : (mF α S)[17]? = some (.ref (α 17)) := rfl
theorem mF_18 : (mF α S)[18]? = some (.ref (α 18)) := rfl
theorem mF_19 : (mF α S)[19]? = some (.ref (α 19)) := rfl
theorem mF_20 : (mF α S)[20]? = some (.ref (α 20)) := rfl
theorem mF_21 : (mF α S)[21]? = some (.ref (α 21)) := rfl
theorem mF_22 : (mF α S)[22]? = some (.ref (α 22)) := rfl
theorem mF_23 : (mF α S)[23]? = some (.ref (α 23)) := rfl
theorem mF_24 : (mF α S)[24]? = some (.ref (α 24)) := rfl
theorem mF_25 : (mF α S)[25]? = some (.ref (α 25)) := rfl
theorem mF_26 : (mF α S)[26]? = some (.ref (α 26)) := rfl
theorem mF_27 : (mF α S)[27]? = some (.ref (α 27)) := rfl
theorem mF_28 : (mF α S)[28]? = some (.long (S.2.1 28)) := rfl
theorem mF_29 : (mF α S)[29]? = some (.long (S.2.1 29)) := rfl
theorem mF_30 : (mF α S)[30]? = some (.long (S.2.1 30)) := rfl
theorem mF_31 : (mF α S)[31]? = some (.long (S.2.1 31)) := rfl
theorem mF_32 : (mF α S)[32]? = some (.int (S.1 32)) := rfl
theorem mF_33 : (mF α S)[33]? = some (.ref (α 33)) := rfl
theorem mF_34 : (mF α S)[34]? = some (.ref (α 34)) := rfl
theorem mF_35 : (mF α S)[35]? = some (.ref (α 35)) := rfl
theorem mF_36 : (mF α S)[36]? = some (.ref (α 36)) := rfl
theorem mF_37 : (mF α S)[37]? = some (.int (S.1 37)) := rfl
theorem mF_38 : (mF α S)[38]? = some (.ref (α 38)) := rfl
theorem mF_39 : (mF α S)[39]? = some (.ref (α 39)) := rfl
theorem mF_40 : (mF α S)[40]? = some (.ref (α 40)) := rfl
theorem mF_41 : (mF α S)[41]? = some (.long (S.2.1 41)) := rfl
theorem mF_42 : (mF α S)[42]? = some (.long (S.2.1 42)) := rfl
theorem mF_len : (mF α S).length = 43 := rfl
theorem mU_1 {f : Nat → Int32} : va_up (mE G α S) 1 (.inl (G 0, 6, .inl f)) = mE G α (uA S 1 f) := (cJ_set (Nat.le_of_ble_eq_true rfl)).trans rfl
theorem mU_3 {f : Nat → Int32} : va_up (mE G α S) 3 (.inl (G 0, 60, .inl f)) = mE G α (uA S 3 f) := (cJ_set (Nat.le_of_ble_eq_true rfl)).trans rfl
theorem mU_4 {f : Nat → Int32} : va_up (mE G α S) 4 (.inl (G 0, 60, .inl f)) = mE G α (uA S 4 f) := (cJ_set (Nat.le_of_ble_eq_true rfl)).trans rfl
theorem mU_5 {f : Nat → Int32} : va_up (mE G α S) 5 (.inl (G 0, 60, .inl f)) = mE G α (uA S 5 f) := (cJ_set (Nat.le_of_ble_eq_true rfl)).trans rfl
theorem mU_6 {f : Nat → Int32} : va_up (mE G α S) 6 (.inl (G 0, 60, .inl f)) = mE G α (uA S 6 f) := (cJ_set (Nat.le_of_ble_eq_true rfl)).trans rfl
theorem mU_7 {f : Nat → Int32} : va_up (mE G α S) 7 (.inl (G 0, 21, .inl f)) = mE G α (uA S 7 f) := (cJ_set (Nat.le_of_ble_eq_true rfl)).trans rfl
theorem mU_9 {f : Nat → Int32} : va_up (mE G α S) 9 (.inl (G 0, 30, .inl f)) = mE G α (uA S 9 f) := (cJ_set (Nat.le_of_ble_eq_true rfl)).trans rfl
theorem mU_11 {f : Nat → Int32} : va_up (mE G α S) 11 (.inl (G 0, 90, .inl f)) = mE G α (uA S 11 f) := (cJ_set (Nat.le_of_ble_eq_true rfl)).trans rfl
theorem mU_12 {f : Nat → Int32} : va_up (mE G α S) 12 (.inl (G 0, 90, .inl f)) = mE G α (uA S 12 f) := (cJ_set (Nat.le_of_ble_eq_true rfl)).trans rfl
theorem mU_13 {f : Nat → Int32} : va_up (mE G α S) 13 (.inl (G 0, 90, .inl f)) = mE G α (uA S 13 f) := (cJ_set (Nat.le_of_ble_eq_true rfl)).trans rfl
theorem mU_14 {f : Nat → Int32} : va_up (mE G α S) 14 (.inl (G 0, 90, .inl f)) = mE G α (uA S 14 f) := (cJ_set (Nat.le_of_ble_eq_true rfl)).trans rfl
theorem mU_16 {f : Nat → Int32} : va_up (mE G α S) 16 (.inl (G 0, 30, .inl f)) = mE G α (uA S 16 f) := (cJ_set (Nat.le_of_ble_eq_true rfl)).trans rfl
theorem mU_17 {f : Nat → Int32} : va_up (mE G α S) 17 (.inl (G 0, 30, .inl f)) = mE G α (uA S 17 f) := (cJ_set (Nat.le_of_ble_eq_true rfl)).trans rfl
theorem mU_18 {f : Nat → Int32} : va_up (mE G α S) 18 (.inl (G 0, 30, .inl f)) = mE G α (uA S 18 f) := (cJ_set (Nat.le_of_ble_eq_true rfl)).trans rfl
theorem mU_19 {f : Nat → Int32} : va_up (mE G α S) 19 (.inl (G 0, 30, .inl f)) = mE G α (uA S 19 f) := (cJ_set (Nat.le_of_ble_eq_true rfl)).trans rfl
theorem mU_20 {f : Nat → Int64} : va_up (mE G α S) 20 (.inl (G 1, 30, .inr (.inl f))) = mE G α (uB S 20 f) := (cJ_set (Nat.le_of_ble_eq_true rfl)).trans rfl
theorem mU_21 {f : Nat → Int32} : va_up (mE G α S) 21 (.inl (G 0, 30, .inl f)) = mE G α (uA S 21 f) := (cJ_set (Nat.le_of_ble_eq_true rfl)).trans rfl
theorem mU_22 {f : Nat → Int32} : va_up (mE G α S) 22 (.inl (G 0, 30, .inl f)) = mE G α (uA S 22 f) := (cJ_set (Nat.le_of_ble_eq_true rfl)).trans rfl
theorem mU_23 {f : Nat → Int64} : va_up (mE G α S) 23 (.inl (G 1, 30, .inr (.inl f))) = mE G α (uB S 23 f) := (cJ_set (Nat.le_of_ble_eq_true rfl)).trans rfl
theorem mU_24 {f : Nat → Int32} : va_up (mE G α S) 24 (.inl (G 2, 30, .inl f)) = mE G α (uA S 24 f) := (cJ_set (Nat.le_of_ble_eq_true rfl)).trans rfl
theorem mU_25 {f : Nat → Int32} : va_up (mE G α S) 25 (.inl (G 0, 30, .inl f)) = mE G α (uA S 25 f) := (cJ_set (Nat.le_of_ble_eq_true rfl)).trans rfl
theorem mU_26 {f : Nat → Int32} : va_up (mE G α S) 26 (.inl (G 0, 210, .inl f)) = mE G α (uA S 26 f) := (cJ_set (Nat.le_of_ble_eq_true rfl)).trans rfl
theorem mU_27 {f : Nat → Int32} : va_up (mE G α S) 27 (.inl (G 0, 210, .inl f)) = mE G α (uA S 27 f) := (cJ_set (Nat.le_of_ble_eq_true rfl)).trans rfl
theorem mU_33 {f : Nat → Int64} : va_up (mE G α S) 33 (.inl (G 1, 10, .inr (.inl f))) = mE G α (uB S 33 f) := (cJ_set (Nat.le_of_ble_eq_true rfl)).trans rfl
theorem mU_34 {f : Nat → Int32} : va_up (mE G α S) 34 (.inl (G 0, 21, .inl f)) = mE G α (uA S 34 f) := (cJ_set (Nat.le_of_ble_eq_true rfl)).trans rfl
theorem mU_35 {f : Nat → Int32} : va_up (mE G α S) 35 (.inl (G 0, 21, .inl f)) = mE G α (uA S 35 f) := (cJ_set (Nat.le_of_ble_eq_true rfl)).trans rfl
theorem mU_36 {f : Nat → Int32} : va_up (mE G α S) 36 (.inl (G 0, 21, .inl f)) = mE G α (uA S 36 f) := (cJ_set (Nat.le_of_ble_eq_true rfl)).trans rfl
theorem mU_38 {f : Nat → Int32} : va_up (mE G α S) 38 (.inl (G 0, 30, .inl f)) = mE G α (uA S 38 f) := (cJ_set (Nat.le_of_ble_eq_true rfl)).trans rfl
theorem mU_39 {f : Nat → Int32} : va_up (mE G α S) 39 (.inl (G 2, 30, .inl f)) = mE G α (uA S 39 f) := (cJ_set (Nat.le_of_ble_eq_true rfl)).trans rfl
theorem mU_40 {f : Nat → Int64} : va_up (mE G α S) 40 (.inl (G 1, 30, .inr (.inl f))) = mE G α (uB S 40 f) := (cJ_set (Nat.le_of_ble_eq_true rfl)).trans rfl
theorem mO_0 {x : Int32} : va_up (mE G α S) 0 (.inr (11, (mF α S).set 0 (.int x))) = mE G α (uI S 0 x) := (cJ_set (Nat.le_of_ble_eq_true rfl)).trans rfl
theorem mO_2 {x : Int32} : va_up (mE G α S) 0 (.inr (11, (mF α S).set 2 (.int x))) = mE G α (uI S 2 x) := (cJ_set (Nat.le_of_ble_eq_true rfl)).trans rfl
theorem mO_8 {x : Int32} : va_up (mE G α S) 0 (.inr (11, (mF α S).set 8 (.int x))) = mE G α (uI S 8 x) := (cJ_set (Nat.le_of_ble_eq_true rfl)).trans rfl
theorem mO_10 {x : Int32} : va_up (mE G α S) 0 (.inr (11, (mF α S).set 10 (.int x))) = mE G α (uI S 10 x) := (cJ_set (Nat.le_of_ble_eq_true rfl)).trans rfl
theorem mO_15 {x : Int32} : va_up (mE G α S) 0 (.inr (11, (mF α S).set 15 (.int x))) = mE G α (uI S 15 x) := (cJ_set (Nat.le_of_ble_eq_true rfl)).trans rfl
theorem mO_28 {x : Int64} : va_up (mE G α S) 0 (.inr (11, (mF α S).set 28 (.long x))) = mE G α (uJ S 28 x) := (cJ_set (Nat.le_of_ble_eq_true rfl)).trans rfl
theorem mO_29 {x : Int64} : va_up (mE G α S) 0 (.inr (11, (mF α S).set 29 (.long x))) = mE G α (uJ S 29 x) := (cJ_set (Nat.le_of_ble_eq_true rfl)).trans rfl
theorem mO_30 {x : Int64} : va_up (mE G α S) 0 (.inr (11, (mF α S).set 30 (.long x))) = mE G α (uJ S 30 x) := (cJ_set (Nat.le_of_ble_eq_true rfl)).trans rfl
theorem mO_31 {x : Int64} : va_up (mE G α S) 0 (.inr (11, (mF α S).set 31 (.long x))) = mE G α (uJ S 31 x) := (cJ_set (Nat.le_of_ble_eq_true rfl)).trans rfl
theorem mO_32 {x : Int32} : va_up (mE G α S) 0 (.inr (11, (mF α S).set 32 (.int x))) = mE G α (uI S 32 x) := (cJ_set (Nat.le_of_ble_eq_true rfl)).trans rfl
theorem mO_37 {x : Int32} : va_up (mE G α S) 0 (.inr (11, (mF α S).set 37 (.int x))) = mE G α (uI S 37 x) := (cJ_set (Nat.le_of_ble_eq_true rfl)).trans rfl
theorem mO_41 {x : Int64} : va_up (mE G α S) 0 (.inr (11, (mF α S).set 41 (.long x))) = mE G α (uJ S 41 x) := (cJ_set (Nat.le_of_ble_eq_true rfl)).trans rfl
theorem mO_42 {x : Int64} : va_up (mE G α S) 0 (.inr (11, (mF α S).set 42 (.long x))) = mE G α (uJ S 42 x) := (cJ_set (Nat.le_of_ble_eq_true rfl)).trans rfl
end MST
def cF_0 (α : Nat → Nat) (S : St) : List Value := [.ref (α 1), .ref (α 3), .ref (α 8), .ref (α 9), .ref (α 15), .ref (α 17), .ref (α 18), .ref (α 20), .ref (α 21), .ref (α 25), .int (S.1 0)]
def cF_1 (α : Nat → Nat) (S : St) : List Value := [.ref (α 2)]
def cF_3 (α : Nat → Nat) (S : St) : List Value := [.ref (α 4), .ref (α 5), .ref (α 6), .ref (α 7), .int (S.1 2)]
def cF_9 (α : Nat → Nat) (S : St) : List Value := [.ref (α 10), .int (S.1 8), .ref (α 11), .ref (α 12), .ref (α 13), .ref (α 14), .int (S.1 10)]
def cF_15 (α : Nat → Nat) (S : St) : List Value := [.ref (α 16), .int (S.1 15)]
def cF_17 (α : Nat → Nat) (S : St) : List Value := [.ref (α 3), .ref (α 9)]
def cF_18 (α : Nat → Nat) (S : St) : List Value := [.long (S.2.1 28), .long (S.2.1 29), .long (S.2.1 30), .ref (α 19)]
def cF_20 (α : Nat → Nat) (S : St) : List Value := [.ref (α 15), .ref (α 18), .long (S.2.1 31), .int (S.1 32)]
def cF_21 (α : Nat → Nat) (S : St) : List Value := [.ref (α 22), .ref (α 23), .ref (α 24)]
def cF_25 (α : Nat → Nat) (S : St) : List Value := [.ref (α 26), .int (S.1 37)]
/-- the deposits in their row -/
def cRows (α : Nat → Nat) (n : Nat) : Nat → Option Nat := fun i => if i < n then some (α (27 + 3 * i)) else none
def cC (G : Nat → ClassId) (α : Nat → Nat) (S : St) (n : Nat) : List va_E := [.inr (10, cF_0 α S), .inr (5, cF_1 α S), .inl (G 0, 6, .inl (S.2.2.1 1)), .inr (1, cF_3 α S), .inl (G 0, 60, .inl (S.2.2.1 3)), .inl (G 0, 60, .inl (S.2.2.1 4)), .inl (G 0, 60, .inl (S.2.2.1 5)), .inl (G 0, 60, .inl (S.2.2.1 6)), .inl (G 0, 21, .inl (S.2.2.1 7)), .inr (0, cF_9 α S), .inl (G 0, 30, .inl (S.2.2.1 9)), .inl (G 0, 90, .inl (S.2.2.1 11)), .inl (G 0, 90, .inl (S.2.2.1 12)), .inl (G 0, 90, .inl (S.2.2.1 13)), .inl (G 0, 90, .inl (S.2.2.1 14)), .inr (3, cF_15 α S), .inl (G 3, 30, .inr (.inr (.inr (.inr (cRows α n))))), .inr (4, cF_17 α S), .inr (7, cF_18 α S), .inl (G 1, 10, .inr (.inl (S.2.2.2 33))), .inr (8, cF_20 α S), .inr (6, cF_21 α S), .inl (G 0, 21, .inl (S.2.2.1 34)), .inl (G 0, 21, .inl (S.2.2.1 35)), .inl (G 0, 21, .inl (S.2.2.1 36)), .inr (9, cF_25 α S), .inl (G 0, 30, .inl (S.2.2.1 38))]
/-- a deposit's fields; J: what the class alone keeps -/
def cD (α : Nat → Nat) (S J : St) (i : Nat) : List Value := [.int (S.2.2.1 16 i), .int (S.2.2.1 17 i), .int (J.2.2.1 0 i), .int (S.2.2.1 22 i), .int (S.2.2.1 19 i), .long (S.2.2.2 20 i), .int (S.2.2.1 21 i), .ref (α (28 + 3 * i)), .ref (α (29 + 3 * i)), .int (S.2.2.1 25 i - 1), .long (S.2.2.2 23 i), .int (S.2.2.1 24 i), .int (J.2.2.1 1 i), .long (J.2.2.2 0 i), .int (J.2.2.1 2 i), .long (J.2.2.2 1 i)]
def cHo (S : St) (i : Nat) : Nat → Int32 := fun j => if j < 7 then S.2.2.1 27 (7 * i + j) else 0
def cFr (S : St) (i : Nat) : Nat → Int32 := fun j => if j < 7 then S.2.2.1 26 (7 * i + j) else 0
def cDp (G : Nat → ClassId) (α : Nat → Nat) (S J : St) : Nat → va_E := fun k => if k < 27 then .inr (0, []) else if (k - 27) % 3 = 0 then .inr (2, cD α S J ((k - 27) / 3)) else if (k - 27) % 3 = 1 then .inl (G 0, 7, .inl (cHo S ((k - 27) / 3))) else .inl (G 0, 7, .inl (cFr S ((k - 27) / 3)))
/-- the class's cells: n deposits stand in the row -/
def cE (G : Nat → ClassId) (α : Nat → Nat) (S J : St) (n : Nat) : Nat → va_E := cJ (cC G α S n) (cDp G α S J)
def Lc (n : Nat) : List Nat := List.range (27 + 3 * n)
theorem Lc_in {k n : Nat} (h : k < 27) : k ∈ Lc n := List.mem_range.mpr (by omega)
theorem Lc_d {k i n : Nat} (h : i < n) (h1 : 27 + 3 * i ≤ k) (h2 : k < 30 + 3 * i) : k ∈ Lc n := List.mem_range.mpr (by omega)
section CST
variable {G : Nat → ClassId} {α : Nat → Nat} {S J : St} {n : Nat}
theorem cE_0 : cE G α S J n 0 = .inr (10, cF_0 α S) := rfl
theorem cE_1 : cE G α S J n 1 = .inr (5, cF_1 α S) := rfl
theorem cE_2 : cE G α S J n 2 = .inl (G 0, 6, .inl (S.2.2.1 1)) := rfl
theorem cE_3 : cE G α S J n 3 = .inr (1, cF_3 α S) := rfl
theorem cE_4 : cE G α S J n 4 = .inl (G 0, 60, .inl (S.2.2.1 3)) := rfl
theorem cE_5 : cE G α S J n 5 = .inl (G 0, 60, .inl (S.2.2.1 4)) := rfl
theorem cE_6 : cE G α S J n 6 = .inl (G 0, 60, .inl (S.2.2.1 5)) := rfl
theorem cE_7 : cE G α S J n 7 = .inl (G 0, 60, .inl (S.2.2.1 6)) := rfl
theorem cE_8 : cE G α S J n 8 = .inl (G 0, 21, .inl (S.2.2.1 7)) := rfl
theorem cE_9 : cE G α S J n 9 = .inr (0, cF_9 α S) := rfl
theorem cE_10 : cE G α S J n 10 = .inl (G 0, 30, .inl (S.2.2.1 9)) := rfl
theorem cE_11 : cE G α S J n 11 = .inl (G 0, 90, .inl (S.2.2.1 11)) := rfl
theorem cE_12 : cE G α S J n 12 = .inl (G 0, 90, .inl (S.2.2.1 12)) := rfl
theorem cE_13 : cE G α S J n 13 = .inl (G 0, 90, .inl (S.2.2.1 13)) := rfl
theorem cE_14 : cE G α S J n 14 = .inl (G 0, 90, .inl (S.2.2.1 14)) := rfl
theorem cE_15 : cE G α S J n 15 = .inr (3, cF_15 α S) := rfl
theorem cE_16 : cE G α S J n 16 = .inl (G 3, 30, .inr (.inr (.inr (.inr (cRows α n))))) := rfl
theorem cE_17 : cE G α S J n 17 = .inr (4, cF_17 α S) := rfl
theorem cE_18 : cE G α S J n 18 = .inr (7, cF_18 α S) := rfl
theorem cE_19 : cE G α S J n 19 = .inl (G 1, 10, .inr (.inl (S.2.2.2 33))) := rfl
theorem cE_20 : cE G α S J n 20 = .inr (8, cF_20 α S) := rfl
theorem cE_21 : cE G α S J n 21 = .inr (6, cF_21 α S) := rfl
theorem cE_22 : cE G α S J n 22 = .inl (G 0, 21, .inl (S.2.2.1 34)) := rfl
theorem cE_23 : cE G α S J n 23 = .inl (G 0, 21, .inl (S.2.2.1 35)) := rfl
theorem cE_24 : cE G α S J n 24 = .inl (G 0, 21, .inl (S.2.2.1 36)) := rfl
theorem cE_25 : cE G α S J n 25 = .inr (9, cF_25 α S) := rfl
theorem cE_26 : cE G α S J n 26 = .inl (G 0, 30, .inl (S.2.2.1 38)) := rfl
theorem cF_0_0 : (cF_0 α S)[0]? = some (.ref (α 1)) := rfl
theorem cF_0_1 : (cF_0 α S)[1]? = some (.ref (α 3)) := rfl
theorem cF_0_2 : (cF_0 α S)[2]? = some (.ref (α 8)) := rfl
theorem cF_0_3 : (cF_0 α S)[3]? = some (.ref (α 9)) := rfl
theorem cF_0_4 : (cF_0 α S)[4]? = some (.ref (α 15)) := rfl
theorem cF_0_5 : (cF_0 α S)[5]? = some (.ref (α 17)) := rfl
theorem cF_0_6 : (cF_0 α S)[6]? = some (.ref (α 18)) := rfl
theorem cF_0_7 : (cF_0 α S)[7]? = some (.ref (α 20)) := rfl
theorem cF_0_8 : (cF_0 α S)[8]? = some (.ref (α 21)) := rfl
theorem cF_0_9 : (cF_0 α S)[9]? = some (.ref (α 25)) := rfl
theorem cF_0_10 : (cF_0 α S)[10]? = some (.int (S.1 0)) := rfl
theorem cF_1_0 : (cF_1 α S)[0]? = some (.ref (α 2)) := rfl
theorem cF_3_0 : (cF_3 α S)[0]? = some (.ref (α 4)) := rfl
theorem cF_3_1 : (cF_3 α S)[1]? = some (.ref (α 5)) := rfl
theorem cF_3_2 : (cF_3 α S)[2]? = some (.ref (α 6)) := rfl
theorem cF_3_3 : (cF_3 α S)[3]? = some (.ref (α 7)) := rfl
theorem cF_3_4 : (cF_3 α S)[4]? = some (.int (S.1 2)) := rfl
theorem cF_9_0 : (cF_9 α S)[0]? = some (.ref (α 10)) := rfl
theorem cF_9_1 : (cF_9 α S)[1]? = some (.int (S.1 8)) := rfl
theorem cF_9_2 : (cF_9 α S)[2]? = some (.ref (α 11)) := rfl
theorem cF_9_3 : (cF_9 α S)[3]? = some (.ref (α 12)) := rfl
theorem cF_9_4 : (cF_9 α S)[4]? = some (.ref (α 13)) := rfl
theorem cF_9_5 : (cF_9 α S)[5]? = some (.ref (α 14)) := rfl
theorem cF_9_6 : (cF_9 α S)[6]? = some (.int (S.1 10)) := rfl
theorem cF_15_0 : (cF_15 α S)[0]? = some (.ref (α 16)) := rfl
theorem cF_15_1 : (cF_15 α S)[1]? = some (.int (S.1 15)) := rfl
theorem cF_17_0 : (cF_17 α S)[0]? = some (.ref (α 3)) := rfl
theorem cF_17_1 : (cF_17 α S)[1]? = some (.ref (α 9)) := rfl
theorem cF_18_0 : (cF_18 α S)[0]? = some (.long (S.2.1 28)) := rfl
theorem cF_18_1 : (cF_18 α S)[1]? = some (.long (S.2.1 29)) := rfl
theorem cF_18_2 : (cF_18 α S)[2]? = some (.long (S.2.1 30)) := rfl
theorem cF_18_3 : (cF_18 α S)[3]? = some (.ref (α 19)) := rfl
theorem cF_20_0 : (cF_20 α S)[0]? = some (.ref (α 15)) := rfl
theorem cF_20_1 : (cF_20 α S)[1]? = some (.ref (α 18)) := rfl
theorem cF_20_2 : (cF_20 α S)[2]? = some (.long (S.2.1 31)) := rfl
theorem cF_20_3 : (cF_20 α S)[3]? = some (.int (S.1 32)) := rfl
theorem cF_21_0 : (cF_21 α S)[0]? = some (.ref (α 22)) := rfl
theorem cF_21_1 : (cF_21 α S)[1]? = some (.ref (α 23)) := rfl
theorem cF_21_2 : (cF_21 α S)[2]? = some (.ref (α 24)) := rfl
theorem cF_25_0 : (cF_25 α S)[0]? = some (.ref (α 26)) := rfl
theorem cF_25_1 : (cF_25 α S)[1]? = some (.int (S.1 37)) := rfl
theorem cU_2 {f : Nat → Int32} : va_up (cE G α S J n) 2 (.inl (G 0, 6, .inl f)) = cE G α (uA S 1 f) J n := (cJ_set (Nat.le_of_ble_eq_true rfl)).trans rfl
theorem cU_4 {f : Nat → Int32} : va_up (cE G α S J n) 4 (.inl (G 0, 60, .inl f)) = cE G α (uA S 3 f) J n := (cJ_set (Nat.le_of_ble_eq_true rfl)).trans rfl
theorem cU_5 {f : Nat → Int32} : va_up (cE G α S J n) 5 (.inl (G 0, 60, .inl f)) = cE G α (uA S 4 f) J n := (cJ_set (Nat.le_of_ble_eq_true rfl)).trans rfl
theorem cU_6 {f : Nat → Int32} : va_up (cE G α S J n) 6 (.inl (G 0, 60, .inl f)) = cE G α (uA S 5 f) J n := (cJ_set (Nat.le_of_ble_eq_true rfl)).trans rfl
theorem cU_7 {f : Nat → Int32} : va_up (cE G α S J n) 7 (.inl (G 0, 60, .inl f)) = cE G α (uA S 6 f) J n := (cJ_set (Nat.le_of_ble_eq_true rfl)).trans rfl
theorem cU_8 {f : Nat → Int32} : va_up (cE G α S J n) 8 (.inl (G 0, 21, .inl f)) = cE G α (uA S 7 f) J n := (cJ_set (Nat.le_of_ble_eq_true rfl)).trans rfl
theorem cU_10 {f : Nat → Int32} : va_up (cE G α S J n) 10 (.inl (G 0, 30, .inl f)) = cE G α (uA S 9 f) J n := (cJ_set (Nat.le_of_ble_eq_true rfl)).trans rfl
theorem cU_11 {f : Nat → Int32} : va_up (cE G α S J n) 11 (.inl (G 0, 90, .inl f)) = cE G α (uA S 11 f) J n := (cJ_set (Nat.le_of_ble_eq_true rfl)).trans rfl
theorem cU_12 {f : Nat → Int32} : va_up (cE G α S J n) 12 (.inl (G 0, 90, .inl f)) = cE G α (uA S 12 f) J n := (cJ_set (Nat.le_of_ble_eq_true rfl)).trans rfl
theorem cU_13 {f : Nat → Int32} : va_up (cE G α S J n) 13 (.inl (G 0, 90, .inl f)) = cE G α (uA S 13 f) J n := (cJ_set (Nat.le_of_ble_eq_true rfl)).trans rfl
theorem cU_14 {f : Nat → Int32} : va_up (cE G α S J n) 14 (.inl (G 0, 90, .inl f)) = cE G α (uA S 14 f) J n := (cJ_set (Nat.le_of_ble_eq_true rfl)).trans rfl
theorem cU_22 {f : Nat → Int32} : va_up (cE G α S J n) 22 (.inl (G 0, 21, .inl f)) = cE G α (uA S 34 f) J n := (cJ_set (Nat.le_of_ble_eq_true rfl)).trans rfl
theorem cU_23 {f : Nat → Int32} : va_up (cE G α S J n) 23 (.inl (G 0, 21, .inl f)) = cE G α (uA S 35 f) J n := (cJ_set (Nat.le_of_ble_eq_true rfl)).trans rfl
theorem cU_24 {f : Nat → Int32} : va_up (cE G α S J n) 24 (.inl (G 0, 21, .inl f)) = cE G α (uA S 36 f) J n := (cJ_set (Nat.le_of_ble_eq_true rfl)).trans rfl
theorem cU_26 {f : Nat → Int32} : va_up (cE G α S J n) 26 (.inl (G 0, 30, .inl f)) = cE G α (uA S 38 f) J n := (cJ_set (Nat.le_of_ble_eq_true rfl)).trans rfl
theorem cU_19 {f : Nat → Int64} : va_up (cE G α S J n) 19 (.inl (G 1, 10, .inr (.inl f))) = cE G α (uB S 33 f) J n := (cJ_set (Nat.le_of_ble_eq_true rfl)).trans rfl
theorem cO_0_10 {x : Int32} : va_up (cE G α S J n) 0 (.inr (10, (cF_0 α S).set 10 (.int x))) = cE G α (uI S 0 x) J n := (cJ_set (Nat.le_of_ble_eq_true rfl)).trans rfl
theorem cO_3_4 {x : Int32} : va_up (cE G α S J n) 3 (.inr (1, (cF_3 α S).set 4 (.int x))) = cE G α (uI S 2 x) J n := (cJ_set (Nat.le_of_ble_eq_true rfl)).trans rfl
theorem cO_9_1 {x : Int32} : va_up (cE G α S J n) 9 (.inr (0, (cF_9 α S).set 1 (.int x))) = cE G α (uI S 8 x) J n := (cJ_set (Nat.le_of_ble_eq_true rfl)).trans rfl
theorem cO_9_6 {x : Int32} : va_up (cE G α S J n) 9 (.inr (0, (cF_9 α S).set 6 (.int x))) = cE G α (uI S 10 x) J n := (cJ_set (Nat.le_of_ble_eq_true rfl)).trans rfl
theorem cO_15_1 {x : Int32} : va_up (cE G α S J n) 15 (.inr (3, (cF_15 α S).set 1 (.int x))) = cE G α (uI S 15 x) J n := (cJ_set (Nat.le_of_ble_eq_true rfl)).trans rfl
theorem cO_18_0 {x : Int64} : va_up (cE G α S J n) 18 (.inr (7, (cF_18 α S).set 0 (.long x))) = cE G α (uJ S 28 x) J n := (cJ_set (Nat.le_of_ble_eq_true rfl)).trans rfl
theorem cO_18_1 {x : Int64} : va_up (cE G α S J n) 18 (.inr (7, (cF_18 α S).set 1 (.long x))) = cE G α (uJ S 29 x) J n := (cJ_set (Nat.le_of_ble_eq_true rfl)).trans rfl
theorem cO_18_2 {x : Int64} : va_up (cE G α S J n) 18 (.inr (7, (cF_18 α S).set 2 (.long x))) = cE G α (uJ S 30 x) J n := (cJ_set (Nat.le_of_ble_eq_true rfl)).trans rfl
theorem cO_20_2 {x : Int64} : va_up (cE G α S J n) 20 (.inr (8, (cF_20 α S).set 2 (.long x))) = cE G α (uJ S 31 x) J n := (cJ_set (Nat.le_of_ble_eq_true rfl)).trans rfl
theorem cO_20_3 {x : Int32} : va_up (cE G α S J n) 20 (.inr (8, (cF_20 α S).set 3 (.int x))) = cE G α (uI S 32 x) J n := (cJ_set (Nat.le_of_ble_eq_true rfl)).trans rfl
theorem cO_25_1 {x : Int32} : va_up (cE G α S J n) 25 (.inr (9, (cF_25 α S).set 1 (.int x))) = cE G α (uI S 37 x) J n := (cJ_set (Nat.le_of_ble_eq_true rfl)).trans rfl
theorem cC_len : (cC G α S n).length = 27 := rfl
theorem cE_d {i : Nat} : cE G α S J n (27 + 3 * i) = .inr (2, cD α S J i) := by
  rw [cE, cJ_out (by rw [cC_len]; omega), cDp, if_neg (by omega), if_pos (by omega), show (27 + 3 * i - 27) / 3 = i by omega]
theorem cE_h {i : Nat} : cE G α S J n (28 + 3 * i) = .inl (G 0, 7, .inl (cHo S i)) := by
  rw [cE, cJ_out (by rw [cC_len]; omega), cDp, if_neg (by omega), if_neg (by omega), if_pos (by omega), show (28 + 3 * i - 27) / 3 = i by omega]
theorem cE_f {i : Nat} : cE G α S J n (29 + 3 * i) = .inl (G 0, 7, .inl (cFr S i)) := by
  rw [cE, cJ_out (by rw [cC_len]; omega), cDp, if_neg (by omega), if_neg (by omega), if_neg (by omega), show (29 + 3 * i - 27) / 3 = i by omega]
theorem cU_dep {S' J' : St} {i : Nat} {l : List Value} (hC : cC G α S' n = cC G α S n) (hi : cD α S' J' i = l) (ho : ∀ t, t ≠ i → cD α S' J' t = cD α S J t) (hh : ∀ t, cHo S' t = cHo S t) (hf : ∀ t, cFr S' t = cFr S t) : va_up (cE G α S J n) (27 + 3 * i) (.inr (2, l)) = cE G α S' J' n := by
  rw [cE, cJ_setD (by rw [cC_len]; omega), cE, hC]
  congr 1
  funext k
  by_cases hk : k = 27 + 3 * i
  · subst hk
    rw [va_up_self, cDp, if_neg (by omega), if_pos (by omega), show (27 + 3 * i - 27) / 3 = i by omega, hi]
  · rw [va_up_ne _ _ hk, cDp, cDp]
    by_cases h9 : k < 27
    · rw [if_pos h9, if_pos h9]
    · rw [if_neg h9, if_neg h9]
      by_cases h0 : (k - 27) % 3 = 0
      · rw [if_pos h0, if_pos h0, ho _ (by omega)]
      · rw [if_neg h0, if_neg h0, hh, hf]
theorem cU_hold {i : Nat} {f : Nat → Int32} {j : Nat} {x : Int32} (hj : j < 7) (hf : f = cHo S i) : va_up (cE G α S J n) (28 + 3 * i) (.inl (G 0, 7, .inl (upd f j x))) = cE G α (uA S 27 (upd (S.2.2.1 27) (7 * i + j) x)) J n := by
  subst hf
  rw [cE, cJ_setD (by rw [cC_len]; omega), cE]
  show cJ (cC G α S n) _ = cJ (cC G α S n) _
  congr 1
  funext k
  by_cases hk : k = 28 + 3 * i
  · subst hk
    rw [va_up_self, cDp, if_neg (by omega), if_neg (by omega), if_pos (by omega), show (28 + 3 * i - 27) / 3 = i by omega]
    congr 4
    funext q
    simp only [cHo, uA, upd, va_up]
    by_cases hq : q = j
    · subst hq; simp [hj, upd]
    · by_cases h7 : q < 7
      · simp [hq, h7, upd]
      · simp [hq, h7, upd]
  · rw [va_up_ne _ _ hk, cDp, cDp]
    by_cases h9 : k < 27
    · rw [if_pos h9, if_pos h9]
    · rw [if_neg h9, if_neg h9]
      by_cases h0 : (k - 27) % 3 = 0
      · rw [if_pos h0, if_pos h0]; rfl
      · rw [if_neg h0, if_neg h0]
        by_cases h1 : (k - 27) % 3 = 1
        · rw [if_pos h1, if_pos h1]
          congr 4
          funext q
          simp only [cHo, uA, upd, va_up]
          by_cases h7 : q < 7
          · have h8 : ¬ (7 * ((k - 27) / 3) + q = 7 * i + j) := by omega
            simp [h7, h8, upd]
          · simp [h7]
        · rw [if_neg h1, if_neg h1]; rfl
theorem cU_from {i : Nat} {f : Nat → Int32} {j : Nat} {x : Int32} (hj : j < 7) (hf : f = cFr S i) : va_up (cE G α S J n) (29 + 3 * i) (.inl (G 0, 7, .inl (upd f j x))) = cE G α (uA S 26 (upd (S.2.2.1 26) (7 * i + j) x)) J n := by
  subst hf
  rw [cE, cJ_setD (by rw [cC_len]; omega), cE]
  show cJ (cC G α S n) _ = cJ (cC G α S n) _
  congr 1
  funext k
  by_cases hk : k = 29 + 3 * i
  · subst hk
    rw [va_up_self, cDp, if_neg (by omega), if_neg (by omega), if_neg (by omega), show (29 + 3 * i - 27) / 3 = i by omega]
    congr 4
    funext q
    simp only [cFr, uA, upd, va_up]
    by_cases hq : q = j
    · subst hq; simp [hj, upd]
    · by_cases h7 : q < 7
      · simp [hq, h7, upd]
      · simp [hq, h7, upd]
  · rw [va_up_ne _ _ hk, cDp, cDp]
    by_cases h9 : k < 27
    · rw [if_pos h9, if_pos h9]
    · rw [if_neg h9, if_neg h9]
      by_cases h0 : (k - 27) % 3 = 0
      · rw [if_pos h0, if_pos h0]; rfl
      · rw [if_neg h0, if_neg h0]
        by_cases h1 : (k - 27) % 3 = 1
        · rw [if_pos h1, if_pos h1]; rfl
        · rw [if_neg h1, if_neg h1]
          congr 4
          funext q
          simp only [cFr, uA, upd, va_up]
          by_cases h7 : q < 7
          · have h8 : ¬ (7 * ((k - 27) / 3) + q = 7 * i + j) := by omega
            simp [h7, h8, upd]
          · simp [h7]
theorem cV_sum {i : Nat} {x : Int32} : va_up (cE G α S J n) (27 + 3 * i) (.inr (2, (cD α S J i).set 4 (.int x))) = cE G α (uA S 19 (upd (S.2.2.1 19) i x)) (J) n := by
  refine cU_dep rfl ?_ (fun t ht => ?_) (fun t => rfl) (fun t => rfl)
  · simp [cD, uA, uB, va_up, upd, vp_updL]
  · simp [cD, uA, uB, va_up, upd, vp_updL, ht]
theorem cV_dowry {i : Nat} {x : Int64} : va_up (cE G α S J n) (27 + 3 * i) (.inr (2, (cD α S J i).set 5 (.long x))) = cE G α (uB S 20 (vp_updL (S.2.2.2 20) i x)) (J) n := by
  refine cU_dep rfl ?_ (fun t ht => ?_) (fun t => rfl) (fun t => rfl)
  · simp [cD, uA, uB, va_up, upd, vp_updL]
  · simp [cD, uA, uB, va_up, upd, vp_updL, ht]
theorem cV_end {i : Nat} {x : Int32} : va_up (cE G α S J n) (27 + 3 * i) (.inr (2, (cD α S J i).set 6 (.int x))) = cE G α (uA S 21 (upd (S.2.2.1 21) i x)) (J) n := by
  refine cU_dep rfl ?_ (fun t ht => ?_) (fun t => rfl) (fun t => rfl)
  · simp [cD, uA, uB, va_up, upd, vp_updL]
  · simp [cD, uA, uB, va_up, upd, vp_updL, ht]
theorem cV_last {i : Nat} {x : Int32} : va_up (cE G α S J n) (27 + 3 * i) (.inr (2, (cD α S J i).set 9 (.int x))) = cE G α (uA S 25 (upd (S.2.2.1 25) i (x + 1))) (J) n := by
  refine cU_dep rfl ?_ (fun t ht => ?_) (fun t => rfl) (fun t => rfl)
  · simp [cD, uA, uB, va_up, upd, vp_updL, Int32.add_sub_cancel]
  · simp [cD, uA, uB, va_up, upd, vp_updL, ht]
theorem cV_received {i : Nat} {x : Int64} : va_up (cE G α S J n) (27 + 3 * i) (.inr (2, (cD α S J i).set 10 (.long x))) = cE G α (uB S 23 (vp_updL (S.2.2.2 23) i x)) (J) n := by
  refine cU_dep rfl ?_ (fun t ht => ?_) (fun t => rfl) (fun t => rfl)
  · simp [cD, uA, uB, va_up, upd, vp_updL]
  · simp [cD, uA, uB, va_up, upd, vp_updL, ht]
theorem cV_paidOut {i : Nat} {x : Int32} : va_up (cE G α S J n) (27 + 3 * i) (.inr (2, (cD α S J i).set 11 (.int x))) = cE G α (uA S 24 (upd (S.2.2.1 24) i x)) (J) n := by
  refine cU_dep rfl ?_ (fun t ht => ?_) (fun t => rfl) (fun t => rfl)
  · simp [cD, uA, uB, va_up, upd, vp_updL]
  · simp [cD, uA, uB, va_up, upd, vp_updL, ht]
theorem cV_dueMonth {i : Nat} {x : Int32} : va_up (cE G α S J n) (27 + 3 * i) (.inr (2, (cD α S J i).set 12 (.int x))) = cE G α (S) (uA J 1 (upd (J.2.2.1 1) i x)) n := by
  refine cU_dep rfl ?_ (fun t ht => ?_) (fun t => rfl) (fun t => rfl)
  · simp [cD, uA, uB, va_up, upd, vp_updL]
  · simp [cD, uA, uB, va_up, upd, vp_updL, ht]
theorem cV_dueSum {i : Nat} {x : Int64} : va_up (cE G α S J n) (27 + 3 * i) (.inr (2, (cD α S J i).set 13 (.long x))) = cE G α (S) (uB J 0 (vp_updL (J.2.2.2 0) i x)) n := by
  refine cU_dep rfl ?_ (fun t ht => ?_) (fun t => rfl) (fun t => rfl)
  · simp [cD, uA, uB, va_up, upd, vp_updL]
  · simp [cD, uA, uB, va_up, upd, vp_updL, ht]
theorem cV_onRoll {i : Nat} {x : Int32} : va_up (cE G α S J n) (27 + 3 * i) (.inr (2, (cD α S J i).set 14 (.int x))) = cE G α (S) (uA J 2 (upd (J.2.2.1 2) i x)) n := by
  refine cU_dep rfl ?_ (fun t ht => ?_) (fun t => rfl) (fun t => rfl)
  · simp [cD, uA, uB, va_up, upd, vp_updL]
  · simp [cD, uA, uB, va_up, upd, vp_updL, ht]
theorem cV_owed {i : Nat} {x : Int64} : va_up (cE G α S J n) (27 + 3 * i) (.inr (2, (cD α S J i).set 15 (.long x))) = cE G α (S) (uB J 1 (vp_updL (J.2.2.2 1) i x)) n := by
  refine cU_dep rfl ?_ (fun t ht => ?_) (fun t => rfl) (fun t => rfl)
  · simp [cD, uA, uB, va_up, upd, vp_updL]
  · simp [cD, uA, uB, va_up, upd, vp_updL, ht]
theorem cD_0 {i : Nat} : (cD α S J i)[0]? = some (.int (S.2.2.1 16 i)) := rfl
theorem cD_1 {i : Nat} : (cD α S J i)[1]? = some (.int (S.2.2.1 17 i)) := rfl
theorem cD_2 {i : Nat} : (cD α S J i)[2]? = some (.int (J.2.2.1 0 i)) := rfl
theorem cD_3 {i : Nat} : (cD α S J i)[3]? = some (.int (S.2.2.1 22 i)) := rfl
theorem cD_4 {i : Nat} : (cD α S J i)[4]? = some (.int (S.2.2.1 19 i)) := rfl
theorem cD_5 {i : Nat} : (cD α S J i)[5]? = some (.long (S.2.2.2 20 i)) := rfl
theorem cD_6 {i : Nat} : (cD α S J i)[6]? = some (.int (S.2.2.1 21 i)) := rfl
theorem cD_7 {i : Nat} : (cD α S J i)[7]? = some (.ref (α (28 + 3 * i))) := rfl
theorem cD_8 {i : Nat} : (cD α S J i)[8]? = some (.ref (α (29 + 3 * i))) := rfl
theorem cD_9 {i : Nat} : (cD α S J i)[9]? = some (.int (S.2.2.1 25 i - 1)) := rfl
theorem cD_10 {i : Nat} : (cD α S J i)[10]? = some (.long (S.2.2.2 23 i)) := rfl
theorem cD_11 {i : Nat} : (cD α S J i)[11]? = some (.int (S.2.2.1 24 i)) := rfl
theorem cD_12 {i : Nat} : (cD α S J i)[12]? = some (.int (J.2.2.1 1 i)) := rfl
theorem cD_13 {i : Nat} : (cD α S J i)[13]? = some (.long (J.2.2.2 0 i)) := rfl
theorem cD_14 {i : Nat} : (cD α S J i)[14]? = some (.int (J.2.2.1 2 i)) := rfl
theorem cD_15 {i : Nat} : (cD α S J i)[15]? = some (.long (J.2.2.2 1 i)) := rfl
end CST
