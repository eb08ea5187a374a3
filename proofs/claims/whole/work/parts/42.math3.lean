/-! ===== the class's month is the reference's ===== -/
def sumB (f : Nat → Int64) : Nat → Int64
  | 0 => 0
  | k + 1 => sumB f k + f k
theorem sumB_c {f g : Nat → Int64} : ∀ n, (∀ j, j < n → f j = g j) → sumB f n = sumB g n
  | 0, _ => rfl
  | n + 1, h => by rw [sumB, sumB, sumB_c n (fun j hj => h j (by omega)), h n (by omega)]
theorem i6_as {a b c : Int64} : a + (b - c) = a + b - c := by
  rw [Int64.sub_eq_add_neg, Int64.sub_eq_add_neg, Int64.add_assoc]
theorem i6_sa {a b c : Int64} : a - c + b = a + b - c := by
  rw [Int64.sub_eq_add_neg, Int64.sub_eq_add_neg, Int64.add_assoc, Int64.add_assoc, Int64.add_comm (-c)]
theorem sumB_pay {f : Nat → Int64} {i : Nat} {v : Int64} : ∀ n, i < n → sumB (vp_updL f i (f i - v)) n = sumB f n - v
  | 0, h => by omega
  | n + 1, h => by
    rw [sumB, sumB]
    by_cases hi : i = n
    · subst hi
      rw [sumB_c (g := f) i (fun j hj => updL_ne (by omega)), updL_self, i6_as]
    · rw [sumB_pay n (by omega), updL_ne (by omega), i6_sa]
theorem va_up_id {β : Type} {f : Nat → β} {k : Nat} {x : β} (h : x = f k) : va_up f k x = f := by
  subst h
  funext j
  simp only [va_up]
  split
  · rename_i h; rw [h]
  · rfl
theorem updL_id {f : Nat → Int64} {k : Nat} {x : Int64} (h : x = f k) : vp_updL f k x = f := by
  subst h
  funext j
  simp only [vp_updL]
  split
  · rename_i h; rw [h]
  · rfl
theorem upd_id {f : Nat → Int32} {k : Nat} {x : Int32} (h : x = f k) : upd f k x = f := by
  subst h
  funext j
  simp only [upd]
  split
  · rename_i h; rw [h]
  · rfl
theorem sPay_0 (S : St) (i : Nat) : sPay S i 0 = S := by
  unfold sPay
  rw [updL_id (Int64.add_zero _), updL_id (f := S.2.2.2 40) (Int64.sub_zero _), updL_id (f := S.2.2.2 33) (Int64.add_zero _), Int64.sub_zero, Int64.add_zero]
  unfold uB uJ
  dsimp only
  rw [va_up_id (f := S.2.2.2) rfl, va_up_id (f := S.2.2.2) rfl, va_up_id (f := S.2.1) rfl, va_up_id (f := S.2.1) rfl, va_up_id (f := S.2.2.2) rfl]
/-- the reference's state Q and the class's C, K while a month is paid -/
def rel (n : Nat) (Q C K : St) : Prop := C.1 = Q.1 ∧ (∀ j, j ≠ 31 → C.2.1 j = Q.2.1 j) ∧ (∀ j, j ≠ 39 → C.2.2.1 j = Q.2.2.1 j) ∧ (∀ j, j ≠ 40 → C.2.2.2 j = Q.2.2.2 j) ∧ (∀ i, i < n → K.2.2.1 2 i = Q.2.2.1 39 i ∧ K.2.2.2 1 i = (if Q.2.2.1 39 i = 0 then 0 else Q.2.2.2 40 i)) ∧ C.2.1 31 = sumB (K.2.2.2 1) n
theorem pay_rel {n i : Nat} {Q C K : St} {v : Int64} (h : rel n Q C K) (hi : i < n) (hr : ¬ Q.2.2.1 39 i = 0) : rel n (sPay Q i v) (uJ (sPay C i v) 31 (C.2.1 31 - v)) (uB K 1 (vp_updL (K.2.2.2 1) i (K.2.2.2 1 i - v))) := by
  obtain ⟨h1, h2, h3, h4, h5, h6⟩ := h
  have hh : sHold C i (C.1 0) = sHold Q i (Q.1 0) := by rw [h1]; exact sHold_c (h3 25 (by decide)) (h3 26 (by decide)) (h3 27 (by decide)) i _
  refine ⟨h1, fun j hj => ?_, h3, fun j hj => ?_, fun j hj => ?_, ?_⟩
  · have a := h2 28 (by decide)
    have b := h2 30 (by decide)
    have c := h2 j hj
    simp only [sPay, uB, uJ, va_up, hj, if_false, a, b, c]
  · have a := h4 23 (by decide)
    have b := h4 33 (by decide)
    have c := h4 j hj
    simp only [sPay, uB, uJ, hh]
    by_cases j33 : j = 33
    · subst j33
      show vp_updL _ _ _ = vp_updL _ _ _
      show vp_updL (C.2.2.2 33) _ (C.2.2.2 33 _ + v) = vp_updL (Q.2.2.2 33) _ (Q.2.2.2 33 _ + v)
      rw [b]
    · by_cases j23 : j = 23
      · subst j23
        show vp_updL (C.2.2.2 23) _ (C.2.2.2 23 _ + v) = vp_updL (Q.2.2.2 23) _ (Q.2.2.2 23 _ + v)
        rw [a]
      · simp only [va_up, j33, j23, hj, if_false, c]
  · obtain ⟨a, b⟩ := h5 j hj
    refine ⟨a, ?_⟩
    show vp_updL (K.2.2.2 1) i (K.2.2.2 1 i - v) j = if Q.2.2.1 39 j = 0 then 0 else vp_updL (Q.2.2.2 40) i (Q.2.2.2 40 i - v) j
    by_cases hji : j = i
    · subst hji
      rw [updL_self, updL_self, if_neg hr, b, if_neg hr]
    · rw [updL_ne hji, updL_ne hji]
      exact b
  · show C.2.1 31 - v = sumB (vp_updL (K.2.2.2 1) i (K.2.2.2 1 i - v)) n
    rw [sumB_pay n hi, h6]
/-- one is paid: the class's answer, by what the most is -/
theorem pt_rel {n i : Nat} {Q C K : St} {most v : Int64} (h : rel n Q C K) (hi : i < n) (hv : ¬ Q.2.2.1 39 i = 0 → cV K i most = v) : rel n (if Q.2.2.1 39 i = 0 then Q else sPay Q i v) (ptS C K i most) (ptJ K i most) := by
  have hk := (h.2.2.2.2.1 i hi).1
  rw [ptS, ptJ, hk]
  by_cases hr : Q.2.2.1 39 i = 0
  · rw [if_pos hr, if_pos hr, if_pos hr]; exact h
  · rw [if_neg hr, if_neg hr, if_neg hr, hv hr]
    exact pay_rel h hi hr
theorem pw_rel {n : Nat} {T C K : St} {has all : Int64} (h : rel n T C K) : ∀ k, k ≤ n → rel n (p2 T 1 has all k) (pw C K k).1 (pw C K k).2
  | 0, _ => h
  | k + 1, hk => by
    have h1 := pw_rel (has := has) (all := all) h k (by omega)
    have h2 := pt_rel (most := (pw C K k).2.2.2.2 1 k) (v := (p2 T 1 has all k).2.2.2 40 k) h1 (show k < n by omega) (fun hr => by
      have h3 := (h1.2.2.2.2.1 k (by omega)).2
      rw [if_neg hr] at h3
      rw [cV, ← h3]
      split <;> rfl)
    rw [p2, pw]
    exact h2
theorem psh_rel {n : Nat} {T C K : St} {has all : Int64} (h : rel n T C K) (hI : mI n T) (h0 : 0 ≤ has.toInt ∧ has.toInt ≤ 1000000000) (hl : has.toInt < all.toInt) : ∀ k, k ≤ n → rel n (p2 T 0 has all k) (psh C K has all k).1 (psh C K has all k).2
  | 0, _ => h
  | k + 1, hk => by
    have h1 := psh_rel h hI h0 hl k (by omega)
    have h2 := pt_rel (most := (psh C K has all k).2.2.2.2 1 k * has / all) (v := (p2 T 0 has all k).2.2.2 40 k * has / all) h1 (show k < n by omega) (fun hr => by
      have h3 := (h1.2.2.2.2.1 k (by omega)).2
      rw [if_neg hr] at h3
      have h4 := hI.2 k (by omega)
      rw [(p2_c T 0 has all k).2] at hr
      have h5 := h4.2 hr
      have h6 := h4.1
      have h7 := sh_b (x := T.2.2.2 40 k) (has := has) (all := all) (by omega) h0 hl
      rw [p2_late k k (Nat.le_refl _)] at h3 ⊢
      rw [cV, h3, if_neg (by rw [i6l]; omega)])
    rw [p2, psh]
    exact h2
theorem plo_rel {n : Nat} {T C K : St} (h : rel n T C K) (hI : mI n T) : ∀ k, k ≤ n → rel n (p3 T k) (plo C K k).1 (plo C K k).2
  | 0, _ => h
  | k + 1, hk => by
    have h1 := plo_rel h hI k (by omega)
    have h28 := h1.2.1 28 (by decide)
    have hm := (p3_I hI k (by omega)).2 k (by omega)
    have h3 := (h1.2.2.2.2.1 k (by omega)).2
    rw [p3, plo, h28]
    by_cases hr : (p3 T k).2.2.1 39 k = 0
    · rw [if_pos hr]
      by_cases h9 : (p3 T k).2.1 28 ≤ 0
      · rw [if_pos h9]; exact h1
      · rw [if_neg h9]
        have h2 := pt_rel (most := 1) (v := 0) h1 (show k < n by omega) (fun h8 => absurd hr h8)
        rw [if_pos hr] at h2
        exact h2
    · rw [if_neg hr]
      rw [if_neg hr] at h3
      have hb := (hm.2 hr).1
      by_cases h9 : (p3 T k).2.1 28 ≤ 0
      · simp only [if_pos h9, ite_self]
        exact h1
      · simp only [if_neg h9]
        by_cases h8 : (p3 T k).2.2.2 40 k ≤ 0
        · rw [if_pos h8]
          have h2 := pt_rel (most := 1) (v := 0) h1 (show k < n by omega) (fun _ => by
            rw [cV, h3, if_pos (by rw [i6e, zj_0] at h8; rw [i6l, zj_1]; omega)]
            rw [i6e, zj_0] at h8
            rw [i6q, zj_0]
            omega)
          rw [if_neg hr, sPay_0] at h2
          exact h2
        · rw [if_neg h8]
          have h2 := pt_rel (most := 1) (v := 1) h1 (show k < n by omega) (fun _ => by
            rw [cV, h3, if_neg (by rw [i6e, zj_0] at h8; rw [i6l, zj_1]; omega)])
          rw [if_neg hr] at h2
          exact h2
theorem cls_rel {n : Nat} {T C K : St} (h : rel n T C K) (h24 : ∀ i, i < n → ¬ T.2.2.1 39 i = 0 → T.2.2.1 24 i = 0) : ∀ k, k ≤ n → (cls C K k).1 = T.1 ∧ (cls C K k).2.1 = C.2.1 ∧ (∀ j, j ≠ 39 → (cls C K k).2.2.1 j = (p4 (uJ T 31 0) k).2.2.1 j) ∧ (cls C K k).2.2.2 = C.2.2.2 ∧ (p4 (uJ T 31 0) k).2.1 31 = sumB (K.2.2.2 1) k
  | 0, _ => ⟨h.1, rfl, fun j hj => h.2.2.1 j hj, rfl, rfl⟩
  | k + 1, hk => by
    obtain ⟨h1, h2, h3, h4, h5⟩ := cls_rel h h24 k (by omega)
    have hp := p4_k (uJ T 31 0) k
    obtain ⟨ka, kb⟩ := h.2.2.2.2.1 k (by omega)
    have e39 : (p4 (uJ T 31 0) k).2.2.1 39 k = T.2.2.1 39 k := by rw [hp.2.2.1 39 (by decide)]; rfl
    have e40 : (p4 (uJ T 31 0) k).2.2.2 40 k = T.2.2.2 40 k := by rw [hp.2.2.2.1]; rfl
    have e24 : (p4 (uJ T 31 0) k).2.2.1 24 k = T.2.2.1 24 k := hp.2.2.2.2.1 k (Nat.le_refl _)
    rw [cls, p4, sumB, ka, kb, e39, e40]
    by_cases hr : T.2.2.1 39 k = 0
    · rw [if_pos hr, if_pos hr, if_pos hr]
      exact ⟨h1, h2, h3, h4, by rw [Int64.add_zero]; exact h5⟩
    · rw [if_neg hr, if_neg hr, if_neg hr]
      have e31 : (uJ (uA (p4 (uJ T 31 0) k) 24 (upd ((p4 (uJ T 31 0) k).2.2.1 24) k (if T.2.2.2 40 k = 0 then 1 else 0))) 31 ((p4 (uJ T 31 0) k).2.1 31 + T.2.2.2 40 k)).2.1 31 = sumB (K.2.2.2 1) k + T.2.2.2 40 k := by
        rw [← h5]; rfl
      by_cases hz : T.2.2.2 40 k = 0
      · rw [if_pos hz, if_pos hz]
        rw [if_pos hz] at e31
        refine ⟨h1, h2, fun j hj => ?_, h4, e31⟩
        have a := h3 j hj
        have b := h3 24 (by decide)
        simp only [uA, uJ, va_up, a, b]
      · rw [if_neg hz, if_neg hz]
        rw [if_neg hz] at e31
        refine ⟨h1, h2, fun j hj => ?_, h4, e31⟩
        have a := h3 j hj
        rw [upd_id (by rw [e24, h24 k (by omega) hr])]
        rw [a]
        by_cases hj4 : j = 24
        · subst hj4; rfl
        · simp only [uA, uJ, va_up, hj4, if_false]
/-- what the class has learnt says who comes to the roll, and with what -/
def lrd (S J : St) (n : Nat) : Prop := ∀ k, k < n → sRoll S k = if S.2.2.1 24 k = 0 ∧ J.2.2.1 1 k ≤ S.1 0 then some (if J.2.2.2 0 k - S.2.2.2 23 k < 0 then 0 else J.2.2.2 0 k - S.2.2.2 23 k) else none
theorem cl1_J (S J : St) (mo : Int32) : ∀ k, (∀ j, j ≠ 2 → (cl1 S J mo k).2.2.2.1 j = J.2.2.1 j) ∧ (∀ j, j ≠ 1 → (cl1 S J mo k).2.2.2.2 j = J.2.2.2 j)
  | 0 => ⟨fun _ _ => rfl, fun _ _ => rfl⟩
  | k + 1 => by
    obtain ⟨h1, h2⟩ := cl1_J S J mo k
    refine ⟨fun j hj => ?_, fun j hj => ?_⟩
    · rw [← h1 j hj, cl1, cJ2]
      dsimp only
      split
      · simp only [uA, uB, va_up, hj, if_false]
      · simp only [uA, uB, va_up, hj, if_false]
    · rw [← h2 j hj, cl1, cJ2]
      dsimp only
      split
      · simp only [uA, uB, va_up, hj, if_false]
      · simp only [uA, uB, va_up, hj, if_false]
theorem cl1_rel {n : Nat} {S J : St} (hL : lrd S J n) : ∀ k, k ≤ n → rel k (r1 S k).1 (cl1 S J (S.1 0) k).1 (cl1 S J (S.1 0) k).2 ∧ (cl1 S J (S.1 0) k).1.2.1 31 = (r1 S k).2
  | 0, _ => ⟨⟨rfl, fun j hj => by show va_up S.2.1 31 0 j = S.2.1 j; rw [va_up_ne _ _ hj], fun _ _ => rfl, fun _ _ => rfl, fun i hi => by omega, rfl⟩, rfl⟩
  | k + 1, hk => by
    obtain ⟨⟨h1, h2, h3, h4, h5, h6⟩, h7⟩ := cl1_rel hL k (by omega)
    have hl := hL k (by omega)
    have hc := cl1_c S J (S.1 0) k
    have hj := cl1_J S J (S.1 0) k
    have hon : onR (cl1 S J (S.1 0) k).1 (cl1 S J (S.1 0) k).2 k (S.1 0) ↔ (S.2.2.1 24 k = 0 ∧ J.2.2.1 1 k ≤ S.1 0) := by
      rw [onR, hc.2.1, hj.1 1 (by decide)]
    have how : oweC (cl1 S J (S.1 0) k).1 (cl1 S J (S.1 0) k).2 k = if J.2.2.2 0 k - S.2.2.2 23 k < 0 then 0 else J.2.2.2 0 k - S.2.2.2 23 k := by
      rw [oweC, hc.2.2, hj.2 0 (by decide)]
    by_cases hr : S.2.2.1 24 k = 0 ∧ J.2.2.1 1 k ≤ S.1 0
    · rw [if_pos hr] at hl
      have ej : cJ2 (cl1 S J (S.1 0) k).1 (cl1 S J (S.1 0) k).2 k (S.1 0) = uB (uA (cl1 S J (S.1 0) k).2 2 (upd ((cl1 S J (S.1 0) k).2.2.2.1 2) k 1)) 1 (vp_updL ((cl1 S J (S.1 0) k).2.2.2.2 1) k (if J.2.2.2 0 k - S.2.2.2 23 k < 0 then 0 else J.2.2.2 0 k - S.2.2.2 23 k)) := by
        rw [cJ2, if_pos (hon.mpr hr), how]
      generalize (if J.2.2.2 0 k - S.2.2.2 23 k < 0 then (0 : Int64) else J.2.2.2 0 k - S.2.2.2 23 k) = v at hl ej
      rw [cl1, ej, r1, hl]
      dsimp only
      have eb : (uB (uA (cl1 S J (S.1 0) k).2 2 (upd ((cl1 S J (S.1 0) k).2.2.2.1 2) k 1)) 1 (vp_updL ((cl1 S J (S.1 0) k).2.2.2.2 1) k v)).2.2.2 1 k = v := updL_self
      have ea : (uB (uA (cl1 S J (S.1 0) k).2 2 (upd ((cl1 S J (S.1 0) k).2.2.2.1 2) k 1)) 1 (vp_updL ((cl1 S J (S.1 0) k).2.2.2.2 1) k v)).2.2.1 2 k = 1 := upd_self
      rw [eb, ea, if_neg (by decide)]
      refine ⟨⟨?_, fun j hj => ?_, fun j hj => ?_, fun j hj => ?_, fun i hi => ?_, ?_⟩, ?_⟩
      · show va_up (cl1 S J (S.1 0) k).1.1 32 _ = va_up (r1 S k).1.1 32 _
        rw [h1]
      · show va_up (cl1 S J (S.1 0) k).1.2.1 31 _ j = _
        rw [va_up_ne _ _ hj]; exact h2 j hj
      · show (cl1 S J (S.1 0) k).1.2.2.1 j = va_up (r1 S k).1.2.2.1 39 _ j
        rw [va_up_ne _ _ hj]; exact h3 j hj
      · show (cl1 S J (S.1 0) k).1.2.2.2 j = va_up (r1 S k).1.2.2.2 40 _ j
        rw [va_up_ne _ _ hj]; exact h4 j hj
      · show upd ((cl1 S J (S.1 0) k).2.2.2.1 2) k 1 i = upd ((r1 S k).1.2.2.1 39) k 1 i ∧ vp_updL ((cl1 S J (S.1 0) k).2.2.2.2 1) k v i = if upd ((r1 S k).1.2.2.1 39) k 1 i = 0 then 0 else vp_updL ((r1 S k).1.2.2.2 40) k v i
        by_cases hik : i = k
        · subst hik
          rw [upd_self, upd_self, updL_self, updL_self, if_neg (by decide)]
          exact ⟨rfl, rfl⟩
        · rw [upd_ne hik, upd_ne hik, updL_ne hik, updL_ne hik]
          exact h5 i (by omega)
      · show (cl1 S J (S.1 0) k).1.2.1 31 + v = sumB (vp_updL ((cl1 S J (S.1 0) k).2.2.2.2 1) k v) k + vp_updL ((cl1 S J (S.1 0) k).2.2.2.2 1) k v k
        rw [updL_self, sumB_c (g := (cl1 S J (S.1 0) k).2.2.2.2 1) k (fun j hj => updL_ne (by omega)), h6]
      · show (cl1 S J (S.1 0) k).1.2.1 31 + v = (r1 S k).2 + v
        rw [h7]
    · rw [if_neg hr] at hl
      have ej : cJ2 (cl1 S J (S.1 0) k).1 (cl1 S J (S.1 0) k).2 k (S.1 0) = uB (uA (cl1 S J (S.1 0) k).2 2 (upd ((cl1 S J (S.1 0) k).2.2.2.1 2) k 0)) 1 (vp_updL ((cl1 S J (S.1 0) k).2.2.2.2 1) k 0) := by
        rw [cJ2, if_neg (fun h => hr (hon.mp h))]
      rw [cl1, ej, r1, hl]
      dsimp only
      have eb : (uB (uA (cl1 S J (S.1 0) k).2 2 (upd ((cl1 S J (S.1 0) k).2.2.2.1 2) k 0)) 1 (vp_updL ((cl1 S J (S.1 0) k).2.2.2.2 1) k 0)).2.2.2 1 k = 0 := updL_self
      have ea : (uB (uA (cl1 S J (S.1 0) k).2 2 (upd ((cl1 S J (S.1 0) k).2.2.2.1 2) k 0)) 1 (vp_updL ((cl1 S J (S.1 0) k).2.2.2.2 1) k 0)).2.2.1 2 k = 0 := upd_self
      rw [eb, ea, if_pos rfl]
      refine ⟨⟨?_, fun j hj => ?_, fun j hj => ?_, fun j hj => ?_, fun i hi => ?_, ?_⟩, ?_⟩
      · show va_up (cl1 S J (S.1 0) k).1.1 32 _ = (r1 S k).1.1
        rw [va_up_id (Int32.add_zero _), h1]
      · show va_up (cl1 S J (S.1 0) k).1.2.1 31 _ j = _
        rw [va_up_ne _ _ hj]; exact h2 j hj
      · show (cl1 S J (S.1 0) k).1.2.2.1 j = va_up (r1 S k).1.2.2.1 39 _ j
        rw [va_up_ne _ _ hj]; exact h3 j hj
      · exact h4 j hj
      · show upd ((cl1 S J (S.1 0) k).2.2.2.1 2) k 0 i = upd ((r1 S k).1.2.2.1 39) k 0 i ∧ vp_updL ((cl1 S J (S.1 0) k).2.2.2.2 1) k 0 i = if upd ((r1 S k).1.2.2.1 39) k 0 i = 0 then 0 else (r1 S k).1.2.2.2 40 i
        by_cases hik : i = k
        · subst hik
          rw [upd_self, upd_self, updL_self, if_pos rfl]
          exact ⟨rfl, rfl⟩
        · rw [upd_ne hik, upd_ne hik, updL_ne hik]
          exact h5 i (by omega)
      · show (cl1 S J (S.1 0) k).1.2.1 31 + 0 = sumB (vp_updL ((cl1 S J (S.1 0) k).2.2.2.2 1) k 0) k + vp_updL ((cl1 S J (S.1 0) k).2.2.2.2 1) k 0 k
        rw [updL_self, sumB_c (g := (cl1 S J (S.1 0) k).2.2.2.2 1) k (fun j hj => updL_ne (by omega)), h6]
      · show (cl1 S J (S.1 0) k).1.2.1 31 + 0 = (r1 S k).2
        rw [h7, Int64.add_zero]
/-- what a class's row of deposits keeps while a month is paid -/
def keepJ (J K : St) : Prop := K.2.2.1 0 = J.2.2.1 0 ∧ K.2.2.1 1 = J.2.2.1 1 ∧ K.2.2.2 0 = J.2.2.2 0
theorem ptJ_k {J K : St} {i : Nat} {most : Int64} (h : keepJ J K) : keepJ J (ptJ K i most) := by
  rw [ptJ]
  split
  · exact h
  · exact ⟨h.1, h.2.1, h.2.2⟩
theorem pw_k {C J K : St} (h : keepJ J K) : ∀ k, keepJ J (pw C K k).2
  | 0 => h
  | k + 1 => ptJ_k (pw_k h k)
theorem psh_k {C J K : St} {has al : Int64} (h : keepJ J K) : ∀ k, keepJ J (psh C K has al k).2
  | 0 => h
  | k + 1 => ptJ_k (psh_k h k)
theorem plo_k {C J K : St} (h : keepJ J K) : ∀ k, keepJ J (plo C K k).2
  | 0 => h
  | k + 1 => by
    have h1 := plo_k (C := C) h k
    rw [plo]
    split
    · exact h1
    · exact ptJ_k h1
theorem cl1_k (S J : St) (mo : Int32) (k : Nat) : keepJ J (cl1 S J mo k).2 := ⟨(cl1_J S J mo k).1 0 (by decide), (cl1_J S J mo k).1 1 (by decide), (cl1_J S J mo k).2 0 (by decide)⟩
theorem cGo_eq {n : Nat} {S J : St} (hD : okD S) (hP : okP S) (hM : okM S) (hn : nOf S 15 = n) (h30 : n ≤ 30) (hL : lrd S J n) : ((cGo S J (S.1 0) n).1.1 = (sPaid S).1 ∧ (cGo S J (S.1 0) n).1.2.1 = (sPaid S).2.1 ∧ (∀ j, j ≠ 39 → (cGo S J (S.1 0) n).1.2.2.1 j = (sPaid S).2.2.1 j) ∧ (∀ j, j ≠ 40 → (cGo S J (S.1 0) n).1.2.2.2 j = (sPaid S).2.2.2 j)) ∧ keepJ J (cGo S J (S.1 0) n).2 := by
  subst hn
  obtain ⟨h1, h2⟩ := cl1_rel hL (nOf S 15) (Nat.le_refl _)
  have h28 := h1.2.1 28 (by decide)
  have hI := r1_I hD hP hM
  have hs := r1_sum hD hP h30 (nOf S 15) (Nat.le_refl _)
  have fin : ∀ T C K : St, rel (nOf S 15) T C K → T = sT3 S → ((cls C K (nOf S 15)).1 = (sPaid S).1 ∧ (cls C K (nOf S 15)).2.1 = (sPaid S).2.1 ∧ (∀ j, j ≠ 39 → (cls C K (nOf S 15)).2.2.1 j = (sPaid S).2.2.1 j) ∧ (∀ j, j ≠ 40 → (cls C K (nOf S 15)).2.2.2 j = (sPaid S).2.2.2 j)) := by
    intro T C K hr hT
    subst hT
    have h24 : ∀ i, i < nOf S 15 → ¬ (sT3 S).2.2.1 39 i = 0 → (sT3 S).2.2.1 24 i = 0 := by
      intro i hi h39
      rw [(sT3_c S).2] at h39 ⊢
      rw [(r1_eq S _).2.2.1 24 (by decide)]
      rcases r1_row S (nOf S 15) i hi with ⟨_, a⟩ | ⟨v, a, _, _⟩
      · exact absurd a h39
      · exact (sRoll_b hD hP hi a).1
    obtain ⟨a1, a2, a3, a4, a5⟩ := cls_rel hr h24 (nOf S 15) (Nat.le_refl _)
    have hp := p4_k (uJ (sT3 S) 31 0) (nOf S 15)
    refine ⟨a1.trans hp.1.symm, ?_, a3, fun j hj => ?_⟩
    · rw [a2]
      funext j
      by_cases hj : j = 31
      · subst hj
        exact hr.2.2.2.2.2.trans a5.symm
      · refine (hr.2.1 j hj).trans ?_
        refine Eq.trans ?_ (hp.2.1 j hj).symm
        show (sT3 S).2.1 j = va_up (sT3 S).2.1 31 0 j
        rw [va_up_ne _ _ hj]
    · rw [a4]
      refine (hr.2.2.2.1 j hj).trans ?_
      show _ = (p4 (uJ (sT3 S) 31 0) (nOf S 15)).2.2.2 j
      rw [hp.2.2.2.1]
      rfl
  rw [cGo, h2, h28]
  by_cases hw : (r1 S (nOf S 15)).2 ≤ (r1 S (nOf S 15)).1.2.1 28
  · rw [if_pos hw]
    refine ⟨fin _ _ _ (pw_rel (has := (r1 S (nOf S 15)).1.2.1 28) (all := (r1 S (nOf S 15)).2) h1 _ (Nat.le_refl _)) ?_, pw_k (cl1_k S J _ _) _⟩
    rw [sT3, if_pos hw, sT2, if_pos hw]
  · rw [if_neg hw]
    have hw' := hw
    rw [i6e] at hw'
    have hsh := psh_rel h1 hI hI.1 (show ((r1 S (nOf S 15)).1.2.1 28).toInt < (r1 S (nOf S 15)).2.toInt by omega) _ (Nat.le_refl _)
    have hI2 := (p2_s hI rfl hs.1 (by omega) (nOf S 15) (Nat.le_refl _)).1
    refine ⟨fin _ _ _ (plo_rel hsh hI2 _ (Nat.le_refl _)) ?_, plo_k (psh_k (cl1_k S J _ _) _) _⟩
    rw [sT3, if_neg hw, sT2, if_neg hw]
