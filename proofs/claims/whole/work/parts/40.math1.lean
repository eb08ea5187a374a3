/-! ===== what is known later is the same, while nothing is told ===== -/
theorem infL_k {S : St} (hD : okD S) {kind month k1 k2 : Int32} (h1 : S.1 0 ≤ k1) (h2 : S.1 0 ≤ k2) : ∀ n, n ≤ nOf S 2 → infL S kind month k1 n = infL S kind month k2 n
  | 0, _ => rfl
  | n + 1, h => by
    have h6 := (hD n (by omega)).2.2.1
    rw [infL, infL, infL_k hD h1 h2 n (by omega)]
    have a1 : S.2.2.1 6 n ≤ k1 := Int32.le_trans h6 h1
    have a2 : S.2.2.1 6 n ≤ k2 := Int32.le_trans h6 h2
    simp only [a1, a2]
theorem sInf_k {S : St} (hD : okD S) {kind month k1 k2 : Int32} (h1 : S.1 0 ≤ k1) (h2 : S.1 0 ≤ k2) : sInf S kind month k1 = sInf S kind month k2 := by
  rw [sInf, sInf, infL_k hD h1 h2 _ (Nat.le_refl _)]
theorem lastF_k {S : St} (hF : okF S) {child k1 k2 : Int32} (h1 : S.1 0 ≤ k1) (h2 : S.1 0 ≤ k2) : ∀ n, n ≤ nOf S 10 → lastF S child k1 n = lastF S child k2 n
  | 0, _ => rfl
  | n + 1, h => by
    have h6 := (hF n (by omega)).2.2
    rw [lastF, lastF, lastF_k hF h1 h2 n (by omega)]
    have a1 : S.2.2.1 14 n ≤ k1 := Int32.le_trans h6 h1
    have a2 : S.2.2.1 14 n ≤ k2 := Int32.le_trans h6 h2
    simp only [a1, a2]
theorem sCnt_k {S : St} (hF : okF S) {made child k1 k2 : Int32} (h1 : S.1 0 ≤ k1) (h2 : S.1 0 ≤ k2) : sCnt S made child k1 = sCnt S made child k2 := by
  rw [sCnt, sCnt, sFate, sFate, lastF_k hF h1 h2 _ (Nat.le_refl _)]
theorem sFall_k {S : St} (hF : okF S) {d : Nat} {k1 k2 : Int32} (h0 : S.2.2.1 22 d ≤ S.1 0) (h1 : S.1 0 ≤ k1) (h2 : S.1 0 ≤ k2) : sFall S d k1 = sFall S d k2 := by
  have n1 : ¬ k1 < S.2.2.1 22 d := by simp only [i3e, i3l] at *; omega
  have n2 : ¬ k2 < S.2.2.1 22 d := by simp only [i3e, i3l] at *; omega
  rw [sFall, sFall, sCnt_k hF h1 h2, sCnt_k hF (child := S.2.2.1 18 d) h1 h2, if_neg n1, if_neg n2]
theorem sDueM_k {S : St} (hD : okD S) {f : Nat} {k1 k2 : Int32} (h1 : S.1 0 ≤ k1) (h2 : S.1 0 ≤ k2) : sDueM S f k1 = sDueM S f k2 := by
  rw [sDueM, sDueM, sInf_k hD h1 h2]
theorem sPre_k {S : St} (hD : okD S) {d f : Nat} {k1 k2 : Int32} (h1 : S.1 0 ≤ k1) (h2 : S.1 0 ≤ k2) : sPre S d f k1 = sPre S d f k2 := by
  rw [sPre, sPre, sInf_k hD (kind := 1) h1 h2, sInf_k hD (kind := 2) h1 h2, sInf_k hD (kind := 3) h1 h2]
theorem sDue_k {S : St} (hD : okD S) {d f : Nat} {k1 k2 : Int32} (h1 : S.1 0 ≤ k1) (h2 : S.1 0 ≤ k2) : sDue S d f k1 = sDue S d f k2 := by
  rw [sDue, sDue, sPre_k hD h1 h2, sDueM_k hD h1 h2, sInf_k hD h1 h2]
/-! bounds -/
theorem sInf_b {S : St} (hD : okD S) (kind m k : Int32) : 0 ≤ (sInf S kind m k).toInt ∧ (sInf S kind m k).toInt ≤ 1000 := by
  have h : ∀ n, n ≤ nOf S 2 → 0 ≤ (infL S kind m k n).1.toInt ∧ (infL S kind m k n).1.toInt ≤ 1000 := by
    intro n
    induction n with
    | zero =>
      intro _
      rw [infL, dflt]
      split
      · decide
      · split
        · decide
        · split <;> decide
    | succ n ih =>
      intro hn
      rw [infL]
      split
      · have h9 := (hD n (by omega)).2.2.2.1
        simp only [i3e, zi_0, zi_1000] at h9
        exact h9
      · exact ih (by omega)
  exact h _ (Nat.le_refl _)
theorem th_b {x : Int64} {h : Int32} (hx : 0 ≤ x.toInt ∧ x.toInt ≤ 100000) (hh : 0 ≤ h.toInt ∧ h.toInt ≤ 1000) : 0 ≤ (th x h).toInt ∧ (th x h).toInt ≤ x.toInt := by
  obtain ⟨x0, x1⟩ := hx
  obtain ⟨h0, h1⟩ := hh
  have m0 : 0 ≤ x.toInt * h.toInt := Int.mul_nonneg x0 h0
  have m1 : x.toInt * h.toInt ≤ x.toInt * 1000 := Int.mul_le_mul_of_nonneg_left h1 x0
  have e : (x * h.toInt64).toInt = x.toInt * h.toInt := by
    rw [Jvm.Kit.i64_mul (by rw [Int32.toInt_toInt64]; omega) (by rw [Int32.toInt_toInt64]; omega), Int32.toInt_toInt64]
  rw [th, Jvm.Kit.i64_div (by rw [zj_1000]; omega), e, zj_1000, Int.tdiv_eq_ediv_of_nonneg m0]
  omega
theorem sPre_b {S : St} (hD : okD S) {d f : Nat} {k : Int32} (h1 : 1 ≤ S.2.2.1 19 d ∧ S.2.2.1 19 d ≤ 10000) (h2 : 0 ≤ S.2.2.2 20 d ∧ S.2.2.2 20 d ≤ 100000) : 0 ≤ (sPre S d f k).toInt ∧ (sPre S d f k).toInt ≤ 100000 := by
  simp only [i3e, i6e, zi_1, zi_10000, zj_0, zj_100000] at h1 h2
  rw [sPre]
  split
  · have h3 := th_b (x := (S.2.2.1 19 d).toInt64) (by rw [Int32.toInt_toInt64]; omega) (sInf_b hD 1 (S.2.2.1 13 f) k)
    rw [Int32.toInt_toInt64] at h3
    omega
  · split
    · have h3 := th_b (x := S.2.2.2 20 d) (by omega) (sInf_b hD 2 (S.2.2.1 13 f) k)
      omega
    · split
      · omega
      · have h3 := th_b (x := S.2.2.2 20 d) (by omega) (sInf_b hD 3 (S.2.2.1 13 f) k)
        omega
theorem sDue_b {S : St} (hD : okD S) {d f : Nat} {k : Int32} (h1 : 1 ≤ S.2.2.1 19 d ∧ S.2.2.1 19 d ≤ 10000) (h2 : 0 ≤ S.2.2.2 20 d ∧ S.2.2.2 20 d ≤ 100000) : 0 ≤ (sDue S d f k).toInt ∧ (sDue S d f k).toInt ≤ 100000 := by
  have a := sPre_b hD (f := f) (k := k) h1 h2
  have b := th_b a (sInf_b hD 4 (sDueM S f k) k)
  rw [sDue, Jvm.Kit.i64_sub (by omega) (by omega)]
  omega
/-! ===== the payments of a month: bounds ===== -/
/-- while payments go: the purse, what was received, what is owed on the roll -/
def mI (n : Nat) (T : St) : Prop := (0 ≤ (T.2.1 28).toInt ∧ (T.2.1 28).toInt ≤ 1000000000) ∧ ∀ k, k < n → (0 ≤ (T.2.2.2 23 k).toInt ∧ (T.2.2.2 23 k).toInt ≤ 100000) ∧ (¬ T.2.2.1 39 k = 0 → 0 ≤ (T.2.2.2 40 k).toInt ∧ (T.2.2.2 23 k).toInt + (T.2.2.2 40 k).toInt ≤ 100000)
theorem pay_I {n i : Nat} {T : St} {v : Int64} (h : mI n T) (hi : i < n) (hr : ¬ T.2.2.1 39 i = 0) (h0 : 0 ≤ v.toInt) (h1 : v.toInt ≤ (T.2.2.2 40 i).toInt) (h2 : v.toInt ≤ (T.2.1 28).toInt) : mI n (sPay T i v) ∧ ((sPay T i v).2.1 28).toInt = (T.2.1 28).toInt - v.toInt ∧ ((sPay T i v).2.2.2 40 i).toInt = (T.2.2.2 40 i).toInt - v.toInt := by
  obtain ⟨a, b⟩ := h
  obtain ⟨b1, b2⟩ := b i hi
  have b3 := b2 hr
  have e28 : ((sPay T i v).2.1 28).toInt = (T.2.1 28).toInt - v.toInt := by
    show (T.2.1 28 - v).toInt = _
    rw [Jvm.Kit.i64_sub (by omega) (by omega)]
  have e40 : ((sPay T i v).2.2.2 40 i).toInt = (T.2.2.2 40 i).toInt - v.toInt := by
    show (vp_updL (T.2.2.2 40) i (T.2.2.2 40 i - v) i).toInt = _
    simp only [vp_updL, if_true]
    rw [Jvm.Kit.i64_sub (by omega) (by omega)]
  refine ⟨⟨by rw [e28]; omega, fun k hk => ?_⟩, e28, e40⟩
  show (0 ≤ (vp_updL (T.2.2.2 23) i (T.2.2.2 23 i + v) k).toInt ∧ (vp_updL (T.2.2.2 23) i (T.2.2.2 23 i + v) k).toInt ≤ 100000) ∧ (¬ T.2.2.1 39 k = 0 → 0 ≤ (vp_updL (T.2.2.2 40) i (T.2.2.2 40 i - v) k).toInt ∧ (vp_updL (T.2.2.2 23) i (T.2.2.2 23 i + v) k).toInt + (vp_updL (T.2.2.2 40) i (T.2.2.2 40 i - v) k).toInt ≤ 100000)
  by_cases hki : k = i
  · subst hki
    have s1 := Jvm.Kit.i64_add (x := T.2.2.2 23 k) (y := v) (by omega) (by omega)
    have s2 := Jvm.Kit.i64_sub (x := T.2.2.2 40 k) (y := v) (by omega) (by omega)
    simp only [vp_updL, if_true]
    rw [s1, s2]
    omega
  · simp only [vp_updL, hki, if_false]
    exact b k hk
/-- what the first deposits are owed on the roll -/
def ownI (T : St) : Nat → Int
  | 0 => 0
  | k + 1 => ownI T k + (if T.2.2.1 39 k = 0 then 0 else (T.2.2.2 40 k).toInt)
theorem ownI_c {S T : St} : ∀ k, (∀ j, j < k → T.2.2.1 39 j = S.2.2.1 39 j ∧ T.2.2.2 40 j = S.2.2.2 40 j) → ownI T k = ownI S k
  | 0, _ => rfl
  | k + 1, h => by
    rw [ownI, ownI, ownI_c k (fun j hj => h j (by omega)), (h k (by omega)).1, (h k (by omega)).2]
theorem ownI_b {n : Nat} {T : St} (h : mI n T) : ∀ k, k ≤ n → 0 ≤ ownI T k ∧ ownI T k ≤ 100000 * k
  | 0, _ => ⟨Int.le_refl _, Int.le_refl _⟩
  | k + 1, hk => by
    have h1 := ownI_b h k (by omega)
    have h2 := h.2 k (by omega)
    rw [ownI]
    split
    · omega
    · rename_i h3
      have h4 := h2.2 h3
      omega
theorem ownI_mono {n : Nat} {T : St} (h : mI n T) {k : Nat} : ∀ j, k + j ≤ n → ownI T k ≤ ownI T (k + j)
  | 0, _ => Int.le_refl _
  | j + 1, hk => by
    have h1 := ownI_mono h (k := k) j (by omega)
    have h2 := h.2 (k + j) (by omega)
    rw [← Nat.add_assoc, ownI]
    split
    · omega
    · rename_i h3
      have h4 := h2.2 h3
      omega
theorem sPay_40 {T : St} {i j : Nat} {v : Int64} (h : j ≠ i) : (sPay T i v).2.2.2 40 j = T.2.2.2 40 j := by
  show vp_updL (T.2.2.2 40) i (T.2.2.2 40 i - v) j = _
  simp only [vp_updL, h, if_false]
theorem p2_late {T : St} {w : Int32} {has all : Int64} : ∀ k j, k ≤ j → (p2 T w has all k).2.2.2 40 j = T.2.2.2 40 j
  | 0, _, _ => rfl
  | k + 1, j, h => by
    have h1 := p2_late (T := T) (w := w) (has := has) (all := all) k j (by omega)
    rw [p2]
    split
    · exact h1
    · rw [sPay_40 (by omega)]; exact h1
/-- all are paid whole -/
theorem p2_w {n : Nat} {T : St} {has all : Int64} (h : mI n T) (hall : ownI T n ≤ (T.2.1 28).toInt) : ∀ k, k ≤ n → mI n (p2 T 1 has all k) ∧ ((p2 T 1 has all k).2.1 28).toInt = (T.2.1 28).toInt - ownI T k
  | 0, _ => ⟨h, by show (T.2.1 28).toInt = (T.2.1 28).toInt - 0; omega⟩
  | k + 1, hk => by
    obtain ⟨h1, h2⟩ := p2_w h hall k (by omega)
    have hc := p2_c T 1 has all k
    have hm := ownI_mono h (k := k + 1) (n - (k + 1)) (by omega)
    rw [show k + 1 + (n - (k + 1)) = n by omega] at hm
    rw [p2, ownI, hc.2]
    rw [ownI] at hm
    split
    · exact ⟨h1, by omega⟩
    · rename_i h3
      rw [if_neg h3] at hm
      rw [if_neg (show ¬ ((1 : Int32) = 0) by decide), p2_late k k (Nat.le_refl _)]
      have h4 := (h.2 k (by omega)).2 h3
      have h5 := pay_I (v := T.2.2.2 40 k) h1 (show k < n by omega) (by rw [hc.2]; exact h3) h4.1 (by rw [p2_late k k (Nat.le_refl _)]; omega) (by omega)
      exact ⟨h5.1, by rw [h5.2.1]; omega⟩
theorem sh_b {x has all : Int64} (h0 : 0 ≤ x.toInt ∧ x.toInt ≤ 100000) (h1 : 0 ≤ has.toInt ∧ has.toInt ≤ 1000000000) (h2 : has.toInt < all.toInt) : (x * has / all).toInt = x.toInt * has.toInt / all.toInt ∧ 0 ≤ (x * has / all).toInt ∧ (x * has / all).toInt ≤ x.toInt ∧ (x * has / all).toInt * all.toInt ≤ x.toInt * has.toInt := by
  have m0 : 0 ≤ x.toInt * has.toInt := Int.mul_nonneg h0.1 h1.1
  have m1 : x.toInt * has.toInt ≤ x.toInt * 1000000000 := Int.mul_le_mul_of_nonneg_left h1.2 h0.1
  have m2 : x.toInt * has.toInt ≤ x.toInt * all.toInt := Int.mul_le_mul_of_nonneg_left (by omega) h0.1
  have e : (x * has).toInt = x.toInt * has.toInt := Jvm.Kit.i64_mul (by omega) (by omega)
  have e2 : (x * has / all).toInt = x.toInt * has.toInt / all.toInt := by
    rw [Jvm.Kit.i64_div (by omega), e, Int.tdiv_eq_ediv_of_nonneg m0]
  have e3 : x.toInt * has.toInt / all.toInt * all.toInt ≤ x.toInt * has.toInt := Int.ediv_mul_le _ (by omega)
  refine ⟨e2, ?_, ?_, ?_⟩
  · rw [e2]; exact Int.ediv_nonneg m0 (by omega)
  · rw [e2]; exact Int.le_of_mul_le_mul_right (Int.le_trans e3 m2) (by omega)
  · rw [e2]; exact e3
/-- each is paid its share -/
theorem p2_s {n : Nat} {T : St} {has all : Int64} (h : mI n T) (hh : T.2.1 28 = has) (ha : all.toInt = ownI T n) (hl : has.toInt < all.toInt) : ∀ k, k ≤ n → mI n (p2 T 0 has all k) ∧ (has.toInt - ((p2 T 0 has all k).2.1 28).toInt) * all.toInt ≤ ownI T k * has.toInt
  | 0, _ => ⟨h, by show (has.toInt - (T.2.1 28).toInt) * all.toInt ≤ 0 * has.toInt; rw [hh]; omega⟩
  | k + 1, hk => by
    obtain ⟨h1, h2⟩ := p2_s h hh ha hl k (by omega)
    have hc := p2_c T 0 has all k
    have hm := ownI_mono h (k := k + 1) (n - (k + 1)) (by omega)
    rw [show k + 1 + (n - (k + 1)) = n by omega, ← ha] at hm
    have h9 := h.1
    rw [hh] at h9
    rw [p2, hc.2]
    rw [ownI] at hm ⊢
    split
    · refine ⟨h1, ?_⟩
      rw [Int.add_zero]
      exact h2
    · rename_i h3
      rw [if_neg h3] at hm
      rw [if_pos rfl, p2_late k k (Nat.le_refl _)]
      have h4 := (h.2 k (by omega)).2 h3
      have h8 := (h.2 k (by omega)).1
      have hs := sh_b (x := T.2.2.2 40 k) (has := has) (all := all) (by omega) h9 hl
      have h10 := h1.1
      have key : (has.toInt - ((p2 T 0 has all k).2.1 28).toInt + (T.2.2.2 40 k * has / all).toInt) * all.toInt ≤ (ownI T k + (T.2.2.2 40 k).toInt) * has.toInt := by
        rw [Int.add_mul, Int.add_mul]; omega
      have k2 : (T.2.2.2 40 k * has / all).toInt ≤ ((p2 T 0 has all k).2.1 28).toInt := by
        have k3 : (ownI T k + (T.2.2.2 40 k).toInt) * has.toInt ≤ all.toInt * has.toInt := Int.mul_le_mul_of_nonneg_right hm h9.1
        have k4 : (has.toInt - ((p2 T 0 has all k).2.1 28).toInt + (T.2.2.2 40 k * has / all).toInt) * all.toInt ≤ has.toInt * all.toInt := by
          rw [Int.mul_comm has.toInt]; exact Int.le_trans key k3
        have k5 := Int.le_of_mul_le_mul_right k4 (by omega)
        omega
      have h5 := pay_I (v := T.2.2.2 40 k * has / all) h1 (show k < n by omega) (by rw [hc.2]; exact h3) hs.2.1 (by rw [p2_late k k (Nat.le_refl _)]; exact hs.2.2.1) k2
      refine ⟨h5.1, ?_⟩
      rw [h5.2.1, show has.toInt - (((p2 T 0 has all k).2.1 28).toInt - (T.2.2.2 40 k * has / all).toInt) = has.toInt - ((p2 T 0 has all k).2.1 28).toInt + (T.2.2.2 40 k * has / all).toInt by omega]
      exact key
theorem p3_I {n : Nat} {T : St} (h : mI n T) : ∀ k, k ≤ n → mI n (p3 T k)
  | 0, _ => h
  | k + 1, hk => by
    have h1 := p3_I h k (by omega)
    rw [p3]
    split
    · exact h1
    · rename_i h2
      split
      · exact h1
      · rename_i h3
        split
        · exact h1
        · rename_i h4
          simp only [i6e, zj_0] at h3 h4
          exact (pay_I h1 (show k < n by omega) h2 (by decide) (by rw [zj_1]; omega) (by rw [zj_1]; omega)).1
