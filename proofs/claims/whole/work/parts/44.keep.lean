/-! ===== what holds is kept by every call ===== -/
theorem Ok_S0 : Ok S0 := by
  refine ⟨?_, ?_, ?_, ?_, ?_, ?_, ?_, ?_⟩
  · exact ⟨⟨by decide, by decide⟩, ⟨by decide, by decide⟩, ⟨by decide, by decide⟩, ⟨by decide, by decide⟩, ⟨by decide, by decide⟩, ⟨by decide, by decide⟩⟩
  · intro k hk; exact absurd hk (Nat.not_lt_zero _)
  · intro k h1 h2
    show 100 ≤ (if k < 21 then (100 : Int32) else 0) ∧ (if k < 21 then (100 : Int32) else 0) ≤ 1000
    rw [if_pos (by omega)]
    exact ⟨by decide, by decide⟩
  · intro k hk; exact absurd hk (Nat.not_lt_zero _)
  · intro k hk; exact absurd hk (Nat.not_lt_zero _)
  · intro k hk; exact absurd hk (Nat.not_lt_zero _)
  · intro q _; exact ⟨rfl, rfl⟩
  · exact ⟨by decide, by decide⟩
theorem Ok_no {S : St} (h : Ok S) (k : Int32) : Ok (sNo S k).2 := h
theorem nOf_up {S : St} {k : Nat} {M : Int32} (h0 : 0 ≤ S.1 k ∧ S.1 k ≤ M) (hM : M.toInt ≤ 1000) (h1 : ¬ S.1 k = M) : (S.1 k + 1).toNatClampNeg = nOf S k + 1 ∧ 0 ≤ S.1 k + 1 ∧ S.1 k + 1 ≤ M := by
  have e := nOf_eq h0.1
  have c := cl_int h0.1
  have h2 := h0.1
  have h3 := h0.2
  have c2 : (nOf S k : Int) = (S.1 k).toInt := c
  simp only [i3e, i3q, zi_0] at h1 h2 h3
  have a : (S.1 k + 1).toInt = (S.1 k).toInt + 1 := by
    rw [Jvm.Kit.i32_add (by rw [zi_1]; omega) (by rw [zi_1]; omega), zi_1]
  refine ⟨?_, by rw [i3e, a, zi_0]; omega, by rw [i3e, a]; omega⟩
  show (S.1 k + 1).toInt.toNat = _
  rw [a]
  omega
theorem isVal_b {kind v : Int32} (h1 : inR kind 0 5) (h : isVal kind v) : (0 ≤ v ∧ v ≤ 1000) ∧ (kind = 0 → v ≤ 60) ∧ (kind = 5 → 12 ≤ v ∧ v ≤ 240) := by
  obtain ⟨a, b⟩ := h
  by_cases h5 : kind = 5
  · subst h5
    rw [if_pos rfl] at a
    rw [if_neg (by decide), if_pos rfl] at b
    simp only [i3e, i3q, zi_0, zi_1000, zi_12, zi_240, zi_60, zi_5] at a b ⊢
    omega
  · rw [if_neg h5] at a
    by_cases h0 : kind = 0
    · rw [if_pos h0] at b
      subst h0
      simp only [i3e, i3q, zi_0, zi_1000, zi_12, zi_240, zi_60, zi_5] at a b ⊢
      omega
    · rw [if_neg h0, if_neg h5] at b
      exact ⟨⟨a, b⟩, fun h => absurd h h0, fun h => absurd h h5⟩
theorem Ok_decree {S : St} (h : Ok S) (kind fr v : Int32) : Ok (sp_decree S kind fr v).2 := by
  unfold sp_decree
  split
  · exact h
  · rename_i h1
    split
    · exact h
    · rename_i h2
      split
      · exact h
      · rename_i h3
        split
        · exact h
        · rename_i h4
          obtain ⟨hN, hD, hR, hC, hF, hP, hZ, hM⟩ := h
          have h1 := Decidable.not_not.mp h1
          have h2 := Decidable.not_not.mp h2
          have h3 := Decidable.not_not.mp h3
          have hu := nOf_up hN.2.1 (by decide) h4
          refine ⟨⟨hN.1, hu.2, hN.2.2⟩, ?_, hR, hC, hF, hP, hZ, hM⟩
          intro k hk
          have hk : k < (S.1 2 + 1).toNatClampNeg := hk
          rw [hu.1] at hk
          show (0 ≤ upd (S.2.2.1 3) (nOf S 2) kind k ∧ upd (S.2.2.1 3) (nOf S 2) kind k ≤ 5) ∧ (0 ≤ upd (S.2.2.1 4) (nOf S 2) fr k ∧ upd (S.2.2.1 4) (nOf S 2) fr k ≤ 1199) ∧ upd (S.2.2.1 6) (nOf S 2) (S.1 0) k ≤ S.1 0 ∧ (0 ≤ upd (S.2.2.1 5) (nOf S 2) v k ∧ upd (S.2.2.1 5) (nOf S 2) v k ≤ 1000) ∧ (upd (S.2.2.1 3) (nOf S 2) kind k = 0 → upd (S.2.2.1 5) (nOf S 2) v k ≤ 60) ∧ (upd (S.2.2.1 3) (nOf S 2) kind k = 5 → 12 ≤ upd (S.2.2.1 5) (nOf S 2) v k ∧ upd (S.2.2.1 5) (nOf S 2) v k ≤ 240)
          by_cases hkn : k = nOf S 2
          · subst hkn
            simp only [upd_self]
            refine ⟨h1, h2, Int32.le_refl _, ?_⟩
            exact isVal_b h1 h3
          · simp only [upd_ne hkn]
            exact hD k (by omega)
theorem Ok_rate {S : St} (h : Ok S) (y v : Int32) : Ok (sp_rate S y v).2 := by
  unfold sp_rate
  split
  · exact h
  · split
    · exact h
    · rename_i h1 h2
      obtain ⟨hN, hD, hR, hC, hF, hP, hZ, hM⟩ := h
      refine ⟨hN, hD, ?_, hC, hF, hP, hZ, hM⟩
      intro k a b
      show 100 ≤ upd (S.2.2.1 7) y.toNatClampNeg v k ∧ upd (S.2.2.1 7) y.toNatClampNeg v k ≤ 1000
      by_cases hk : k = y.toNatClampNeg
      · subst hk
        rw [upd_self]
        exact Decidable.not_not.mp h2
      · rw [upd_ne hk]
        exact hR k a b
theorem Ok_child {S : St} (h : Ok S) (mo : Int32) : Ok (sp_child S mo).2 := by
  unfold sp_child
  split
  · exact h
  · split
    · exact h
    · rename_i h1 h2
      obtain ⟨hN, hD, hR, hC, hF, hP, hZ, hM⟩ := h
      have hu := nOf_up hN.2.2.1 (by decide) h2
      refine ⟨⟨hN.1, hN.2.1, hu.2, hN.2.2.2⟩, hD, hR, ?_, hF, hP, hZ, hM⟩
      intro k hk
      have hk : k < (S.1 8 + 1).toNatClampNeg := hk
      rw [hu.1] at hk
      show 0 ≤ upd (S.2.2.1 9) (nOf S 8) mo k ∧ upd (S.2.2.1 9) (nOf S 8) mo k ≤ S.1 0
      by_cases hkn : k = nOf S 8
      · subst hkn
        rw [upd_self]
        exact Decidable.not_not.mp h1
      · rw [upd_ne hkn]
        exact hC k (by omega)
theorem Ok_fateT {S : St} (h : Ok S) (c f mo : Int32) (h1 : inR f 0 3) (h2 : f < 3 → 0 ≤ mo ∧ mo ≤ 1199) : Ok (sp_fateT S c f mo).2 := by
  unfold sp_fateT
  split
  · exact h
  · rename_i h4
    obtain ⟨hN, hD, hR, hC, hF, hP, hZ, hM⟩ := h
    have hu := nOf_up hN.2.2.2.1 (by decide) h4
    refine ⟨⟨hN.1, hN.2.1, hN.2.2.1, hu.2, hN.2.2.2.2⟩, hD, hR, hC, ?_, hP, hZ, hM⟩
    intro k hk
    have hk : k < (S.1 10 + 1).toNatClampNeg := hk
    rw [hu.1] at hk
    show (0 ≤ upd (S.2.2.1 12) (nOf S 10) f k ∧ upd (S.2.2.1 12) (nOf S 10) f k ≤ 3) ∧ (upd (S.2.2.1 12) (nOf S 10) f k < 3 → 0 ≤ upd (S.2.2.1 13) (nOf S 10) mo k ∧ upd (S.2.2.1 13) (nOf S 10) mo k ≤ 1199) ∧ upd (S.2.2.1 14) (nOf S 10) (S.1 0) k ≤ S.1 0
    by_cases hkn : k = nOf S 10
    · subst hkn
      simp only [upd_self]
      exact ⟨h1, h2, Int32.le_refl _⟩
    · simp only [upd_ne hkn]
      exact hF k (by omega)
theorem Ok_fate {S : St} (h : Ok S) (c f mo : Int32) : Ok (sp_fate S c f mo).2 := by
  unfold sp_fate
  split
  · exact h
  · rename_i h0
    split
    · exact h
    · rename_i h1
      have h1 := Decidable.not_not.mp h1
      have h0 := Decidable.not_not.mp h0
      split
      · split
        · exact h
        · rename_i h2
          have h2 := Decidable.not_not.mp h2
          refine Ok_fateT h c f mo h1 (fun _ => ⟨?_, h2.2⟩)
          have hc := h.2.2.2.1 c.toNatClampNeg (by
            have a := cl_int h0.1
            have b := cl_int h.1.2.2.1.1
            have d := h0.2
            rw [i3l] at d
            rw [nOf]
            omega)
          exact Int32.le_trans hc.1 h2.1
      · rename_i h2
        exact Ok_fateT h c f mo h1 (fun h9 => absurd h9 h2)
theorem Ok_income {S : St} (h : Ok S) (v : Int32) : Ok (sp_income S v).2 := by
  unfold sp_income
  split
  · exact h
  · split
    · rename_i h1 h2
      obtain ⟨hN, hD, hR, hC, hF, hP, hZ, hM⟩ := h
      refine ⟨hN, hD, hR, hC, hF, hP, hZ, ?_, h2⟩
      have h1 := Decidable.not_not.mp h1
      have a := hM.1
      have b := hM.2
      have c := h1.1
      have d := h1.2
      show 0 ≤ S.2.1 28 + v.toInt64
      simp only [i6e, i3e, zj_0, zi_0, zj_1000000000, zi_1000000] at a b c d ⊢
      rw [Jvm.Kit.i64_add (by rw [Int32.toInt_toInt64]; omega) (by rw [Int32.toInt_toInt64]; omega), Int32.toInt_toInt64]
      omega
    · exact h
theorem Ok_lives {S : St} (h : Ok S) (a x y z : Int32) : Ok (sp_lives S a x y z).2 := by
  unfold sp_lives
  repeat' split
  all_goals exact h
theorem Ok_value {S : St} (h : Ok S) (a b d : Int32) : Ok (sp_value S a b d).2 := by
  unfold sp_value
  repeat' split
  all_goals exact h
theorem Ok_left {S : St} (h : Ok S) (a b : Int32) : Ok (sp_left S a b).2 := by
  unfold sp_left
  repeat' split
  all_goals exact h
theorem Ok_tell {S : St} (h : Ok S) (v : Int32) : Ok (sp_tell S v).2 := by
  unfold sp_tell
  split
  · exact h
  · rename_i h4
    obtain ⟨hN, hD, hR, hC, hF, hP, hZ, hM⟩ := h
    have hu := nOf_up hN.2.2.2.2.2 (by decide) h4
    exact ⟨⟨hN.1, hN.2.1, hN.2.2.1, hN.2.2.2.1, hN.2.2.2.2.1, hu.2⟩, hD, hR, hC, hF, hP, hZ, hM⟩
theorem Ok_check {S : St} (h : Ok S) : Ok (sp_check S).2 := by
  obtain ⟨hN, hD, hR, hC, hF, hP, hZ, hM⟩ := h
  exact ⟨⟨hN.1, hN.2.1, hN.2.2.1, hN.2.2.2.1, hN.2.2.2.2.1, (by decide : (0 : Int32) ≤ 0), (by decide : (0 : Int32) ≤ 30)⟩, hD, hR, hC, hF, hP, hZ, hM⟩
theorem Ok_months {S : St} (h : Ok S) (mo : Int32) : Ok (sp_months S mo).2 := by
  by_cases hz : inR mo 1 240 ∧ S.1 0 + mo ≤ 1199
  · obtain ⟨N, hN1, hN2, hmo, e9⟩ := mo_nat h.1 hz
    rw [e9]
    exact (goN_ok h hN2 N (Nat.le_refl _)).1
  · rw [mo_no hz]
    exact h
theorem okS_loc {S T : St} {k : Nat} (h0 : T.1 0 = S.1 0) (h22 : T.2.2.1 22 k = S.2.2.1 22 k) (h25 : T.2.2.1 25 k = S.2.2.1 25 k) (h26 : ∀ j, j < 7 → T.2.2.1 26 (7 * k + j) = S.2.2.1 26 (7 * k + j)) (h27 : ∀ j, j < 7 → T.2.2.1 27 (7 * k + j) = S.2.2.1 27 (7 * k + j)) (q : okS S k) : okS T k := by
  obtain ⟨⟨a1, a2⟩, b, c, d, e⟩ := q
  have h1 : 0 ≤ S.2.2.1 25 k := by simp only [i3e, zi_0, zi_1] at a1 ⊢; omega
  have h2 := cl_int h1
  have h3 := a2
  have h4 := a1
  simp only [i3e, zi_7, zi_1] at h3 h4
  unfold okS
  rw [h0, h22, h25]
  refine ⟨⟨a1, a2⟩, ?_, fun j hj => ?_, ?_, fun j hj => ?_⟩
  · have := h26 0 (by omega)
    rw [Nat.add_zero] at this
    rw [this]; exact b
  · rw [h26 j (by omega), h26 (j + 1) (by omega)]; exact c j hj
  · rw [h26 _ (by omega)]; exact d
  · rw [h27 j (by omega)]; exact e j hj
theorem dow_b {su r : Int32} (h1 : inR su 1 10000) (h2 : 100 ≤ r ∧ r ≤ 1000) : 0 ≤ su.toInt64 * r.toInt64 / 100 ∧ su.toInt64 * r.toInt64 / 100 ≤ 100000 := by
  obtain ⟨a, b⟩ := h1
  obtain ⟨c, d⟩ := h2
  simp only [i3e, zi_1, zi_10000, zi_100, zi_1000] at a b c d
  have m0 : 0 ≤ su.toInt * r.toInt := Int.mul_nonneg (by omega) (by omega)
  have m1 : su.toInt * r.toInt ≤ su.toInt * 1000 := Int.mul_le_mul_of_nonneg_left d (by omega)
  have e : (su.toInt64 * r.toInt64).toInt = su.toInt * r.toInt := by
    rw [Jvm.Kit.i64_mul (by rw [Int32.toInt_toInt64, Int32.toInt_toInt64]; omega) (by rw [Int32.toInt_toInt64, Int32.toInt_toInt64]; omega), Int32.toInt_toInt64, Int32.toInt_toInt64]
  have e2 : (su.toInt64 * r.toInt64 / 100).toInt = su.toInt * r.toInt / 100 := by
    rw [Jvm.Kit.i64_div (by rw [zj_100]; omega), e, zj_100, Int.tdiv_eq_ediv_of_nonneg m0]
  simp only [i6e, zj_0, zj_100000, e2]
  omega
theorem Ok_dep5 {S : St} (h : Ok S) {kind c o su ho : Int32} (h15 : ¬ S.1 15 = 30) (hk : inR kind 0 2) (hc : 0 ≤ c) (ho1 : kind = 1 → 0 ≤ o) (hs : inR su 1 10000) (hh : inR ho 0 9) : Ok (sp_dep5 S kind c o su ho (nOf S 15) (sInf S 5 (S.1 0) (S.1 0))) := by
  obtain ⟨hN, hD, hR, hC, hF, hP, hZ, hM⟩ := h
  have hu := nOf_up hN.2.2.2.2.1 (by decide) h15
  have ht := sInf_5 hD (S.1 0) (S.1 0)
  have hy := yr_eq ht
  generalize sInf S 5 (S.1 0) (S.1 0) = t at ht hy ⊢
  have hyr : (sYear t).toNatClampNeg = t.toNatClampNeg / 12 := by
    rw [sYear, if_pos (yr_le ht), hy.1, nI_clamp (by omega)]
  have hrt := hR _ hy.2.1 hy.2.2
  have hd := dow_b hs hrt
  refine ⟨⟨hN.1, hN.2.1, hN.2.2.1, hN.2.2.2.1, hu.2, hN.2.2.2.2.2⟩, hD, hR, hC, hF, ?_, ?_, hM⟩
  · intro k hk9
    have hk9 : k < (S.1 15 + 1).toNatClampNeg := hk9
    rw [hu.1] at hk9
    by_cases hkn : k = nOf S 15
    · subst hkn
      show (0 ≤ upd (S.2.2.1 16) (nOf S 15) kind (nOf S 15) ∧ upd (S.2.2.1 16) (nOf S 15) kind (nOf S 15) ≤ 2) ∧ 0 ≤ upd (S.2.2.1 17) (nOf S 15) c (nOf S 15) ∧ (upd (S.2.2.1 16) (nOf S 15) kind (nOf S 15) = 1 → 0 ≤ upd (S.2.2.1 18) (nOf S 15) (if kind = 1 then o else -1) (nOf S 15)) ∧ (¬ upd (S.2.2.1 16) (nOf S 15) kind (nOf S 15) = 1 → upd (S.2.2.1 18) (nOf S 15) (if kind = 1 then o else -1) (nOf S 15) = -1) ∧ (1 ≤ upd (S.2.2.1 19) (nOf S 15) su (nOf S 15) ∧ upd (S.2.2.1 19) (nOf S 15) su (nOf S 15) ≤ 10000) ∧ (0 ≤ vp_updL (S.2.2.2 20) (nOf S 15) (su.toInt64 * (S.2.2.1 7 (sYear t).toNatClampNeg).toInt64 / 100) (nOf S 15) ∧ vp_updL (S.2.2.2 20) (nOf S 15) (su.toInt64 * (S.2.2.1 7 (sYear t).toNatClampNeg).toInt64 / 100) (nOf S 15) ≤ 100000) ∧ (0 ≤ upd (S.2.2.1 22) (nOf S 15) (S.1 0) (nOf S 15) ∧ upd (S.2.2.1 22) (nOf S 15) (S.1 0) (nOf S 15) ≤ S.1 0) ∧ (0 ≤ vp_updL (S.2.2.2 23) (nOf S 15) 0 (nOf S 15) ∧ vp_updL (S.2.2.2 23) (nOf S 15) 0 (nOf S 15) ≤ 100000) ∧ (upd (S.2.2.1 24) (nOf S 15) 0 (nOf S 15) = 0 ∨ upd (S.2.2.1 24) (nOf S 15) 0 (nOf S 15) = 1) ∧ _
      simp only [upd_self, updL_self, hyr]
      refine ⟨hk, hc, fun h1 => by rw [if_pos h1]; exact ho1 h1, fun h1 => by rw [if_neg h1], hs, hd, ⟨hN.1.1, Int32.le_refl _⟩, ⟨by decide, by decide⟩, Or.inl trivial, ?_⟩
      unfold okS
      have e25 : (sp_dep5 S kind c o su ho (nOf S 15) t).2.2.1 25 (nOf S 15) = 1 := upd_self
      have e26 : (sp_dep5 S kind c o su ho (nOf S 15) t).2.2.1 26 (7 * nOf S 15) = S.1 0 := upd_self
      have e27 : (sp_dep5 S kind c o su ho (nOf S 15) t).2.2.1 27 (7 * nOf S 15) = ho := upd_self
      have e22 : (sp_dep5 S kind c o su ho (nOf S 15) t).2.2.1 22 (nOf S 15) = S.1 0 := upd_self
      have e1 : (1 : Int32).toNatClampNeg = 1 := rfl
      rw [e25, e26, e22, e1]
      refine ⟨⟨by decide, by decide⟩, rfl, fun j hj => by omega, ?_, fun j hj => ?_⟩
      · rw [show 7 * nOf S 15 + (1 - 1) = 7 * nOf S 15 by omega, e26]; exact Int32.le_refl _
      · rw [show 7 * nOf S 15 + j = 7 * nOf S 15 by omega, e27]; exact hh
    · have q := hP k (by omega)
      show (0 ≤ upd (S.2.2.1 16) (nOf S 15) kind k ∧ upd (S.2.2.1 16) (nOf S 15) kind k ≤ 2) ∧ 0 ≤ upd (S.2.2.1 17) (nOf S 15) c k ∧ (upd (S.2.2.1 16) (nOf S 15) kind k = 1 → 0 ≤ upd (S.2.2.1 18) (nOf S 15) (if kind = 1 then o else -1) k) ∧ (¬ upd (S.2.2.1 16) (nOf S 15) kind k = 1 → upd (S.2.2.1 18) (nOf S 15) (if kind = 1 then o else -1) k = -1) ∧ (1 ≤ upd (S.2.2.1 19) (nOf S 15) su k ∧ upd (S.2.2.1 19) (nOf S 15) su k ≤ 10000) ∧ (0 ≤ vp_updL (S.2.2.2 20) (nOf S 15) (su.toInt64 * (S.2.2.1 7 (sYear t).toNatClampNeg).toInt64 / 100) k ∧ vp_updL (S.2.2.2 20) (nOf S 15) (su.toInt64 * (S.2.2.1 7 (sYear t).toNatClampNeg).toInt64 / 100) k ≤ 100000) ∧ (0 ≤ upd (S.2.2.1 22) (nOf S 15) (S.1 0) k ∧ upd (S.2.2.1 22) (nOf S 15) (S.1 0) k ≤ S.1 0) ∧ (0 ≤ vp_updL (S.2.2.2 23) (nOf S 15) 0 k ∧ vp_updL (S.2.2.2 23) (nOf S 15) 0 k ≤ 100000) ∧ (upd (S.2.2.1 24) (nOf S 15) 0 k = 0 ∨ upd (S.2.2.1 24) (nOf S 15) 0 k = 1) ∧ _
      simp only [upd_ne hkn, updL_ne hkn]
      exact ⟨q.1, q.2.1, q.2.2.1, q.2.2.2.1, q.2.2.2.2.1, q.2.2.2.2.2.1, q.2.2.2.2.2.2.1, q.2.2.2.2.2.2.2.1, q.2.2.2.2.2.2.2.2.1, okS_loc (S := S) rfl (upd_ne hkn) (upd_ne hkn) (fun j hj => upd_ne (by omega)) (fun j hj => upd_ne (by omega)) q.2.2.2.2.2.2.2.2.2⟩
  · intro q hq
    have hq : 7 * (S.1 15 + 1).toNatClampNeg ≤ q := hq
    rw [hu.1] at hq
    show upd (S.2.2.1 26) (7 * nOf S 15) (S.1 0) q = 0 ∧ upd (S.2.2.1 27) (7 * nOf S 15) ho q = 0
    rw [upd_ne (by omega), upd_ne (by omega)]
    exact hZ q (by omega)
theorem Ok_deposit {S : St} (h : Ok S) (kind c o su ho : Int32) : Ok (sp_deposit S kind c o su ho).2 := by
  have h4 : inR kind 0 2 → 0 ≤ c → (kind = 1 → 0 ≤ o) → inR su 1 10000 → inR ho 0 9 → Ok (sp_dep4 S kind c o su ho).2 := by
    intro a b d e f
    unfold sp_dep4
    split
    · exact h
    · rename_i h15
      exact Ok_dep5 h h15 a b d e f
  have h3 : inR kind 0 2 → 0 ≤ c → (kind = 1 → 0 ≤ o) → inR su 1 10000 → inR ho 0 9 → Ok (sp_dep3 S kind c o su ho).2 := by
    intro a b d e f
    unfold sp_dep3
    split
    · exact h
    · split
      · split
        · exact h
        · exact h4 a b d e f
      · exact h4 a b d e f
  have h2 : inR kind 0 2 → 0 ≤ c → (kind = 1 → 0 ≤ o) → Ok (sp_dep2 S kind c o su ho).2 := by
    intro a b d
    unfold sp_dep2
    split
    · exact h
    · split
      · exact h
      · rename_i e f
        have e := Decidable.not_not.mp e
        have f := Decidable.not_not.mp f
        split
        · split
          · exact h
          · exact h3 a b d f e
        · exact h3 a b d f e
  unfold sp_deposit
  split
  · exact h
  · rename_i a
    have a := Decidable.not_not.mp a
    split
    · exact h
    · rename_i b
      have b := Decidable.not_not.mp b
      split
      · split
        · exact h
        · rename_i d
          exact h2 a b.1 (fun _ => (Decidable.not_not.mp d).1)
      · rename_i d
        exact h2 a b.1 (fun h9 => absurd h9 d)
theorem Ok_sell {S : St} (h : Ok S) (d ho : Int32) : Ok (sp_sell S d ho).2 := by
  unfold sp_sell
  split
  · exact h
  · rename_i hd
    have hd := Decidable.not_not.mp hd
    split
    · exact h
    · rename_i hh
      have hh := Decidable.not_not.mp hh
      obtain ⟨d9, d9n, rfl⟩ := isD_nat hd
      have d9c : d9 < 30 := Nat.lt_of_lt_of_le d9n (ok_30 h.1)
      rw [nI_clamp (show d9 < 2 ^ 31 by omega)]
      split
      · split
        · exact h
        · obtain ⟨hN, hD, hR, hC, hF, hP, hZ, hM⟩ := h
          have qd := (hP d9 d9n).2.2.2.2.2.2.2.2.2
          obtain ⟨⟨s1, s2⟩, s3, s4, s5, s6⟩ := id qd
          have h1 : 0 ≤ S.2.2.1 25 d9 := by simp only [i3e, zi_0, zi_1] at s1 ⊢; omega
          have h2 := cl_int h1
          have t1 := s1
          have t2 := s2
          simp only [i3e, zi_7, zi_1] at t1 t2
          split
          · rename_i he
            refine ⟨hN, hD, hR, hC, hF, ?_, ?_, hM⟩
            · intro k hk
              have q := hP k hk
              refine ⟨q.1, q.2.1, q.2.2.1, q.2.2.2.1, q.2.2.2.2.1, q.2.2.2.2.2.1, q.2.2.2.2.2.2.1, q.2.2.2.2.2.2.2.1, q.2.2.2.2.2.2.2.2.1, ?_⟩
              have e26 : (uA (uA S 26 (upd (S.2.2.1 26) (sLast S d9) (S.1 0))) 27 (upd (S.2.2.1 27) (sLast S d9) ho)).2.2.1 26 = S.2.2.1 26 := upd_id he.symm
              by_cases hkd : k = d9
              · subst hkd
                unfold okS
                rw [e26]
                refine ⟨⟨s1, s2⟩, s3, s4, s5, fun j hj => ?_⟩
                show 0 ≤ upd (S.2.2.1 27) (sLast S k) ho (7 * k + j) ∧ upd (S.2.2.1 27) (sLast S k) ho (7 * k + j) ≤ 9
                by_cases hj9 : 7 * k + j = sLast S k
                · rw [hj9, upd_self]; exact hh
                · rw [upd_ne hj9]; exact s6 j hj
              · refine okS_loc (S := S) rfl rfl rfl (fun j hj => by rw [e26]) (fun j hj => ?_) q.2.2.2.2.2.2.2.2.2
                show upd (S.2.2.1 27) (sLast S d9) ho (7 * k + j) = _
                rw [upd_ne (by rw [sLast]; omega)]
            · intro q hq
              have hq : 7 * nOf S 15 ≤ q := hq
              show upd (S.2.2.1 26) (sLast S d9) (S.1 0) q = 0 ∧ upd (S.2.2.1 27) (sLast S d9) ho q = 0
              rw [upd_ne (by rw [sLast]; omega), upd_ne (by rw [sLast]; omega)]
              exact hZ q hq
          · rename_i he
            split
            · exact ⟨hN, hD, hR, hC, hF, hP, hZ, hM⟩
            · rename_i h7
              have t7 := h7
              simp only [i3q, zi_7] at t7
              have a1 : (S.2.2.1 25 d9 + 1).toInt = (S.2.2.1 25 d9).toInt + 1 := by
                rw [Jvm.Kit.i32_add (by rw [zi_1]; omega) (by rw [zi_1]; omega), zi_1]
              have a2 : (S.2.2.1 25 d9 + 1).toNatClampNeg = (S.2.2.1 25 d9).toNatClampNeg + 1 := by
                show (S.2.2.1 25 d9 + 1).toInt.toNat = _
                rw [a1]; omega
              have eL : sLast S d9 + 1 = 7 * d9 + (S.2.2.1 25 d9).toNatClampNeg := by rw [sLast]; omega
              rw [eL]
              refine ⟨hN, hD, hR, hC, hF, ?_, ?_, hM⟩
              · intro k hk
                have q := hP k hk
                refine ⟨q.1, q.2.1, q.2.2.1, q.2.2.2.1, q.2.2.2.2.1, q.2.2.2.2.2.1, q.2.2.2.2.2.2.1, q.2.2.2.2.2.2.2.1, q.2.2.2.2.2.2.2.2.1, ?_⟩
                by_cases hkd : k = d9
                · subst hkd
                  show (1 ≤ upd (S.2.2.1 25) k (S.2.2.1 25 k + 1) k ∧ upd (S.2.2.1 25) k (S.2.2.1 25 k + 1) k ≤ 7) ∧ upd (S.2.2.1 26) (7 * k + (S.2.2.1 25 k).toNatClampNeg) (S.1 0) (7 * k) = S.2.2.1 22 k ∧ (∀ j, j + 1 < (upd (S.2.2.1 25) k (S.2.2.1 25 k + 1) k).toNatClampNeg → upd (S.2.2.1 26) (7 * k + (S.2.2.1 25 k).toNatClampNeg) (S.1 0) (7 * k + j) < upd (S.2.2.1 26) (7 * k + (S.2.2.1 25 k).toNatClampNeg) (S.1 0) (7 * k + (j + 1))) ∧ upd (S.2.2.1 26) (7 * k + (S.2.2.1 25 k).toNatClampNeg) (S.1 0) (7 * k + ((upd (S.2.2.1 25) k (S.2.2.1 25 k + 1) k).toNatClampNeg - 1)) ≤ S.1 0 ∧ (∀ j, j < (upd (S.2.2.1 25) k (S.2.2.1 25 k + 1) k).toNatClampNeg → 0 ≤ upd (S.2.2.1 27) (7 * k + (S.2.2.1 25 k).toNatClampNeg) ho (7 * k + j) ∧ upd (S.2.2.1 27) (7 * k + (S.2.2.1 25 k).toNatClampNeg) ho (7 * k + j) ≤ 9)
                  rw [upd_self, a2]
                  refine ⟨⟨by rw [i3e, a1, zi_1]; omega, by rw [i3e, a1, zi_7]; omega⟩, ?_, fun j hj => ?_, ?_, fun j hj => ?_⟩
                  · rw [upd_ne (by omega)]; exact s3
                  · rw [upd_ne (by omega)]
                    by_cases hj9 : j + 1 = (S.2.2.1 25 k).toNatClampNeg
                    · rw [hj9, upd_self]
                      have x1 := s5
                      have x2 := he
                      rw [sLast] at x2
                      rw [show (S.2.2.1 25 k).toNatClampNeg - 1 = j by omega] at x1 x2
                      simp only [i3e, i3q, i3l] at x1 x2 ⊢
                      omega
                    · rw [upd_ne (by omega)]
                      exact s4 j (by omega)
                  · rw [show (S.2.2.1 25 k).toNatClampNeg + 1 - 1 = (S.2.2.1 25 k).toNatClampNeg by omega, upd_self]
                    exact Int32.le_refl _
                  · by_cases hj9 : j = (S.2.2.1 25 k).toNatClampNeg
                    · rw [hj9, upd_self]; exact hh
                    · rw [upd_ne (by omega)]; exact s6 j (by omega)
                · exact okS_loc (S := S) rfl rfl (upd_ne hkd) (fun j hj => upd_ne (by omega)) (fun j hj => upd_ne (by omega)) q.2.2.2.2.2.2.2.2.2
              · intro q hq
                have hq : 7 * nOf S 15 ≤ q := hq
                show upd (S.2.2.1 26) (7 * d9 + (S.2.2.1 25 d9).toNatClampNeg) (S.1 0) q = 0 ∧ upd (S.2.2.1 27) (7 * d9 + (S.2.2.1 25 d9).toNatClampNeg) ho q = 0
                rw [upd_ne (by omega), upd_ne (by omega)]
                exact hZ q hq
      · exact h
