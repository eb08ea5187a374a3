theorem add_m1 (x : Int32) : x + (-1) = x - 1 := (Int32.sub_eq_add_neg x 1).symm
theorem cHo_at {S : St} {i j : Nat} (h : j < 7) : cHo S i j = S.2.2.1 27 (7 * i + j) := by rw [cHo, if_pos h]
theorem cFr_at {S : St} {i j : Nat} (h : j < 7) : cFr S i j = S.2.2.1 26 (7 * i + j) := by rw [cFr, if_pos h]
/-- the row of deposit i's latest holder -/
def lr (S : St) (i : Nat) : Nat := (S.2.2.1 25 i).toNatClampNeg - 1
theorem lr_eq {S : St} {i : Nat} (h : 1 ≤ S.2.2.1 25 i ∧ S.2.2.1 25 i ≤ 7) : S.2.2.1 25 i - 1 = nI (lr S i) ∧ lr S i < 7 ∧ (S.2.2.1 25 i).toNatClampNeg = lr S i + 1 := by
  obtain ⟨h1, h2⟩ := h
  have h0 : 0 ≤ S.2.2.1 25 i := by simp only [i3e, zi_0, zi_1] at h1 ⊢; omega
  have e := cl_int h0
  simp only [i3e, zi_1, zi_7] at h1 h2
  refine ⟨?_, by rw [lr]; omega, by rw [lr]; omega⟩
  conv => lhs; rw [cl_eq h0, show (1 : Int32) = nI 1 from rfl, pk_sub (by omega)]
  rfl
theorem uA_comm (S : St) {a b : Nat} (h : a ≠ b) (f g : Nat → Int32) : uA (uA S a f) b g = uA (uA S b g) a f := by
  simp only [uA]
  congr 3
  funext k
  simp only [va_up]
  by_cases h1 : k = a
  · subst h1; simp [h]
  · simp [h1]
theorem i6sub (x a b c : Int64) : x - a - b - c = x - (b + a + c) := by
  apply Int64.toBitVec_inj.mp
  simp only [Int64.toBitVec_sub, Int64.toBitVec_add]
  generalize x.toBitVec = x
  generalize a.toBitVec = a
  generalize b.toBitVec = b
  generalize c.toBitVec = c
  rw [BitVec.sub_eq_add_neg, BitVec.sub_eq_add_neg, BitVec.sub_eq_add_neg, BitVec.sub_eq_add_neg, BitVec.neg_add, BitVec.sub_eq_add_neg, BitVec.neg_add, BitVec.sub_eq_add_neg]
  ac_rfl
set_option maxHeartbeats 4000000 in
set_option maxRecDepth 100000 in
theorem c_X0_fateRow (l : Launch) (D : va_G) (G : Nat → ClassId) (τ α : Nat → Nat) (S J : St) (n sz : Nat) (ch known : Int32) (hN : okN S) (hF : okF S) : Ri l D G τ yX0_fateRow cX0_fateRow 4 (some .int) 1 [.ref (α 9), .int ch, .int known] α (cE G α S J n) (Lc n) sz (fun r => r = oI (sFate S ch known)) := by
  refine gM _ (by decide) rfl (Nat.le_of_ble_eq_true rfl) ?_
  intro p e s m below meth c ls C hr hlk hnm hsz B hl
  have hx := C.1
  have hb := C.2.1
  have hl : lv_has ls 4 [(0, .ref (α 9)), (1, .int ch), (2, .int known)] := hl
  have hNe := nOf_eq hN.2.2.2.1.1
  have hNl : nOf S 10 ≤ 90 := nOf_le hN.2.2.2.1.1 hN.2.2.2.1.2 (by decide)
  have loop : ∀ (kk : Nat) (ls : Array Slot), kk ≤ nOf S 10 → lastF S ch known (nOf S 10) = lastF S ch known kk → lv_has ls 4 [(3, .int (nI kk - 1)), (0, .ref (α 9)), (1, .int ch), (2, .int known)] → W p l e (rmd 1 0 0) s m [.ref (α 9), .int ch, .int known].toArray below meth c s.heap [] 0 0 (MQ below (vp_Si (fun r => r = oI (sFate S ch known))) [.ref (α 9), .int ch, .int known].toArray s 0 0 (fun _ => False)) (F0 m 12 ls []) := by
    intro kk
    induction kk with
    | zero =>
      intro ls hk hI hl
      refine lv_iload_n hx hb dX0_fateRow_12 rfl (lv_at hl 0 rfl) ?_
      refine lv_if_lt (tgt := 58) hx hb dX0_fateRow_13 (by decide) (fun _ => ?_) (fun hc => absurd (by decide) hc)
      refine lv_iconst (v := (-1)) hx hb dX0_fateRow_58 (by decide) ?_
      exact ge_i C hr rfl hlk (by rw [sFate, hI]; rfl) dX0_fateRow_59
    | succ j ih =>
      intro ls hk hI hl
      rw [nI_pred] at hl
      refine lv_iload_n hx hb dX0_fateRow_12 rfl (lv_at hl 0 rfl) ?_
      refine lv_if_lt (tgt := 58) hx hb dX0_fateRow_13 (by decide) (fun hc => absurd hc (nI_pos (by omega))) (fun _ => ?_)
      refine lv_aload_n hx hb dX0_fateRow_16 rfl (lv_at hl 1 rfl) ?_
      refine g_get C B (9) (Lc_in (by decide)) cE_9 rfl gf_0 2 (by decide) wl_98 (v := .ref (α 11)) cF_9_2 dX0_fateRow_17 ?_
      refine lv_iload_n hx hb dX0_fateRow_20 rfl (lv_at hl 0 rfl) ?_
      refine g_iald C B (11) (Lc_in (by decide)) (f := S.2.2.1 11) cE_11 (vp_in_nI (by omega) (by omega)) (j := j) (nI_clamp (by omega)) dX0_fateRow_21 ?_
      refine lv_iload_n hx hb dX0_fateRow_22 rfl (lv_at hl 2 rfl) ?_
      refine lv_icmp_ne (tgt := 52) hx hb dX0_fateRow_23 (by decide) (fun c1 => ?_) (fun c1 => ?_)
      · refine lv_iinc (v := ((nI j) + (-1))) (lv' := [(3, .int ((nI j) + (-1))), (0, .ref (α 9)), (1, .int ch), (2, .int known)]) hx hb dX0_fateRow_52 hl (k := 0) rfl rfl (by decide) rfl (fun ls hl => ?_)
        refine lv_goto (tgt := 12) hx hb dX0_fateRow_55 (by decide) ?_
        exact ih ls (by omega) (by rw [hI, lastF, if_neg (by simp only [i3l, i3e, i3q, inR, isC, isD, zi_0, zi_1, zi_2, zi_3, zi_4, zi_5, zi_6, zi_7, zi_8, zi_9, zi_10, zi_12, zi_20, zi_21, zi_30, zi_60, zi_90, zi_99, zi_100, zi_180, zi_240, zi_400, zi_500, zi_1000, zi_1199, zi_10000, zi_100000, zi_1000000, i3m1] at c1 ⊢; omega)]) (by have h9 := lv_sub (l' := [(3, .int ((nI j) + (-1))), (0, .ref (α 9)), (1, .int ch), (2, .int known)]) hl [0, 1, 2, 3] rfl; rw [add_m1] at h9; exact h9)
      · refine lv_aload_n hx hb dX0_fateRow_26 rfl (lv_at hl 1 rfl) ?_
        refine g_get C B (9) (Lc_in (by decide)) cE_9 rfl gf_0 5 (by decide) wl_101 (v := .ref (α 14)) cF_9_5 dX0_fateRow_27 ?_
        refine lv_iload_n hx hb dX0_fateRow_30 rfl (lv_at hl 0 rfl) ?_
        refine g_iald C B (14) (Lc_in (by decide)) (f := S.2.2.1 14) cE_14 (vp_in_nI (by omega) (by omega)) (j := j) (nI_clamp (by omega)) dX0_fateRow_31 ?_
        refine lv_iload_n hx hb dX0_fateRow_32 rfl (lv_at hl 3 rfl) ?_
        refine lv_icmp_gt (tgt := 52) hx hb dX0_fateRow_33 (by decide) (fun c2 => ?_) (fun c2 => ?_)
        · refine lv_iinc (v := ((nI j) + (-1))) (lv' := [(3, .int ((nI j) + (-1))), (0, .ref (α 9)), (1, .int ch), (2, .int known)]) hx hb dX0_fateRow_52 hl (k := 0) rfl rfl (by decide) rfl (fun ls hl => ?_)
          refine lv_goto (tgt := 12) hx hb dX0_fateRow_55 (by decide) ?_
          exact ih ls (by omega) (by rw [hI, lastF, if_neg (by simp only [i3l, i3e, i3q, inR, isC, isD, zi_0, zi_1, zi_2, zi_3, zi_4, zi_5, zi_6, zi_7, zi_8, zi_9, zi_10, zi_12, zi_20, zi_21, zi_30, zi_60, zi_90, zi_99, zi_100, zi_180, zi_240, zi_400, zi_500, zi_1000, zi_1199, zi_10000, zi_100000, zi_1000000, i3m1] at c1 c2 ⊢; omega)]) (by have h9 := lv_sub (l' := [(3, .int ((nI j) + (-1))), (0, .ref (α 9)), (1, .int ch), (2, .int known)]) hl [0, 1, 2, 3] rfl; rw [add_m1] at h9; exact h9)
        · refine lv_aload_n hx hb dX0_fateRow_36 rfl (lv_at hl 1 rfl) ?_
          refine g_get C B (9) (Lc_in (by decide)) cE_9 rfl gf_0 3 (by decide) wl_99 (v := .ref (α 12)) cF_9_3 dX0_fateRow_37 ?_
          refine lv_iload_n hx hb dX0_fateRow_40 rfl (lv_at hl 0 rfl) ?_
          refine g_iald C B (12) (Lc_in (by decide)) (f := S.2.2.1 12) cE_12 (vp_in_nI (by omega) (by omega)) (j := j) (nI_clamp (by omega)) dX0_fateRow_41 ?_
          refine lv_iconst (v := 3) hx hb dX0_fateRow_42 (by decide) ?_
          refine lv_icmp_ne (tgt := 50) hx hb dX0_fateRow_43 (by decide) (fun c3 => ?_) (fun c3 => ?_)
          · refine lv_iload_n hx hb dX0_fateRow_50 rfl (lv_at hl 0 rfl) ?_
            exact ge_i C hr rfl hlk (by rw [sFate, hI, lastF, if_pos (by simp only [i3l, i3e, i3q, inR, isC, isD, zi_0, zi_1, zi_2, zi_3, zi_4, zi_5, zi_6, zi_7, zi_8, zi_9, zi_10, zi_12, zi_20, zi_21, zi_30, zi_60, zi_90, zi_99, zi_100, zi_180, zi_240, zi_400, zi_500, zi_1000, zi_1199, zi_10000, zi_100000, zi_1000000, i3m1] at c1 c2 ⊢; omega)]; dsimp only; rw [if_pos (by have h9 := (hF j (by omega)).1.2; simp only [i3l, i3e, i3q, inR, isC, isD, zi_0, zi_1, zi_2, zi_3, zi_4, zi_5, zi_6, zi_7, zi_8, zi_9, zi_10, zi_12, zi_20, zi_21, zi_30, zi_60, zi_90, zi_99, zi_100, zi_180, zi_240, zi_400, zi_500, zi_1000, zi_1199, zi_10000, zi_100000, zi_1000000, i3m1] at c3 h9 ⊢; omega)]; rfl) dX0_fateRow_51
          · refine lv_iconst (v := (-1)) hx hb dX0_fateRow_46 (by decide) ?_
            refine lv_goto (tgt := 51) hx hb dX0_fateRow_47 (by decide) ?_
            exact ge_i C hr rfl hlk (by rw [sFate, hI, lastF, if_pos (by simp only [i3l, i3e, i3q, inR, isC, isD, zi_0, zi_1, zi_2, zi_3, zi_4, zi_5, zi_6, zi_7, zi_8, zi_9, zi_10, zi_12, zi_20, zi_21, zi_30, zi_60, zi_90, zi_99, zi_100, zi_180, zi_240, zi_400, zi_500, zi_1000, zi_1199, zi_10000, zi_100000, zi_1000000, i3m1] at c1 c2 ⊢; omega)]; dsimp only; rw [if_neg (by simp only [i3l, i3e, i3q, inR, isC, isD, zi_0, zi_1, zi_2, zi_3, zi_4, zi_5, zi_6, zi_7, zi_8, zi_9, zi_10, zi_12, zi_20, zi_21, zi_30, zi_60, zi_90, zi_99, zi_100, zi_180, zi_240, zi_400, zi_500, zi_1000, zi_1199, zi_10000, zi_100000, zi_1000000, i3m1] at c3 ⊢; omega)]; rfl) dX0_fateRow_51
  refine lv_aload_n hx hb dX0_fateRow_0 rfl (lv_at hl 0 rfl) ?_
  refine g_get C B (9) (Lc_in (by decide)) cE_9 rfl gf_0 6 (by decide) wl_102 (v := .int (S.1 10)) cF_9_6 dX0_fateRow_1 ?_
  refine lv_bipush (v := 90) hx hb dX0_fateRow_4 (by decide) ?_
  refine va_mmin hx hb (C.2.2.1.trans hl.1.symm) C.2.2.2.1 (C.2.2.2.2 _ wl_293) (C.2.2.2.2 _ wl_294) (C.2.2.2.2 _ wl_41) (C.2.2.2.2 _ wl_295) (Nat.le_of_ble_eq_true rfl) (Nat.le_of_ble_eq_true rfl) (Nat.le_of_ble_eq_true rfl) (Nat.le_of_ble_eq_true rfl) dX0_fateRow_6 ?_
  rw [if_neg (show ¬ (90 : Int32) < S.1 10 by have h9 := hN.2.2.2.1.2; simp only [i3l, i3e, i3q, inR, isC, isD, zi_0, zi_1, zi_2, zi_3, zi_4, zi_5, zi_6, zi_7, zi_8, zi_9, zi_10, zi_12, zi_20, zi_21, zi_30, zi_60, zi_90, zi_99, zi_100, zi_180, zi_240, zi_400, zi_500, zi_1000, zi_1199, zi_10000, zi_100000, zi_1000000, i3m1] at h9 ⊢; omega)]
  refine lv_iconst (v := 1) hx hb dX0_fateRow_9 (by decide) ?_
  refine lv_isub hx hb dX0_fateRow_10 ?_
  refine lv_istore_n (lv' := [(3, .int (S.1 10 - 1)), (0, .ref (α 9)), (1, .int ch), (2, .int known)]) hx hb dX0_fateRow_11 rfl hl (by decide) rfl (fun ls hl => ?_)
  rw [hNe] at hl
  exact loop (nOf S 10) ls (Nat.le_refl _) rfl (lv_sub hl [0, 1, 2, 3] rfl)
set_option maxHeartbeats 4000000 in
set_option maxRecDepth 100000 in
theorem c_X2_lastRow (l : Launch) (D : va_G) (G : Nat → ClassId) (τ α : Nat → Nat) (S J : St) (n sz : Nat) (i : Nat) (hi : i < n) (hs : 1 ≤ S.2.2.1 25 i ∧ S.2.2.1 25 i ≤ 7) : Ri l D G τ yX2_lastRow cX2_lastRow 1 (some .int) 1 [.ref (α (27 + 3 * i))] α (cE G α S J n) (Lc n) sz (fun r => r = nI (lr S i)) := by
  refine gM _ (by decide) rfl (Nat.le_of_ble_eq_true rfl) ?_
  intro p e s m below meth c ls C hr hlk hnm hsz B hl
  have hx := C.1
  have hb := C.2.1
  have hl : lv_has ls 1 [(0, .ref (α (27 + 3 * i)))] := hl
  refine lv_iconst (v := 0) hx hb dX2_lastRow_0 (by decide) ?_
  refine lv_aload_n hx hb dX2_lastRow_1 rfl (lv_at hl 0 rfl) ?_
  refine g_get C B (27 + 3 * i) (Lc_d (i := i) (by omega) (by omega) (by omega)) cE_d rfl gf_2 9 (by decide) wl_510 (v := .int ((S.2.2.1 25) i - 1)) cD_9 dX2_lastRow_2 ?_
  refine lv_bipush (v := 6) hx hb dX2_lastRow_5 (by decide) ?_
  refine va_mmin hx hb (C.2.2.1.trans hl.1.symm) C.2.2.2.1 (C.2.2.2.2 _ wl_375) (C.2.2.2.2 _ wl_294) (C.2.2.2.2 _ wl_41) (C.2.2.2.2 _ wl_295) (Nat.le_of_ble_eq_true rfl) (Nat.le_of_ble_eq_true rfl) (Nat.le_of_ble_eq_true rfl) (Nat.le_of_ble_eq_true rfl) dX2_lastRow_7 ?_
  refine va_mmax hx hb (C.2.2.1.trans hl.1.symm) C.2.2.2.1 (C.2.2.2.2 _ wl_376) (C.2.2.2.2 _ wl_377) (C.2.2.2.2 _ wl_41) (C.2.2.2.2 _ wl_378) (Nat.le_of_ble_eq_true rfl) (Nat.le_of_ble_eq_true rfl) (Nat.le_of_ble_eq_true rfl) (Nat.le_of_ble_eq_true rfl) dX2_lastRow_10 ?_
  exact ge_i C hr rfl hlk (by rw [(lr_eq hs).1]; have h9 := (lr_eq hs).2.1; rw [if_neg (show ¬ (6 : Int32) < nI (lr S i) from nI_nlt (b := lr S i) (a := 6) (by omega) (by decide))]; split <;> first | rfl | (rename_i h8; simp only [i3l, nI_toInt (show lr S i < 2 ^ 31 by omega), zi_0, i3q] at h8 ⊢; omega)) dX2_lastRow_13
set_option maxHeartbeats 4000000 in
set_option maxRecDepth 100000 in
theorem c_X2_latestHolder (l : Launch) (D : va_G) (G : Nat → ClassId) (τ α : Nat → Nat) (S J : St) (n sz : Nat) (i : Nat) (hi : i < n) (hs : 1 ≤ S.2.2.1 25 i ∧ S.2.2.1 25 i ≤ 7) : Ri l D G τ yX2_latestHolder cX2_latestHolder 1 (some .int) 2 [.ref (α (27 + 3 * i))] α (cE G α S J n) (Lc n) sz (fun r => r = S.2.2.1 27 (sLast S i)) := by
  refine gM _ (by decide) rfl (Nat.le_of_ble_eq_true rfl) ?_
  intro p e s m below meth c ls C hr hlk hnm hsz B hl
  have hx := C.1
  have hb := C.2.1
  have hl : lv_has ls 1 [(0, .ref (α (27 + 3 * i)))] := hl
  have hlr := (lr_eq hs).2.1
  refine lv_aload_n hx hb dX2_latestHolder_0 rfl (lv_at hl 0 rfl) ?_
  refine g_get C B (27 + 3 * i) (Lc_d (i := i) (by omega) (by omega) (by omega)) cE_d rfl gf_2 7 (by decide) wl_508 (v := .ref (α (28 + 3 * i))) cD_7 dX2_latestHolder_1 ?_
  refine lv_aload_n hx hb dX2_latestHolder_4 rfl (lv_at hl 0 rfl) ?_
  refine gc_i (gr_V C B (k := 27 + 3 * i) (As := []) (rest := [.ref (α (28 + 3 * i))]) (c_X2_lastRow l D G τ α S J n _ i (by omega) hs) (Lc_d (i := i) (by omega) (by omega) (by omega)) cE_d rfl wl_371 wl_372 wl_373 wl_42 wl_374 (na := 0) (by decide +kernel) rfl ⟨Nat.le_of_ble_eq_true rfl, Nat.le_of_ble_eq_true rfl⟩ ⟨Nat.le_of_ble_eq_true rfl, Nat.le_of_ble_eq_true rfl⟩ hl.1 rfl (Nat.le_of_ble_eq_true rfl) dX2_latestHolder_5) (fun r h => ?_)
  subst h
  refine g_iald C B (28 + 3 * i) (Lc_d (i := i) (by omega) (by omega) (by omega)) (f := (cHo S i)) cE_h (vp_in_nI (by omega) (by omega)) (j := (lr S i)) (nI_clamp (by omega)) dX2_latestHolder_8 ?_
  exact ge_i C hr rfl hlk (by rw [cHo_at (lr_eq hs).2.1]; rfl) dX2_latestHolder_9
set_option maxHeartbeats 4000000 in
set_option maxRecDepth 100000 in
theorem c_X2_cameIn (l : Launch) (D : va_G) (G : Nat → ClassId) (τ α : Nat → Nat) (S J : St) (n sz : Nat) (i : Nat) (mo : Int32) (hi : i < n) (hs : 1 ≤ S.2.2.1 25 i ∧ S.2.2.1 25 i ≤ 7) : Ri l D G τ yX2_cameIn cX2_cameIn 2 (some .boolean) 2 [.ref (α (27 + 3 * i)), .int mo] α (cE G α S J n) (Lc n) sz (fun r => r = bI (S.2.2.1 26 (sLast S i) = mo)) := by
  refine gM _ (by decide) rfl (Nat.le_of_ble_eq_true rfl) ?_
  intro p e s m below meth c ls C hr hlk hnm hsz B hl
  have hx := C.1
  have hb := C.2.1
  have hl : lv_has ls 2 [(0, .ref (α (27 + 3 * i))), (1, .int mo)] := hl
  have hlr := (lr_eq hs).2.1
  refine lv_aload_n hx hb dX2_cameIn_0 rfl (lv_at hl 0 rfl) ?_
  refine g_get C B (27 + 3 * i) (Lc_d (i := i) (by omega) (by omega) (by omega)) cE_d rfl gf_2 8 (by decide) wl_509 (v := .ref (α (29 + 3 * i))) cD_8 dX2_cameIn_1 ?_
  refine lv_aload_n hx hb dX2_cameIn_4 rfl (lv_at hl 0 rfl) ?_
  refine gc_i (gr_V C B (k := 27 + 3 * i) (As := []) (rest := [.ref (α (29 + 3 * i))]) (c_X2_lastRow l D G τ α S J n _ i (by omega) hs) (Lc_d (i := i) (by omega) (by omega) (by omega)) cE_d rfl wl_371 wl_372 wl_373 wl_42 wl_374 (na := 0) (by decide +kernel) rfl ⟨Nat.le_of_ble_eq_true rfl, Nat.le_of_ble_eq_true rfl⟩ ⟨Nat.le_of_ble_eq_true rfl, Nat.le_of_ble_eq_true rfl⟩ hl.1 rfl (Nat.le_of_ble_eq_true rfl) dX2_cameIn_5) (fun r h => ?_)
  subst h
  refine g_iald C B (29 + 3 * i) (Lc_d (i := i) (by omega) (by omega) (by omega)) (f := (cFr S i)) cE_f (vp_in_nI (by omega) (by omega)) (j := (lr S i)) (nI_clamp (by omega)) dX2_cameIn_8 ?_
  refine lv_iload_n hx hb dX2_cameIn_9 rfl (lv_at hl 1 rfl) ?_
  refine lv_icmp_ne (tgt := 17) hx hb dX2_cameIn_10 (by decide) (fun c1 => ?_) (fun c1 => ?_)
  · refine lv_iconst (v := 0) hx hb dX2_cameIn_17 (by decide) ?_
    exact ge_i C hr rfl hlk (bI_f (by have h9 := c1; rw [cFr_at (lr_eq hs).2.1] at h9; exact h9)) dX2_cameIn_18
  · refine lv_iconst (v := 1) hx hb dX2_cameIn_13 (by decide) ?_
    refine lv_goto (tgt := 18) hx hb dX2_cameIn_14 (by decide) ?_
    exact ge_i C hr rfl hlk (bI_t (by have h9 := c1; rw [cFr_at (lr_eq hs).2.1] at h9; exact h9)) dX2_cameIn_18
set_option maxHeartbeats 4000000 in
set_option maxRecDepth 100000 in
theorem c_X2_maySellIn (l : Launch) (D : va_G) (G : Nat → ClassId) (τ α : Nat → Nat) (S J : St) (n sz : Nat) (i : Nat) (mo : Int32) (hi : i < n) (hs : 1 ≤ S.2.2.1 25 i ∧ S.2.2.1 25 i ≤ 7) : Ri l D G τ yX2_maySellIn cX2_maySellIn 2 (some .boolean) 3 [.ref (α (27 + 3 * i)), .int mo] α (cE G α S J n) (Lc n) sz (fun r => r = bI (S.2.2.1 26 (sLast S i) = mo ∨ S.2.2.1 25 i < 7)) := by
  refine gM _ (by decide) rfl (Nat.le_of_ble_eq_true rfl) ?_
  intro p e s m below meth c ls C hr hlk hnm hsz B hl
  have hx := C.1
  have hb := C.2.1
  have hl : lv_has ls 2 [(0, .ref (α (27 + 3 * i))), (1, .int mo)] := hl
  refine lv_aload_n hx hb dX2_maySellIn_0 rfl (lv_at hl 0 rfl) ?_
  refine lv_iload_n hx hb dX2_maySellIn_1 rfl (lv_at hl 1 rfl) ?_
  refine gc_b (gr_V C B (k := 27 + 3 * i) (As := [.int mo]) (rest := []) (c_X2_cameIn l D G τ α S J n _ i mo (by omega) hs) (Lc_d (i := i) (by omega) (by omega) (by omega)) cE_d rfl wl_596 wl_597 wl_598 wl_42 wl_599 (na := 1) (by decide +kernel) rfl ⟨Nat.le_of_ble_eq_true rfl, Nat.le_of_ble_eq_true rfl⟩ ⟨Nat.le_of_ble_eq_true rfl, Nat.le_of_ble_eq_true rfl⟩ hl.1 rfl (Nat.le_of_ble_eq_true rfl) dX2_maySellIn_2) (fun c1 => ?_) (fun c1 => ?_)
  · refine lv_if_ne (tgt := 17) hx hb dX2_maySellIn_5 (by decide) (fun _ => ?_) (fun hc => absurd hc (by decide))
    refine lv_iconst (v := 1) hx hb dX2_maySellIn_17 (by decide) ?_
    refine lv_goto (tgt := 22) hx hb dX2_maySellIn_18 (by decide) ?_
    exact ge_i C hr rfl hlk (bI_t (Or.inl c1)) dX2_maySellIn_22
  · refine lv_if_ne (tgt := 17) hx hb dX2_maySellIn_5 (by decide) (fun hc => absurd (by decide) hc) (fun _ => ?_)
    refine lv_aload_n hx hb dX2_maySellIn_8 rfl (lv_at hl 0 rfl) ?_
    refine g_get C B (27 + 3 * i) (Lc_d (i := i) (by omega) (by omega) (by omega)) cE_d rfl gf_2 9 (by decide) wl_510 (v := .int ((S.2.2.1 25) i - 1)) cD_9 dX2_maySellIn_9 ?_
    refine lv_bipush (v := 6) hx hb dX2_maySellIn_12 (by decide) ?_
    refine lv_icmp_ge (tgt := 21) hx hb dX2_maySellIn_14 (by decide) (fun c2 => ?_) (fun c2 => ?_)
    · refine lv_iconst (v := 0) hx hb dX2_maySellIn_21 (by decide) ?_
      exact ge_i C hr rfl hlk (bI_f (fun h6 => h6.elim c1 (fun h6 => absurd h6 (by have h9 := c2; have h8 := hs.1; have h7 := sub1 (show 0 ≤ S.2.2.1 25 i by simp only [i3l, i3e, i3q, inR, isC, isD, zi_0, zi_1, zi_2, zi_3, zi_4, zi_5, zi_6, zi_7, zi_8, zi_9, zi_10, zi_12, zi_20, zi_21, zi_30, zi_60, zi_90, zi_99, zi_100, zi_180, zi_240, zi_400, zi_500, zi_1000, zi_1199, zi_10000, zi_100000, zi_1000000, i3m1] at h8 ⊢; omega); simp only [i3l, i3e, i3q, inR, isC, isD, zi_0, zi_1, zi_2, zi_3, zi_4, zi_5, zi_6, zi_7, zi_8, zi_9, zi_10, zi_12, zi_20, zi_21, zi_30, zi_60, zi_90, zi_99, zi_100, zi_180, zi_240, zi_400, zi_500, zi_1000, zi_1199, zi_10000, zi_100000, zi_1000000, i3m1] at h9 h8 ⊢; omega)))) dX2_maySellIn_22
    · refine lv_iconst (v := 1) hx hb dX2_maySellIn_17 (by decide) ?_
      refine lv_goto (tgt := 22) hx hb dX2_maySellIn_18 (by decide) ?_
      exact ge_i C hr rfl hlk (bI_t (Or.inr (by have h9 := c2; have h8 := hs.1; have h7 := sub1 (show 0 ≤ S.2.2.1 25 i by simp only [i3l, i3e, i3q, inR, isC, isD, zi_0, zi_1, zi_2, zi_3, zi_4, zi_5, zi_6, zi_7, zi_8, zi_9, zi_10, zi_12, zi_20, zi_21, zi_30, zi_60, zi_90, zi_99, zi_100, zi_180, zi_240, zi_400, zi_500, zi_1000, zi_1199, zi_10000, zi_100000, zi_1000000, i3m1] at h8 ⊢; omega); simp only [i3l, i3e, i3q, inR, isC, isD, zi_0, zi_1, zi_2, zi_3, zi_4, zi_5, zi_6, zi_7, zi_8, zi_9, zi_10, zi_12, zi_20, zi_21, zi_30, zi_60, zi_90, zi_99, zi_100, zi_180, zi_240, zi_400, zi_500, zi_1000, zi_1199, zi_10000, zi_100000, zi_1000000, i3m1] at h9 h8 ⊢; omega))) dX2_maySellIn_22
set_option maxHeartbeats 4000000 in
set_option maxRecDepth 100000 in
theorem c_X2_holderIn (l : Launch) (D : va_G) (G : Nat → ClassId) (τ α : Nat → Nat) (S J : St) (n sz : Nat) (i : Nat) (mo : Int32) (hi : i < n) (hs : 1 ≤ S.2.2.1 25 i ∧ S.2.2.1 25 i ≤ 7) (hm : S.2.2.1 26 (7 * i) ≤ mo) : Ri l D G τ yX2_holderIn cX2_holderIn 3 (some .int) 2 [.ref (α (27 + 3 * i)), .int mo] α (cE G α S J n) (Lc n) sz (fun r => r = sHold S i mo) := by
  refine gM _ (by decide) rfl (Nat.le_of_ble_eq_true rfl) ?_
  intro p e s m below meth c ls C hr hlk hnm hsz B hl
  have hx := C.1
  have hb := C.2.1
  have hl : lv_has ls 3 [(0, .ref (α (27 + 3 * i))), (1, .int mo)] := hl
  have hlr := (lr_eq hs).2.1
  have loop : ∀ (kk : Nat) (ls : Array Slot), kk < 7 → sHold S i mo = holdL S i mo (kk + 1) → lv_has ls 3 [(2, .int (nI kk)), (0, .ref (α (27 + 3 * i))), (1, .int mo)] → W p l e (rmd 2 0 0) s m [.ref (α (27 + 3 * i)), .int mo].toArray below meth c s.heap [] 0 0 (MQ below (vp_Si (fun r => r = sHold S i mo)) [.ref (α (27 + 3 * i)), .int mo].toArray s 0 0 (fun _ => False)) (F0 m 5 ls []) := by
    intro kk
    induction kk with
    | zero =>
      intro ls hk hI hl
      refine lv_iload_n hx hb dX2_holderIn_5 rfl (lv_at hl 0 rfl) ?_
      refine lv_if_le (tgt := 25) hx hb dX2_holderIn_6 (by decide) (fun _ => ?_) (fun hc => absurd (by decide) hc)
      refine lv_aload_n hx hb dX2_holderIn_25 rfl (lv_at hl 1 rfl) ?_
      refine g_get C B (27 + 3 * i) (Lc_d (i := i) (by omega) (by omega) (by omega)) cE_d rfl gf_2 7 (by decide) wl_508 (v := .ref (α (28 + 3 * i))) cD_7 dX2_holderIn_26 ?_
      refine lv_iload_n hx hb dX2_holderIn_29 rfl (lv_at hl 0 rfl) ?_
      refine g_iald C B (28 + 3 * i) (Lc_d (i := i) (by omega) (by omega) (by omega)) (f := (cHo S i)) cE_h (vp_in_nI (by omega) (by omega)) (j := 0) (nI_clamp (by omega)) dX2_holderIn_30 ?_
      exact ge_i C hr rfl hlk (by rw [hI, holdL, if_pos (by rw [Nat.add_zero]; exact hm), cHo_at (by omega)]) dX2_holderIn_31
    | succ j ih =>
      intro ls hk hI hl
      refine lv_iload_n hx hb dX2_holderIn_5 rfl (lv_at hl 0 rfl) ?_
      refine lv_if_le (tgt := 25) hx hb dX2_holderIn_6 (by decide) (fun hc => absurd hc (nI_nle (n := j + 1) (by omega) (by omega))) (fun _ => ?_)
      refine lv_aload_n hx hb dX2_holderIn_9 rfl (lv_at hl 1 rfl) ?_
      refine g_get C B (27 + 3 * i) (Lc_d (i := i) (by omega) (by omega) (by omega)) cE_d rfl gf_2 8 (by decide) wl_509 (v := .ref (α (29 + 3 * i))) cD_8 dX2_holderIn_10 ?_
      refine lv_iload_n hx hb dX2_holderIn_13 rfl (lv_at hl 0 rfl) ?_
      refine g_iald C B (29 + 3 * i) (Lc_d (i := i) (by omega) (by omega) (by omega)) (f := (cFr S i)) cE_f (vp_in_nI (by omega) (by omega)) (j := (j + 1)) (nI_clamp (by omega)) dX2_holderIn_14 ?_
      refine lv_iload_n hx hb dX2_holderIn_15 rfl (lv_at hl 2 rfl) ?_
      refine lv_icmp_le (tgt := 25) hx hb dX2_holderIn_16 (by decide) (fun c1 => ?_) (fun c1 => ?_)
      · refine lv_aload_n hx hb dX2_holderIn_25 rfl (lv_at hl 1 rfl) ?_
        refine g_get C B (27 + 3 * i) (Lc_d (i := i) (by omega) (by omega) (by omega)) cE_d rfl gf_2 7 (by decide) wl_508 (v := .ref (α (28 + 3 * i))) cD_7 dX2_holderIn_26 ?_
        refine lv_iload_n hx hb dX2_holderIn_29 rfl (lv_at hl 0 rfl) ?_
        refine g_iald C B (28 + 3 * i) (Lc_d (i := i) (by omega) (by omega) (by omega)) (f := (cHo S i)) cE_h (vp_in_nI (by omega) (by omega)) (j := (j + 1)) (nI_clamp (by omega)) dX2_holderIn_30 ?_
        exact ge_i C hr rfl hlk (by have h9 := c1; rw [cFr_at (by omega)] at h9; rw [hI, holdL, if_pos h9, cHo_at (by omega)]) dX2_holderIn_31
      · refine lv_iinc (v := ((nI (j + 1)) + (-1))) (lv' := [(2, .int ((nI (j + 1)) + (-1))), (0, .ref (α (27 + 3 * i))), (1, .int mo)]) hx hb dX2_holderIn_19 hl (k := 0) rfl rfl (by decide) rfl (fun ls hl => ?_)
        refine lv_goto (tgt := 5) hx hb dX2_holderIn_22 (by decide) ?_
        have h9 := c1
        rw [cFr_at (by omega)] at h9
        exact ih ls (by omega) (by rw [hI, holdL, if_neg h9]) (by have h9 := lv_sub (l' := [(2, .int ((nI (j + 1)) + (-1))), (0, .ref (α (27 + 3 * i))), (1, .int mo)]) hl [0, 1, 2] rfl; rw [pk_m1] at h9; exact h9)
  refine lv_aload_n hx hb dX2_holderIn_0 rfl (lv_at hl 0 rfl) ?_
  refine gc_i (gr_V C B (k := 27 + 3 * i) (As := []) (rest := []) (c_X2_lastRow l D G τ α S J n _ i (by omega) hs) (Lc_d (i := i) (by omega) (by omega) (by omega)) cE_d rfl wl_371 wl_372 wl_373 wl_42 wl_374 (na := 0) (by decide +kernel) rfl ⟨Nat.le_of_ble_eq_true rfl, Nat.le_of_ble_eq_true rfl⟩ ⟨Nat.le_of_ble_eq_true rfl, Nat.le_of_ble_eq_true rfl⟩ hl.1 rfl (Nat.le_of_ble_eq_true rfl) dX2_holderIn_1) (fun r h => ?_)
  subst h
  refine lv_istore_n (lv' := [(2, .int (nI (lr S i))), (0, .ref (α (27 + 3 * i))), (1, .int mo)]) hx hb dX2_holderIn_4 rfl hl (by decide) rfl (fun ls hl => ?_)
  exact loop (lr S i) ls hlr (by rw [sHold, (lr_eq hs).2.2]) (lv_sub hl [0, 1, 2] rfl)
theorem add1 {x : Int32} (h1 : 1 ≤ x) (h7 : x < 7) : (x + 1).toInt = x.toInt + 1 := by
  simp only [i3e, i3l, zi_1, zi_7] at h1 h7
  rw [Int32.toInt_add]
  show (x.toInt + 1).bmod (2 ^ 32) = x.toInt + 1
  rw [Int.bmod_eq_of_le (by omega) (by omega)]
set_option maxHeartbeats 4000000 in
set_option maxRecDepth 100000 in
theorem c_X2_handTo (l : Launch) (D : va_G) (G : Nat → ClassId) (τ α : Nat → Nat) (S J : St) (n sz : Nat) (i : Nat) (ho mo : Int32) (hi : i < n) (hs : 1 ≤ S.2.2.1 25 i ∧ S.2.2.1 25 i ≤ 7) (hms : S.2.2.1 26 (sLast S i) = mo ∨ S.2.2.1 25 i < 7) : Wv l D G τ yX2_handTo cX2_handTo 3 none 4 0 0 [.ref (α (27 + 3 * i)), .int ho, .int mo] α (cE G α S J n) (Lc n) sz (fun u => u = (α, cE G α (if S.2.2.1 26 (sLast S i) = mo then uA (uA S 26 (upd (S.2.2.1 26) (sLast S i) mo)) 27 (upd (S.2.2.1 27) (sLast S i) ho) else uA (uA (uA S 25 (upd (S.2.2.1 25) i (S.2.2.1 25 i + 1))) 26 (upd (S.2.2.1 26) (sLast S i + 1) mo)) 27 (upd (S.2.2.1 27) (sLast S i + 1) ho)) J n, Lc n)) := by
  refine gM _ (by decide) rfl (Nat.le_of_ble_eq_true rfl) ?_
  intro p e s m below meth c ls C hr hlk hnm hsz B hl
  have hx := C.1
  have hb := C.2.1
  have hl : lv_has ls 3 [(0, .ref (α (27 + 3 * i))), (1, .int ho), (2, .int mo)] := hl
  have hlr := (lr_eq hs).2.1
  refine lv_aload_n hx hb dX2_handTo_0 rfl (lv_at hl 0 rfl) ?_
  refine lv_iload_n hx hb dX2_handTo_1 rfl (lv_at hl 2 rfl) ?_
  refine gc_b (gr_V C B (k := 27 + 3 * i) (As := [.int mo]) (rest := []) (c_X2_maySellIn l D G τ α S J n _ i mo (by omega) hs) (Lc_d (i := i) (by omega) (by omega) (by omega)) cE_d rfl wl_604 wl_593 wl_594 wl_42 wl_595 (na := 1) (by decide +kernel) rfl ⟨Nat.le_of_ble_eq_true rfl, Nat.le_of_ble_eq_true rfl⟩ ⟨Nat.le_of_ble_eq_true rfl, Nat.le_of_ble_eq_true rfl⟩ hl.1 rfl (Nat.le_of_ble_eq_true rfl) dX2_handTo_2) (fun _ => ?_) (fun hc => absurd hms hc)
  refine lv_if_ne (tgt := 9) hx hb dX2_handTo_5 (by decide) (fun _ => ?_) (fun hc => absurd hc (by decide))
  refine lv_aload_n hx hb dX2_handTo_9 rfl (lv_at hl 0 rfl) ?_
  refine lv_iload_n hx hb dX2_handTo_10 rfl (lv_at hl 2 rfl) ?_
  refine gc_b (gr_V C B (k := 27 + 3 * i) (As := [.int mo]) (rest := []) (c_X2_cameIn l D G τ α S J n _ i mo (by omega) hs) (Lc_d (i := i) (by omega) (by omega) (by omega)) cE_d rfl wl_596 wl_597 wl_598 wl_42 wl_599 (na := 1) (by decide +kernel) rfl ⟨Nat.le_of_ble_eq_true rfl, Nat.le_of_ble_eq_true rfl⟩ ⟨Nat.le_of_ble_eq_true rfl, Nat.le_of_ble_eq_true rfl⟩ hl.1 rfl (Nat.le_of_ble_eq_true rfl) dX2_handTo_11) (fun c1 => ?_) (fun c1 => ?_)
  · refine lv_if_ne (tgt := 27) hx hb dX2_handTo_14 (by decide) (fun _ => ?_) (fun hc => absurd hc (by decide))
    refine lv_aload_n hx hb dX2_handTo_27 rfl (lv_at hl 0 rfl) ?_
    refine g_get C B (27 + 3 * i) (Lc_d (i := i) (by omega) (by omega) (by omega)) cE_d rfl gf_2 7 (by decide) wl_508 (v := .ref (α (28 + 3 * i))) cD_7 dX2_handTo_28 ?_
    refine lv_aload_n hx hb dX2_handTo_31 rfl (lv_at hl 0 rfl) ?_
    refine gc_i (gr_V C B (k := 27 + 3 * i) (As := []) (rest := [.ref (α (28 + 3 * i))]) (c_X2_lastRow l D G τ α S J n _ i (by omega) hs) (Lc_d (i := i) (by omega) (by omega) (by omega)) cE_d rfl wl_371 wl_372 wl_373 wl_42 wl_374 (na := 0) (by decide +kernel) rfl ⟨Nat.le_of_ble_eq_true rfl, Nat.le_of_ble_eq_true rfl⟩ ⟨Nat.le_of_ble_eq_true rfl, Nat.le_of_ble_eq_true rfl⟩ hl.1 rfl (Nat.le_of_ble_eq_true rfl) dX2_handTo_32) (fun r h => ?_)
    subst h
    rw [show lr S i = lr S i from rfl]
    refine lv_iload_n hx hb dX2_handTo_35 rfl (lv_at hl 1 rfl) ?_
    refine g_iast C B (28 + 3 * i) (Lc_d (i := i) (by omega) (by omega) (by omega)) (f := (cHo S i)) cE_h (vp_in_nI (by omega) (by omega)) (j := (lr S i)) (nI_clamp (by omega)) dX2_handTo_36 (cU_hold (by omega) rfl) (fun H locs B => ?_)
    refine lv_aload_n hx hb dX2_handTo_37 rfl (lv_at hl 0 rfl) ?_
    refine g_get C B (27 + 3 * i) (Lc_d (i := i) (by omega) (by omega) (by omega)) cE_d rfl gf_2 8 (by decide) wl_509 (v := .ref (α (29 + 3 * i))) cD_8 dX2_handTo_38 ?_
    refine lv_aload_n hx hb dX2_handTo_41 rfl (lv_at hl 0 rfl) ?_
    refine gc_i (gr_V C B (k := 27 + 3 * i) (As := []) (rest := [.ref (α (29 + 3 * i))]) (c_X2_lastRow l D G τ α (uA S 27 (upd (S.2.2.1 27) (7 * i + (lr S i)) ho)) J n _ i (by omega) hs) (Lc_d (i := i) (by omega) (by omega) (by omega)) cE_d rfl wl_371 wl_372 wl_373 wl_42 wl_374 (na := 0) (by decide +kernel) rfl ⟨Nat.le_of_ble_eq_true rfl, Nat.le_of_ble_eq_true rfl⟩ ⟨Nat.le_of_ble_eq_true rfl, Nat.le_of_ble_eq_true rfl⟩ hl.1 rfl (Nat.le_of_ble_eq_true rfl) dX2_handTo_42) (fun r h => ?_)
    subst h
    rw [show lr (uA S 27 (upd (S.2.2.1 27) (7 * i + (lr S i)) ho)) i = lr S i from rfl]
    refine lv_iload_n hx hb dX2_handTo_45 rfl (lv_at hl 2 rfl) ?_
    refine g_iast C B (29 + 3 * i) (Lc_d (i := i) (by omega) (by omega) (by omega)) (f := (cFr (uA S 27 (upd (S.2.2.1 27) (7 * i + (lr S i)) ho)) i)) cE_f (vp_in_nI (by omega) (by omega)) (j := (lr S i)) (nI_clamp (by omega)) dX2_handTo_46 (cU_from (by omega) rfl) (fun H locs B => ?_)
    exact ge_wv C B hr hlk (by (first | rw [if_pos c1] | rw [if_neg c1]); rw [uA_comm _ (by decide)]; rfl) dX2_handTo_47
  · refine lv_if_ne (tgt := 27) hx hb dX2_handTo_14 (by decide) (fun hc => absurd (by decide) hc) (fun _ => ?_)
    refine lv_aload_n hx hb dX2_handTo_17 rfl (lv_at hl 0 rfl) ?_
    refine lv_dup hx hb dX2_handTo_18 rfl ?_
    refine g_get C B (27 + 3 * i) (Lc_d (i := i) (by omega) (by omega) (by omega)) cE_d rfl gf_2 9 (by decide) wl_510 (v := .int ((S.2.2.1 25) i - 1)) cD_9 dX2_handTo_19 ?_
    refine lv_iconst (v := 1) hx hb dX2_handTo_22 (by decide) ?_
    refine lv_iadd hx hb dX2_handTo_23 ?_
    refine g_put C B (27 + 3 * i) (Lc_d (i := i) (by omega) (by omega) (by omega)) cE_d rfl gf_2 tyX2 tyX2_ok nmX2 9 (by decide) wl_510 rfl (ty := .int) (v := .int ((S.2.2.1 25) i - 1 + 1)) (by decide +kernel) rfl rfl (Nat.le_of_ble_eq_true rfl) dX2_handTo_24 cV_last (fun H locs B => ?_)
    have hs7 : S.2.2.1 25 i < 7 := hms.resolve_left c1
    have hs0 := hs.1
    have he9 : S.2.2.1 25 i - 1 + 1 + 1 = S.2.2.1 25 i + 1 := by rw [Int32.sub_add_cancel]
    rw [he9] at B
    have hs2 : 1 ≤ (uA S 25 (upd (S.2.2.1 25) i (S.2.2.1 25 i + 1))).2.2.1 25 i ∧ (uA S 25 (upd (S.2.2.1 25) i (S.2.2.1 25 i + 1))).2.2.1 25 i ≤ 7 := by have e : (uA S 25 (upd (S.2.2.1 25) i (S.2.2.1 25 i + 1))).2.2.1 25 i = S.2.2.1 25 i + 1 := (if_pos rfl : upd (S.2.2.1 25) i (S.2.2.1 25 i + 1) i = S.2.2.1 25 i + 1); rw [e]; have h9 := add1 hs0 hs7; simp only [i3l, i3e, zi_1, zi_7] at hs0 hs7 ⊢; omega
    have hl2 : lr (uA S 25 (upd (S.2.2.1 25) i (S.2.2.1 25 i + 1))) i = lr S i + 1 := by have h8 := (lr_eq hs2).2.2; have h7 := (lr_eq hs).2.2; have e : (uA S 25 (upd (S.2.2.1 25) i (S.2.2.1 25 i + 1))).2.2.1 25 i = S.2.2.1 25 i + 1 := (if_pos rfl : upd (S.2.2.1 25) i (S.2.2.1 25 i + 1) i = S.2.2.1 25 i + 1); rw [e] at h8; have h9 := add1 hs0 hs7; have h10 := cl_int (x := S.2.2.1 25 i) (by simp only [i3e, zi_0, zi_1] at hs0 ⊢; omega); have h11 := cl_int (x := S.2.2.1 25 i + 1) (by simp only [i3e, i3l, zi_0, zi_1] at hs0 hs7 ⊢; omega); omega
    have hlr2 := (lr_eq hs2).2.1
    refine lv_aload_n hx hb dX2_handTo_27 rfl (lv_at hl 0 rfl) ?_
    refine g_get C B (27 + 3 * i) (Lc_d (i := i) (by omega) (by omega) (by omega)) cE_d rfl gf_2 7 (by decide) wl_508 (v := .ref (α (28 + 3 * i))) cD_7 dX2_handTo_28 ?_
    refine lv_aload_n hx hb dX2_handTo_31 rfl (lv_at hl 0 rfl) ?_
    refine gc_i (gr_V C B (k := 27 + 3 * i) (As := []) (rest := [.ref (α (28 + 3 * i))]) (c_X2_lastRow l D G τ α (uA S 25 (upd (S.2.2.1 25) i (S.2.2.1 25 i + 1))) J n _ i (by omega) (show 1 ≤ (uA S 25 (upd (S.2.2.1 25) i (S.2.2.1 25 i + 1))).2.2.1 25 i ∧ (uA S 25 (upd (S.2.2.1 25) i (S.2.2.1 25 i + 1))).2.2.1 25 i ≤ 7 from hs2)) (Lc_d (i := i) (by omega) (by omega) (by omega)) cE_d rfl wl_371 wl_372 wl_373 wl_42 wl_374 (na := 0) (by decide +kernel) rfl ⟨Nat.le_of_ble_eq_true rfl, Nat.le_of_ble_eq_true rfl⟩ ⟨Nat.le_of_ble_eq_true rfl, Nat.le_of_ble_eq_true rfl⟩ hl.1 rfl (Nat.le_of_ble_eq_true rfl) dX2_handTo_32) (fun r h => ?_)
    subst h
    rw [show lr (uA S 25 (upd (S.2.2.1 25) i (S.2.2.1 25 i + 1))) i = lr S i + 1 from hl2]
    refine lv_iload_n hx hb dX2_handTo_35 rfl (lv_at hl 1 rfl) ?_
    refine g_iast C B (28 + 3 * i) (Lc_d (i := i) (by omega) (by omega) (by omega)) (f := (cHo (uA S 25 (upd (S.2.2.1 25) i (S.2.2.1 25 i + 1))) i)) cE_h (vp_in_nI (by omega) (by omega)) (j := (lr S i + 1)) (nI_clamp (by omega)) dX2_handTo_36 (cU_hold (by omega) rfl) (fun H locs B => ?_)
    refine lv_aload_n hx hb dX2_handTo_37 rfl (lv_at hl 0 rfl) ?_
    refine g_get C B (27 + 3 * i) (Lc_d (i := i) (by omega) (by omega) (by omega)) cE_d rfl gf_2 8 (by decide) wl_509 (v := .ref (α (29 + 3 * i))) cD_8 dX2_handTo_38 ?_
    refine lv_aload_n hx hb dX2_handTo_41 rfl (lv_at hl 0 rfl) ?_
    refine gc_i (gr_V C B (k := 27 + 3 * i) (As := []) (rest := [.ref (α (29 + 3 * i))]) (c_X2_lastRow l D G τ α (uA (uA S 25 (upd (S.2.2.1 25) i (S.2.2.1 25 i + 1))) 27 (upd (S.2.2.1 27) (7 * i + (lr S i + 1)) ho)) J n _ i (by omega) (show 1 ≤ (uA (uA S 25 (upd (S.2.2.1 25) i (S.2.2.1 25 i + 1))) 27 (upd (S.2.2.1 27) (7 * i + (lr S i + 1)) ho)).2.2.1 25 i ∧ (uA (uA S 25 (upd (S.2.2.1 25) i (S.2.2.1 25 i + 1))) 27 (upd (S.2.2.1 27) (7 * i + (lr S i + 1)) ho)).2.2.1 25 i ≤ 7 from hs2)) (Lc_d (i := i) (by omega) (by omega) (by omega)) cE_d rfl wl_371 wl_372 wl_373 wl_42 wl_374 (na := 0) (by decide +kernel) rfl ⟨Nat.le_of_ble_eq_true rfl, Nat.le_of_ble_eq_true rfl⟩ ⟨Nat.le_of_ble_eq_true rfl, Nat.le_of_ble_eq_true rfl⟩ hl.1 rfl (Nat.le_of_ble_eq_true rfl) dX2_handTo_42) (fun r h => ?_)
    subst h
    rw [show lr (uA (uA S 25 (upd (S.2.2.1 25) i (S.2.2.1 25 i + 1))) 27 (upd (S.2.2.1 27) (7 * i + (lr S i + 1)) ho)) i = lr S i + 1 from hl2]
    refine lv_iload_n hx hb dX2_handTo_45 rfl (lv_at hl 2 rfl) ?_
    refine g_iast C B (29 + 3 * i) (Lc_d (i := i) (by omega) (by omega) (by omega)) (f := (cFr (uA (uA S 25 (upd (S.2.2.1 25) i (S.2.2.1 25 i + 1))) 27 (upd (S.2.2.1 27) (7 * i + (lr S i + 1)) ho)) i)) cE_f (vp_in_nI (by omega) (by omega)) (j := (lr S i + 1)) (nI_clamp (by omega)) dX2_handTo_46 (cU_from (by omega) rfl) (fun H locs B => ?_)
    exact ge_wv C B hr hlk (by (first | rw [if_pos c1] | rw [if_neg c1]); rw [uA_comm _ (by decide)]; rfl) dX2_handTo_47
/-- whether deposit i comes to the roll of a month, by what was learnt -/
abbrev onR (S J : St) (i : Nat) (mo : Int32) : Prop := S.2.2.1 24 i = 0 ∧ J.2.2.1 1 i ≤ mo
def oweC (S J : St) (i : Nat) : Int64 := if J.2.2.2 0 i - S.2.2.2 23 i < 0 then 0 else J.2.2.2 0 i - S.2.2.2 23 i
def cJ2 (S J : St) (i : Nat) (mo : Int32) : St := if onR S J i mo then uB (uA J 2 (upd (J.2.2.1 2) i 1)) 1 (vp_updL (J.2.2.2 1) i (oweC S J i)) else uB (uA J 2 (upd (J.2.2.1 2) i 0)) 1 (vp_updL (J.2.2.2 1) i 0)
set_option maxHeartbeats 4000000 in
set_option maxRecDepth 100000 in
theorem c_X2_comeToRoll (l : Launch) (D : va_G) (G : Nat → ClassId) (τ α : Nat → Nat) (S J : St) (n sz : Nat) (i : Nat) (mo : Int32) (hi : i < n) : Wv l D G τ yX2_comeToRoll cX2_comeToRoll 2 none 1 0 0 [.ref (α (27 + 3 * i)), .int mo] α (cE G α S J n) (Lc n) sz (fun u => u = (α, cE G α S (cJ2 S J i mo) n, Lc n)) := by
  refine gM _ (by decide) rfl (Nat.le_of_ble_eq_true rfl) ?_
  intro p e s m below meth c ls C hr hlk hnm hsz B hl
  have hx := C.1
  have hb := C.2.1
  have hl : lv_has ls 2 [(0, .ref (α (27 + 3 * i))), (1, .int mo)] := hl
  refine lv_aload_n hx hb dX2_comeToRoll_0 rfl (lv_at hl 0 rfl) ?_
  refine lv_aload_n hx hb dX2_comeToRoll_1 rfl (lv_at hl 0 rfl) ?_
  refine g_get C B (27 + 3 * i) (Lc_d (i := i) (by omega) (by omega) (by omega)) cE_d rfl gf_2 11 (by decide) wl_513 (v := .int ((S.2.2.1 24) i)) cD_11 dX2_comeToRoll_2 ?_
  refine lv_if_ne (tgt := 20) hx hb dX2_comeToRoll_5 (by decide) (fun c1 => ?_) (fun c1 => ?_)
  · refine lv_iconst (v := 0) hx hb dX2_comeToRoll_20 (by decide) ?_
    refine g_put C B (27 + 3 * i) (Lc_d (i := i) (by omega) (by omega) (by omega)) cE_d rfl gf_2 tyX2 tyX2_ok nmX2 14 (by decide) wl_521 rfl (ty := .boolean) (v := .int 0) (by decide +kernel) rfl rfl (Nat.le_of_ble_eq_true rfl) dX2_comeToRoll_21 cV_onRoll (fun H locs B => ?_)
    refine lv_aload_n hx hb dX2_comeToRoll_24 rfl (lv_at hl 0 rfl) ?_
    refine lv_aload_n hx hb dX2_comeToRoll_25 rfl (lv_at hl 0 rfl) ?_
    refine g_get C B (27 + 3 * i) (Lc_d (i := i) (by omega) (by omega) (by omega)) cE_d rfl gf_2 14 (by decide) wl_521 (v := .int ((upd (J.2.2.1 2) i 0) i)) cD_14 dX2_comeToRoll_26 ?_
    rw [pk_us]
    refine lv_if_eq (tgt := 48) hx hb dX2_comeToRoll_29 (by decide) (fun _ => ?_) (fun hc => absurd (by decide) hc)
    refine lv_lconst (v := 0) hx hb dX2_comeToRoll_48 (by decide) ?_
    refine g_put C B (27 + 3 * i) (Lc_d (i := i) (by omega) (by omega) (by omega)) cE_d rfl gf_2 tyX2 tyX2_ok nmX2 15 (by decide) wl_523 rfl (ty := .long) (v := .long 0) (by decide +kernel) rfl rfl (Nat.le_of_ble_eq_true rfl) dX2_comeToRoll_49 cV_owed (fun H locs B => ?_)
    exact ge_wv C B hr hlk (by rw [cJ2, if_neg (show ¬ onR S J i mo from fun h9 => c1 h9.1)]; rfl) dX2_comeToRoll_52
  · refine lv_aload_n hx hb dX2_comeToRoll_8 rfl (lv_at hl 0 rfl) ?_
    refine g_get C B (27 + 3 * i) (Lc_d (i := i) (by omega) (by omega) (by omega)) cE_d rfl gf_2 12 (by decide) wl_517 (v := .int ((J.2.2.1 1) i)) cD_12 dX2_comeToRoll_9 ?_
    refine lv_iload_n hx hb dX2_comeToRoll_12 rfl (lv_at hl 1 rfl) ?_
    refine lv_icmp_gt (tgt := 20) hx hb dX2_comeToRoll_13 (by decide) (fun c2 => ?_) (fun c2 => ?_)
    · refine lv_iconst (v := 0) hx hb dX2_comeToRoll_20 (by decide) ?_
      refine g_put C B (27 + 3 * i) (Lc_d (i := i) (by omega) (by omega) (by omega)) cE_d rfl gf_2 tyX2 tyX2_ok nmX2 14 (by decide) wl_521 rfl (ty := .boolean) (v := .int 0) (by decide +kernel) rfl rfl (Nat.le_of_ble_eq_true rfl) dX2_comeToRoll_21 cV_onRoll (fun H locs B => ?_)
      refine lv_aload_n hx hb dX2_comeToRoll_24 rfl (lv_at hl 0 rfl) ?_
      refine lv_aload_n hx hb dX2_comeToRoll_25 rfl (lv_at hl 0 rfl) ?_
      refine g_get C B (27 + 3 * i) (Lc_d (i := i) (by omega) (by omega) (by omega)) cE_d rfl gf_2 14 (by decide) wl_521 (v := .int ((upd (J.2.2.1 2) i 0) i)) cD_14 dX2_comeToRoll_26 ?_
      rw [pk_us]
      refine lv_if_eq (tgt := 48) hx hb dX2_comeToRoll_29 (by decide) (fun _ => ?_) (fun hc => absurd (by decide) hc)
      refine lv_lconst (v := 0) hx hb dX2_comeToRoll_48 (by decide) ?_
      refine g_put C B (27 + 3 * i) (Lc_d (i := i) (by omega) (by omega) (by omega)) cE_d rfl gf_2 tyX2 tyX2_ok nmX2 15 (by decide) wl_523 rfl (ty := .long) (v := .long 0) (by decide +kernel) rfl rfl (Nat.le_of_ble_eq_true rfl) dX2_comeToRoll_49 cV_owed (fun H locs B => ?_)
      exact ge_wv C B hr hlk (by rw [cJ2, if_neg (show ¬ onR S J i mo from fun h9 => absurd h9.2 (by simp only [i3l, i3e, i3q, inR, isC, isD, zi_0, zi_1, zi_2, zi_3, zi_4, zi_5, zi_6, zi_7, zi_8, zi_9, zi_10, zi_12, zi_20, zi_21, zi_30, zi_60, zi_90, zi_99, zi_100, zi_180, zi_240, zi_400, zi_500, zi_1000, zi_1199, zi_10000, zi_100000, zi_1000000, i3m1] at c2 ⊢; omega))]; rfl) dX2_comeToRoll_52
    · refine lv_iconst (v := 1) hx hb dX2_comeToRoll_16 (by decide) ?_
      refine lv_goto (tgt := 21) hx hb dX2_comeToRoll_17 (by decide) ?_
      refine g_put C B (27 + 3 * i) (Lc_d (i := i) (by omega) (by omega) (by omega)) cE_d rfl gf_2 tyX2 tyX2_ok nmX2 14 (by decide) wl_521 rfl (ty := .boolean) (v := .int 1) (by decide +kernel) rfl rfl (Nat.le_of_ble_eq_true rfl) dX2_comeToRoll_21 cV_onRoll (fun H locs B => ?_)
      refine lv_aload_n hx hb dX2_comeToRoll_24 rfl (lv_at hl 0 rfl) ?_
      refine lv_aload_n hx hb dX2_comeToRoll_25 rfl (lv_at hl 0 rfl) ?_
      refine g_get C B (27 + 3 * i) (Lc_d (i := i) (by omega) (by omega) (by omega)) cE_d rfl gf_2 14 (by decide) wl_521 (v := .int ((upd (J.2.2.1 2) i 1) i)) cD_14 dX2_comeToRoll_26 ?_
      rw [pk_us]
      refine lv_if_eq (tgt := 48) hx hb dX2_comeToRoll_29 (by decide) (fun hc => absurd hc (by decide)) (fun _ => ?_)
      refine lv_lconst (v := 0) hx hb dX2_comeToRoll_32 (by decide) ?_
      refine lv_aload_n hx hb dX2_comeToRoll_33 rfl (lv_at hl 0 rfl) ?_
      refine g_get C B (27 + 3 * i) (Lc_d (i := i) (by omega) (by omega) (by omega)) cE_d rfl gf_2 13 (by decide) wl_519 (v := .long ((J.2.2.2 0) i)) cD_13 dX2_comeToRoll_34 ?_
      refine lv_aload_n hx hb dX2_comeToRoll_37 rfl (lv_at hl 0 rfl) ?_
      refine g_get C B (27 + 3 * i) (Lc_d (i := i) (by omega) (by omega) (by omega)) cE_d rfl gf_2 10 (by decide) wl_511 (v := .long ((S.2.2.2 23) i)) cD_10 dX2_comeToRoll_38 ?_
      refine lv_lsub hx hb dX2_comeToRoll_41 ?_
      refine va_mmax_long hx hb (C.2.2.1.trans hl.1.symm) C.2.2.2.1 (C.2.2.2.2 _ wl_349) (C.2.2.2.2 _ wl_350) (C.2.2.2.2 _ wl_41) (C.2.2.2.2 _ wl_351) (Nat.le_of_ble_eq_true rfl) (Nat.le_of_ble_eq_true rfl) (Nat.le_of_ble_eq_true rfl) (Nat.le_of_ble_eq_true rfl) dX2_comeToRoll_42 ?_
      refine lv_goto (tgt := 49) hx hb dX2_comeToRoll_45 (by decide) ?_
      refine g_put C B (27 + 3 * i) (Lc_d (i := i) (by omega) (by omega) (by omega)) cE_d rfl gf_2 tyX2 tyX2_ok nmX2 15 (by decide) wl_523 rfl (ty := .long) (v := .long (if ((J.2.2.2 0) i - (S.2.2.2 23) i) < 0 then 0 else ((J.2.2.2 0) i - (S.2.2.2 23) i))) (by decide +kernel) rfl rfl (Nat.le_of_ble_eq_true rfl) dX2_comeToRoll_49 cV_owed (fun H locs B => ?_)
      exact ge_wv C B hr hlk (by rw [cJ2, if_pos (show onR S J i mo from ⟨c1, by simp only [i3l, i3e, i3q, inR, isC, isD, zi_0, zi_1, zi_2, zi_3, zi_4, zi_5, zi_6, zi_7, zi_8, zi_9, zi_10, zi_12, zi_20, zi_21, zi_30, zi_60, zi_90, zi_99, zi_100, zi_180, zi_240, zi_400, zi_500, zi_1000, zi_1199, zi_10000, zi_100000, zi_1000000, i3m1] at c2 ⊢; omega⟩), oweC]; rfl) dX2_comeToRoll_52
set_option maxHeartbeats 4000000 in
set_option maxRecDepth 100000 in
theorem c_X2_setTerms (l : Launch) (D : va_G) (G : Nat → ClassId) (τ α : Nat → Nat) (S J : St) (n k9 sz : Nat) (i : Nat) (su : Int32) (dw : Int64) (en : Int32) (hi : i < k9) : Wv l D G τ yX2_setTerms cX2_setTerms 5 none 0 0 0 [.ref (α (27 + 3 * i)), .int su, .long dw, .int en] α (cE G α S J n) (Lc k9) sz (fun u => u = (α, cE G α (uA (uB (uA S 19 (upd (S.2.2.1 19) i su)) 20 (vp_updL (S.2.2.2 20) i dw)) 21 (upd (S.2.2.1 21) i en)) J n, Lc k9)) := by
  refine gM _ (by decide) rfl (Nat.le_of_ble_eq_true rfl) ?_
  intro p e s m below meth c ls C hr hlk hnm hsz B hl
  have hx := C.1
  have hb := C.2.1
  have hl : lv_has ls 5 [(0, .ref (α (27 + 3 * i))), (1, .int su), (2, .long dw), (4, .int en)] := hl
  refine lv_aload_n hx hb dX2_setTerms_0 rfl (lv_at hl 0 rfl) ?_
  refine lv_iload_n hx hb dX2_setTerms_1 rfl (lv_at hl 1 rfl) ?_
  refine g_put C B (27 + 3 * i) (Lc_d (i := i) (by omega) (by omega) (by omega)) cE_d rfl gf_2 tyX2 tyX2_ok nmX2 4 (by decide) wl_501 rfl (ty := .int) (v := .int su) (by decide +kernel) rfl rfl (Nat.le_of_ble_eq_true rfl) dX2_setTerms_2 cV_sum (fun H locs B => ?_)
  refine lv_aload_n hx hb dX2_setTerms_5 rfl (lv_at hl 0 rfl) ?_
  refine lv_lload_n hx hb dX2_setTerms_6 rfl (lv_at hl 2 rfl) ?_
  refine g_put C B (27 + 3 * i) (Lc_d (i := i) (by omega) (by omega) (by omega)) cE_d rfl gf_2 tyX2 tyX2_ok nmX2 5 (by decide) wl_504 rfl (ty := .long) (v := .long dw) (by decide +kernel) rfl rfl (Nat.le_of_ble_eq_true rfl) dX2_setTerms_7 cV_dowry (fun H locs B => ?_)
  refine lv_aload_n hx hb dX2_setTerms_10 rfl (lv_at hl 0 rfl) ?_
  refine lv_iload hx hb dX2_setTerms_11 (lv_at hl 3 rfl) ?_
  refine g_put C B (27 + 3 * i) (Lc_d (i := i) (by omega) (by omega) (by omega)) cE_d rfl gf_2 tyX2 tyX2_ok nmX2 6 (by decide) wl_506 rfl (ty := .int) (v := .int en) (by decide +kernel) rfl rfl (Nat.le_of_ble_eq_true rfl) dX2_setTerms_13 cV_end (fun H locs B => ?_)
  exact ge_wv C B hr hlk (rfl) dX2_setTerms_16
set_option maxHeartbeats 4000000 in
set_option maxRecDepth 100000 in
theorem c_X2_tellOf (l : Launch) (D : va_G) (G : Nat → ClassId) (τ α : Nat → Nat) (S J : St) (n sz : Nat) (i : Nat) (w : Int32) (hi : i < n) : Rl l D G τ yX2_tellOf cX2_tellOf 2 (some .long) 0 [.ref (α (27 + 3 * i)), .int w] α (cE G α S J n) (Lc n) sz (fun r => r = (if w = 0 then (S.2.2.1 16 i).toInt64 else if w = 1 then (S.2.2.1 17 i).toInt64 else if w = 2 then (J.2.2.1 0 i).toInt64 else if w = 3 then (S.2.2.1 19 i).toInt64 else if w = 4 then S.2.2.2 20 i else if w = 5 then (S.2.2.1 21 i).toInt64 else if w = 6 then (S.2.2.1 22 i).toInt64 else if w = 7 then S.2.2.2 23 i else if S.2.2.1 24 i = 0 then 0 else 1)) := by
  refine gM _ (by decide) rfl (Nat.le_of_ble_eq_true rfl) ?_
  intro p e s m below meth c ls C hr hlk hnm hsz B hl
  have hx := C.1
  have hb := C.2.1
  have hl : lv_has ls 2 [(0, .ref (α (27 + 3 * i))), (1, .int w)] := hl
  refine lv_iload_n hx hb dX2_tellOf_0 rfl (lv_at hl 1 rfl) ?_
  rcases sw_7 w with w1 | w1 | w1 | w1 | w1 | w1 | w1 | w1 | w1
  · refine lv_tableIn (tgt := 48) hx hb dX2_tellOf_1 (by rw [w1]; decide) (by rw [w1]; decide) (off := 47) (by rw [w1]; rfl) (by decide) ?_
    refine lv_aload_n hx hb dX2_tellOf_48 rfl (lv_at hl 0 rfl) ?_
    refine g_get C B (27 + 3 * i) (Lc_d (i := i) (by omega) (by omega) (by omega)) cE_d rfl gf_2 0 (by decide) wl_491 (v := .int ((S.2.2.1 16) i)) cD_0 dX2_tellOf_49 ?_
    refine lv_i2l (v := ((S.2.2.1 16) i).toInt64) hx hb dX2_tellOf_52 rfl ?_
    exact ge_l C hr hlk (by (first | rw [if_neg (by rw [w1]; decide)] | (rw [if_pos w1]) | (rw [if_neg (sw_ne w1 (by decide))]) | skip); (first | rw [if_neg (by rw [w1]; decide)] | (rw [if_pos w1]) | (rw [if_neg (sw_ne w1 (by decide))]) | skip); (first | rw [if_neg (by rw [w1]; decide)] | (rw [if_pos w1]) | (rw [if_neg (sw_ne w1 (by decide))]) | skip); (first | rw [if_neg (by rw [w1]; decide)] | (rw [if_pos w1]) | (rw [if_neg (sw_ne w1 (by decide))]) | skip); (first | rw [if_neg (by rw [w1]; decide)] | (rw [if_pos w1]) | (rw [if_neg (sw_ne w1 (by decide))]) | skip); (first | rw [if_neg (by rw [w1]; decide)] | (rw [if_pos w1]) | (rw [if_neg (sw_ne w1 (by decide))]) | skip); (first | rw [if_neg (by rw [w1]; decide)] | (rw [if_pos w1]) | (rw [if_neg (sw_ne w1 (by decide))]) | skip); (first | rw [if_neg (by rw [w1]; decide)] | (rw [if_pos w1]) | (rw [if_neg (sw_ne w1 (by decide))]) | skip)) dX2_tellOf_53
  · refine lv_tableIn (tgt := 54) hx hb dX2_tellOf_1 (by rw [w1]; decide) (by rw [w1]; decide) (off := 53) (by rw [w1]; rfl) (by decide) ?_
    refine lv_aload_n hx hb dX2_tellOf_54 rfl (lv_at hl 0 rfl) ?_
    refine g_get C B (27 + 3 * i) (Lc_d (i := i) (by omega) (by omega) (by omega)) cE_d rfl gf_2 1 (by decide) wl_494 (v := .int ((S.2.2.1 17) i)) cD_1 dX2_tellOf_55 ?_
    refine lv_i2l (v := ((S.2.2.1 17) i).toInt64) hx hb dX2_tellOf_58 rfl ?_
    exact ge_l C hr hlk (by (first | rw [if_neg (by rw [w1]; decide)] | (rw [if_pos w1]) | (rw [if_neg (sw_ne w1 (by decide))]) | skip); (first | rw [if_neg (by rw [w1]; decide)] | (rw [if_pos w1]) | (rw [if_neg (sw_ne w1 (by decide))]) | skip); (first | rw [if_neg (by rw [w1]; decide)] | (rw [if_pos w1]) | (rw [if_neg (sw_ne w1 (by decide))]) | skip); (first | rw [if_neg (by rw [w1]; decide)] | (rw [if_pos w1]) | (rw [if_neg (sw_ne w1 (by decide))]) | skip); (first | rw [if_neg (by rw [w1]; decide)] | (rw [if_pos w1]) | (rw [if_neg (sw_ne w1 (by decide))]) | skip); (first | rw [if_neg (by rw [w1]; decide)] | (rw [if_pos w1]) | (rw [if_neg (sw_ne w1 (by decide))]) | skip); (first | rw [if_neg (by rw [w1]; decide)] | (rw [if_pos w1]) | (rw [if_neg (sw_ne w1 (by decide))]) | skip); (first | rw [if_neg (by rw [w1]; decide)] | (rw [if_pos w1]) | (rw [if_neg (sw_ne w1 (by decide))]) | skip)) dX2_tellOf_59
  · refine lv_tableIn (tgt := 60) hx hb dX2_tellOf_1 (by rw [w1]; decide) (by rw [w1]; decide) (off := 59) (by rw [w1]; rfl) (by decide) ?_
    refine lv_aload_n hx hb dX2_tellOf_60 rfl (lv_at hl 0 rfl) ?_
    refine g_get C B (27 + 3 * i) (Lc_d (i := i) (by omega) (by omega) (by omega)) cE_d rfl gf_2 2 (by decide) wl_496 (v := .int ((J.2.2.1 0) i)) cD_2 dX2_tellOf_61 ?_
    refine lv_i2l (v := ((J.2.2.1 0) i).toInt64) hx hb dX2_tellOf_64 rfl ?_
    exact ge_l C hr hlk (by (first | rw [if_neg (by rw [w1]; decide)] | (rw [if_pos w1]) | (rw [if_neg (sw_ne w1 (by decide))]) | skip); (first | rw [if_neg (by rw [w1]; decide)] | (rw [if_pos w1]) | (rw [if_neg (sw_ne w1 (by decide))]) | skip); (first | rw [if_neg (by rw [w1]; decide)] | (rw [if_pos w1]) | (rw [if_neg (sw_ne w1 (by decide))]) | skip); (first | rw [if_neg (by rw [w1]; decide)] | (rw [if_pos w1]) | (rw [if_neg (sw_ne w1 (by decide))]) | skip); (first | rw [if_neg (by rw [w1]; decide)] | (rw [if_pos w1]) | (rw [if_neg (sw_ne w1 (by decide))]) | skip); (first | rw [if_neg (by rw [w1]; decide)] | (rw [if_pos w1]) | (rw [if_neg (sw_ne w1 (by decide))]) | skip); (first | rw [if_neg (by rw [w1]; decide)] | (rw [if_pos w1]) | (rw [if_neg (sw_ne w1 (by decide))]) | skip); (first | rw [if_neg (by rw [w1]; decide)] | (rw [if_pos w1]) | (rw [if_neg (sw_ne w1 (by decide))]) | skip)) dX2_tellOf_65
  · refine lv_tableIn (tgt := 66) hx hb dX2_tellOf_1 (by rw [w1]; decide) (by rw [w1]; decide) (off := 65) (by rw [w1]; rfl) (by decide) ?_
    refine lv_aload_n hx hb dX2_tellOf_66 rfl (lv_at hl 0 rfl) ?_
    refine g_get C B (27 + 3 * i) (Lc_d (i := i) (by omega) (by omega) (by omega)) cE_d rfl gf_2 4 (by decide) wl_501 (v := .int ((S.2.2.1 19) i)) cD_4 dX2_tellOf_67 ?_
    refine lv_i2l (v := ((S.2.2.1 19) i).toInt64) hx hb dX2_tellOf_70 rfl ?_
    exact ge_l C hr hlk (by (first | rw [if_neg (by rw [w1]; decide)] | (rw [if_pos w1]) | (rw [if_neg (sw_ne w1 (by decide))]) | skip); (first | rw [if_neg (by rw [w1]; decide)] | (rw [if_pos w1]) | (rw [if_neg (sw_ne w1 (by decide))]) | skip); (first | rw [if_neg (by rw [w1]; decide)] | (rw [if_pos w1]) | (rw [if_neg (sw_ne w1 (by decide))]) | skip); (first | rw [if_neg (by rw [w1]; decide)] | (rw [if_pos w1]) | (rw [if_neg (sw_ne w1 (by decide))]) | skip); (first | rw [if_neg (by rw [w1]; decide)] | (rw [if_pos w1]) | (rw [if_neg (sw_ne w1 (by decide))]) | skip); (first | rw [if_neg (by rw [w1]; decide)] | (rw [if_pos w1]) | (rw [if_neg (sw_ne w1 (by decide))]) | skip); (first | rw [if_neg (by rw [w1]; decide)] | (rw [if_pos w1]) | (rw [if_neg (sw_ne w1 (by decide))]) | skip); (first | rw [if_neg (by rw [w1]; decide)] | (rw [if_pos w1]) | (rw [if_neg (sw_ne w1 (by decide))]) | skip)) dX2_tellOf_71
  · refine lv_tableIn (tgt := 72) hx hb dX2_tellOf_1 (by rw [w1]; decide) (by rw [w1]; decide) (off := 71) (by rw [w1]; rfl) (by decide) ?_
    refine lv_aload_n hx hb dX2_tellOf_72 rfl (lv_at hl 0 rfl) ?_
    refine g_get C B (27 + 3 * i) (Lc_d (i := i) (by omega) (by omega) (by omega)) cE_d rfl gf_2 5 (by decide) wl_504 (v := .long ((S.2.2.2 20) i)) cD_5 dX2_tellOf_73 ?_
    exact ge_l C hr hlk (by (first | rw [if_neg (by rw [w1]; decide)] | (rw [if_pos w1]) | (rw [if_neg (sw_ne w1 (by decide))]) | skip); (first | rw [if_neg (by rw [w1]; decide)] | (rw [if_pos w1]) | (rw [if_neg (sw_ne w1 (by decide))]) | skip); (first | rw [if_neg (by rw [w1]; decide)] | (rw [if_pos w1]) | (rw [if_neg (sw_ne w1 (by decide))]) | skip); (first | rw [if_neg (by rw [w1]; decide)] | (rw [if_pos w1]) | (rw [if_neg (sw_ne w1 (by decide))]) | skip); (first | rw [if_neg (by rw [w1]; decide)] | (rw [if_pos w1]) | (rw [if_neg (sw_ne w1 (by decide))]) | skip); (first | rw [if_neg (by rw [w1]; decide)] | (rw [if_pos w1]) | (rw [if_neg (sw_ne w1 (by decide))]) | skip); (first | rw [if_neg (by rw [w1]; decide)] | (rw [if_pos w1]) | (rw [if_neg (sw_ne w1 (by decide))]) | skip); (first | rw [if_neg (by rw [w1]; decide)] | (rw [if_pos w1]) | (rw [if_neg (sw_ne w1 (by decide))]) | skip)) dX2_tellOf_76
  · refine lv_tableIn (tgt := 77) hx hb dX2_tellOf_1 (by rw [w1]; decide) (by rw [w1]; decide) (off := 76) (by rw [w1]; rfl) (by decide) ?_
    refine lv_aload_n hx hb dX2_tellOf_77 rfl (lv_at hl 0 rfl) ?_
    refine g_get C B (27 + 3 * i) (Lc_d (i := i) (by omega) (by omega) (by omega)) cE_d rfl gf_2 6 (by decide) wl_506 (v := .int ((S.2.2.1 21) i)) cD_6 dX2_tellOf_78 ?_
    refine lv_i2l (v := ((S.2.2.1 21) i).toInt64) hx hb dX2_tellOf_81 rfl ?_
    exact ge_l C hr hlk (by (first | rw [if_neg (by rw [w1]; decide)] | (rw [if_pos w1]) | (rw [if_neg (sw_ne w1 (by decide))]) | skip); (first | rw [if_neg (by rw [w1]; decide)] | (rw [if_pos w1]) | (rw [if_neg (sw_ne w1 (by decide))]) | skip); (first | rw [if_neg (by rw [w1]; decide)] | (rw [if_pos w1]) | (rw [if_neg (sw_ne w1 (by decide))]) | skip); (first | rw [if_neg (by rw [w1]; decide)] | (rw [if_pos w1]) | (rw [if_neg (sw_ne w1 (by decide))]) | skip); (first | rw [if_neg (by rw [w1]; decide)] | (rw [if_pos w1]) | (rw [if_neg (sw_ne w1 (by decide))]) | skip); (first | rw [if_neg (by rw [w1]; decide)] | (rw [if_pos w1]) | (rw [if_neg (sw_ne w1 (by decide))]) | skip); (first | rw [if_neg (by rw [w1]; decide)] | (rw [if_pos w1]) | (rw [if_neg (sw_ne w1 (by decide))]) | skip); (first | rw [if_neg (by rw [w1]; decide)] | (rw [if_pos w1]) | (rw [if_neg (sw_ne w1 (by decide))]) | skip)) dX2_tellOf_82
  · refine lv_tableIn (tgt := 83) hx hb dX2_tellOf_1 (by rw [w1]; decide) (by rw [w1]; decide) (off := 82) (by rw [w1]; rfl) (by decide) ?_
    refine lv_aload_n hx hb dX2_tellOf_83 rfl (lv_at hl 0 rfl) ?_
    refine g_get C B (27 + 3 * i) (Lc_d (i := i) (by omega) (by omega) (by omega)) cE_d rfl gf_2 3 (by decide) wl_498 (v := .int ((S.2.2.1 22) i)) cD_3 dX2_tellOf_84 ?_
    refine lv_i2l (v := ((S.2.2.1 22) i).toInt64) hx hb dX2_tellOf_87 rfl ?_
    exact ge_l C hr hlk (by (first | rw [if_neg (by rw [w1]; decide)] | (rw [if_pos w1]) | (rw [if_neg (sw_ne w1 (by decide))]) | skip); (first | rw [if_neg (by rw [w1]; decide)] | (rw [if_pos w1]) | (rw [if_neg (sw_ne w1 (by decide))]) | skip); (first | rw [if_neg (by rw [w1]; decide)] | (rw [if_pos w1]) | (rw [if_neg (sw_ne w1 (by decide))]) | skip); (first | rw [if_neg (by rw [w1]; decide)] | (rw [if_pos w1]) | (rw [if_neg (sw_ne w1 (by decide))]) | skip); (first | rw [if_neg (by rw [w1]; decide)] | (rw [if_pos w1]) | (rw [if_neg (sw_ne w1 (by decide))]) | skip); (first | rw [if_neg (by rw [w1]; decide)] | (rw [if_pos w1]) | (rw [if_neg (sw_ne w1 (by decide))]) | skip); (first | rw [if_neg (by rw [w1]; decide)] | (rw [if_pos w1]) | (rw [if_neg (sw_ne w1 (by decide))]) | skip); (first | rw [if_neg (by rw [w1]; decide)] | (rw [if_pos w1]) | (rw [if_neg (sw_ne w1 (by decide))]) | skip)) dX2_tellOf_88
  · refine lv_tableIn (tgt := 89) hx hb dX2_tellOf_1 (by rw [w1]; decide) (by rw [w1]; decide) (off := 88) (by rw [w1]; rfl) (by decide) ?_
    refine lv_aload_n hx hb dX2_tellOf_89 rfl (lv_at hl 0 rfl) ?_
    refine g_get C B (27 + 3 * i) (Lc_d (i := i) (by omega) (by omega) (by omega)) cE_d rfl gf_2 10 (by decide) wl_511 (v := .long ((S.2.2.2 23) i)) cD_10 dX2_tellOf_90 ?_
    exact ge_l C hr hlk (by (first | rw [if_neg (by rw [w1]; decide)] | (rw [if_pos w1]) | (rw [if_neg (sw_ne w1 (by decide))]) | skip); (first | rw [if_neg (by rw [w1]; decide)] | (rw [if_pos w1]) | (rw [if_neg (sw_ne w1 (by decide))]) | skip); (first | rw [if_neg (by rw [w1]; decide)] | (rw [if_pos w1]) | (rw [if_neg (sw_ne w1 (by decide))]) | skip); (first | rw [if_neg (by rw [w1]; decide)] | (rw [if_pos w1]) | (rw [if_neg (sw_ne w1 (by decide))]) | skip); (first | rw [if_neg (by rw [w1]; decide)] | (rw [if_pos w1]) | (rw [if_neg (sw_ne w1 (by decide))]) | skip); (first | rw [if_neg (by rw [w1]; decide)] | (rw [if_pos w1]) | (rw [if_neg (sw_ne w1 (by decide))]) | skip); (first | rw [if_neg (by rw [w1]; decide)] | (rw [if_pos w1]) | (rw [if_neg (sw_ne w1 (by decide))]) | skip); (first | rw [if_neg (by rw [w1]; decide)] | (rw [if_pos w1]) | (rw [if_neg (sw_ne w1 (by decide))]) | skip)) dX2_tellOf_93
  · refine lv_tableOut (tgt := 94) hx hb dX2_tellOf_1 w1 (by decide) ?_
    refine lv_aload_n hx hb dX2_tellOf_94 rfl (lv_at hl 0 rfl) ?_
    refine g_get C B (27 + 3 * i) (Lc_d (i := i) (by omega) (by omega) (by omega)) cE_d rfl gf_2 11 (by decide) wl_513 (v := .int ((S.2.2.1 24) i)) cD_11 dX2_tellOf_95 ?_
    refine lv_if_eq (tgt := 105) hx hb dX2_tellOf_98 (by decide) (fun c2 => ?_) (fun c2 => ?_)
    · refine lv_lconst (v := 0) hx hb dX2_tellOf_105 (by decide) ?_
      exact ge_l C hr hlk (by (first | rw [if_neg (by rw [w1]; decide)] | (rw [if_pos w1]) | (rw [if_neg (sw_ne w1 (by decide))]) | skip); (first | rw [if_neg (by rw [w1]; decide)] | (rw [if_pos w1]) | (rw [if_neg (sw_ne w1 (by decide))]) | skip); (first | rw [if_neg (by rw [w1]; decide)] | (rw [if_pos w1]) | (rw [if_neg (sw_ne w1 (by decide))]) | skip); (first | rw [if_neg (by rw [w1]; decide)] | (rw [if_pos w1]) | (rw [if_neg (sw_ne w1 (by decide))]) | skip); (first | rw [if_neg (by rw [w1]; decide)] | (rw [if_pos w1]) | (rw [if_neg (sw_ne w1 (by decide))]) | skip); (first | rw [if_neg (by rw [w1]; decide)] | (rw [if_pos w1]) | (rw [if_neg (sw_ne w1 (by decide))]) | skip); (first | rw [if_neg (by rw [w1]; decide)] | (rw [if_pos w1]) | (rw [if_neg (sw_ne w1 (by decide))]) | skip); (first | rw [if_neg (by rw [w1]; decide)] | (rw [if_pos w1]) | (rw [if_neg (sw_ne w1 (by decide))]) | skip); (first | rw [if_pos c2] | rw [if_neg c2] | skip)) dX2_tellOf_106
    · refine lv_lconst (v := 1) hx hb dX2_tellOf_101 (by decide) ?_
      refine lv_goto (tgt := 106) hx hb dX2_tellOf_102 (by decide) ?_
      exact ge_l C hr hlk (by (first | rw [if_neg (by rw [w1]; decide)] | (rw [if_pos w1]) | (rw [if_neg (sw_ne w1 (by decide))]) | skip); (first | rw [if_neg (by rw [w1]; decide)] | (rw [if_pos w1]) | (rw [if_neg (sw_ne w1 (by decide))]) | skip); (first | rw [if_neg (by rw [w1]; decide)] | (rw [if_pos w1]) | (rw [if_neg (sw_ne w1 (by decide))]) | skip); (first | rw [if_neg (by rw [w1]; decide)] | (rw [if_pos w1]) | (rw [if_neg (sw_ne w1 (by decide))]) | skip); (first | rw [if_neg (by rw [w1]; decide)] | (rw [if_pos w1]) | (rw [if_neg (sw_ne w1 (by decide))]) | skip); (first | rw [if_neg (by rw [w1]; decide)] | (rw [if_pos w1]) | (rw [if_neg (sw_ne w1 (by decide))]) | skip); (first | rw [if_neg (by rw [w1]; decide)] | (rw [if_pos w1]) | (rw [if_neg (sw_ne w1 (by decide))]) | skip); (first | rw [if_neg (by rw [w1]; decide)] | (rw [if_pos w1]) | (rw [if_neg (sw_ne w1 (by decide))]) | skip); (first | rw [if_pos c2] | rw [if_neg c2] | skip)) dX2_tellOf_106
theorem fd_lt {S : St} {n : Nat} {x : Int32} (h0 : 0 ≤ x) (h : ¬ S.1 15 ≤ x) (hn : S.1 15 = nI n) (hn30 : n ≤ 30) : x.toNatClampNeg < n := by
  rw [hn] at h
  have h7 := cl_int h0
  simp only [i3e, nI_toInt (show n < 2 ^ 31 by omega)] at h
  omega
set_option maxHeartbeats 4000000 in
set_option maxRecDepth 100000 in
theorem c_X3_find (l : Launch) (D : va_G) (G : Nat → ClassId) (τ α : Nat → Nat) (S J : St) (n sz : Nat) (x : Int32) (hn : S.1 15 = nI n) (hn30 : n ≤ 30) : Rq l D G τ yX3_find cX3_find 2 (some (.object "DowryFund$Deposit")) 0 [.ref (α 15), .int x] α (cE G α S J n) (Lc n) sz (fun r => r = if isD S x then some (α (27 + 3 * x.toNatClampNeg)) else none) := by
  refine gM _ (by decide) rfl (Nat.le_of_ble_eq_true rfl) ?_
  intro p e s m below meth c ls C hr hlk hnm hsz B hl
  have hx := C.1
  have hb := C.2.1
  have hl : lv_has ls 2 [(0, .ref (α 15)), (1, .int x)] := hl
  refine lv_iload_n hx hb dX3_find_0 rfl (lv_at hl 1 rfl) ?_
  refine lv_if_lt (tgt := 27) hx hb dX3_find_1 (by decide) (fun c1 => ?_) (fun c1 => ?_)
  · refine lv_null hx hb dX3_find_27 ?_
    exact ge_q (r := none) C hr hlk (by rw [if_neg (by simp only [i3l, i3e, i3q, inR, isC, isD, zi_0, zi_1, zi_2, zi_3, zi_4, zi_5, zi_6, zi_7, zi_8, zi_9, zi_10, zi_12, zi_20, zi_21, zi_30, zi_60, zi_90, zi_99, zi_100, zi_180, zi_240, zi_400, zi_500, zi_1000, zi_1199, zi_10000, zi_100000, zi_1000000, i3m1] at c1 ⊢; omega)]) dX3_find_28
  · refine lv_iload_n hx hb dX3_find_4 rfl (lv_at hl 1 rfl) ?_
    refine lv_aload_n hx hb dX3_find_5 rfl (lv_at hl 0 rfl) ?_
    refine g_get C B (15) (Lc_in (by decide)) cE_15 rfl gf_3 1 (by decide) wl_128 (v := .int (S.1 15)) cF_15_1 dX3_find_6 ?_
    refine lv_icmp_ge (tgt := 27) hx hb dX3_find_9 (by decide) (fun c2 => ?_) (fun c2 => ?_)
    · refine lv_null hx hb dX3_find_27 ?_
      exact ge_q (r := none) C hr hlk (by rw [if_neg (by simp only [i3l, i3e, i3q, inR, isC, isD, zi_0, zi_1, zi_2, zi_3, zi_4, zi_5, zi_6, zi_7, zi_8, zi_9, zi_10, zi_12, zi_20, zi_21, zi_30, zi_60, zi_90, zi_99, zi_100, zi_180, zi_240, zi_400, zi_500, zi_1000, zi_1199, zi_10000, zi_100000, zi_1000000, i3m1] at c1 c2 ⊢; omega)]) dX3_find_28
    · refine lv_iload_n hx hb dX3_find_12 rfl (lv_at hl 1 rfl) ?_
      refine lv_bipush (v := 30) hx hb dX3_find_13 (by decide) ?_
      refine lv_icmp_ge (tgt := 27) hx hb dX3_find_15 (by decide) (fun c3 => ?_) (fun c3 => ?_)
      · refine lv_null hx hb dX3_find_27 ?_
        exact ge_q (r := none) C hr hlk (by exfalso; have h8 := c2; rw [hn] at h8; exact h8 (Int32.le_trans (nI_le (b := 30) hn30 (by decide)) c3)) dX3_find_28
      · refine lv_aload_n hx hb dX3_find_18 rfl (lv_at hl 0 rfl) ?_
        refine g_get C B (15) (Lc_in (by decide)) cE_15 rfl gf_3 0 (by decide) wl_127 (v := .ref (α 16)) cF_15_0 dX3_find_19 ?_
        refine lv_iload_n hx hb dX3_find_22 rfl (lv_at hl 1 rfl) ?_
        refine g_aldq C B (16) (Lc_in (by decide)) (f := (cRows α n)) cE_16 (vp_lt (M := 30) (by simp only [i3l, i3e, i3q, inR, isC, isD, zi_0, zi_1, zi_2, zi_3, zi_4, zi_5, zi_6, zi_7, zi_8, zi_9, zi_10, zi_12, zi_20, zi_21, zi_30, zi_60, zi_90, zi_99, zi_100, zi_180, zi_240, zi_400, zi_500, zi_1000, zi_1199, zi_10000, zi_100000, zi_1000000, i3m1] at c1 ⊢; omega) (by simp only [i3l, i3e, i3q, inR, isC, isD, zi_0, zi_1, zi_2, zi_3, zi_4, zi_5, zi_6, zi_7, zi_8, zi_9, zi_10, zi_12, zi_20, zi_21, zi_30, zi_60, zi_90, zi_99, zi_100, zi_180, zi_240, zi_400, zi_500, zi_1000, zi_1199, zi_10000, zi_100000, zi_1000000, i3m1] at c3 ⊢; omega) (by decide)) (j := x.toNatClampNeg) rfl dX3_find_23 ?_
        refine lv_goto (tgt := 28) hx hb dX3_find_24 (by decide) ?_
        exact ge_q (r := ((cRows α n) x.toNatClampNeg)) C hr hlk (by rw [if_pos (by simp only [i3l, i3e, i3q, inR, isC, isD, zi_0, zi_1, zi_2, zi_3, zi_4, zi_5, zi_6, zi_7, zi_8, zi_9, zi_10, zi_12, zi_20, zi_21, zi_30, zi_60, zi_90, zi_99, zi_100, zi_180, zi_240, zi_400, zi_500, zi_1000, zi_1199, zi_10000, zi_100000, zi_1000000, i3m1] at c1 c2 ⊢; omega), cRows, if_pos (fd_lt (by simp only [i3l, i3e, i3q, inR, isC, isD, zi_0, zi_1, zi_2, zi_3, zi_4, zi_5, zi_6, zi_7, zi_8, zi_9, zi_10, zi_12, zi_20, zi_21, zi_30, zi_60, zi_90, zi_99, zi_100, zi_180, zi_240, zi_400, zi_500, zi_1000, zi_1199, zi_10000, zi_100000, zi_1000000, i3m1] at c1 ⊢; omega) c2 hn hn30)]) dX3_find_28
set_option maxHeartbeats 4000000 in
set_option maxRecDepth 100000 in
theorem c_X3_findN (l : Launch) (D : va_G) (G : Nat → ClassId) (τ α : Nat → Nat) (S J : St) (n sz : Nat) (i : Nat) (hi : i < n) (hn : S.1 15 = nI n) (hn30 : n ≤ 30) : Rq l D G τ yX3_find cX3_find 2 (some (.object "DowryFund$Deposit")) 0 [.ref (α 15), .int (nI i)] α (cE G α S J n) (Lc n) sz (fun r => r = some (α (27 + 3 * i))) := by
  refine gM _ (by decide) rfl (Nat.le_of_ble_eq_true rfl) ?_
  intro p e s m below meth c ls C hr hlk hnm hsz B hl
  have hx := C.1
  have hb := C.2.1
  have hl : lv_has ls 2 [(0, .ref (α 15)), (1, .int (nI i))] := hl
  refine lv_iload_n hx hb dX3_find_0 rfl (lv_at hl 1 rfl) ?_
  refine lv_if_lt (tgt := 27) hx hb dX3_find_1 (by decide) (fun hc => absurd hc (nI_pos (by omega))) (fun _ => ?_)
  refine lv_iload_n hx hb dX3_find_4 rfl (lv_at hl 1 rfl) ?_
  refine lv_aload_n hx hb dX3_find_5 rfl (lv_at hl 0 rfl) ?_
  refine g_get C B (15) (Lc_in (by decide)) cE_15 rfl gf_3 1 (by decide) wl_128 (v := .int (S.1 15)) cF_15_1 dX3_find_6 ?_
  refine lv_icmp_ge (tgt := 27) hx hb dX3_find_9 (by decide) (fun hc => absurd hc (by rw [hn]; exact nI_ge (by omega) (by omega))) (fun _ => ?_)
  refine lv_iload_n hx hb dX3_find_12 rfl (lv_at hl 1 rfl) ?_
  refine lv_bipush (v := 30) hx hb dX3_find_13 (by decide) ?_
  refine lv_icmp_ge (tgt := 27) hx hb dX3_find_15 (by decide) (fun hc => absurd hc (nI_ge (b := 30) (by omega) (by decide))) (fun _ => ?_)
  refine lv_aload_n hx hb dX3_find_18 rfl (lv_at hl 0 rfl) ?_
  refine g_get C B (15) (Lc_in (by decide)) cE_15 rfl gf_3 0 (by decide) wl_127 (v := .ref (α 16)) cF_15_0 dX3_find_19 ?_
  refine lv_iload_n hx hb dX3_find_22 rfl (lv_at hl 1 rfl) ?_
  refine g_aldq C B (16) (Lc_in (by decide)) (f := (cRows α n)) cE_16 (vp_in_nI (by omega) (by omega)) (j := i) (nI_clamp (by omega)) dX3_find_23 ?_
  refine lv_goto (tgt := 28) hx hb dX3_find_24 (by decide) ?_
  exact ge_q (r := ((cRows α n) i)) C hr hlk (by rw [cRows, if_pos hi]) dX3_find_28
set_option maxHeartbeats 4000000 in
set_option maxRecDepth 100000 in
theorem c_X3_countPaidOut (l : Launch) (D : va_G) (G : Nat → ClassId) (τ α : Nat → Nat) (S J : St) (n sz : Nat) (hn : S.1 15 = nI n) (hn30 : n ≤ 30) : Ri l D G τ yX3_countPaidOut cX3_countPaidOut 4 (some .int) 1 [.ref (α 15)] α (cE G α S J n) (Lc n) sz (fun r => r = outL S n) := by
  refine gM _ (by decide) rfl (Nat.le_of_ble_eq_true rfl) ?_
  intro p e s m below meth c ls C hr hlk hnm hsz B hl
  have hx := C.1
  have hb := C.2.1
  have hl : lv_has ls 4 [(0, .ref (α 15))] := hl
  have loop : ∀ (nn kk : Nat) (h9 : Int32) (ls : Array Slot), nn + kk = n → (outL S kk = h9) → lv_has ls 4 [(2, .int (nI kk)), (1, .int h9), (0, .ref (α 15))] → W p l e (rmd 1 0 0) s m [.ref (α 15)].toArray below meth c s.heap [] 0 0 (MQ below (vp_Si (fun r => r = outL S n)) [.ref (α 15)].toArray s 0 0 (fun _ => False)) (F0 m 4 ls []) := by
    intro nn
    induction nn with
    | zero =>
      intro kk h9 ls hk hI hl
      refine lv_iload_n hx hb dX3_countPaidOut_4 rfl (lv_at hl 0 rfl) ?_
      refine lv_aload_n hx hb dX3_countPaidOut_5 rfl (lv_at hl 2 rfl) ?_
      refine g_get C B (15) (Lc_in (by decide)) cE_15 rfl gf_3 1 (by decide) wl_128 (v := .int (S.1 15)) cF_15_1 dX3_countPaidOut_6 ?_
      refine lv_icmp_ge (tgt := 38) hx hb dX3_countPaidOut_9 (by decide) (fun _ => ?_) (fun hc => absurd (by rw [hn]; exact nI_le (by omega) (by omega)) hc)
      refine lv_iload_n hx hb dX3_countPaidOut_38 rfl (lv_at hl 1 rfl) ?_
      exact ge_i C hr rfl hlk (by rw [show n = kk by omega, hI]) dX3_countPaidOut_39
    | succ nn ih =>
      intro kk h9 ls hk hI hl
      refine lv_iload_n hx hb dX3_countPaidOut_4 rfl (lv_at hl 0 rfl) ?_
      refine lv_aload_n hx hb dX3_countPaidOut_5 rfl (lv_at hl 2 rfl) ?_
      refine g_get C B (15) (Lc_in (by decide)) cE_15 rfl gf_3 1 (by decide) wl_128 (v := .int (S.1 15)) cF_15_1 dX3_countPaidOut_6 ?_
      refine lv_icmp_ge (tgt := 38) hx hb dX3_countPaidOut_9 (by decide) (fun hc => absurd hc (by rw [hn]; exact nI_ge (by omega) (by omega))) (fun _ => ?_)
      refine lv_aload_n hx hb dX3_countPaidOut_12 rfl (lv_at hl 2 rfl) ?_
      refine lv_iload_n hx hb dX3_countPaidOut_13 rfl (lv_at hl 0 rfl) ?_
      refine gc_r (gr_V C B (k := 15) (As := [.int (nI kk)]) (rest := []) (c_X3_findN l D G τ α S J n _ kk (by omega) hn hn30) (Lc_in (by decide)) cE_15 rfl wl_638 wl_278 wl_279 wl_34 wl_280 (na := 1) (by decide +kernel) rfl ⟨Nat.le_of_ble_eq_true rfl, Nat.le_of_ble_eq_true rfl⟩ ⟨Nat.le_of_ble_eq_true rfl, Nat.le_of_ble_eq_true rfl⟩ hl.1 rfl (Nat.le_of_ble_eq_true rfl) dX3_countPaidOut_14) ?_
      refine lv_astore_n (lv' := [(3, .ref (α (27 + 3 * kk))), (2, .int (nI kk)), (1, .int h9), (0, .ref (α 15))]) hx hb dX3_countPaidOut_17 rfl hl (by decide) rfl (fun ls hl => ?_)
      refine lv_aload_n hx hb dX3_countPaidOut_18 rfl (lv_at hl 0 rfl) ?_
      refine lv_ifnull hx hb dX3_countPaidOut_19 ?_
      refine lv_aload_n hx hb dX3_countPaidOut_22 rfl (lv_at hl 0 rfl) ?_
      refine g_get C B (27 + 3 * kk) (Lc_d (i := kk) (by omega) (by omega) (by omega)) cE_d rfl gf_2 11 (by decide) wl_514 (v := .int ((S.2.2.1 24) kk)) cD_11 dX3_countPaidOut_23 ?_
      refine lv_if_eq (tgt := 32) hx hb dX3_countPaidOut_26 (by decide) (fun c1 => ?_) (fun c1 => ?_)
      · refine lv_iinc (v := ((nI kk) + 1)) (lv' := [(2, .int ((nI kk) + 1)), (3, .ref (α (27 + 3 * kk))), (1, .int h9), (0, .ref (α 15))]) hx hb dX3_countPaidOut_32 hl (k := 1) rfl rfl (by decide) rfl (fun ls hl => ?_)
        refine lv_goto (tgt := 4) hx hb dX3_countPaidOut_35 (by decide) ?_
        exact ih (kk + 1) h9 ls (by omega) (by rw [outL, hI]; (first | rw [if_pos c1] | rw [if_neg c1]); exact Int32.add_zero _) (by have h9 := lv_sub (l' := [(2, .int ((nI kk) + 1)), (1, .int h9), (0, .ref (α 15))]) hl [0, 2, 3] rfl; rw [nI_1] at h9; exact h9)
      · refine lv_iinc (v := (h9 + 1)) (lv' := [(1, .int (h9 + 1)), (3, .ref (α (27 + 3 * kk))), (2, .int (nI kk)), (0, .ref (α 15))]) hx hb dX3_countPaidOut_29 hl (k := 2) rfl rfl (by decide) rfl (fun ls hl => ?_)
        refine lv_iinc (v := ((nI kk) + 1)) (lv' := [(2, .int ((nI kk) + 1)), (1, .int (h9 + 1)), (3, .ref (α (27 + 3 * kk))), (0, .ref (α 15))]) hx hb dX3_countPaidOut_32 hl (k := 2) rfl rfl (by decide) rfl (fun ls hl => ?_)
        refine lv_goto (tgt := 4) hx hb dX3_countPaidOut_35 (by decide) ?_
        exact ih (kk + 1) (h9 + 1) ls (by omega) (by rw [outL, hI]; (first | rw [if_pos c1] | rw [if_neg c1])) (by have h9 := lv_sub (l' := [(2, .int ((nI kk) + 1)), (1, .int (h9 + 1)), (0, .ref (α 15))]) hl [0, 1, 3] rfl; rw [nI_1] at h9; exact h9)
  refine lv_iconst (v := 0) hx hb dX3_countPaidOut_0 (by decide) ?_
  refine lv_istore_n (lv' := [(1, .int 0), (0, .ref (α 15))]) hx hb dX3_countPaidOut_1 rfl hl (by decide) rfl (fun ls hl => ?_)
  refine lv_iconst (v := 0) hx hb dX3_countPaidOut_2 (by decide) ?_
  refine lv_istore_n (lv' := [(2, .int 0), (1, .int 0), (0, .ref (α 15))]) hx hb dX3_countPaidOut_3 rfl hl (by decide) rfl (fun ls hl => ?_)
  exact loop n 0 0 ls (by omega) rfl (lv_sub hl [0, 1, 2] rfl)
