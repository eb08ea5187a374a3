/-! ===== a deposit is made, by the class ===== -/
theorem cC_a {G : Nat → ClassId} {α β : Nat → Nat} {S : St} {n : Nat} (h : ∀ j, j < 27 + 3 * n → β j = α j) : cC G β S n = cC G α S n := by
  have e : cRows β n = cRows α n := by
    funext i
    simp only [cRows]
    split
    · rw [h _ (by omega)]
    · rfl
  have hh : ∀ j, j < 27 → β j = α j := fun j hj => h j (by omega)
  simp only [cC, cF_0, cF_1, cF_3, cF_9, cF_15, cF_17, cF_18, cF_20, cF_21, cF_25, e, hh 1 (by decide), hh 2 (by decide), hh 3 (by decide), hh 4 (by decide), hh 5 (by decide), hh 6 (by decide), hh 7 (by decide), hh 8 (by decide), hh 9 (by decide), hh 10 (by decide), hh 11 (by decide), hh 12 (by decide), hh 13 (by decide), hh 14 (by decide), hh 15 (by decide), hh 16 (by decide), hh 17 (by decide), hh 18 (by decide), hh 19 (by decide), hh 20 (by decide), hh 21 (by decide), hh 22 (by decide), hh 23 (by decide), hh 24 (by decide), hh 25 (by decide), hh 26 (by decide)]
/-- states that the class's cells can't tell apart -/
theorem cE_congr {G : Nat → ClassId} {α : Nat → Nat} {S T J : St} {n : Nat} (h1 : S.1 = T.1) (h2 : ∀ k, k ≠ 41 → k ≠ 42 → S.2.1 k = T.2.1 k) (h3 : ∀ k, k ≠ 18 → k ≠ 39 → S.2.2.1 k = T.2.2.1 k) (h4 : ∀ k, k ≠ 40 → S.2.2.2 k = T.2.2.2 k) : cE G α S J n = cE G α T J n := by
  have e1 : cC G α S n = cC G α T n := by
    simp only [cC, cF_0, cF_1, cF_3, cF_9, cF_15, cF_17, cF_18, cF_20, cF_21, cF_25, h1, h2 28 (by decide) (by decide), h2 29 (by decide) (by decide), h2 30 (by decide) (by decide), h2 31 (by decide) (by decide), h3 1 (by decide) (by decide), h3 3 (by decide) (by decide), h3 4 (by decide) (by decide), h3 5 (by decide) (by decide), h3 6 (by decide) (by decide), h3 7 (by decide) (by decide), h3 9 (by decide) (by decide), h3 11 (by decide) (by decide), h3 12 (by decide) (by decide), h3 13 (by decide) (by decide), h3 14 (by decide) (by decide), h3 34 (by decide) (by decide), h3 35 (by decide) (by decide), h3 36 (by decide) (by decide), h3 38 (by decide) (by decide), h4 33 (by decide)]
  have e3 : cHo S = cHo T := by
    funext i j
    simp only [cHo, h3 27 (by decide) (by decide)]
  have e4 : cFr S = cFr T := by
    funext i j
    simp only [cFr, h3 26 (by decide) (by decide)]
  have e2 : cDp G α S J = cDp G α T J := by
    funext k
    simp only [cDp, cD, e3, e4, h3 16 (by decide) (by decide), h3 17 (by decide) (by decide), h3 19 (by decide) (by decide), h3 21 (by decide) (by decide), h3 22 (by decide) (by decide), h3 24 (by decide) (by decide), h3 25 (by decide) (by decide), h3 26 (by decide) (by decide), h3 27 (by decide) (by decide), h4 20 (by decide), h4 23 (by decide)]
  rw [cE, cE, e1, e2]
def dA (α : Nat → Nat) (n q a1 a2 : Nat) : Nat → Nat := va_up (va_up (va_up α (27 + 3 * n) q) (28 + 3 * n) a1) (29 + 3 * n) a2
def dS (S : St) (n : Nat) (kind ch nw ho : Int32) : St := uA (uA (uA (uA (uB (uA (uA (uB (uA (uA (uA S 16 (upd (S.2.2.1 16) n kind)) 17 (upd (S.2.2.1 17) n ch)) 19 (upd (S.2.2.1 19) n 0)) 20 (vp_updL (S.2.2.2 20) n 0)) 21 (upd (S.2.2.1 21) n 0)) 22 (upd (S.2.2.1 22) n nw)) 23 (vp_updL (S.2.2.2 23) n 0)) 24 (upd (S.2.2.1 24) n 0)) 25 (upd (S.2.2.1 25) n 1)) 26 (upd (S.2.2.1 26) (7 * n) nw)) 27 (upd (S.2.2.1 27) (7 * n) ho)
def dJ (J : St) (n : Nat) (o : Int32) : St := uB (uB (uA (uA (uA J 0 (upd (J.2.2.1 0) n o)) 1 (upd (J.2.2.1 1) n 1000000)) 2 (upd (J.2.2.1 2) n 0)) 0 (vp_updL (J.2.2.2 0) n 0)) 1 (vp_updL (J.2.2.2 1) n 0)
theorem dA_lt {α : Nat → Nat} {n q a1 a2 j : Nat} (h : j < 27 + 3 * n) : dA α n q a1 a2 j = α j := by
  rw [dA, va_up_ne _ _ (by omega), va_up_ne _ _ (by omega), va_up_ne _ _ (by omega)]
theorem gw_congr {α β : Nat → Nat} {E F : Nat → va_E} {L : List Nat} (h : ∀ k, k ∈ L → β k = α k ∧ F k = E k) : gw β F L = gw α E L := by
  rw [gw, gw]
  exact List.map_congr_left (fun k hk => by rw [(h k hk).1, (h k hk).2])
theorem dep_join {G : Nat → ClassId} {α : Nat → Nat} {S J : St} {n q a1 a2 : Nat} {kind ch o nw ho : Int32} (hZ : okZ S) (hn : S.1 15 = nI n) (hn30 : n ≤ 30) : gw α (cE G α S J n) (Lc n) ++ gw (ga [q, a1, a2]) (ge [.inr (2, [.int kind, .int ch, .int o, .int nw, .int 0, .long 0, .int 0, .ref a1, .ref a2, .int 0, .long 0, .int 0, .int 1000000, .long 0, .int 0, .long 0]), .inl (G 0, 7, .inl (upd (fun _ => 0) 0 ho)), .inl (G 0, 7, .inl (upd (fun _ => 0) 0 nw))]) [0, 1, 2] = gw (dA α n q a1 a2) (cE G (dA α n q a1 a2) (dS S n kind ch nw ho) (dJ J n o) n) (Lc (n + 1)) := by
  have hz : ∀ j, S.2.2.1 26 (7 * n + j) = 0 ∧ S.2.2.1 27 (7 * n + j) = 0 := fun j => hZ _ (by rw [nOf, hn, nI_clamp (by omega)]; omega)
  have e1 : Lc (n + 1) = Lc n ++ [27 + 3 * n, 28 + 3 * n, 29 + 3 * n] := by
    rw [Lc, Lc, show 27 + 3 * (n + 1) = 27 + 3 * n + 1 + 1 + 1 by omega, List.range_succ, List.range_succ, List.range_succ]
    simp only [List.append_assoc, List.cons_append, List.nil_append]
    rw [show 27 + 3 * n + 1 = 28 + 3 * n by omega, show 27 + 3 * n + 2 = 29 + 3 * n by omega]
  rw [e1, gw, gw, gw, List.map_append]
  congr 1
  · refine (List.map_congr_left (fun k hk => ?_))
    have hk' : k < 27 + 3 * n := List.mem_range.mp hk
    rw [dA_lt hk']
    congr 1
    by_cases h27 : k < 27
    · have f1 : (cC G (dA α n q a1 a2) (dS S n kind ch nw ho) n) = cC G α S n := (cC_a (fun j hj => dA_lt hj)).trans rfl
      rw [cE, cE, f1]
      rw [cJ, cJ]
      rw [List.getElem?_eq_getElem (by rw [cC_len]; exact h27)]
    · rw [cE, cE, cJ_out (by rw [cC_len]; omega), cJ_out (by rw [cC_len]; omega), cDp, cDp, if_neg h27, if_neg h27]
      have hi : (k - 27) / 3 ≠ n := by omega
      by_cases h0 : (k - 27) % 3 = 0
      · rw [if_pos h0, if_pos h0]
        congr 2
        simp [cD, dS, dJ, uA, uB, va_up, upd, vp_updL, hi, dA_lt (show 28 + 3 * ((k - 27) / 3) < 27 + 3 * n by omega), dA_lt (show 29 + 3 * ((k - 27) / 3) < 27 + 3 * n by omega)]
      · rw [if_neg h0, if_neg h0]
        by_cases h1 : (k - 27) % 3 = 1
        · rw [if_pos h1, if_pos h1]
          congr 4
          funext j
          simp only [cHo, dS, uA, uB, va_up, upd]
          by_cases h7 : j < 7
          · simp [h7, show ¬ 7 * ((k - 27) / 3) + j = 7 * n by omega, upd]
          · simp [h7]
        · rw [if_neg h1, if_neg h1]
          congr 4
          funext j
          simp only [cFr, dS, uA, uB, va_up, upd]
          by_cases h7 : j < 7
          · simp [h7, show ¬ 7 * ((k - 27) / 3) + j = 7 * n by omega, upd]
          · simp [h7]
  · have a0 : dA α n q a1 a2 (27 + 3 * n) = q := by rw [dA, va_up_ne _ _ (by omega), va_up_ne _ _ (by omega), va_up_self]
    have b0 : dA α n q a1 a2 (28 + 3 * n) = a1 := by rw [dA, va_up_ne _ _ (by omega), va_up_self]
    have c0 : dA α n q a1 a2 (29 + 3 * n) = a2 := by rw [dA, va_up_self]
    simp only [List.map_cons, List.map_nil, a0, b0, c0]
    rw [cE_d, cE_h, cE_f]
    have d0 : cD (dA α n q a1 a2) (dS S n kind ch nw ho) (dJ J n o) n = [.int kind, .int ch, .int o, .int nw, .int 0, .long 0, .int 0, .ref a1, .ref a2, .int 0, .long 0, .int 0, .int 1000000, .long 0, .int 0, .long 0] := by
      simp [cD, dS, dJ, uA, uB, va_up, upd, vp_updL, b0, c0]
    have h0' : cHo (dS S n kind ch nw ho) n = upd (fun _ => 0) 0 ho := by
      funext j
      simp only [cHo, dS, uA, uB, va_up, upd]
      by_cases hj : j = 0
      · subst hj; simp [upd]
      · by_cases h7 : j < 7
        · simp [hj, h7, upd, (hz j).2]
        · simp [hj, h7]
    have f0 : cFr (dS S n kind ch nw ho) n = upd (fun _ => 0) 0 nw := by
      funext j
      simp only [cFr, dS, uA, uB, va_up, upd]
      by_cases hj : j = 0
      · subst hj; simp [upd]
      · by_cases h7 : j < 7
        · simp [hj, h7, upd, (hz j).1]
        · simp [hj, h7]
    rw [d0, h0', f0]
    rfl
theorem cRows_up {α : Nat → Nat} {n : Nat} : va_up (cRows α n) n (some (α (27 + 3 * n))) = cRows α (n + 1) := by
  funext i
  simp only [va_up, cRows]
  by_cases h : i = n
  · subst h; simp
  · by_cases h2 : i < n
    · simp [h, h2, show i < n + 1 by omega]
    · simp [h, h2, show ¬ i < n + 1 by omega]
theorem cU_16 {G : Nat → ClassId} {α : Nat → Nat} {S J : St} {n : Nat} : va_up (cE G α S J n) 16 (.inl (G 3, 30, .inr (.inr (.inr (.inr (va_up (cRows α n) n (some (α (27 + 3 * n)))))))) ) = cE G α S J (n + 1) := by
  rw [cRows_up]
  exact (cJ_set (Nat.le_of_ble_eq_true rfl)).trans rfl
set_option maxHeartbeats 4000000 in
set_option maxRecDepth 100000 in
theorem c_X10_hasFateNow (l : Launch) (D : va_G) (G : Nat → ClassId) (τ α : Nat → Nat) (S J : St) (n sz : Nat) (ch : Int32) (hN : okN S) (hF : okF S) : Ri l D G τ yX10_hasFateNow cX10_hasFateNow 2 (some .boolean) 2 [.ref (α 0), .int ch] α (cE G α S J n) (Lc n) sz (fun r => r = bI (¬ sFate S ch (S.1 0) = none)) := by
  refine gM _ (by decide) rfl (Nat.le_of_ble_eq_true rfl) ?_
  intro p e s m below meth c ls C hr hlk hnm hsz B hl
  have hx := C.1
  have hb := C.2.1
  have hl : lv_has ls 2 [(0, .ref (α 0)), (1, .int ch)] := hl
  refine lv_aload_n hx hb dX10_hasFateNow_0 rfl (lv_at hl 0 rfl) ?_
  refine g_get C B (0) (Lc_in (by decide)) cE_0 rfl gf_10 3 (by decide) wl_229 (v := .ref (α 9)) cF_0_3 dX10_hasFateNow_1 ?_
  refine lv_iload_n hx hb dX10_hasFateNow_4 rfl (lv_at hl 1 rfl) ?_
  refine lv_aload_n hx hb dX10_hasFateNow_5 rfl (lv_at hl 0 rfl) ?_
  refine g_get C B (0) (Lc_in (by decide)) cE_0 rfl gf_10 10 (by decide) wl_236 (v := .int (S.1 0)) cF_0_10 dX10_hasFateNow_6 ?_
  refine gc_o (oI := oI) (gr_V C B (k := 9) (As := [.int ch, .int (S.1 0)]) (rest := []) (c_X0_fateRow l D G τ α S J n _ ch (S.1 0) hN hF) (Lc_in (by decide)) cE_9 rfl wl_465 wl_290 wl_291 wl_33 wl_292 (na := 2) (by decide +kernel) rfl ⟨Nat.le_of_ble_eq_true rfl, Nat.le_of_ble_eq_true rfl⟩ ⟨Nat.le_of_ble_eq_true rfl, Nat.le_of_ble_eq_true rfl⟩ hl.1 rfl (Nat.le_of_ble_eq_true rfl) dX10_hasFateNow_9) (fun o1 => ?_) (fun f2 o1 => ?_)
  · refine lv_iconst (v := (-1)) hx hb dX10_hasFateNow_12 (by decide) ?_
    refine lv_icmp_eq (tgt := 20) hx hb dX10_hasFateNow_13 (by decide) (fun _ => ?_) (fun hc => absurd (by decide) hc)
    refine lv_iconst (v := 0) hx hb dX10_hasFateNow_20 (by decide) ?_
    exact ge_i C hr rfl hlk (bI_f (not_not_intro o1)) dX10_hasFateNow_21
  · have f2_b : f2 < 90 := Nat.lt_of_lt_of_le (sFate_lt o1).1 (nOf_le hN.2.2.2.1.1 hN.2.2.2.1.2 (by decide))
    refine lv_iconst (v := (-1)) hx hb dX10_hasFateNow_12 (by decide) ?_
    refine lv_icmp_eq (tgt := 20) hx hb dX10_hasFateNow_13 (by decide) (fun hc => absurd hc (nI_m1 (by omega))) (fun _ => ?_)
    refine lv_iconst (v := 1) hx hb dX10_hasFateNow_16 (by decide) ?_
    refine lv_goto (tgt := 21) hx hb dX10_hasFateNow_17 (by decide) ?_
    exact ge_i C hr rfl hlk (bI_t (fun h9 => by rw [o1] at h9; cases h9)) dX10_hasFateNow_21
theorem yr_min {x : Int32} (h : x ≤ 20) : (if x < 20 then x else 20) = x := by
  split
  · rfl
  · rename_i h8
    simp only [i3l, i3e, i3q, zi_20] at h h8 ⊢
    omega
set_option maxHeartbeats 4000000 in
set_option maxRecDepth 100000 in
theorem c_X10_dowryFor (l : Launch) (D : va_G) (G : Nat → ClassId) (τ α : Nat → Nat) (S J : St) (n k9 sz : Nat) (su t : Int32) (ht : 12 ≤ t ∧ t ≤ 240) : Rl l D G τ yX10_dowryFor cX10_dowryFor 5 (some .long) 1 [.ref (α 0), .int su, .int t] α (cE G α S J n) (Lc k9) sz (fun r => r = su.toInt64 * (S.2.2.1 7 (sYear t).toNatClampNeg).toInt64 / 100) := by
  refine gM _ (by decide) rfl (Nat.le_of_ble_eq_true rfl) ?_
  intro p e s m below meth c ls C hr hlk hnm hsz B hl
  have hx := C.1
  have hb := C.2.1
  have hl : lv_has ls 5 [(0, .ref (α 0)), (1, .int su), (2, .int t)] := hl
  have hy9 : (if t / 12 < 20 then t / 12 else 20) = sYear t := by rw [sYear, if_pos (yr_le ht)]; exact yr_min (yr_le ht)
  have hy8 : sYear t = t / 12 := by rw [sYear, if_pos (yr_le ht)]
  have hy7 := yr_eq ht
  refine lv_bipush (v := 20) hx hb dX10_dowryFor_0 (by decide) ?_
  refine lv_iload_n hx hb dX10_dowryFor_2 rfl (lv_at hl 2 rfl) ?_
  refine lv_bipush (v := 12) hx hb dX10_dowryFor_3 (by decide) ?_
  refine lv_idiv hx hb dX10_dowryFor_5 (by decide) ?_
  refine va_mmin hx hb (C.2.2.1.trans hl.1.symm) C.2.2.2.1 (C.2.2.2.2 _ wl_563) (C.2.2.2.2 _ wl_294) (C.2.2.2.2 _ wl_41) (C.2.2.2.2 _ wl_295) (Nat.le_of_ble_eq_true rfl) (Nat.le_of_ble_eq_true rfl) (Nat.le_of_ble_eq_true rfl) (Nat.le_of_ble_eq_true rfl) dX10_dowryFor_6 ?_
  rw [hy9]
  refine lv_istore_n (lv' := [(3, .int (sYear t)), (0, .ref (α 0)), (1, .int su), (2, .int t)]) hx hb dX10_dowryFor_9 rfl hl (by decide) rfl (fun ls hl => ?_)
  refine lv_iload_n hx hb dX10_dowryFor_10 rfl (lv_at hl 0 rfl) ?_
  refine lv_iconst (v := 1) hx hb dX10_dowryFor_11 (by decide) ?_
  refine lv_bipush (v := 20) hx hb dX10_dowryFor_12 (by decide) ?_
  refine gc_b (gr_S C B (As := [.int (sYear t), .int 1, .int 20]) (rest := []) (c_X10_isWithin l D G τ α _ _ _ (sYear t) 1 20) wl_264 wl_265 wl_29 wl_266 (na := 3) (by decide +kernel) rfl ⟨Nat.le_of_ble_eq_true rfl, Nat.le_of_ble_eq_true rfl⟩ ⟨Nat.le_of_ble_eq_true rfl, Nat.le_of_ble_eq_true rfl⟩ hl.1 rfl (Nat.le_of_ble_eq_true rfl) dX10_dowryFor_14) (fun _ => ?_) (fun hc => absurd (show inR (sYear t) 1 20 by rw [hy8, hy7.1]; exact ⟨nI_le (a := 1) hy7.2.1 (by omega), nI_le (b := 20) hy7.2.2 (by decide)⟩) hc)
  refine lv_if_eq (tgt := 29) hx hb dX10_dowryFor_17 (by decide) (fun hc => absurd hc (by decide)) (fun _ => ?_)
  refine lv_aload_n hx hb dX10_dowryFor_20 rfl (lv_at hl 1 rfl) ?_
  refine g_get C B (0) (Lc_in (by decide)) cE_0 rfl gf_10 2 (by decide) wl_228 (v := .ref (α 8)) cF_0_2 dX10_dowryFor_21 ?_
  refine lv_iload_n hx hb dX10_dowryFor_24 rfl (lv_at hl 0 rfl) ?_
  refine g_iald C B (8) (Lc_in (by decide)) (f := S.2.2.1 7) cE_8 (by rw [hy8]; exact yr_in ht) (j := (sYear t).toNatClampNeg) rfl dX10_dowryFor_25 ?_
  refine lv_goto (tgt := 31) hx hb dX10_dowryFor_26 (by decide) ?_
  refine lv_istore (lv' := [(4, .int (S.2.2.1 7 (sYear t).toNatClampNeg)), (3, .int (sYear t)), (0, .ref (α 0)), (1, .int su), (2, .int t)]) hx hb dX10_dowryFor_31 hl (by decide) rfl (fun ls hl => ?_)
  refine lv_iload_n hx hb dX10_dowryFor_33 rfl (lv_at hl 3 rfl) ?_
  refine lv_i2l (v := su.toInt64) hx hb dX10_dowryFor_34 rfl ?_
  refine lv_iload hx hb dX10_dowryFor_35 (lv_at hl 0 rfl) ?_
  refine lv_i2l (v := (S.2.2.1 7 (sYear t).toNatClampNeg).toInt64) hx hb dX10_dowryFor_37 rfl ?_
  refine lv_lmul hx hb dX10_dowryFor_38 ?_
  refine g_ldc2 C wl_564 dX10_dowryFor_39 ?_
  refine lv_ldiv hx hb dX10_dowryFor_42 (by decide) ?_
  exact ge_l C hr hlk (rfl) dX10_dowryFor_43
set_option maxHeartbeats 4000000 in
set_option maxRecDepth 100000 in
theorem c_X3_isFullK (l : Launch) (D : va_G) (G : Nat → ClassId) (τ α : Nat → Nat) (S J : St) (n k9 sz : Nat) : Ri l D G τ yX3_isFull cX3_isFull 1 (some .boolean) 0 [.ref (α 15)] α (cE G α S J n) (Lc k9) sz (fun r => r = bI (30 ≤ S.1 15)) := by
  refine gM _ (by decide) rfl (Nat.le_of_ble_eq_true rfl) ?_
  intro p e s m below meth c ls C hr hlk hnm hsz B hl
  have hx := C.1
  have hb := C.2.1
  have hl : lv_has ls 1 [(0, .ref (α 15))] := hl
  refine lv_aload_n hx hb dX3_isFull_0 rfl (lv_at hl 0 rfl) ?_
  refine g_get C B (15) (Lc_in (by decide)) cE_15 rfl gf_3 1 (by decide) wl_128 (v := .int (S.1 15)) cF_15_1 dX3_isFull_1 ?_
  refine lv_bipush (v := 30) hx hb dX3_isFull_4 (by decide) ?_
  refine lv_icmp_lt (tgt := 13) hx hb dX3_isFull_6 (by decide) (fun c1 => ?_) (fun c1 => ?_)
  · refine lv_iconst (v := 0) hx hb dX3_isFull_13 (by decide) ?_
    exact ge_i C hr rfl hlk (bI_f (by simp only [i3l, i3e, i3q, inR, isC, isD, zi_0, zi_1, zi_2, zi_3, zi_4, zi_5, zi_6, zi_7, zi_8, zi_9, zi_10, zi_12, zi_20, zi_21, zi_30, zi_60, zi_90, zi_99, zi_100, zi_180, zi_240, zi_400, zi_500, zi_1000, zi_1199, zi_10000, zi_100000, zi_1000000, i3m1] at c1 ⊢; omega)) dX3_isFull_14
  · refine lv_iconst (v := 1) hx hb dX3_isFull_9 (by decide) ?_
    refine lv_goto (tgt := 14) hx hb dX3_isFull_10 (by decide) ?_
    exact ge_i C hr rfl hlk (bI_t (by simp only [i3l, i3e, i3q, inR, isC, isD, zi_0, zi_1, zi_2, zi_3, zi_4, zi_5, zi_6, zi_7, zi_8, zi_9, zi_10, zi_12, zi_20, zi_21, zi_30, zi_60, zi_90, zi_99, zi_100, zi_180, zi_240, zi_400, zi_500, zi_1000, zi_1199, zi_10000, zi_100000, zi_1000000, i3m1] at c1 ⊢; omega)) dX3_isFull_14
set_option maxHeartbeats 4000000 in
set_option maxRecDepth 100000 in
theorem c_X3_add (l : Launch) (D : va_G) (G : Nat → ClassId) (τ α : Nat → Nat) (S J : St) (n sz : Nat) (hn : S.1 15 = nI n) (hn29 : n < 30) : Wv l D G τ yX3_add cX3_add 2 none 1 0 0 [.ref (α 15), .ref (α (27 + 3 * n))] α (cE G α S J n) (Lc (n + 1)) sz (fun u => u = (α, cE G α (uI S 15 (S.1 15 + 1)) J (n + 1), Lc (n + 1))) := by
  refine gM _ (by decide) rfl (Nat.le_of_ble_eq_true rfl) ?_
  intro p e s m below meth c ls C hr hlk hnm hsz B hl
  have hx := C.1
  have hb := C.2.1
  have hl : lv_has ls 2 [(0, .ref (α 15)), (1, .ref (α (27 + 3 * n)))] := hl
  have hf9 : ¬ 30 ≤ S.1 15 := by rw [hn]; exact nI_ge (b := 30) hn29 (by decide)
  refine lv_aload_n hx hb dX3_add_0 rfl (lv_at hl 0 rfl) ?_
  refine gc_b (gr_V C B (k := 15) (As := []) (rest := []) (c_X3_isFullK l D G τ α S J n (n + 1) _) (Lc_in (by decide)) cE_15 rfl wl_573 wl_481 wl_482 wl_34 wl_483 (na := 0) (by decide +kernel) rfl ⟨Nat.le_of_ble_eq_true rfl, Nat.le_of_ble_eq_true rfl⟩ ⟨Nat.le_of_ble_eq_true rfl, Nat.le_of_ble_eq_true rfl⟩ hl.1 rfl (Nat.le_of_ble_eq_true rfl) dX3_add_1) (fun hc => absurd hc hf9) (fun _ => ?_)
  refine lv_if_eq (tgt := 8) hx hb dX3_add_4 (by decide) (fun _ => ?_) (fun hc => absurd (by decide) hc)
  refine lv_aload_n hx hb dX3_add_8 rfl (lv_at hl 0 rfl) ?_
  refine g_get C B (15) (Lc_in (by decide)) cE_15 rfl gf_3 0 (by decide) wl_127 (v := .ref (α 16)) cF_15_0 dX3_add_9 ?_
  refine lv_aload_n hx hb dX3_add_12 rfl (lv_at hl 0 rfl) ?_
  refine g_get C B (15) (Lc_in (by decide)) cE_15 rfl gf_3 1 (by decide) wl_128 (v := .int (S.1 15)) cF_15_1 dX3_add_13 ?_
  refine lv_aload_n hx hb dX3_add_16 rfl (lv_at hl 1 rfl) ?_
  refine g_astq C B 16 (Lc_in (by decide)) (f := (cRows α n)) cE_16 (27 + 3 * n) (Lc_d (i := n) (by omega) (by omega) (by omega)) cE_d (by rw [hn]; exact vp_in_nI hn29 (by decide)) (j := n) (by rw [hn]; exact nI_clamp (by omega)) dX3_add_17 cU_16 (fun H locs B => ?_)
  refine lv_aload_n hx hb dX3_add_18 rfl (lv_at hl 0 rfl) ?_
  refine lv_dup hx hb dX3_add_19 rfl ?_
  refine g_get C B (15) (Lc_in (by decide)) cE_15 rfl gf_3 1 (by decide) wl_128 (v := .int (S.1 15)) cF_15_1 dX3_add_20 ?_
  refine lv_iconst (v := 1) hx hb dX3_add_23 (by decide) ?_
  refine lv_iadd hx hb dX3_add_24 ?_
  refine g_put C B (15) (Lc_in (by decide)) cE_15 rfl gf_3 tyX3 tyX3_ok nmX3 1 (by decide) wl_128 rfl (ty := .int) (v := .int (S.1 15 + 1)) (by decide +kernel) rfl rfl (Nat.le_of_ble_eq_true rfl) dX3_add_25 cO_15_1 (fun H locs B => ?_)
  exact ge_wv C B hr hlk (rfl) dX3_add_28
