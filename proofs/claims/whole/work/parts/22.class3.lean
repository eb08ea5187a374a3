theorem mg_iff {x y z : Int32} : (0 ≤ x ∧ 0 ≤ y ∧ 0 ≤ z ∧ x.toInt64 + y.toInt64 + z.toInt64 ≤ 1000) ↔ (inR x 0 1000 ∧ inR y 0 1000 ∧ inR z 0 1000 ∧ x + y + z ≤ 1000) := by
  have hx1 := Int32.toInt_lt x; have hy1 := Int32.toInt_lt y; have hz1 := Int32.toInt_lt z
  have hx2 := Int32.le_toInt x; have hy2 := Int32.le_toInt y; have hz2 := Int32.le_toInt z
  have e1 : (x.toInt64 + y.toInt64 + z.toInt64).toInt = x.toInt + y.toInt + z.toInt := by
    rw [Int64.toInt_add, Int64.toInt_add, Int32.toInt_toInt64, Int32.toInt_toInt64, Int32.toInt_toInt64, Int.bmod_eq_of_le (n := x.toInt + y.toInt) (by omega) (by omega), Int.bmod_eq_of_le (by omega) (by omega)]
  constructor
  · rintro ⟨h1, h2, h3, h4⟩
    simp only [i6e, zj_1000, e1] at h4
    simp only [i3e, zi_0, zi_1000, inR] at h1 h2 h3 ⊢
    have e2 : (x + y + z).toInt = x.toInt + y.toInt + z.toInt := by
      rw [Int32.toInt_add, Int32.toInt_add, Int.bmod_eq_of_le (n := x.toInt + y.toInt) (by omega) (by omega), Int.bmod_eq_of_le (by omega) (by omega)]
    omega
  · rintro ⟨h1, h2, h3, h4⟩
    simp only [i3e, zi_0, zi_1000, inR] at h1 h2 h3 h4
    have e2 : (x + y + z).toInt = x.toInt + y.toInt + z.toInt := by
      rw [Int32.toInt_add, Int32.toInt_add, Int.bmod_eq_of_le (n := x.toInt + y.toInt) (by omega) (by omega), Int.bmod_eq_of_le (by omega) (by omega)]
    simp only [i6e, zj_1000, e1, i3e, zi_0]
    omega
set_option maxHeartbeats 4000000 in
set_option maxRecDepth 100000 in
theorem c_X6_mayGo (l : Launch) (D : va_G) (G : Nat → ClassId) (τ α : Nat → Nat) (E : Nat → va_E) (L : List Nat) (sz : Nat) (x y z : Int32) : Ri l D G τ yX6_mayGo cX6_mayGo 3 (some .boolean) 0 [.int x, .int y, .int z] α E L sz (fun r => r = bI (inR x 0 1000 ∧ inR y 0 1000 ∧ inR z 0 1000 ∧ x + y + z ≤ 1000)) := by
  refine gM _ (by decide) rfl (Nat.le_of_ble_eq_true rfl) ?_
  intro p e s m below meth c ls C hr hlk hnm hsz B hl
  have hx := C.1
  have hb := C.2.1
  have hl : lv_has ls 3 [(0, .int x), (1, .int y), (2, .int z)] := hl
  refine lv_iload_n hx hb dX6_mayGo_0 rfl (lv_at hl 0 rfl) ?_
  refine lv_if_lt (tgt := 31) hx hb dX6_mayGo_1 (by decide) (fun c1 => ?_) (fun c1 => ?_)
  · refine lv_iconst (v := 0) hx hb dX6_mayGo_31 (by decide) ?_
    exact ge_i C hr rfl hlk (bI_f (fun h9 => by have h8 := mg_iff.mpr h9; obtain ⟨h1, h2, h3, h4⟩ := h8; simp only [i3l, i3e, i3q, inR, isC, isD, zi_0, zi_1, zi_2, zi_3, zi_4, zi_5, zi_6, zi_7, zi_8, zi_9, zi_10, zi_12, zi_20, zi_21, zi_30, zi_60, zi_90, zi_99, zi_100, zi_180, zi_240, zi_400, zi_500, zi_1000, zi_1199, zi_10000, zi_100000, zi_1000000, i3m1] at h1 h2 h3 c1 ⊢; omega)) dX6_mayGo_32
  · refine lv_iload_n hx hb dX6_mayGo_4 rfl (lv_at hl 1 rfl) ?_
    refine lv_if_lt (tgt := 31) hx hb dX6_mayGo_5 (by decide) (fun c2 => ?_) (fun c2 => ?_)
    · refine lv_iconst (v := 0) hx hb dX6_mayGo_31 (by decide) ?_
      exact ge_i C hr rfl hlk (bI_f (fun h9 => by have h8 := mg_iff.mpr h9; obtain ⟨h1, h2, h3, h4⟩ := h8; simp only [i3l, i3e, i3q, inR, isC, isD, zi_0, zi_1, zi_2, zi_3, zi_4, zi_5, zi_6, zi_7, zi_8, zi_9, zi_10, zi_12, zi_20, zi_21, zi_30, zi_60, zi_90, zi_99, zi_100, zi_180, zi_240, zi_400, zi_500, zi_1000, zi_1199, zi_10000, zi_100000, zi_1000000, i3m1] at h1 h2 h3 c2 ⊢; omega)) dX6_mayGo_32
    · refine lv_iload_n hx hb dX6_mayGo_8 rfl (lv_at hl 2 rfl) ?_
      refine lv_if_lt (tgt := 31) hx hb dX6_mayGo_9 (by decide) (fun c3 => ?_) (fun c3 => ?_)
      · refine lv_iconst (v := 0) hx hb dX6_mayGo_31 (by decide) ?_
        exact ge_i C hr rfl hlk (bI_f (fun h9 => by have h8 := mg_iff.mpr h9; obtain ⟨h1, h2, h3, h4⟩ := h8; simp only [i3l, i3e, i3q, inR, isC, isD, zi_0, zi_1, zi_2, zi_3, zi_4, zi_5, zi_6, zi_7, zi_8, zi_9, zi_10, zi_12, zi_20, zi_21, zi_30, zi_60, zi_90, zi_99, zi_100, zi_180, zi_240, zi_400, zi_500, zi_1000, zi_1199, zi_10000, zi_100000, zi_1000000, i3m1] at h1 h2 h3 c3 ⊢; omega)) dX6_mayGo_32
      · refine lv_iload_n hx hb dX6_mayGo_12 rfl (lv_at hl 0 rfl) ?_
        refine lv_i2l (v := x.toInt64) hx hb dX6_mayGo_13 rfl ?_
        refine lv_iload_n hx hb dX6_mayGo_14 rfl (lv_at hl 1 rfl) ?_
        refine lv_i2l (v := y.toInt64) hx hb dX6_mayGo_15 rfl ?_
        refine lv_ladd hx hb dX6_mayGo_16 ?_
        refine lv_iload_n hx hb dX6_mayGo_17 rfl (lv_at hl 2 rfl) ?_
        refine lv_i2l (v := z.toInt64) hx hb dX6_mayGo_18 rfl ?_
        refine lv_ladd hx hb dX6_mayGo_19 ?_
        refine g_ldc2 C wl_654 dX6_mayGo_20 ?_
        refine gl_gt (tgt := 31) hx hb dX6_mayGo_23 dX6_mayGo_24 (by decide) (fun c4 => ?_) (fun c4 => ?_)
        · refine lv_iconst (v := 0) hx hb dX6_mayGo_31 (by decide) ?_
          exact ge_i C hr rfl hlk (bI_f (fun h9 => by have h8 := (mg_iff.mpr h9).2.2.2; simp only [i6l, i6e] at h8 c4; omega)) dX6_mayGo_32
        · refine lv_iconst (v := 1) hx hb dX6_mayGo_27 (by decide) ?_
          refine lv_goto (tgt := 32) hx hb dX6_mayGo_28 (by decide) ?_
          exact ge_i C hr rfl hlk (bI_t (mg_iff.mp ⟨by simp only [i3l, i3e, i3q, inR, isC, isD, zi_0, zi_1, zi_2, zi_3, zi_4, zi_5, zi_6, zi_7, zi_8, zi_9, zi_10, zi_12, zi_20, zi_21, zi_30, zi_60, zi_90, zi_99, zi_100, zi_180, zi_240, zi_400, zi_500, zi_1000, zi_1199, zi_10000, zi_100000, zi_1000000, i3m1] at c1 ⊢; omega, by simp only [i3l, i3e, i3q, inR, isC, isD, zi_0, zi_1, zi_2, zi_3, zi_4, zi_5, zi_6, zi_7, zi_8, zi_9, zi_10, zi_12, zi_20, zi_21, zi_30, zi_60, zi_90, zi_99, zi_100, zi_180, zi_240, zi_400, zi_500, zi_1000, zi_1199, zi_10000, zi_100000, zi_1000000, i3m1] at c2 ⊢; omega, by simp only [i3l, i3e, i3q, inR, isC, isD, zi_0, zi_1, zi_2, zi_3, zi_4, zi_5, zi_6, zi_7, zi_8, zi_9, zi_10, zi_12, zi_20, zi_21, zi_30, zi_60, zi_90, zi_99, zi_100, zi_180, zi_240, zi_400, zi_500, zi_1000, zi_1199, zi_10000, zi_100000, zi_1000000, i3m1] at c3 ⊢; omega, by simp only [i6l, i6e] at c4 ⊢; omega⟩)) dX6_mayGo_32
set_option maxHeartbeats 4000000 in
set_option maxRecDepth 100000 in
theorem c_X6_set (l : Launch) (D : va_G) (G : Nat → ClassId) (τ α : Nat → Nat) (S J : St) (n sz : Nat) (a x y z : Int32) (ha : inR a 0 20) : Wv l D G τ yX6_set cX6_set 5 none 2 0 0 [.ref (α 21), .int a, .int x, .int y, .int z] α (cE G α S J n) (Lc n) sz (fun u => u = (α, cE G α (uA (uA (uA S 34 (upd (S.2.2.1 34) a.toNatClampNeg x)) 35 (upd (S.2.2.1 35) a.toNatClampNeg y)) 36 (upd (S.2.2.1 36) a.toNatClampNeg z)) J n, Lc n)) := by
  refine gM _ (by decide) rfl (Nat.le_of_ble_eq_true rfl) ?_
  intro p e s m below meth c ls C hr hlk hnm hsz B hl
  have hx := C.1
  have hb := C.2.1
  have hl : lv_has ls 5 [(0, .ref (α 21)), (1, .int a), (2, .int x), (3, .int y), (4, .int z)] := hl
  refine lv_iload_n hx hb dX6_set_0 rfl (lv_at hl 1 rfl) ?_
  refine gc_b (gr_S C B (As := [.int a]) (rest := []) (c_X6_isAge l D G τ α _ _ _ a) wl_659 wl_648 wl_38 wl_649 (na := 1) (by decide +kernel) rfl ⟨Nat.le_of_ble_eq_true rfl, Nat.le_of_ble_eq_true rfl⟩ ⟨Nat.le_of_ble_eq_true rfl, Nat.le_of_ble_eq_true rfl⟩ hl.1 rfl (Nat.le_of_ble_eq_true rfl) dX6_set_1) (fun _ => ?_) (fun hc => absurd ha hc)
  refine lv_if_ne (tgt := 8) hx hb dX6_set_4 (by decide) (fun _ => ?_) (fun hc => absurd hc (by decide))
  refine lv_aload_n hx hb dX6_set_8 rfl (lv_at hl 0 rfl) ?_
  refine g_get C B (21) (Lc_in (by decide)) cE_21 rfl gf_6 0 (by decide) wl_201 (v := .ref (α 22)) cF_21_0 dX6_set_9 ?_
  refine lv_iload_n hx hb dX6_set_12 rfl (lv_at hl 1 rfl) ?_
  refine lv_iload_n hx hb dX6_set_13 rfl (lv_at hl 2 rfl) ?_
  refine g_iast C B (22) (Lc_in (by decide)) (f := S.2.2.1 34) cE_22 (vp_rng ha (by decide) (by decide)) (j := a.toNatClampNeg) rfl dX6_set_14 cU_22 (fun H locs B => ?_)
  refine lv_aload_n hx hb dX6_set_15 rfl (lv_at hl 0 rfl) ?_
  refine g_get C B (21) (Lc_in (by decide)) cE_21 rfl gf_6 1 (by decide) wl_202 (v := .ref (α 23)) cF_21_1 dX6_set_16 ?_
  refine lv_iload_n hx hb dX6_set_19 rfl (lv_at hl 1 rfl) ?_
  refine lv_iload_n hx hb dX6_set_20 rfl (lv_at hl 3 rfl) ?_
  refine g_iast C B (23) (Lc_in (by decide)) (f := S.2.2.1 35) cE_23 (vp_rng ha (by decide) (by decide)) (j := a.toNatClampNeg) rfl dX6_set_21 cU_23 (fun H locs B => ?_)
  refine lv_aload_n hx hb dX6_set_22 rfl (lv_at hl 0 rfl) ?_
  refine g_get C B (21) (Lc_in (by decide)) cE_21 rfl gf_6 2 (by decide) wl_203 (v := .ref (α 24)) cF_21_2 dX6_set_23 ?_
  refine lv_iload_n hx hb dX6_set_26 rfl (lv_at hl 1 rfl) ?_
  refine lv_iload hx hb dX6_set_27 (lv_at hl 4 rfl) ?_
  refine g_iast C B (24) (Lc_in (by decide)) (f := S.2.2.1 36) cE_24 (vp_rng ha (by decide) (by decide)) (j := a.toNatClampNeg) rfl dX6_set_29 cU_24 (fun H locs B => ?_)
  exact ge_wv C B hr hlk (rfl) dX6_set_30
set_option maxHeartbeats 4000000 in
set_option maxRecDepth 100000 in
theorem c_X6_afterYear (l : Launch) (D : va_G) (G : Nat → ClassId) (τ α : Nat → Nat) (S J : St) (n sz : Nat) (x : Int64) (k : Nat) (hk : k ≤ 20) : Rl l D G τ yX6_afterYear cX6_afterYear 4 (some .long) 2 [.ref (α 21), .long x, .int (nI k)] α (cE G α S J n) (Lc n) sz (fun r => r = x - th x (S.2.2.1 34 k) - th x (S.2.2.1 35 k) - th x (S.2.2.1 36 k)) := by
  refine gM _ (by decide) rfl (Nat.le_of_ble_eq_true rfl) ?_
  intro p e s m below meth c ls C hr hlk hnm hsz B hl
  have hx := C.1
  have hb := C.2.1
  have hl : lv_has ls 4 [(0, .ref (α 21)), (1, .long x), (3, .int (nI k))] := hl
  refine lv_iload_n hx hb dX6_afterYear_0 rfl (lv_at hl 2 rfl) ?_
  refine gc_b (gr_S C B (As := [.int (nI k)]) (rest := []) (c_X6_isAge l D G τ α _ _ _ (nI k)) wl_659 wl_648 wl_38 wl_649 (na := 1) (by decide +kernel) rfl ⟨Nat.le_of_ble_eq_true rfl, Nat.le_of_ble_eq_true rfl⟩ ⟨Nat.le_of_ble_eq_true rfl, Nat.le_of_ble_eq_true rfl⟩ hl.1 rfl (Nat.le_of_ble_eq_true rfl) dX6_afterYear_1) (fun _ => ?_) (fun hc => absurd (⟨nI_pos' (by omega), nI_le (b := 20) (by omega) (by decide)⟩ : inR (nI k) 0 20) hc)
  refine lv_if_ne (tgt := 9) hx hb dX6_afterYear_4 (by decide) (fun _ => ?_) (fun hc => absurd hc (by decide))
  refine lv_lload_n hx hb dX6_afterYear_9 rfl (lv_at hl 1 rfl) ?_
  refine lv_lload_n hx hb dX6_afterYear_10 rfl (lv_at hl 1 rfl) ?_
  refine lv_aload_n hx hb dX6_afterYear_11 rfl (lv_at hl 0 rfl) ?_
  refine g_get C B (21) (Lc_in (by decide)) cE_21 rfl gf_6 0 (by decide) wl_201 (v := .ref (α 22)) cF_21_0 dX6_afterYear_12 ?_
  refine lv_iload_n hx hb dX6_afterYear_15 rfl (lv_at hl 2 rfl) ?_
  refine g_iald C B (22) (Lc_in (by decide)) (f := S.2.2.1 34) cE_22 (vp_in_nI (by omega) (by omega)) (j := k) (nI_clamp (by omega)) dX6_afterYear_16 ?_
  refine gc_l (gr_SN C B (As := [.long x, .int (S.2.2.1 34 k)]) (rest := [.long x]) (c_X10_thousandths l D G τ α _ _ _ x (S.2.2.1 34 k)) (by decide +kernel : Cond.methodLinkNest RX6 43 yX10_thousandths RX10 ∈ gNs) wl_333 wl_29 wl_334 (na := 2) (by decide +kernel) rfl ⟨Nat.le_of_ble_eq_true rfl, Nat.le_of_ble_eq_true rfl⟩ ⟨Nat.le_of_ble_eq_true rfl, Nat.le_of_ble_eq_true rfl⟩ hl.1 rfl (Nat.le_of_ble_eq_true rfl) dX6_afterYear_17) (fun r h => ?_)
  subst h
  refine lv_lsub hx hb dX6_afterYear_20 ?_
  refine lv_lload_n hx hb dX6_afterYear_21 rfl (lv_at hl 1 rfl) ?_
  refine lv_aload_n hx hb dX6_afterYear_22 rfl (lv_at hl 0 rfl) ?_
  refine g_get C B (21) (Lc_in (by decide)) cE_21 rfl gf_6 1 (by decide) wl_202 (v := .ref (α 23)) cF_21_1 dX6_afterYear_23 ?_
  refine lv_iload_n hx hb dX6_afterYear_26 rfl (lv_at hl 2 rfl) ?_
  refine g_iald C B (23) (Lc_in (by decide)) (f := S.2.2.1 35) cE_23 (vp_in_nI (by omega) (by omega)) (j := k) (nI_clamp (by omega)) dX6_afterYear_27 ?_
  refine gc_l (gr_SN C B (As := [.long x, .int (S.2.2.1 35 k)]) (rest := [.long (x - (th x (S.2.2.1 34 k)))]) (c_X10_thousandths l D G τ α _ _ _ x (S.2.2.1 35 k)) (by decide +kernel : Cond.methodLinkNest RX6 43 yX10_thousandths RX10 ∈ gNs) wl_333 wl_29 wl_334 (na := 2) (by decide +kernel) rfl ⟨Nat.le_of_ble_eq_true rfl, Nat.le_of_ble_eq_true rfl⟩ ⟨Nat.le_of_ble_eq_true rfl, Nat.le_of_ble_eq_true rfl⟩ hl.1 rfl (Nat.le_of_ble_eq_true rfl) dX6_afterYear_28) (fun r h => ?_)
  subst h
  refine lv_lsub hx hb dX6_afterYear_31 ?_
  refine lv_lload_n hx hb dX6_afterYear_32 rfl (lv_at hl 1 rfl) ?_
  refine lv_aload_n hx hb dX6_afterYear_33 rfl (lv_at hl 0 rfl) ?_
  refine g_get C B (21) (Lc_in (by decide)) cE_21 rfl gf_6 2 (by decide) wl_203 (v := .ref (α 24)) cF_21_2 dX6_afterYear_34 ?_
  refine lv_iload_n hx hb dX6_afterYear_37 rfl (lv_at hl 2 rfl) ?_
  refine g_iald C B (24) (Lc_in (by decide)) (f := S.2.2.1 36) cE_24 (vp_in_nI (by omega) (by omega)) (j := k) (nI_clamp (by omega)) dX6_afterYear_38 ?_
  refine gc_l (gr_SN C B (As := [.long x, .int (S.2.2.1 36 k)]) (rest := [.long ((x - (th x (S.2.2.1 34 k))) - (th x (S.2.2.1 35 k)))]) (c_X10_thousandths l D G τ α _ _ _ x (S.2.2.1 36 k)) (by decide +kernel : Cond.methodLinkNest RX6 43 yX10_thousandths RX10 ∈ gNs) wl_333 wl_29 wl_334 (na := 2) (by decide +kernel) rfl ⟨Nat.le_of_ble_eq_true rfl, Nat.le_of_ble_eq_true rfl⟩ ⟨Nat.le_of_ble_eq_true rfl, Nat.le_of_ble_eq_true rfl⟩ hl.1 rfl (Nat.le_of_ble_eq_true rfl) dX6_afterYear_39) (fun r h => ?_)
  subst h
  refine lv_lsub hx hb dX6_afterYear_42 ?_
  exact ge_l C hr hlk (rfl) dX6_afterYear_43
set_option maxHeartbeats 4000000 in
set_option maxRecDepth 100000 in
theorem c_X6_stillThere (l : Launch) (D : va_G) (G : Nat → ClassId) (τ α : Nat → Nat) (S J : St) (n sz : Nat) (a b : Nat) (hab : a ≤ b) (hb21 : b ≤ 21) : Rl l D G τ yX6_stillThere cX6_stillThere 6 (some .long) 3 [.ref (α 21), .int (nI a), .int (nI b)] α (cE G α S J n) (Lc n) sz (fun r => r = (liveL S a (b - a)).1) := by
  refine gM _ (by decide) rfl (Nat.le_of_ble_eq_true rfl) ?_
  intro p e s m below meth c ls C hr hlk hnm hsz B hl
  have hx := C.1
  have hb := C.2.1
  have hl : lv_has ls 6 [(0, .ref (α 21)), (1, .int (nI a)), (2, .int (nI b))] := hl
  have loop : ∀ (nn kk : Nat) (x : Int64) (ls : Array Slot), nn + kk = b - a → ((liveL S a kk).1 = x) → lv_has ls 6 [(5, .int (nI (a + kk))), (3, .long x), (0, .ref (α 21)), (1, .int (nI a)), (2, .int (nI b))] → W p l e (rmd 3 0 0) s m [.ref (α 21), .int (nI a), .int (nI b)].toArray below meth c s.heap [] 0 0 (MQ below (vp_Sl (fun r => r = (liveL S a (b - a)).1)) [.ref (α 21), .int (nI a), .int (nI b)].toArray s 0 0 (fun _ => False)) (F0 m 11 ls []) := by
    intro nn
    induction nn with
    | zero =>
      intro kk x ls hk hI hl
      refine lv_iload hx hb dX6_stillThere_11 (lv_at hl 0 rfl) ?_
      refine lv_iload_n hx hb dX6_stillThere_13 rfl (lv_at hl 4 rfl) ?_
      refine lv_icmp_ge (tgt := 38) hx hb dX6_stillThere_14 (by decide) (fun _ => ?_) (fun hc => absurd (nI_le (by omega) (by omega)) hc)
      refine lv_lload_n hx hb dX6_stillThere_38 rfl (lv_at hl 1 rfl) ?_
      exact ge_l C hr hlk (by rw [show b - a = kk by omega, hI]) dX6_stillThere_39
    | succ nn ih =>
      intro kk x ls hk hI hl
      refine lv_iload hx hb dX6_stillThere_11 (lv_at hl 0 rfl) ?_
      refine lv_iload_n hx hb dX6_stillThere_13 rfl (lv_at hl 4 rfl) ?_
      refine lv_icmp_ge (tgt := 38) hx hb dX6_stillThere_14 (by decide) (fun hc => absurd hc (nI_ge (by omega) (by omega))) (fun _ => ?_)
      refine lv_iload hx hb dX6_stillThere_17 (lv_at hl 0 rfl) ?_
      refine lv_bipush (v := 20) hx hb dX6_stillThere_19 (by decide) ?_
      refine lv_icmp_gt (tgt := 38) hx hb dX6_stillThere_21 (by decide) (fun hc => absurd hc (show ¬ (20 : Int32) < nI (a + kk) from nI_nlt (a := 20) (by omega) (by decide))) (fun _ => ?_)
      refine lv_aload_n hx hb dX6_stillThere_24 rfl (lv_at hl 2 rfl) ?_
      refine lv_lload_n hx hb dX6_stillThere_25 rfl (lv_at hl 1 rfl) ?_
      refine lv_iload hx hb dX6_stillThere_26 (lv_at hl 0 rfl) ?_
      refine gc_l (gr_V C B (k := 21) (As := [.long x, .int (nI (a + kk))]) (rest := []) (c_X6_afterYear l D G τ α S J n _ x (a + kk) (by omega)) (Lc_in (by decide)) cE_21 rfl wl_675 wl_677 wl_11 wl_38 wl_678 (na := 2) (by decide +kernel) rfl ⟨Nat.le_of_ble_eq_true rfl, Nat.le_of_ble_eq_true rfl⟩ ⟨Nat.le_of_ble_eq_true rfl, Nat.le_of_ble_eq_true rfl⟩ hl.1 rfl (Nat.le_of_ble_eq_true rfl) dX6_stillThere_28) (fun r h => ?_)
      subst h
      refine lv_lstore_n (lv' := [(3, .long (x - th x (S.2.2.1 34 (a + kk)) - th x (S.2.2.1 35 (a + kk)) - th x (S.2.2.1 36 (a + kk)))), (5, .int (nI (a + kk))), (0, .ref (α 21)), (1, .int (nI a)), (2, .int (nI b))]) hx hb dX6_stillThere_31 rfl hl (by decide) rfl (fun ls hl => ?_)
      refine lv_iinc (v := ((nI (a + kk)) + 1)) (lv' := [(5, .int ((nI (a + kk)) + 1)), (3, .long (x - th x (S.2.2.1 34 (a + kk)) - th x (S.2.2.1 35 (a + kk)) - th x (S.2.2.1 36 (a + kk)))), (0, .ref (α 21)), (1, .int (nI a)), (2, .int (nI b))]) hx hb dX6_stillThere_32 hl (k := 1) rfl rfl (by decide) rfl (fun ls hl => ?_)
      refine lv_goto (tgt := 11) hx hb dX6_stillThere_35 (by decide) ?_
      exact ih (kk + 1) (x - th x (S.2.2.1 34 (a + kk)) - th x (S.2.2.1 35 (a + kk)) - th x (S.2.2.1 36 (a + kk))) ls (by omega) (by rw [liveL, hI]; exact (i6sub _ _ _ _).symm) (by have h9 := lv_sub (l' := [(5, .int ((nI (a + kk)) + 1)), (3, .long (x - th x (S.2.2.1 34 (a + kk)) - th x (S.2.2.1 35 (a + kk)) - th x (S.2.2.1 36 (a + kk)))), (0, .ref (α 21)), (1, .int (nI a)), (2, .int (nI b))]) hl [0, 1, 2, 3, 4] rfl; rw [nI_1, Nat.add_assoc] at h9; exact h9)
  refine g_ldc2 C wl_672 dX6_stillThere_0 ?_
  refine lv_lstore_n (lv' := [(3, .long 1000000), (0, .ref (α 21)), (1, .int (nI a)), (2, .int (nI b))]) hx hb dX6_stillThere_3 rfl hl (by decide) rfl (fun ls hl => ?_)
  refine lv_iconst (v := 0) hx hb dX6_stillThere_4 (by decide) ?_
  refine lv_iload_n hx hb dX6_stillThere_5 rfl (lv_at hl 2 rfl) ?_
  refine va_mmax hx hb (C.2.2.1.trans hl.1.symm) C.2.2.2.1 (C.2.2.2.2 _ wl_673) (C.2.2.2.2 _ wl_377) (C.2.2.2.2 _ wl_41) (C.2.2.2.2 _ wl_378) (Nat.le_of_ble_eq_true rfl) (Nat.le_of_ble_eq_true rfl) (Nat.le_of_ble_eq_true rfl) (Nat.le_of_ble_eq_true rfl) dX6_stillThere_6 ?_
  rw [show (if (0 : Int32) < nI a then nI a else 0) = nI a by split <;> first | rfl | (rename_i h8; simp only [i3l, i3q, zi_0, nI_toInt (show a < 2 ^ 31 by omega)] at h8 ⊢; omega)]
  refine lv_istore (lv' := [(5, .int (nI a)), (3, .long 1000000), (0, .ref (α 21)), (1, .int (nI a)), (2, .int (nI b))]) hx hb dX6_stillThere_9 hl (by decide) rfl (fun ls hl => ?_)
  exact loop (b - a) 0 1000000 ls (by omega) rfl (lv_sub hl [0, 1, 2, 3, 4] rfl)
set_option maxHeartbeats 4000000 in
set_option maxRecDepth 100000 in
theorem c_X6_wedBetween (l : Launch) (D : va_G) (G : Nat → ClassId) (τ α : Nat → Nat) (S J : St) (n sz : Nat) (a b : Nat) (hab : a ≤ b) (hb21 : b ≤ 21) : Rl l D G τ yX6_wedBetween cX6_wedBetween 8 (some .long) 3 [.ref (α 21), .int (nI a), .int (nI b)] α (cE G α S J n) (Lc n) sz (fun r => r = (liveL S a (b - a)).2) := by
  refine gM _ (by decide) rfl (Nat.le_of_ble_eq_true rfl) ?_
  intro p e s m below meth c ls C hr hlk hnm hsz B hl
  have hx := C.1
  have hb := C.2.1
  have hl : lv_has ls 8 [(0, .ref (α 21)), (1, .int (nI a)), (2, .int (nI b))] := hl
  have loop : ∀ (nn kk : Nat) (x : Int64) (y : Int64) (ls : Array Slot), nn + kk = b - a → (liveL S a kk = (x, y)) → lv_has ls 8 [(7, .int (nI (a + kk))), (5, .long y), (3, .long x), (0, .ref (α 21)), (1, .int (nI a)), (2, .int (nI b))] → W p l e (rmd 3 0 0) s m [.ref (α 21), .int (nI a), .int (nI b)].toArray below meth c s.heap [] 0 0 (MQ below (vp_Sl (fun r => r = (liveL S a (b - a)).2)) [.ref (α 21), .int (nI a), .int (nI b)].toArray s 0 0 (fun _ => False)) (F0 m 14 ls []) := by
    intro nn
    induction nn with
    | zero =>
      intro kk x y ls hk hI hl
      refine lv_iload hx hb dX6_wedBetween_14 (lv_at hl 0 rfl) ?_
      refine lv_iload_n hx hb dX6_wedBetween_16 rfl (lv_at hl 5 rfl) ?_
      refine lv_icmp_ge (tgt := 57) hx hb dX6_wedBetween_17 (by decide) (fun _ => ?_) (fun hc => absurd (nI_le (by omega) (by omega)) hc)
      refine lv_lload hx hb dX6_wedBetween_57 (lv_at hl 1 rfl) ?_
      exact ge_l C hr hlk (by rw [show b - a = kk by omega, hI]) dX6_wedBetween_59
    | succ nn ih =>
      intro kk x y ls hk hI hl
      refine lv_iload hx hb dX6_wedBetween_14 (lv_at hl 0 rfl) ?_
      refine lv_iload_n hx hb dX6_wedBetween_16 rfl (lv_at hl 5 rfl) ?_
      refine lv_icmp_ge (tgt := 57) hx hb dX6_wedBetween_17 (by decide) (fun hc => absurd hc (nI_ge (by omega) (by omega))) (fun _ => ?_)
      refine lv_iload hx hb dX6_wedBetween_20 (lv_at hl 0 rfl) ?_
      refine lv_bipush (v := 20) hx hb dX6_wedBetween_22 (by decide) ?_
      refine lv_icmp_gt (tgt := 57) hx hb dX6_wedBetween_24 (by decide) (fun hc => absurd hc (show ¬ (20 : Int32) < nI (a + kk) from nI_nlt (a := 20) (by omega) (by decide))) (fun _ => ?_)
      refine lv_lload hx hb dX6_wedBetween_27 (lv_at hl 1 rfl) ?_
      refine lv_lload_n hx hb dX6_wedBetween_29 rfl (lv_at hl 2 rfl) ?_
      refine lv_aload_n hx hb dX6_wedBetween_30 rfl (lv_at hl 3 rfl) ?_
      refine g_get C B (21) (Lc_in (by decide)) cE_21 rfl gf_6 1 (by decide) wl_202 (v := .ref (α 23)) cF_21_1 dX6_wedBetween_31 ?_
      refine lv_iload hx hb dX6_wedBetween_34 (lv_at hl 0 rfl) ?_
      refine g_iald C B (23) (Lc_in (by decide)) (f := S.2.2.1 35) cE_23 (vp_in_nI (by omega) (by omega)) (j := (a + kk)) (nI_clamp (by omega)) dX6_wedBetween_36 ?_
      refine gc_l (gr_SN C B (As := [.long x, .int (S.2.2.1 35 (a + kk))]) (rest := [.long y]) (c_X10_thousandths l D G τ α _ _ _ x (S.2.2.1 35 (a + kk))) (by decide +kernel : Cond.methodLinkNest RX6 43 yX10_thousandths RX10 ∈ gNs) wl_333 wl_29 wl_334 (na := 2) (by decide +kernel) rfl ⟨Nat.le_of_ble_eq_true rfl, Nat.le_of_ble_eq_true rfl⟩ ⟨Nat.le_of_ble_eq_true rfl, Nat.le_of_ble_eq_true rfl⟩ hl.1 rfl (Nat.le_of_ble_eq_true rfl) dX6_wedBetween_37) (fun r h => ?_)
      subst h
      refine lv_ladd hx hb dX6_wedBetween_40 ?_
      refine lv_lstore (lv' := [(5, .long (y + (th x (S.2.2.1 35 (a + kk))))), (7, .int (nI (a + kk))), (3, .long x), (0, .ref (α 21)), (1, .int (nI a)), (2, .int (nI b))]) hx hb dX6_wedBetween_41 hl (by decide) rfl (fun ls hl => ?_)
      refine lv_aload_n hx hb dX6_wedBetween_43 rfl (lv_at hl 3 rfl) ?_
      refine lv_lload_n hx hb dX6_wedBetween_44 rfl (lv_at hl 2 rfl) ?_
      refine lv_iload hx hb dX6_wedBetween_45 (lv_at hl 1 rfl) ?_
      refine gc_l (gr_V C B (k := 21) (As := [.long x, .int (nI (a + kk))]) (rest := []) (c_X6_afterYear l D G τ α S J n _ x (a + kk) (by omega)) (Lc_in (by decide)) cE_21 rfl wl_675 wl_677 wl_11 wl_38 wl_678 (na := 2) (by decide +kernel) rfl ⟨Nat.le_of_ble_eq_true rfl, Nat.le_of_ble_eq_true rfl⟩ ⟨Nat.le_of_ble_eq_true rfl, Nat.le_of_ble_eq_true rfl⟩ hl.1 rfl (Nat.le_of_ble_eq_true rfl) dX6_wedBetween_47) (fun r h => ?_)
      subst h
      refine lv_lstore_n (lv' := [(3, .long (x - th x (S.2.2.1 34 (a + kk)) - th x (S.2.2.1 35 (a + kk)) - th x (S.2.2.1 36 (a + kk)))), (5, .long (y + (th x (S.2.2.1 35 (a + kk))))), (7, .int (nI (a + kk))), (0, .ref (α 21)), (1, .int (nI a)), (2, .int (nI b))]) hx hb dX6_wedBetween_50 rfl hl (by decide) rfl (fun ls hl => ?_)
      refine lv_iinc (v := ((nI (a + kk)) + 1)) (lv' := [(7, .int ((nI (a + kk)) + 1)), (3, .long (x - th x (S.2.2.1 34 (a + kk)) - th x (S.2.2.1 35 (a + kk)) - th x (S.2.2.1 36 (a + kk)))), (5, .long (y + (th x (S.2.2.1 35 (a + kk))))), (0, .ref (α 21)), (1, .int (nI a)), (2, .int (nI b))]) hx hb dX6_wedBetween_51 hl (k := 2) rfl rfl (by decide) rfl (fun ls hl => ?_)
      refine lv_goto (tgt := 14) hx hb dX6_wedBetween_54 (by decide) ?_
      exact ih (kk + 1) (x - th x (S.2.2.1 34 (a + kk)) - th x (S.2.2.1 35 (a + kk)) - th x (S.2.2.1 36 (a + kk))) (y + (th x (S.2.2.1 35 (a + kk)))) ls (by omega) (by rw [liveL, hI]; dsimp only; rw [i6sub]) (by have h9 := lv_sub (l' := [(7, .int ((nI (a + kk)) + 1)), (5, .long (y + (th x (S.2.2.1 35 (a + kk))))), (3, .long (x - th x (S.2.2.1 34 (a + kk)) - th x (S.2.2.1 35 (a + kk)) - th x (S.2.2.1 36 (a + kk)))), (0, .ref (α 21)), (1, .int (nI a)), (2, .int (nI b))]) hl [0, 2, 1, 3, 4, 5] rfl; rw [nI_1, Nat.add_assoc] at h9; exact h9)
  refine g_ldc2 C wl_672 dX6_wedBetween_0 ?_
  refine lv_lstore_n (lv' := [(3, .long 1000000), (0, .ref (α 21)), (1, .int (nI a)), (2, .int (nI b))]) hx hb dX6_wedBetween_3 rfl hl (by decide) rfl (fun ls hl => ?_)
  refine lv_lconst (v := 0) hx hb dX6_wedBetween_4 (by decide) ?_
  refine lv_lstore (lv' := [(5, .long 0), (3, .long 1000000), (0, .ref (α 21)), (1, .int (nI a)), (2, .int (nI b))]) hx hb dX6_wedBetween_5 hl (by decide) rfl (fun ls hl => ?_)
  refine lv_iconst (v := 0) hx hb dX6_wedBetween_7 (by decide) ?_
  refine lv_iload_n hx hb dX6_wedBetween_8 rfl (lv_at hl 3 rfl) ?_
  refine va_mmax hx hb (C.2.2.1.trans hl.1.symm) C.2.2.2.1 (C.2.2.2.2 _ wl_673) (C.2.2.2.2 _ wl_377) (C.2.2.2.2 _ wl_41) (C.2.2.2.2 _ wl_378) (Nat.le_of_ble_eq_true rfl) (Nat.le_of_ble_eq_true rfl) (Nat.le_of_ble_eq_true rfl) (Nat.le_of_ble_eq_true rfl) dX6_wedBetween_9 ?_
  rw [show (if (0 : Int32) < nI a then nI a else 0) = nI a by split <;> first | rfl | (rename_i h8; simp only [i3l, i3q, zi_0, nI_toInt (show a < 2 ^ 31 by omega)] at h8 ⊢; omega)]
  refine lv_istore (lv' := [(7, .int (nI a)), (5, .long 0), (3, .long 1000000), (0, .ref (α 21)), (1, .int (nI a)), (2, .int (nI b))]) hx hb dX6_wedBetween_12 hl (by decide) rfl (fun ls hl => ?_)
  exact loop (b - a) 0 1000000 0 ls (by omega) rfl (lv_sub hl [0, 1, 2, 3, 4, 5] rfl)
set_option maxHeartbeats 4000000 in
set_option maxRecDepth 100000 in
theorem c_X4_rowFor (l : Launch) (D : va_G) (G : Nat → ClassId) (τ α : Nat → Nat) (S J : St) (n sz : Nat) (ch made known : Int32) (hN : okN S) (hF : okF S) : Ri l D G τ yX4_rowFor cX4_rowFor 5 (some .int) 2 [.ref (α 17), .int ch, .int made, .int known] α (cE G α S J n) (Lc n) sz (fun r => r = oI (sCnt S made ch known)) := by
  refine gM _ (by decide) rfl (Nat.le_of_ble_eq_true rfl) ?_
  intro p e s m below meth c ls C hr hlk hnm hsz B hl
  have hx := C.1
  have hb := C.2.1
  have hl : lv_has ls 5 [(0, .ref (α 17)), (1, .int ch), (2, .int made), (3, .int known)] := hl
  refine lv_aload_n hx hb dX4_rowFor_0 rfl (lv_at hl 0 rfl) ?_
  refine g_get C B (17) (Lc_in (by decide)) cE_17 rfl gf_4 1 (by decide) wl_143 (v := .ref (α 9)) cF_17_1 dX4_rowFor_1 ?_
  refine lv_iload_n hx hb dX4_rowFor_4 rfl (lv_at hl 1 rfl) ?_
  refine lv_iload_n hx hb dX4_rowFor_5 rfl (lv_at hl 3 rfl) ?_
  refine gc_o (oI := oI) (gr_V C B (k := 9) (As := [.int ch, .int known]) (rest := []) (c_X0_fateRow l D G τ α S J n _ ch known hN hF) (Lc_in (by decide)) cE_9 rfl wl_289 wl_290 wl_291 wl_33 wl_292 (na := 2) (by decide +kernel) rfl ⟨Nat.le_of_ble_eq_true rfl, Nat.le_of_ble_eq_true rfl⟩ ⟨Nat.le_of_ble_eq_true rfl, Nat.le_of_ble_eq_true rfl⟩ hl.1 rfl (Nat.le_of_ble_eq_true rfl) dX4_rowFor_6) (fun o1 => ?_) (fun f2 o1 => ?_)
  · refine lv_istore (lv' := [(4, .int (-1)), (0, .ref (α 17)), (1, .int ch), (2, .int made), (3, .int known)]) hx hb dX4_rowFor_9 hl (by decide) rfl (fun ls hl => ?_)
    refine lv_iload hx hb dX4_rowFor_11 (lv_at hl 0 rfl) ?_
    refine lv_iconst (v := (-1)) hx hb dX4_rowFor_13 (by decide) ?_
    refine lv_icmp_eq (tgt := 34) hx hb dX4_rowFor_14 (by decide) (fun _ => ?_) (fun hc => absurd (by decide) hc)
    refine lv_iload hx hb dX4_rowFor_34 (lv_at hl 0 rfl) ?_
    exact ge_i C hr rfl hlk (by rw [sCnt, o1]; rfl) dX4_rowFor_36
  · have f2_b : f2 < 90 := Nat.lt_of_lt_of_le (sFate_lt o1).1 (nOf_le hN.2.2.2.1.1 hN.2.2.2.1.2 (by decide))
    refine lv_istore (lv' := [(4, .int (nI f2)), (0, .ref (α 17)), (1, .int ch), (2, .int made), (3, .int known)]) hx hb dX4_rowFor_9 hl (by decide) rfl (fun ls hl => ?_)
    refine lv_iload hx hb dX4_rowFor_11 (lv_at hl 0 rfl) ?_
    refine lv_iconst (v := (-1)) hx hb dX4_rowFor_13 (by decide) ?_
    refine lv_icmp_eq (tgt := 34) hx hb dX4_rowFor_14 (by decide) (fun hc => absurd hc (nI_m1 (by omega))) (fun _ => ?_)
    refine lv_aload_n hx hb dX4_rowFor_17 rfl (lv_at hl 1 rfl) ?_
    refine g_get C B (17) (Lc_in (by decide)) cE_17 rfl gf_4 1 (by decide) wl_143 (v := .ref (α 9)) cF_17_1 dX4_rowFor_18 ?_
    refine lv_iload hx hb dX4_rowFor_21 (lv_at hl 0 rfl) ?_
    refine gc_i (gr_V C B (k := 9) (As := [.int (nI f2)]) (rest := []) (c_X0_monthOf l D G τ α S J n _ f2 (by omega)) (Lc_in (by decide)) cE_9 rfl wl_296 wl_297 wl_298 wl_33 wl_299 (na := 1) (by decide +kernel) rfl ⟨Nat.le_of_ble_eq_true rfl, Nat.le_of_ble_eq_true rfl⟩ ⟨Nat.le_of_ble_eq_true rfl, Nat.le_of_ble_eq_true rfl⟩ hl.1 rfl (Nat.le_of_ble_eq_true rfl) dX4_rowFor_23) (fun r h => ?_)
    subst h
    refine lv_iload_n hx hb dX4_rowFor_26 rfl (lv_at hl 3 rfl) ?_
    refine lv_icmp_ge (tgt := 34) hx hb dX4_rowFor_27 (by decide) (fun c3 => ?_) (fun c3 => ?_)
    · refine lv_iload hx hb dX4_rowFor_34 (lv_at hl 0 rfl) ?_
      exact ge_i C hr rfl hlk (by rw [sCnt, o1]; dsimp only; rw [if_pos (by simp only [i3l, i3e, i3q, inR, isC, isD, zi_0, zi_1, zi_2, zi_3, zi_4, zi_5, zi_6, zi_7, zi_8, zi_9, zi_10, zi_12, zi_20, zi_21, zi_30, zi_60, zi_90, zi_99, zi_100, zi_180, zi_240, zi_400, zi_500, zi_1000, zi_1199, zi_10000, zi_100000, zi_1000000, i3m1] at c3 ⊢; omega)]; rfl) dX4_rowFor_36
    · refine lv_iconst (v := (-1)) hx hb dX4_rowFor_30 (by decide) ?_
      refine lv_goto (tgt := 36) hx hb dX4_rowFor_31 (by decide) ?_
      exact ge_i C hr rfl hlk (by rw [sCnt, o1]; dsimp only; rw [if_neg (by simp only [i3l, i3e, i3q, inR, isC, isD, zi_0, zi_1, zi_2, zi_3, zi_4, zi_5, zi_6, zi_7, zi_8, zi_9, zi_10, zi_12, zi_20, zi_21, zi_30, zi_60, zi_90, zi_99, zi_100, zi_180, zi_240, zi_400, zi_500, zi_1000, zi_1199, zi_10000, zi_100000, zi_1000000, i3m1] at c3 ⊢; omega)]; rfl) dX4_rowFor_36
set_option maxHeartbeats 4000000 in
set_option maxRecDepth 100000 in
theorem c_X4_ahead (l : Launch) (D : va_G) (G : Nat → ClassId) (τ α : Nat → Nat) (S J : St) (n sz : Nat) (o1 o2 : Option Nat) (h1 : ∀ f, o1 = some f → f < 90) (h2 : ∀ f, o2 = some f → f < 90) : Ri l D G τ yX4_ahead cX4_ahead 5 (some .int) 2 [.ref (α 17), .int (oI o1), .int (oI o2)] α (cE G α S J n) (Lc n) sz (fun r => r = oI (sAhead S o1 o2)) := by
  refine gM _ (by decide) rfl (Nat.le_of_ble_eq_true rfl) ?_
  intro p e s m below meth c ls C hr hlk hnm hsz B hl
  have hx := C.1
  have hb := C.2.1
  have hl : lv_has ls 5 [(0, .ref (α 17)), (1, .int (oI o1)), (2, .int (oI o2))] := hl
  cases o1 with
  | none =>
    cases o2 with
    | none =>
      have hl : lv_has ls 5 [(0, .ref (α 17)), (1, .int (-1)), (2, .int (-1))] := hl
      refine lv_iload_n hx hb dX4_ahead_0 rfl (lv_at hl 1 rfl) ?_
      refine lv_iconst (v := (-1)) hx hb dX4_ahead_1 (by decide) ?_
      refine lv_icmp_eq (tgt := 10) hx hb dX4_ahead_2 (by decide) (fun _ => ?_) (fun hc => absurd (by decide) hc)
      refine lv_iload_n hx hb dX4_ahead_10 rfl (lv_at hl 1 rfl) ?_
      refine lv_iconst (v := (-1)) hx hb dX4_ahead_11 (by decide) ?_
      refine lv_icmp_ne (tgt := 19) hx hb dX4_ahead_12 (by decide) (fun hc => absurd (by decide) hc) (fun _ => ?_)
      refine lv_iload_n hx hb dX4_ahead_15 rfl (lv_at hl 2 rfl) ?_
      refine lv_goto (tgt := 20) hx hb dX4_ahead_16 (by decide) ?_
      exact ge_i C hr rfl hlk (rfl) dX4_ahead_20
    | some f2 =>
      have f2_b := h2 f2 rfl
      have hl : lv_has ls 5 [(0, .ref (α 17)), (1, .int (-1)), (2, .int (nI f2))] := hl
      refine lv_iload_n hx hb dX4_ahead_0 rfl (lv_at hl 1 rfl) ?_
      refine lv_iconst (v := (-1)) hx hb dX4_ahead_1 (by decide) ?_
      refine lv_icmp_eq (tgt := 10) hx hb dX4_ahead_2 (by decide) (fun _ => ?_) (fun hc => absurd (by decide) hc)
      refine lv_iload_n hx hb dX4_ahead_10 rfl (lv_at hl 1 rfl) ?_
      refine lv_iconst (v := (-1)) hx hb dX4_ahead_11 (by decide) ?_
      refine lv_icmp_ne (tgt := 19) hx hb dX4_ahead_12 (by decide) (fun hc => absurd (by decide) hc) (fun _ => ?_)
      refine lv_iload_n hx hb dX4_ahead_15 rfl (lv_at hl 2 rfl) ?_
      refine lv_goto (tgt := 20) hx hb dX4_ahead_16 (by decide) ?_
      exact ge_i C hr rfl hlk (rfl) dX4_ahead_20
  | some f1 =>
    have f1_b := h1 f1 rfl
    cases o2 with
    | none =>
      have hl : lv_has ls 5 [(0, .ref (α 17)), (1, .int (nI f1)), (2, .int (-1))] := hl
      refine lv_iload_n hx hb dX4_ahead_0 rfl (lv_at hl 1 rfl) ?_
      refine lv_iconst (v := (-1)) hx hb dX4_ahead_1 (by decide) ?_
      refine lv_icmp_eq (tgt := 10) hx hb dX4_ahead_2 (by decide) (fun hc => absurd hc (nI_m1 (by omega))) (fun _ => ?_)
      refine lv_iload_n hx hb dX4_ahead_5 rfl (lv_at hl 2 rfl) ?_
      refine lv_iconst (v := (-1)) hx hb dX4_ahead_6 (by decide) ?_
      refine lv_icmp_ne (tgt := 21) hx hb dX4_ahead_7 (by decide) (fun hc => absurd (by decide) hc) (fun _ => ?_)
      refine lv_iload_n hx hb dX4_ahead_10 rfl (lv_at hl 1 rfl) ?_
      refine lv_iconst (v := (-1)) hx hb dX4_ahead_11 (by decide) ?_
      refine lv_icmp_ne (tgt := 19) hx hb dX4_ahead_12 (by decide) (fun _ => ?_) (fun hc => absurd hc (nI_m1 (by omega)))
      refine lv_iload_n hx hb dX4_ahead_19 rfl (lv_at hl 1 rfl) ?_
      exact ge_i C hr rfl hlk (rfl) dX4_ahead_20
    | some f2 =>
      have f2_b := h2 f2 rfl
      have hl : lv_has ls 5 [(0, .ref (α 17)), (1, .int (nI f1)), (2, .int (nI f2))] := hl
      refine lv_iload_n hx hb dX4_ahead_0 rfl (lv_at hl 1 rfl) ?_
      refine lv_iconst (v := (-1)) hx hb dX4_ahead_1 (by decide) ?_
      refine lv_icmp_eq (tgt := 10) hx hb dX4_ahead_2 (by decide) (fun hc => absurd hc (nI_m1 (by omega))) (fun _ => ?_)
      refine lv_iload_n hx hb dX4_ahead_5 rfl (lv_at hl 2 rfl) ?_
      refine lv_iconst (v := (-1)) hx hb dX4_ahead_6 (by decide) ?_
      refine lv_icmp_ne (tgt := 21) hx hb dX4_ahead_7 (by decide) (fun _ => ?_) (fun hc => absurd hc (nI_m1 (by omega)))
      refine lv_aload_n hx hb dX4_ahead_21 rfl (lv_at hl 0 rfl) ?_
      refine g_get C B (17) (Lc_in (by decide)) cE_17 rfl gf_4 1 (by decide) wl_143 (v := .ref (α 9)) cF_17_1 dX4_ahead_22 ?_
      refine lv_iload_n hx hb dX4_ahead_25 rfl (lv_at hl 1 rfl) ?_
      refine gc_i (gr_V C B (k := 9) (As := [.int (nI f1)]) (rest := []) (c_X0_fateOf l D G τ α S J n _ f1 (by omega)) (Lc_in (by decide)) cE_9 rfl wl_305 wl_306 wl_307 wl_33 wl_308 (na := 1) (by decide +kernel) rfl ⟨Nat.le_of_ble_eq_true rfl, Nat.le_of_ble_eq_true rfl⟩ ⟨Nat.le_of_ble_eq_true rfl, Nat.le_of_ble_eq_true rfl⟩ hl.1 rfl (Nat.le_of_ble_eq_true rfl) dX4_ahead_26) (fun r h => ?_)
      subst h
      refine lv_if_ne (tgt := 36) hx hb dX4_ahead_29 (by decide) (fun c1 => ?_) (fun c1 => ?_)
      · refine lv_iconst (v := 0) hx hb dX4_ahead_36 (by decide) ?_
        refine lv_istore_n (lv' := [(3, .int 0), (0, .ref (α 17)), (1, .int (nI f1)), (2, .int (nI f2))]) hx hb dX4_ahead_37 rfl hl (by decide) rfl (fun ls hl => ?_)
        refine lv_aload_n hx hb dX4_ahead_38 rfl (lv_at hl 1 rfl) ?_
        refine g_get C B (17) (Lc_in (by decide)) cE_17 rfl gf_4 1 (by decide) wl_143 (v := .ref (α 9)) cF_17_1 dX4_ahead_39 ?_
        refine lv_iload_n hx hb dX4_ahead_42 rfl (lv_at hl 3 rfl) ?_
        refine gc_i (gr_V C B (k := 9) (As := [.int (nI f2)]) (rest := []) (c_X0_fateOf l D G τ α S J n _ f2 (by omega)) (Lc_in (by decide)) cE_9 rfl wl_305 wl_306 wl_307 wl_33 wl_308 (na := 1) (by decide +kernel) rfl ⟨Nat.le_of_ble_eq_true rfl, Nat.le_of_ble_eq_true rfl⟩ ⟨Nat.le_of_ble_eq_true rfl, Nat.le_of_ble_eq_true rfl⟩ hl.1 rfl (Nat.le_of_ble_eq_true rfl) dX4_ahead_43) (fun r h => ?_)
        subst h
        refine lv_if_ne (tgt := 53) hx hb dX4_ahead_46 (by decide) (fun c2 => ?_) (fun c2 => ?_)
        · refine lv_iconst (v := 0) hx hb dX4_ahead_53 (by decide) ?_
          refine lv_istore (lv' := [(4, .int 0), (3, .int 0), (0, .ref (α 17)), (1, .int (nI f1)), (2, .int (nI f2))]) hx hb dX4_ahead_54 hl (by decide) rfl (fun ls hl => ?_)
          refine lv_iload_n hx hb dX4_ahead_56 rfl (lv_at hl 1 rfl) ?_
          refine lv_iload hx hb dX4_ahead_57 (lv_at hl 0 rfl) ?_
          refine lv_icmp_eq (tgt := 72) hx hb dX4_ahead_59 (by decide) (fun _ => ?_) (fun hc => absurd (by decide) hc)
          refine lv_aload_n hx hb dX4_ahead_72 rfl (lv_at hl 2 rfl) ?_
          refine g_get C B (17) (Lc_in (by decide)) cE_17 rfl gf_4 1 (by decide) wl_143 (v := .ref (α 9)) cF_17_1 dX4_ahead_73 ?_
          refine lv_iload_n hx hb dX4_ahead_76 rfl (lv_at hl 4 rfl) ?_
          refine gc_i (gr_V C B (k := 9) (As := [.int (nI f2)]) (rest := []) (c_X0_monthOf l D G τ α S J n _ f2 (by omega)) (Lc_in (by decide)) cE_9 rfl wl_296 wl_297 wl_298 wl_33 wl_299 (na := 1) (by decide +kernel) rfl ⟨Nat.le_of_ble_eq_true rfl, Nat.le_of_ble_eq_true rfl⟩ ⟨Nat.le_of_ble_eq_true rfl, Nat.le_of_ble_eq_true rfl⟩ hl.1 rfl (Nat.le_of_ble_eq_true rfl) dX4_ahead_77) (fun r h => ?_)
          subst h
          refine lv_aload_n hx hb dX4_ahead_80 rfl (lv_at hl 2 rfl) ?_
          refine g_get C B (17) (Lc_in (by decide)) cE_17 rfl gf_4 1 (by decide) wl_143 (v := .ref (α 9)) cF_17_1 dX4_ahead_81 ?_
          refine lv_iload_n hx hb dX4_ahead_84 rfl (lv_at hl 3 rfl) ?_
          refine gc_i (gr_V C B (k := 9) (As := [.int (nI f1)]) (rest := [.int (S.2.2.1 13 f2)]) (c_X0_monthOf l D G τ α S J n _ f1 (by omega)) (Lc_in (by decide)) cE_9 rfl wl_296 wl_297 wl_298 wl_33 wl_299 (na := 1) (by decide +kernel) rfl ⟨Nat.le_of_ble_eq_true rfl, Nat.le_of_ble_eq_true rfl⟩ ⟨Nat.le_of_ble_eq_true rfl, Nat.le_of_ble_eq_true rfl⟩ hl.1 rfl (Nat.le_of_ble_eq_true rfl) dX4_ahead_85) (fun r h => ?_)
          subst h
          refine lv_icmp_ge (tgt := 95) hx hb dX4_ahead_88 (by decide) (fun c3 => ?_) (fun c3 => ?_)
          · refine lv_iload_n hx hb dX4_ahead_95 rfl (lv_at hl 3 rfl) ?_
            exact ge_i C hr rfl hlk (by simp only [sAhead]; simp [c1, c2]; rw [if_neg (by simp only [i3l, i3e, i3q, inR, isC, isD, zi_0, zi_1, zi_2, zi_3, zi_4, zi_5, zi_6, zi_7, zi_8, zi_9, zi_10, zi_12, zi_20, zi_21, zi_30, zi_60, zi_90, zi_99, zi_100, zi_180, zi_240, zi_400, zi_500, zi_1000, zi_1199, zi_10000, zi_100000, zi_1000000, i3m1] at c3 ⊢; omega)]; rfl) dX4_ahead_96
          · refine lv_iload_n hx hb dX4_ahead_91 rfl (lv_at hl 4 rfl) ?_
            refine lv_goto (tgt := 96) hx hb dX4_ahead_92 (by decide) ?_
            exact ge_i C hr rfl hlk (by simp only [sAhead]; simp [c1, c2]; rw [if_pos (by simp only [i3l, i3e, i3q, inR, isC, isD, zi_0, zi_1, zi_2, zi_3, zi_4, zi_5, zi_6, zi_7, zi_8, zi_9, zi_10, zi_12, zi_20, zi_21, zi_30, zi_60, zi_90, zi_99, zi_100, zi_180, zi_240, zi_400, zi_500, zi_1000, zi_1199, zi_10000, zi_100000, zi_1000000, i3m1] at c3 ⊢; omega)]; rfl) dX4_ahead_96
        · refine lv_iconst (v := 1) hx hb dX4_ahead_49 (by decide) ?_
          refine lv_goto (tgt := 54) hx hb dX4_ahead_50 (by decide) ?_
          refine lv_istore (lv' := [(4, .int 1), (3, .int 0), (0, .ref (α 17)), (1, .int (nI f1)), (2, .int (nI f2))]) hx hb dX4_ahead_54 hl (by decide) rfl (fun ls hl => ?_)
          refine lv_iload_n hx hb dX4_ahead_56 rfl (lv_at hl 1 rfl) ?_
          refine lv_iload hx hb dX4_ahead_57 (lv_at hl 0 rfl) ?_
          refine lv_icmp_eq (tgt := 72) hx hb dX4_ahead_59 (by decide) (fun hc => absurd hc (by decide)) (fun _ => ?_)
          refine lv_iload_n hx hb dX4_ahead_62 rfl (lv_at hl 1 rfl) ?_
          refine lv_if_eq (tgt := 70) hx hb dX4_ahead_63 (by decide) (fun _ => ?_) (fun hc => absurd (by decide) hc)
          refine lv_iload_n hx hb dX4_ahead_70 rfl (lv_at hl 4 rfl) ?_
          exact ge_i C hr rfl hlk (by simp only [sAhead]; simp [c1, c2]; rfl) dX4_ahead_71
      · refine lv_iconst (v := 1) hx hb dX4_ahead_32 (by decide) ?_
        refine lv_goto (tgt := 37) hx hb dX4_ahead_33 (by decide) ?_
        refine lv_istore_n (lv' := [(3, .int 1), (0, .ref (α 17)), (1, .int (nI f1)), (2, .int (nI f2))]) hx hb dX4_ahead_37 rfl hl (by decide) rfl (fun ls hl => ?_)
        refine lv_aload_n hx hb dX4_ahead_38 rfl (lv_at hl 1 rfl) ?_
        refine g_get C B (17) (Lc_in (by decide)) cE_17 rfl gf_4 1 (by decide) wl_143 (v := .ref (α 9)) cF_17_1 dX4_ahead_39 ?_
        refine lv_iload_n hx hb dX4_ahead_42 rfl (lv_at hl 3 rfl) ?_
        refine gc_i (gr_V C B (k := 9) (As := [.int (nI f2)]) (rest := []) (c_X0_fateOf l D G τ α S J n _ f2 (by omega)) (Lc_in (by decide)) cE_9 rfl wl_305 wl_306 wl_307 wl_33 wl_308 (na := 1) (by decide +kernel) rfl ⟨Nat.le_of_ble_eq_true rfl, Nat.le_of_ble_eq_true rfl⟩ ⟨Nat.le_of_ble_eq_true rfl, Nat.le_of_ble_eq_true rfl⟩ hl.1 rfl (Nat.le_of_ble_eq_true rfl) dX4_ahead_43) (fun r h => ?_)
        subst h
        refine lv_if_ne (tgt := 53) hx hb dX4_ahead_46 (by decide) (fun c4 => ?_) (fun c4 => ?_)
        · refine lv_iconst (v := 0) hx hb dX4_ahead_53 (by decide) ?_
          refine lv_istore (lv' := [(4, .int 0), (3, .int 1), (0, .ref (α 17)), (1, .int (nI f1)), (2, .int (nI f2))]) hx hb dX4_ahead_54 hl (by decide) rfl (fun ls hl => ?_)
          refine lv_iload_n hx hb dX4_ahead_56 rfl (lv_at hl 1 rfl) ?_
          refine lv_iload hx hb dX4_ahead_57 (lv_at hl 0 rfl) ?_
          refine lv_icmp_eq (tgt := 72) hx hb dX4_ahead_59 (by decide) (fun hc => absurd hc (by decide)) (fun _ => ?_)
          refine lv_iload_n hx hb dX4_ahead_62 rfl (lv_at hl 1 rfl) ?_
          refine lv_if_eq (tgt := 70) hx hb dX4_ahead_63 (by decide) (fun hc => absurd hc (by decide)) (fun _ => ?_)
          refine lv_iload_n hx hb dX4_ahead_66 rfl (lv_at hl 3 rfl) ?_
          refine lv_goto (tgt := 71) hx hb dX4_ahead_67 (by decide) ?_
          exact ge_i C hr rfl hlk (by simp only [sAhead]; simp [c1, c4]; rfl) dX4_ahead_71
        · refine lv_iconst (v := 1) hx hb dX4_ahead_49 (by decide) ?_
          refine lv_goto (tgt := 54) hx hb dX4_ahead_50 (by decide) ?_
          refine lv_istore (lv' := [(4, .int 1), (3, .int 1), (0, .ref (α 17)), (1, .int (nI f1)), (2, .int (nI f2))]) hx hb dX4_ahead_54 hl (by decide) rfl (fun ls hl => ?_)
          refine lv_iload_n hx hb dX4_ahead_56 rfl (lv_at hl 1 rfl) ?_
          refine lv_iload hx hb dX4_ahead_57 (lv_at hl 0 rfl) ?_
          refine lv_icmp_eq (tgt := 72) hx hb dX4_ahead_59 (by decide) (fun _ => ?_) (fun hc => absurd (by decide) hc)
          refine lv_aload_n hx hb dX4_ahead_72 rfl (lv_at hl 2 rfl) ?_
          refine g_get C B (17) (Lc_in (by decide)) cE_17 rfl gf_4 1 (by decide) wl_143 (v := .ref (α 9)) cF_17_1 dX4_ahead_73 ?_
          refine lv_iload_n hx hb dX4_ahead_76 rfl (lv_at hl 4 rfl) ?_
          refine gc_i (gr_V C B (k := 9) (As := [.int (nI f2)]) (rest := []) (c_X0_monthOf l D G τ α S J n _ f2 (by omega)) (Lc_in (by decide)) cE_9 rfl wl_296 wl_297 wl_298 wl_33 wl_299 (na := 1) (by decide +kernel) rfl ⟨Nat.le_of_ble_eq_true rfl, Nat.le_of_ble_eq_true rfl⟩ ⟨Nat.le_of_ble_eq_true rfl, Nat.le_of_ble_eq_true rfl⟩ hl.1 rfl (Nat.le_of_ble_eq_true rfl) dX4_ahead_77) (fun r h => ?_)
          subst h
          refine lv_aload_n hx hb dX4_ahead_80 rfl (lv_at hl 2 rfl) ?_
          refine g_get C B (17) (Lc_in (by decide)) cE_17 rfl gf_4 1 (by decide) wl_143 (v := .ref (α 9)) cF_17_1 dX4_ahead_81 ?_
          refine lv_iload_n hx hb dX4_ahead_84 rfl (lv_at hl 3 rfl) ?_
          refine gc_i (gr_V C B (k := 9) (As := [.int (nI f1)]) (rest := [.int (S.2.2.1 13 f2)]) (c_X0_monthOf l D G τ α S J n _ f1 (by omega)) (Lc_in (by decide)) cE_9 rfl wl_296 wl_297 wl_298 wl_33 wl_299 (na := 1) (by decide +kernel) rfl ⟨Nat.le_of_ble_eq_true rfl, Nat.le_of_ble_eq_true rfl⟩ ⟨Nat.le_of_ble_eq_true rfl, Nat.le_of_ble_eq_true rfl⟩ hl.1 rfl (Nat.le_of_ble_eq_true rfl) dX4_ahead_85) (fun r h => ?_)
          subst h
          refine lv_icmp_ge (tgt := 95) hx hb dX4_ahead_88 (by decide) (fun c5 => ?_) (fun c5 => ?_)
          · refine lv_iload_n hx hb dX4_ahead_95 rfl (lv_at hl 3 rfl) ?_
            exact ge_i C hr rfl hlk (by simp only [sAhead]; simp [c1, c4]; rw [if_neg (by simp only [i3l, i3e, i3q, inR, isC, isD, zi_0, zi_1, zi_2, zi_3, zi_4, zi_5, zi_6, zi_7, zi_8, zi_9, zi_10, zi_12, zi_20, zi_21, zi_30, zi_60, zi_90, zi_99, zi_100, zi_180, zi_240, zi_400, zi_500, zi_1000, zi_1199, zi_10000, zi_100000, zi_1000000, i3m1] at c5 ⊢; omega)]; rfl) dX4_ahead_96
          · refine lv_iload_n hx hb dX4_ahead_91 rfl (lv_at hl 4 rfl) ?_
            refine lv_goto (tgt := 96) hx hb dX4_ahead_92 (by decide) ?_
            exact ge_i C hr rfl hlk (by simp only [sAhead]; simp [c1, c4]; rw [if_pos (by simp only [i3l, i3e, i3q, inR, isC, isD, zi_0, zi_1, zi_2, zi_3, zi_4, zi_5, zi_6, zi_7, zi_8, zi_9, zi_10, zi_12, zi_20, zi_21, zi_30, zi_60, zi_90, zi_99, zi_100, zi_180, zi_240, zi_400, zi_500, zi_1000, zi_1199, zi_10000, zi_100000, zi_1000000, i3m1] at c5 ⊢; omega)]; rfl) dX4_ahead_96
set_option maxHeartbeats 4000000 in
set_option maxRecDepth 100000 in
theorem c_X4_fallRow (l : Launch) (D : va_G) (G : Nat → ClassId) (τ α : Nat → Nat) (S J : St) (n sz : Nat) (i : Nat) (known : Int32) (hi : i < n) (hN : okN S) (hF : okF S) (hJ : S.2.2.1 16 i = 1 → J.2.2.1 0 i = S.2.2.1 18 i) : Ri l D G τ yX4_fallRow cX4_fallRow 4 (some .int) 3 [.ref (α 17), .ref (α (27 + 3 * i)), .int known] α (cE G α S J n) (Lc n) sz (fun r => r = oI (sFall S i known)) := by
  refine gM _ (by decide) rfl (Nat.le_of_ble_eq_true rfl) ?_
  intro p e s m below meth c ls C hr hlk hnm hsz B hl
  have hx := C.1
  have hb := C.2.1
  have hl : lv_has ls 4 [(0, .ref (α 17)), (1, .ref (α (27 + 3 * i))), (2, .int known)] := hl
  refine lv_aload_n hx hb dX4_fallRow_0 rfl (lv_at hl 1 rfl) ?_
  refine lv_ifnull hx hb dX4_fallRow_1 ?_
  refine lv_iload_n hx hb dX4_fallRow_4 rfl (lv_at hl 2 rfl) ?_
  refine lv_aload_n hx hb dX4_fallRow_5 rfl (lv_at hl 1 rfl) ?_
  refine g_get C B (27 + 3 * i) (Lc_d (i := i) (by omega) (by omega) (by omega)) cE_d rfl gf_2 3 (by decide) wl_499 (v := .int ((S.2.2.1 22) i)) cD_3 dX4_fallRow_6 ?_
  refine lv_icmp_ge (tgt := 14) hx hb dX4_fallRow_9 (by decide) (fun c1 => ?_) (fun c1 => ?_)
  · refine lv_aload_n hx hb dX4_fallRow_14 rfl (lv_at hl 0 rfl) ?_
    refine lv_aload_n hx hb dX4_fallRow_15 rfl (lv_at hl 1 rfl) ?_
    refine g_get C B (27 + 3 * i) (Lc_d (i := i) (by omega) (by omega) (by omega)) cE_d rfl gf_2 1 (by decide) wl_495 (v := .int ((S.2.2.1 17) i)) cD_1 dX4_fallRow_16 ?_
    refine lv_aload_n hx hb dX4_fallRow_19 rfl (lv_at hl 1 rfl) ?_
    refine g_get C B (27 + 3 * i) (Lc_d (i := i) (by omega) (by omega) (by omega)) cE_d rfl gf_2 3 (by decide) wl_499 (v := .int ((S.2.2.1 22) i)) cD_3 dX4_fallRow_20 ?_
    refine lv_iload_n hx hb dX4_fallRow_23 rfl (lv_at hl 2 rfl) ?_
    refine gc_o (oI := oI) (gr_V C B (k := 17) (As := [.int ((S.2.2.1 17) i), .int ((S.2.2.1 22) i), .int known]) (rest := []) (c_X4_rowFor l D G τ α S J n _ ((S.2.2.1 17) i) ((S.2.2.1 22) i) known hN hF) (Lc_in (by decide)) cE_17 rfl wl_285 wl_287 wl_0 wl_35 wl_288 (na := 3) (by decide +kernel) rfl ⟨Nat.le_of_ble_eq_true rfl, Nat.le_of_ble_eq_true rfl⟩ ⟨Nat.le_of_ble_eq_true rfl, Nat.le_of_ble_eq_true rfl⟩ hl.1 rfl (Nat.le_of_ble_eq_true rfl) dX4_fallRow_24) (fun o2 => ?_) (fun f3 o2 => ?_)
    · refine lv_istore_n (lv' := [(3, .int (-1)), (0, .ref (α 17)), (1, .ref (α (27 + 3 * i))), (2, .int known)]) hx hb dX4_fallRow_27 rfl hl (by decide) rfl (fun ls hl => ?_)
      refine lv_aload_n hx hb dX4_fallRow_28 rfl (lv_at hl 2 rfl) ?_
      refine g_get C B (27 + 3 * i) (Lc_d (i := i) (by omega) (by omega) (by omega)) cE_d rfl gf_2 0 (by decide) wl_492 (v := .int ((S.2.2.1 16) i)) cD_0 dX4_fallRow_29 ?_
      refine lv_iconst (v := 1) hx hb dX4_fallRow_32 (by decide) ?_
      refine lv_icmp_ne (tgt := 57) hx hb dX4_fallRow_33 (by decide) (fun c4 => ?_) (fun c4 => ?_)
      · refine lv_iload_n hx hb dX4_fallRow_57 rfl (lv_at hl 0 rfl) ?_
        exact ge_i C hr rfl hlk (by rw [sFall, if_neg (by simp only [i3l, i3e, i3q, inR, isC, isD, zi_0, zi_1, zi_2, zi_3, zi_4, zi_5, zi_6, zi_7, zi_8, zi_9, zi_10, zi_12, zi_20, zi_21, zi_30, zi_60, zi_90, zi_99, zi_100, zi_180, zi_240, zi_400, zi_500, zi_1000, zi_1199, zi_10000, zi_100000, zi_1000000, i3m1] at c1 ⊢; omega), o2]; rw [if_neg c4]; rfl) dX4_fallRow_58
      · refine lv_aload_n hx hb dX4_fallRow_36 rfl (lv_at hl 1 rfl) ?_
        refine lv_iload_n hx hb dX4_fallRow_37 rfl (lv_at hl 0 rfl) ?_
        refine lv_aload_n hx hb dX4_fallRow_38 rfl (lv_at hl 1 rfl) ?_
        refine lv_aload_n hx hb dX4_fallRow_39 rfl (lv_at hl 2 rfl) ?_
        refine g_get C B (27 + 3 * i) (Lc_d (i := i) (by omega) (by omega) (by omega)) cE_d rfl gf_2 2 (by decide) wl_497 (v := .int ((J.2.2.1 0) i)) cD_2 dX4_fallRow_40 ?_
        refine lv_aload_n hx hb dX4_fallRow_43 rfl (lv_at hl 2 rfl) ?_
        refine g_get C B (27 + 3 * i) (Lc_d (i := i) (by omega) (by omega) (by omega)) cE_d rfl gf_2 3 (by decide) wl_499 (v := .int ((S.2.2.1 22) i)) cD_3 dX4_fallRow_44 ?_
        refine lv_iload_n hx hb dX4_fallRow_47 rfl (lv_at hl 3 rfl) ?_
        refine gc_o (oI := oI) (gr_V C B (k := 17) (As := [.int ((J.2.2.1 0) i), .int ((S.2.2.1 22) i), .int known]) (rest := [.int (-1), .ref (α 17)]) (c_X4_rowFor l D G τ α S J n _ ((J.2.2.1 0) i) ((S.2.2.1 22) i) known hN hF) (Lc_in (by decide)) cE_17 rfl wl_285 wl_287 wl_0 wl_35 wl_288 (na := 3) (by decide +kernel) rfl ⟨Nat.le_of_ble_eq_true rfl, Nat.le_of_ble_eq_true rfl⟩ ⟨Nat.le_of_ble_eq_true rfl, Nat.le_of_ble_eq_true rfl⟩ hl.1 rfl (Nat.le_of_ble_eq_true rfl) dX4_fallRow_48) (fun o5 => ?_) (fun f6 o5 => ?_)
        · refine gc_i (gr_V C B (k := 17) (As := [.int (-1), .int (-1)]) (rest := []) (c_X4_ahead l D G τ α S J n _ none none (fun f h9 => by cases h9 <;> omega) (fun f h9 => by cases h9 <;> omega)) (Lc_in (by decide)) cE_17 rfl wl_301 wl_303 wl_1 wl_35 wl_304 (na := 2) (by decide +kernel) rfl ⟨Nat.le_of_ble_eq_true rfl, Nat.le_of_ble_eq_true rfl⟩ ⟨Nat.le_of_ble_eq_true rfl, Nat.le_of_ble_eq_true rfl⟩ hl.1 rfl (Nat.le_of_ble_eq_true rfl) dX4_fallRow_51) (fun r h => ?_)
          subst h
          refine lv_goto (tgt := 58) hx hb dX4_fallRow_54 (by decide) ?_
          exact ge_i C hr rfl hlk (by rw [sFall, if_neg (by simp only [i3l, i3e, i3q, inR, isC, isD, zi_0, zi_1, zi_2, zi_3, zi_4, zi_5, zi_6, zi_7, zi_8, zi_9, zi_10, zi_12, zi_20, zi_21, zi_30, zi_60, zi_90, zi_99, zi_100, zi_180, zi_240, zi_400, zi_500, zi_1000, zi_1199, zi_10000, zi_100000, zi_1000000, i3m1] at c1 ⊢; omega), o2]; rw [if_pos c4, ← hJ c4, o5]) dX4_fallRow_58
        · have f6_b : f6 < 90 := Nat.lt_of_lt_of_le (sCnt_lt o5).1 (nOf_le hN.2.2.2.1.1 hN.2.2.2.1.2 (by decide))
          refine gc_i (gr_V C B (k := 17) (As := [.int (-1), .int (nI f6)]) (rest := []) (c_X4_ahead l D G τ α S J n _ none (some f6) (fun f h9 => by cases h9 <;> omega) (fun f h9 => by cases h9 <;> omega)) (Lc_in (by decide)) cE_17 rfl wl_301 wl_303 wl_1 wl_35 wl_304 (na := 2) (by decide +kernel) rfl ⟨Nat.le_of_ble_eq_true rfl, Nat.le_of_ble_eq_true rfl⟩ ⟨Nat.le_of_ble_eq_true rfl, Nat.le_of_ble_eq_true rfl⟩ hl.1 rfl (Nat.le_of_ble_eq_true rfl) dX4_fallRow_51) (fun r h => ?_)
          subst h
          refine lv_goto (tgt := 58) hx hb dX4_fallRow_54 (by decide) ?_
          exact ge_i C hr rfl hlk (by rw [sFall, if_neg (by simp only [i3l, i3e, i3q, inR, isC, isD, zi_0, zi_1, zi_2, zi_3, zi_4, zi_5, zi_6, zi_7, zi_8, zi_9, zi_10, zi_12, zi_20, zi_21, zi_30, zi_60, zi_90, zi_99, zi_100, zi_180, zi_240, zi_400, zi_500, zi_1000, zi_1199, zi_10000, zi_100000, zi_1000000, i3m1] at c1 ⊢; omega), o2]; rw [if_pos c4, ← hJ c4, o5]) dX4_fallRow_58
    · have f3_b : f3 < 90 := Nat.lt_of_lt_of_le (sCnt_lt o2).1 (nOf_le hN.2.2.2.1.1 hN.2.2.2.1.2 (by decide))
      refine lv_istore_n (lv' := [(3, .int (nI f3)), (0, .ref (α 17)), (1, .ref (α (27 + 3 * i))), (2, .int known)]) hx hb dX4_fallRow_27 rfl hl (by decide) rfl (fun ls hl => ?_)
      refine lv_aload_n hx hb dX4_fallRow_28 rfl (lv_at hl 2 rfl) ?_
      refine g_get C B (27 + 3 * i) (Lc_d (i := i) (by omega) (by omega) (by omega)) cE_d rfl gf_2 0 (by decide) wl_492 (v := .int ((S.2.2.1 16) i)) cD_0 dX4_fallRow_29 ?_
      refine lv_iconst (v := 1) hx hb dX4_fallRow_32 (by decide) ?_
      refine lv_icmp_ne (tgt := 57) hx hb dX4_fallRow_33 (by decide) (fun c7 => ?_) (fun c7 => ?_)
      · refine lv_iload_n hx hb dX4_fallRow_57 rfl (lv_at hl 0 rfl) ?_
        exact ge_i C hr rfl hlk (by rw [sFall, if_neg (by simp only [i3l, i3e, i3q, inR, isC, isD, zi_0, zi_1, zi_2, zi_3, zi_4, zi_5, zi_6, zi_7, zi_8, zi_9, zi_10, zi_12, zi_20, zi_21, zi_30, zi_60, zi_90, zi_99, zi_100, zi_180, zi_240, zi_400, zi_500, zi_1000, zi_1199, zi_10000, zi_100000, zi_1000000, i3m1] at c1 ⊢; omega), o2]; rw [if_neg c7]; rfl) dX4_fallRow_58
      · refine lv_aload_n hx hb dX4_fallRow_36 rfl (lv_at hl 1 rfl) ?_
        refine lv_iload_n hx hb dX4_fallRow_37 rfl (lv_at hl 0 rfl) ?_
        refine lv_aload_n hx hb dX4_fallRow_38 rfl (lv_at hl 1 rfl) ?_
        refine lv_aload_n hx hb dX4_fallRow_39 rfl (lv_at hl 2 rfl) ?_
        refine g_get C B (27 + 3 * i) (Lc_d (i := i) (by omega) (by omega) (by omega)) cE_d rfl gf_2 2 (by decide) wl_497 (v := .int ((J.2.2.1 0) i)) cD_2 dX4_fallRow_40 ?_
        refine lv_aload_n hx hb dX4_fallRow_43 rfl (lv_at hl 2 rfl) ?_
        refine g_get C B (27 + 3 * i) (Lc_d (i := i) (by omega) (by omega) (by omega)) cE_d rfl gf_2 3 (by decide) wl_499 (v := .int ((S.2.2.1 22) i)) cD_3 dX4_fallRow_44 ?_
        refine lv_iload_n hx hb dX4_fallRow_47 rfl (lv_at hl 3 rfl) ?_
        refine gc_o (oI := oI) (gr_V C B (k := 17) (As := [.int ((J.2.2.1 0) i), .int ((S.2.2.1 22) i), .int known]) (rest := [.int (nI f3), .ref (α 17)]) (c_X4_rowFor l D G τ α S J n _ ((J.2.2.1 0) i) ((S.2.2.1 22) i) known hN hF) (Lc_in (by decide)) cE_17 rfl wl_285 wl_287 wl_0 wl_35 wl_288 (na := 3) (by decide +kernel) rfl ⟨Nat.le_of_ble_eq_true rfl, Nat.le_of_ble_eq_true rfl⟩ ⟨Nat.le_of_ble_eq_true rfl, Nat.le_of_ble_eq_true rfl⟩ hl.1 rfl (Nat.le_of_ble_eq_true rfl) dX4_fallRow_48) (fun o8 => ?_) (fun f9 o8 => ?_)
        · refine gc_i (gr_V C B (k := 17) (As := [.int (nI f3), .int (-1)]) (rest := []) (c_X4_ahead l D G τ α S J n _ (some f3) none (fun f h9 => by cases h9 <;> omega) (fun f h9 => by cases h9 <;> omega)) (Lc_in (by decide)) cE_17 rfl wl_301 wl_303 wl_1 wl_35 wl_304 (na := 2) (by decide +kernel) rfl ⟨Nat.le_of_ble_eq_true rfl, Nat.le_of_ble_eq_true rfl⟩ ⟨Nat.le_of_ble_eq_true rfl, Nat.le_of_ble_eq_true rfl⟩ hl.1 rfl (Nat.le_of_ble_eq_true rfl) dX4_fallRow_51) (fun r h => ?_)
          subst h
          refine lv_goto (tgt := 58) hx hb dX4_fallRow_54 (by decide) ?_
          exact ge_i C hr rfl hlk (by rw [sFall, if_neg (by simp only [i3l, i3e, i3q, inR, isC, isD, zi_0, zi_1, zi_2, zi_3, zi_4, zi_5, zi_6, zi_7, zi_8, zi_9, zi_10, zi_12, zi_20, zi_21, zi_30, zi_60, zi_90, zi_99, zi_100, zi_180, zi_240, zi_400, zi_500, zi_1000, zi_1199, zi_10000, zi_100000, zi_1000000, i3m1] at c1 ⊢; omega), o2]; rw [if_pos c7, ← hJ c7, o8]) dX4_fallRow_58
        · have f9_b : f9 < 90 := Nat.lt_of_lt_of_le (sCnt_lt o8).1 (nOf_le hN.2.2.2.1.1 hN.2.2.2.1.2 (by decide))
          refine gc_i (gr_V C B (k := 17) (As := [.int (nI f3), .int (nI f9)]) (rest := []) (c_X4_ahead l D G τ α S J n _ (some f3) (some f9) (fun f h9 => by cases h9 <;> omega) (fun f h9 => by cases h9 <;> omega)) (Lc_in (by decide)) cE_17 rfl wl_301 wl_303 wl_1 wl_35 wl_304 (na := 2) (by decide +kernel) rfl ⟨Nat.le_of_ble_eq_true rfl, Nat.le_of_ble_eq_true rfl⟩ ⟨Nat.le_of_ble_eq_true rfl, Nat.le_of_ble_eq_true rfl⟩ hl.1 rfl (Nat.le_of_ble_eq_true rfl) dX4_fallRow_51) (fun r h => ?_)
          subst h
          refine lv_goto (tgt := 58) hx hb dX4_fallRow_54 (by decide) ?_
          exact ge_i C hr rfl hlk (by rw [sFall, if_neg (by simp only [i3l, i3e, i3q, inR, isC, isD, zi_0, zi_1, zi_2, zi_3, zi_4, zi_5, zi_6, zi_7, zi_8, zi_9, zi_10, zi_12, zi_20, zi_21, zi_30, zi_60, zi_90, zi_99, zi_100, zi_180, zi_240, zi_400, zi_500, zi_1000, zi_1199, zi_10000, zi_100000, zi_1000000, i3m1] at c1 ⊢; omega), o2]; rw [if_pos c7, ← hJ c7, o8]) dX4_fallRow_58
  · refine lv_iconst (v := (-1)) hx hb dX4_fallRow_12 (by decide) ?_
    exact ge_i C hr rfl hlk (by rw [sFall, if_pos (by simp only [i3l, i3e, i3q, inR, isC, isD, zi_0, zi_1, zi_2, zi_3, zi_4, zi_5, zi_6, zi_7, zi_8, zi_9, zi_10, zi_12, zi_20, zi_21, zi_30, zi_60, zi_90, zi_99, zi_100, zi_180, zi_240, zi_400, zi_500, zi_1000, zi_1199, zi_10000, zi_100000, zi_1000000, i3m1] at c1 ⊢; omega)]; rfl) dX4_fallRow_13
set_option maxHeartbeats 4000000 in
set_option maxRecDepth 100000 in
theorem c_X4_dueMonth (l : Launch) (D : va_G) (G : Nat → ClassId) (τ α : Nat → Nat) (S J : St) (n sz : Nat) (f : Nat) (known : Int32) (hf : f < 90) (hN : okN S) : Ri l D G τ yX4_dueMonth cX4_dueMonth 4 (some .int) 3 [.ref (α 17), .int (nI f), .int known] α (cE G α S J n) (Lc n) sz (fun r => r = sDueM S f known) := by
  refine gM _ (by decide) rfl (Nat.le_of_ble_eq_true rfl) ?_
  intro p e s m below meth c ls C hr hlk hnm hsz B hl
  have hx := C.1
  have hb := C.2.1
  have hl : lv_has ls 4 [(0, .ref (α 17)), (1, .int (nI f)), (2, .int known)] := hl
  refine lv_aload_n hx hb dX4_dueMonth_0 rfl (lv_at hl 0 rfl) ?_
  refine g_get C B (17) (Lc_in (by decide)) cE_17 rfl gf_4 1 (by decide) wl_143 (v := .ref (α 9)) cF_17_1 dX4_dueMonth_1 ?_
  refine lv_iload_n hx hb dX4_dueMonth_4 rfl (lv_at hl 1 rfl) ?_
  refine gc_i (gr_V C B (k := 9) (As := [.int (nI f)]) (rest := []) (c_X0_monthOf l D G τ α S J n _ f (by omega)) (Lc_in (by decide)) cE_9 rfl wl_296 wl_297 wl_298 wl_33 wl_299 (na := 1) (by decide +kernel) rfl ⟨Nat.le_of_ble_eq_true rfl, Nat.le_of_ble_eq_true rfl⟩ ⟨Nat.le_of_ble_eq_true rfl, Nat.le_of_ble_eq_true rfl⟩ hl.1 rfl (Nat.le_of_ble_eq_true rfl) dX4_dueMonth_5) (fun r h => ?_)
  subst h
  refine lv_istore_n (lv' := [(3, .int (S.2.2.1 13 f)), (0, .ref (α 17)), (1, .int (nI f)), (2, .int known)]) hx hb dX4_dueMonth_8 rfl hl (by decide) rfl (fun ls hl => ?_)
  refine lv_iload_n hx hb dX4_dueMonth_9 rfl (lv_at hl 0 rfl) ?_
  refine lv_aload_n hx hb dX4_dueMonth_10 rfl (lv_at hl 1 rfl) ?_
  refine g_get C B (17) (Lc_in (by decide)) cE_17 rfl gf_4 0 (by decide) wl_142 (v := .ref (α 3)) cF_17_0 dX4_dueMonth_11 ?_
  refine lv_iconst (v := 0) hx hb dX4_dueMonth_14 (by decide) ?_
  refine lv_iload_n hx hb dX4_dueMonth_15 rfl (lv_at hl 0 rfl) ?_
  refine lv_iload_n hx hb dX4_dueMonth_16 rfl (lv_at hl 3 rfl) ?_
  refine gc_i (gr_V C B (k := 3) (As := [.int 0, .int (S.2.2.1 13 f), .int known]) (rest := [.int (S.2.2.1 13 f)]) (c_X1_inForce l D G τ α S J n _ 0 (S.2.2.1 13 f) known hN) (Lc_in (by decide)) cE_3 rfl wl_314 wl_315 wl_316 wl_31 wl_317 (na := 3) (by decide +kernel) rfl ⟨Nat.le_of_ble_eq_true rfl, Nat.le_of_ble_eq_true rfl⟩ ⟨Nat.le_of_ble_eq_true rfl, Nat.le_of_ble_eq_true rfl⟩ hl.1 rfl (Nat.le_of_ble_eq_true rfl) dX4_dueMonth_17) (fun r h => ?_)
  subst h
  refine lv_iadd hx hb dX4_dueMonth_20 ?_
  exact ge_i C hr rfl hlk (rfl) dX4_dueMonth_21
set_option maxHeartbeats 4000000 in
set_option maxRecDepth 100000 in
theorem c_X4_beforeCut (l : Launch) (D : va_G) (G : Nat → ClassId) (τ α : Nat → Nat) (S J : St) (n sz : Nat) (i f : Nat) (known : Int32) (hi : i < n) (hf : f < 90) (hN : okN S) : Rl l D G τ yX4_beforeCut cX4_beforeCut 6 (some .long) 3 [.ref (α 17), .ref (α (27 + 3 * i)), .int (nI f), .int known] α (cE G α S J n) (Lc n) sz (fun r => r = sPre S i f known) := by
  refine gM _ (by decide) rfl (Nat.le_of_ble_eq_true rfl) ?_
  intro p e s m below meth c ls C hr hlk hnm hsz B hl
  have hx := C.1
  have hb := C.2.1
  have hl : lv_has ls 6 [(0, .ref (α 17)), (1, .ref (α (27 + 3 * i))), (2, .int (nI f)), (3, .int known)] := hl
  refine lv_aload_n hx hb dX4_beforeCut_0 rfl (lv_at hl 1 rfl) ?_
  refine lv_ifnonnull (tgt := 6) hx hb dX4_beforeCut_1 (by decide) ?_
  refine lv_aload_n hx hb dX4_beforeCut_6 rfl (lv_at hl 0 rfl) ?_
  refine g_get C B (17) (Lc_in (by decide)) cE_17 rfl gf_4 1 (by decide) wl_143 (v := .ref (α 9)) cF_17_1 dX4_beforeCut_7 ?_
  refine lv_iload_n hx hb dX4_beforeCut_10 rfl (lv_at hl 2 rfl) ?_
  refine gc_i (gr_V C B (k := 9) (As := [.int (nI f)]) (rest := []) (c_X0_fateOf l D G τ α S J n _ f (by omega)) (Lc_in (by decide)) cE_9 rfl wl_305 wl_306 wl_307 wl_33 wl_308 (na := 1) (by decide +kernel) rfl ⟨Nat.le_of_ble_eq_true rfl, Nat.le_of_ble_eq_true rfl⟩ ⟨Nat.le_of_ble_eq_true rfl, Nat.le_of_ble_eq_true rfl⟩ hl.1 rfl (Nat.le_of_ble_eq_true rfl) dX4_beforeCut_11) (fun r h => ?_)
  subst h
  refine lv_istore (lv' := [(4, .int (S.2.2.1 12 f)), (0, .ref (α 17)), (1, .ref (α (27 + 3 * i))), (2, .int (nI f)), (3, .int known)]) hx hb dX4_beforeCut_14 hl (by decide) rfl (fun ls hl => ?_)
  refine lv_aload_n hx hb dX4_beforeCut_16 rfl (lv_at hl 1 rfl) ?_
  refine g_get C B (17) (Lc_in (by decide)) cE_17 rfl gf_4 1 (by decide) wl_143 (v := .ref (α 9)) cF_17_1 dX4_beforeCut_17 ?_
  refine lv_iload_n hx hb dX4_beforeCut_20 rfl (lv_at hl 3 rfl) ?_
  refine gc_i (gr_V C B (k := 9) (As := [.int (nI f)]) (rest := []) (c_X0_monthOf l D G τ α S J n _ f (by omega)) (Lc_in (by decide)) cE_9 rfl wl_296 wl_297 wl_298 wl_33 wl_299 (na := 1) (by decide +kernel) rfl ⟨Nat.le_of_ble_eq_true rfl, Nat.le_of_ble_eq_true rfl⟩ ⟨Nat.le_of_ble_eq_true rfl, Nat.le_of_ble_eq_true rfl⟩ hl.1 rfl (Nat.le_of_ble_eq_true rfl) dX4_beforeCut_21) (fun r h => ?_)
  subst h
  refine lv_istore (lv' := [(5, .int (S.2.2.1 13 f)), (4, .int (S.2.2.1 12 f)), (0, .ref (α 17)), (1, .ref (α (27 + 3 * i))), (2, .int (nI f)), (3, .int known)]) hx hb dX4_beforeCut_24 hl (by decide) rfl (fun ls hl => ?_)
  refine lv_iload hx hb dX4_beforeCut_26 (lv_at hl 1 rfl) ?_
  refine lv_iconst (v := 2) hx hb dX4_beforeCut_28 (by decide) ?_
  refine lv_icmp_ne (tgt := 52) hx hb dX4_beforeCut_29 (by decide) (fun c1 => ?_) (fun c1 => ?_)
  · refine lv_iload hx hb dX4_beforeCut_52 (lv_at hl 1 rfl) ?_
    refine lv_iconst (v := 1) hx hb dX4_beforeCut_54 (by decide) ?_
    refine lv_icmp_ne (tgt := 85) hx hb dX4_beforeCut_55 (by decide) (fun c2 => ?_) (fun c2 => ?_)
    · refine lv_iload hx hb dX4_beforeCut_85 (lv_at hl 0 rfl) ?_
      refine lv_aload_n hx hb dX4_beforeCut_87 rfl (lv_at hl 3 rfl) ?_
      refine g_get C B (27 + 3 * i) (Lc_d (i := i) (by omega) (by omega) (by omega)) cE_d rfl gf_2 6 (by decide) wl_507 (v := .int ((S.2.2.1 21) i)) cD_6 dX4_beforeCut_88 ?_
      refine lv_icmp_lt (tgt := 99) hx hb dX4_beforeCut_91 (by decide) (fun c3 => ?_) (fun c3 => ?_)
      · refine lv_aload_n hx hb dX4_beforeCut_99 rfl (lv_at hl 3 rfl) ?_
        refine g_get C B (27 + 3 * i) (Lc_d (i := i) (by omega) (by omega) (by omega)) cE_d rfl gf_2 5 (by decide) wl_505 (v := .long ((S.2.2.2 20) i)) cD_5 dX4_beforeCut_100 ?_
        refine lv_aload_n hx hb dX4_beforeCut_103 rfl (lv_at hl 2 rfl) ?_
        refine g_get C B (17) (Lc_in (by decide)) cE_17 rfl gf_4 0 (by decide) wl_142 (v := .ref (α 3)) cF_17_0 dX4_beforeCut_104 ?_
        refine lv_iconst (v := 3) hx hb dX4_beforeCut_107 (by decide) ?_
        refine lv_iload hx hb dX4_beforeCut_108 (lv_at hl 0 rfl) ?_
        refine lv_iload_n hx hb dX4_beforeCut_110 rfl (lv_at hl 5 rfl) ?_
        refine gc_i (gr_V C B (k := 3) (As := [.int 3, .int (S.2.2.1 13 f), .int known]) (rest := [.long ((S.2.2.2 20) i)]) (c_X1_inForce l D G τ α S J n _ 3 (S.2.2.1 13 f) known hN) (Lc_in (by decide)) cE_3 rfl wl_314 wl_315 wl_316 wl_31 wl_317 (na := 3) (by decide +kernel) rfl ⟨Nat.le_of_ble_eq_true rfl, Nat.le_of_ble_eq_true rfl⟩ ⟨Nat.le_of_ble_eq_true rfl, Nat.le_of_ble_eq_true rfl⟩ hl.1 rfl (Nat.le_of_ble_eq_true rfl) dX4_beforeCut_111) (fun r h => ?_)
        subst h
        refine gc_l (gr_SN C B (As := [.long ((S.2.2.2 20) i), .int (sInf S 3 (S.2.2.1 13 f) known)]) (rest := []) (c_X10_thousandths l D G τ α _ _ _ ((S.2.2.2 20) i) (sInf S 3 (S.2.2.1 13 f) known)) (by decide +kernel : Cond.methodLinkNest RX4 66 yX10_thousandths RX10 ∈ gNs) wl_333 wl_29 wl_334 (na := 2) (by decide +kernel) rfl ⟨Nat.le_of_ble_eq_true rfl, Nat.le_of_ble_eq_true rfl⟩ ⟨Nat.le_of_ble_eq_true rfl, Nat.le_of_ble_eq_true rfl⟩ hl.1 rfl (Nat.le_of_ble_eq_true rfl) dX4_beforeCut_114) (fun r h => ?_)
        subst h
        exact ge_l C hr hlk (by rw [sPre]; simp [c1, c2, c3] <;> (intro h9; exfalso; simp only [i3l, i3e, i3q, inR, isC, isD, zi_0, zi_1, zi_2, zi_3, zi_4, zi_5, zi_6, zi_7, zi_8, zi_9, zi_10, zi_12, zi_20, zi_21, zi_30, zi_60, zi_90, zi_99, zi_100, zi_180, zi_240, zi_400, zi_500, zi_1000, zi_1199, zi_10000, zi_100000, zi_1000000, i3m1] at c3 h9 ⊢; omega)) dX4_beforeCut_117
      · refine lv_aload_n hx hb dX4_beforeCut_94 rfl (lv_at hl 3 rfl) ?_
        refine g_get C B (27 + 3 * i) (Lc_d (i := i) (by omega) (by omega) (by omega)) cE_d rfl gf_2 5 (by decide) wl_505 (v := .long ((S.2.2.2 20) i)) cD_5 dX4_beforeCut_95 ?_
        exact ge_l C hr hlk (by rw [sPre]; simp [c1, c2, c3] <;> (intro h9; exfalso; simp only [i3l, i3e, i3q, inR, isC, isD, zi_0, zi_1, zi_2, zi_3, zi_4, zi_5, zi_6, zi_7, zi_8, zi_9, zi_10, zi_12, zi_20, zi_21, zi_30, zi_60, zi_90, zi_99, zi_100, zi_180, zi_240, zi_400, zi_500, zi_1000, zi_1199, zi_10000, zi_100000, zi_1000000, i3m1] at c3 h9 ⊢; omega)) dX4_beforeCut_98
    · refine lv_aload_n hx hb dX4_beforeCut_58 rfl (lv_at hl 3 rfl) ?_
      refine g_get C B (27 + 3 * i) (Lc_d (i := i) (by omega) (by omega) (by omega)) cE_d rfl gf_2 0 (by decide) wl_492 (v := .int ((S.2.2.1 16) i)) cD_0 dX4_beforeCut_59 ?_
      refine lv_iconst (v := 2) hx hb dX4_beforeCut_62 (by decide) ?_
      refine lv_icmp_eq (tgt := 85) hx hb dX4_beforeCut_63 (by decide) (fun c4 => ?_) (fun c4 => ?_)
      · refine lv_iload hx hb dX4_beforeCut_85 (lv_at hl 0 rfl) ?_
        refine lv_aload_n hx hb dX4_beforeCut_87 rfl (lv_at hl 3 rfl) ?_
        refine g_get C B (27 + 3 * i) (Lc_d (i := i) (by omega) (by omega) (by omega)) cE_d rfl gf_2 6 (by decide) wl_507 (v := .int ((S.2.2.1 21) i)) cD_6 dX4_beforeCut_88 ?_
        refine lv_icmp_lt (tgt := 99) hx hb dX4_beforeCut_91 (by decide) (fun c5 => ?_) (fun c5 => ?_)
        · refine lv_aload_n hx hb dX4_beforeCut_99 rfl (lv_at hl 3 rfl) ?_
          refine g_get C B (27 + 3 * i) (Lc_d (i := i) (by omega) (by omega) (by omega)) cE_d rfl gf_2 5 (by decide) wl_505 (v := .long ((S.2.2.2 20) i)) cD_5 dX4_beforeCut_100 ?_
          refine lv_aload_n hx hb dX4_beforeCut_103 rfl (lv_at hl 2 rfl) ?_
          refine g_get C B (17) (Lc_in (by decide)) cE_17 rfl gf_4 0 (by decide) wl_142 (v := .ref (α 3)) cF_17_0 dX4_beforeCut_104 ?_
          refine lv_iconst (v := 3) hx hb dX4_beforeCut_107 (by decide) ?_
          refine lv_iload hx hb dX4_beforeCut_108 (lv_at hl 0 rfl) ?_
          refine lv_iload_n hx hb dX4_beforeCut_110 rfl (lv_at hl 5 rfl) ?_
          refine gc_i (gr_V C B (k := 3) (As := [.int 3, .int (S.2.2.1 13 f), .int known]) (rest := [.long ((S.2.2.2 20) i)]) (c_X1_inForce l D G τ α S J n _ 3 (S.2.2.1 13 f) known hN) (Lc_in (by decide)) cE_3 rfl wl_314 wl_315 wl_316 wl_31 wl_317 (na := 3) (by decide +kernel) rfl ⟨Nat.le_of_ble_eq_true rfl, Nat.le_of_ble_eq_true rfl⟩ ⟨Nat.le_of_ble_eq_true rfl, Nat.le_of_ble_eq_true rfl⟩ hl.1 rfl (Nat.le_of_ble_eq_true rfl) dX4_beforeCut_111) (fun r h => ?_)
          subst h
          refine gc_l (gr_SN C B (As := [.long ((S.2.2.2 20) i), .int (sInf S 3 (S.2.2.1 13 f) known)]) (rest := []) (c_X10_thousandths l D G τ α _ _ _ ((S.2.2.2 20) i) (sInf S 3 (S.2.2.1 13 f) known)) (by decide +kernel : Cond.methodLinkNest RX4 66 yX10_thousandths RX10 ∈ gNs) wl_333 wl_29 wl_334 (na := 2) (by decide +kernel) rfl ⟨Nat.le_of_ble_eq_true rfl, Nat.le_of_ble_eq_true rfl⟩ ⟨Nat.le_of_ble_eq_true rfl, Nat.le_of_ble_eq_true rfl⟩ hl.1 rfl (Nat.le_of_ble_eq_true rfl) dX4_beforeCut_114) (fun r h => ?_)
          subst h
          exact ge_l C hr hlk (by rw [sPre]; simp [c1, c2, c4, c5] <;> (intro h9; exfalso; simp only [i3l, i3e, i3q, inR, isC, isD, zi_0, zi_1, zi_2, zi_3, zi_4, zi_5, zi_6, zi_7, zi_8, zi_9, zi_10, zi_12, zi_20, zi_21, zi_30, zi_60, zi_90, zi_99, zi_100, zi_180, zi_240, zi_400, zi_500, zi_1000, zi_1199, zi_10000, zi_100000, zi_1000000, i3m1] at c5 h9 ⊢; omega)) dX4_beforeCut_117
        · refine lv_aload_n hx hb dX4_beforeCut_94 rfl (lv_at hl 3 rfl) ?_
          refine g_get C B (27 + 3 * i) (Lc_d (i := i) (by omega) (by omega) (by omega)) cE_d rfl gf_2 5 (by decide) wl_505 (v := .long ((S.2.2.2 20) i)) cD_5 dX4_beforeCut_95 ?_
          exact ge_l C hr hlk (by rw [sPre]; simp [c1, c2, c4, c5] <;> (intro h9; exfalso; simp only [i3l, i3e, i3q, inR, isC, isD, zi_0, zi_1, zi_2, zi_3, zi_4, zi_5, zi_6, zi_7, zi_8, zi_9, zi_10, zi_12, zi_20, zi_21, zi_30, zi_60, zi_90, zi_99, zi_100, zi_180, zi_240, zi_400, zi_500, zi_1000, zi_1199, zi_10000, zi_100000, zi_1000000, i3m1] at c5 h9 ⊢; omega)) dX4_beforeCut_98
      · refine lv_aload_n hx hb dX4_beforeCut_66 rfl (lv_at hl 3 rfl) ?_
        refine g_get C B (27 + 3 * i) (Lc_d (i := i) (by omega) (by omega) (by omega)) cE_d rfl gf_2 5 (by decide) wl_505 (v := .long ((S.2.2.2 20) i)) cD_5 dX4_beforeCut_67 ?_
        refine lv_aload_n hx hb dX4_beforeCut_70 rfl (lv_at hl 2 rfl) ?_
        refine g_get C B (17) (Lc_in (by decide)) cE_17 rfl gf_4 0 (by decide) wl_142 (v := .ref (α 3)) cF_17_0 dX4_beforeCut_71 ?_
        refine lv_iconst (v := 2) hx hb dX4_beforeCut_74 (by decide) ?_
        refine lv_iload hx hb dX4_beforeCut_75 (lv_at hl 0 rfl) ?_
        refine lv_iload_n hx hb dX4_beforeCut_77 rfl (lv_at hl 5 rfl) ?_
        refine gc_i (gr_V C B (k := 3) (As := [.int 2, .int (S.2.2.1 13 f), .int known]) (rest := [.long ((S.2.2.2 20) i)]) (c_X1_inForce l D G τ α S J n _ 2 (S.2.2.1 13 f) known hN) (Lc_in (by decide)) cE_3 rfl wl_314 wl_315 wl_316 wl_31 wl_317 (na := 3) (by decide +kernel) rfl ⟨Nat.le_of_ble_eq_true rfl, Nat.le_of_ble_eq_true rfl⟩ ⟨Nat.le_of_ble_eq_true rfl, Nat.le_of_ble_eq_true rfl⟩ hl.1 rfl (Nat.le_of_ble_eq_true rfl) dX4_beforeCut_78) (fun r h => ?_)
        subst h
        refine gc_l (gr_SN C B (As := [.long ((S.2.2.2 20) i), .int (sInf S 2 (S.2.2.1 13 f) known)]) (rest := []) (c_X10_thousandths l D G τ α _ _ _ ((S.2.2.2 20) i) (sInf S 2 (S.2.2.1 13 f) known)) (by decide +kernel : Cond.methodLinkNest RX4 66 yX10_thousandths RX10 ∈ gNs) wl_333 wl_29 wl_334 (na := 2) (by decide +kernel) rfl ⟨Nat.le_of_ble_eq_true rfl, Nat.le_of_ble_eq_true rfl⟩ ⟨Nat.le_of_ble_eq_true rfl, Nat.le_of_ble_eq_true rfl⟩ hl.1 rfl (Nat.le_of_ble_eq_true rfl) dX4_beforeCut_81) (fun r h => ?_)
        subst h
        exact ge_l C hr hlk (by rw [sPre]; simp [c1, c2, c4] <;> (intro h9; exfalso; simp only [i3l, i3e, i3q, inR, isC, isD, zi_0, zi_1, zi_2, zi_3, zi_4, zi_5, zi_6, zi_7, zi_8, zi_9, zi_10, zi_12, zi_20, zi_21, zi_30, zi_60, zi_90, zi_99, zi_100, zi_180, zi_240, zi_400, zi_500, zi_1000, zi_1199, zi_10000, zi_100000, zi_1000000, i3m1] at c4 h9 ⊢; omega)) dX4_beforeCut_84
  · refine lv_aload_n hx hb dX4_beforeCut_32 rfl (lv_at hl 3 rfl) ?_
    refine g_get C B (27 + 3 * i) (Lc_d (i := i) (by omega) (by omega) (by omega)) cE_d rfl gf_2 4 (by decide) wl_502 (v := .int ((S.2.2.1 19) i)) cD_4 dX4_beforeCut_33 ?_
    refine lv_i2l (v := ((S.2.2.1 19) i).toInt64) hx hb dX4_beforeCut_36 rfl ?_
    refine lv_aload_n hx hb dX4_beforeCut_37 rfl (lv_at hl 2 rfl) ?_
    refine g_get C B (17) (Lc_in (by decide)) cE_17 rfl gf_4 0 (by decide) wl_142 (v := .ref (α 3)) cF_17_0 dX4_beforeCut_38 ?_
    refine lv_iconst (v := 1) hx hb dX4_beforeCut_41 (by decide) ?_
    refine lv_iload hx hb dX4_beforeCut_42 (lv_at hl 0 rfl) ?_
    refine lv_iload_n hx hb dX4_beforeCut_44 rfl (lv_at hl 5 rfl) ?_
    refine gc_i (gr_V C B (k := 3) (As := [.int 1, .int (S.2.2.1 13 f), .int known]) (rest := [.long (((S.2.2.1 19) i).toInt64)]) (c_X1_inForce l D G τ α S J n _ 1 (S.2.2.1 13 f) known hN) (Lc_in (by decide)) cE_3 rfl wl_314 wl_315 wl_316 wl_31 wl_317 (na := 3) (by decide +kernel) rfl ⟨Nat.le_of_ble_eq_true rfl, Nat.le_of_ble_eq_true rfl⟩ ⟨Nat.le_of_ble_eq_true rfl, Nat.le_of_ble_eq_true rfl⟩ hl.1 rfl (Nat.le_of_ble_eq_true rfl) dX4_beforeCut_45) (fun r h => ?_)
    subst h
    refine gc_l (gr_SN C B (As := [.long (((S.2.2.1 19) i).toInt64), .int (sInf S 1 (S.2.2.1 13 f) known)]) (rest := []) (c_X10_thousandths l D G τ α _ _ _ (((S.2.2.1 19) i).toInt64) (sInf S 1 (S.2.2.1 13 f) known)) (by decide +kernel : Cond.methodLinkNest RX4 66 yX10_thousandths RX10 ∈ gNs) wl_333 wl_29 wl_334 (na := 2) (by decide +kernel) rfl ⟨Nat.le_of_ble_eq_true rfl, Nat.le_of_ble_eq_true rfl⟩ ⟨Nat.le_of_ble_eq_true rfl, Nat.le_of_ble_eq_true rfl⟩ hl.1 rfl (Nat.le_of_ble_eq_true rfl) dX4_beforeCut_48) (fun r h => ?_)
    subst h
    exact ge_l C hr hlk (by rw [sPre]; simp [c1] <;> (intro h9; exfalso; simp only [i3l, i3e, i3q, inR, isC, isD, zi_0, zi_1, zi_2, zi_3, zi_4, zi_5, zi_6, zi_7, zi_8, zi_9, zi_10, zi_12, zi_20, zi_21, zi_30, zi_60, zi_90, zi_99, zi_100, zi_180, zi_240, zi_400, zi_500, zi_1000, zi_1199, zi_10000, zi_100000, zi_1000000, i3m1] at c1 h9 ⊢; omega)) dX4_beforeCut_51
set_option maxHeartbeats 4000000 in
set_option maxRecDepth 100000 in
theorem c_X4_dueSum (l : Launch) (D : va_G) (G : Nat → ClassId) (τ α : Nat → Nat) (S J : St) (n sz : Nat) (i f : Nat) (known : Int32) (hi : i < n) (hf : f < 90) (hN : okN S) : Rl l D G τ yX4_dueSum cX4_dueSum 6 (some .long) 4 [.ref (α 17), .ref (α (27 + 3 * i)), .int (nI f), .int known] α (cE G α S J n) (Lc n) sz (fun r => r = sDue S i f known) := by
  refine gM _ (by decide) rfl (Nat.le_of_ble_eq_true rfl) ?_
  intro p e s m below meth c ls C hr hlk hnm hsz B hl
  have hx := C.1
  have hb := C.2.1
  have hl : lv_has ls 6 [(0, .ref (α 17)), (1, .ref (α (27 + 3 * i))), (2, .int (nI f)), (3, .int known)] := hl
  refine lv_aload_n hx hb dX4_dueSum_0 rfl (lv_at hl 0 rfl) ?_
  refine lv_aload_n hx hb dX4_dueSum_1 rfl (lv_at hl 1 rfl) ?_
  refine lv_iload_n hx hb dX4_dueSum_2 rfl (lv_at hl 2 rfl) ?_
  refine lv_iload_n hx hb dX4_dueSum_3 rfl (lv_at hl 3 rfl) ?_
  refine gc_l (gr_V C B (k := 17) (As := [.ref (α (27 + 3 * i)), .int (nI f), .int known]) (rest := []) (c_X4_beforeCut l D G τ α S J n _ i f known (by omega) (by omega) hN) (Lc_in (by decide)) cE_17 rfl wl_328 wl_330 wl_2 wl_35 wl_331 (na := 3) (by decide +kernel) rfl ⟨Nat.le_of_ble_eq_true rfl, Nat.le_of_ble_eq_true rfl⟩ ⟨Nat.le_of_ble_eq_true rfl, Nat.le_of_ble_eq_true rfl⟩ hl.1 rfl (Nat.le_of_ble_eq_true rfl) dX4_dueSum_4) (fun r h => ?_)
  subst h
  refine lv_lstore (lv' := [(4, .long (sPre S i f known)), (0, .ref (α 17)), (1, .ref (α (27 + 3 * i))), (2, .int (nI f)), (3, .int known)]) hx hb dX4_dueSum_7 hl (by decide) rfl (fun ls hl => ?_)
  refine lv_lload hx hb dX4_dueSum_9 (lv_at hl 0 rfl) ?_
  refine lv_lload hx hb dX4_dueSum_11 (lv_at hl 0 rfl) ?_
  refine lv_aload_n hx hb dX4_dueSum_13 rfl (lv_at hl 1 rfl) ?_
  refine g_get C B (17) (Lc_in (by decide)) cE_17 rfl gf_4 0 (by decide) wl_142 (v := .ref (α 3)) cF_17_0 dX4_dueSum_14 ?_
  refine lv_iconst (v := 4) hx hb dX4_dueSum_17 (by decide) ?_
  refine lv_aload_n hx hb dX4_dueSum_18 rfl (lv_at hl 1 rfl) ?_
  refine lv_iload_n hx hb dX4_dueSum_19 rfl (lv_at hl 3 rfl) ?_
  refine lv_iload_n hx hb dX4_dueSum_20 rfl (lv_at hl 4 rfl) ?_
  refine gc_i (gr_V C B (k := 17) (As := [.int (nI f), .int known]) (rest := [.int 4, .ref (α 3), .long (sPre S i f known), .long (sPre S i f known)]) (c_X4_dueMonth l D G τ α S J n _ f known (by omega) hN) (Lc_in (by decide)) cE_17 rfl wl_336 wl_311 wl_312 wl_35 wl_313 (na := 2) (by decide +kernel) rfl ⟨Nat.le_of_ble_eq_true rfl, Nat.le_of_ble_eq_true rfl⟩ ⟨Nat.le_of_ble_eq_true rfl, Nat.le_of_ble_eq_true rfl⟩ hl.1 rfl (Nat.le_of_ble_eq_true rfl) dX4_dueSum_21) (fun r h => ?_)
  subst h
  refine lv_iload_n hx hb dX4_dueSum_24 rfl (lv_at hl 4 rfl) ?_
  refine gc_i (gr_V C B (k := 3) (As := [.int 4, .int (sDueM S f known), .int known]) (rest := [.long (sPre S i f known), .long (sPre S i f known)]) (c_X1_inForce l D G τ α S J n _ 4 (sDueM S f known) known hN) (Lc_in (by decide)) cE_3 rfl wl_314 wl_315 wl_316 wl_31 wl_317 (na := 3) (by decide +kernel) rfl ⟨Nat.le_of_ble_eq_true rfl, Nat.le_of_ble_eq_true rfl⟩ ⟨Nat.le_of_ble_eq_true rfl, Nat.le_of_ble_eq_true rfl⟩ hl.1 rfl (Nat.le_of_ble_eq_true rfl) dX4_dueSum_25) (fun r h => ?_)
  subst h
  refine gc_l (gr_SN C B (As := [.long (sPre S i f known), .int (sInf S 4 (sDueM S f known) known)]) (rest := [.long (sPre S i f known)]) (c_X10_thousandths l D G τ α _ _ _ (sPre S i f known) (sInf S 4 (sDueM S f known) known)) (by decide +kernel : Cond.methodLinkNest RX4 66 yX10_thousandths RX10 ∈ gNs) wl_333 wl_29 wl_334 (na := 2) (by decide +kernel) rfl ⟨Nat.le_of_ble_eq_true rfl, Nat.le_of_ble_eq_true rfl⟩ ⟨Nat.le_of_ble_eq_true rfl, Nat.le_of_ble_eq_true rfl⟩ hl.1 rfl (Nat.le_of_ble_eq_true rfl) dX4_dueSum_28) (fun r h => ?_)
  subst h
  refine lv_lsub hx hb dX4_dueSum_31 ?_
  exact ge_l C hr hlk (rfl) dX4_dueSum_32
