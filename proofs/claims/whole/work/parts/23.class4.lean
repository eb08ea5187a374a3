set_option maxHeartbeats 4000000 in
set_option maxRecDepth 100000 in
theorem c_X10_decree (l : Launch) (D : va_G) (G : Nat → ClassId) (τ α : Nat → Nat) (S J : St) (n sz : Nat) (kind fr v : Int32) (hN : okN S) : Wl l D G τ yX10_decree cX10_decree 4 (some .long) 3 0 0 [.ref (α 0), .int kind, .int fr, .int v] α (cE G α S J n) (Lc n) sz (fun r u => r = (sp_decree S kind fr v).1 ∧ u = (α, cE G α (sp_decree S kind fr v).2 J n, Lc n)) := by
  refine gM _ (by decide) rfl (Nat.le_of_ble_eq_true rfl) ?_
  intro p e s m below meth c ls C hr hlk hnm hsz B hl
  have hx := C.1
  have hb := C.2.1
  have hl : lv_has ls 4 [(0, .ref (α 0)), (1, .int kind), (2, .int fr), (3, .int v)] := hl
  refine lv_iload_n hx hb dX10_decree_0 rfl (lv_at hl 1 rfl) ?_
  refine gc_b (gr_S C B (As := [.int kind]) (rest := []) (c_X1_isKind l D G τ α _ _ _ kind) wl_398 wl_319 wl_31 wl_320 (na := 1) (by decide +kernel) rfl ⟨Nat.le_of_ble_eq_true rfl, Nat.le_of_ble_eq_true rfl⟩ ⟨Nat.le_of_ble_eq_true rfl, Nat.le_of_ble_eq_true rfl⟩ hl.1 rfl (Nat.le_of_ble_eq_true rfl) dX10_decree_1) (fun c1 => ?_) (fun c1 => ?_)
  · refine lv_if_eq (tgt := 22) hx hb dX10_decree_4 (by decide) (fun hc => absurd hc (by decide)) (fun _ => ?_)
    refine lv_iload_n hx hb dX10_decree_7 rfl (lv_at hl 2 rfl) ?_
    refine gc_b (gr_S C B (As := [.int fr]) (rest := []) (c_X10_isMonth l D G τ α _ _ _ fr) wl_399 wl_400 wl_29 wl_401 (na := 1) (by decide +kernel) rfl ⟨Nat.le_of_ble_eq_true rfl, Nat.le_of_ble_eq_true rfl⟩ ⟨Nat.le_of_ble_eq_true rfl, Nat.le_of_ble_eq_true rfl⟩ hl.1 rfl (Nat.le_of_ble_eq_true rfl) dX10_decree_8) (fun c2 => ?_) (fun c2 => ?_)
    · refine lv_if_eq (tgt := 22) hx hb dX10_decree_11 (by decide) (fun hc => absurd hc (by decide)) (fun _ => ?_)
      refine lv_iload_n hx hb dX10_decree_14 rfl (lv_at hl 1 rfl) ?_
      refine lv_iload_n hx hb dX10_decree_15 rfl (lv_at hl 3 rfl) ?_
      refine gc_b (gr_S C B (As := [.int kind, .int v]) (rest := []) (c_X1_mayBe l D G τ α _ _ _ kind v) wl_402 wl_403 wl_31 wl_404 (na := 2) (by decide +kernel) rfl ⟨Nat.le_of_ble_eq_true rfl, Nat.le_of_ble_eq_true rfl⟩ ⟨Nat.le_of_ble_eq_true rfl, Nat.le_of_ble_eq_true rfl⟩ hl.1 rfl (Nat.le_of_ble_eq_true rfl) dX10_decree_16) (fun c3 => ?_) (fun c3 => ?_)
      · refine lv_if_ne (tgt := 31) hx hb dX10_decree_19 (by decide) (fun _ => ?_) (fun hc => absurd hc (by decide))
        refine lv_aload_n hx hb dX10_decree_31 rfl (lv_at hl 0 rfl) ?_
        refine g_get C B (0) (Lc_in (by decide)) cE_0 rfl gf_10 1 (by decide) wl_227 (v := .ref (α 3)) cF_0_1 dX10_decree_32 ?_
        refine gc_b (gr_V C B (k := 3) (As := []) (rest := []) (c_X1_isFull l D G τ α S J n _) (Lc_in (by decide)) cE_3 rfl wl_409 wl_410 wl_411 wl_31 wl_412 (na := 0) (by decide +kernel) rfl ⟨Nat.le_of_ble_eq_true rfl, Nat.le_of_ble_eq_true rfl⟩ ⟨Nat.le_of_ble_eq_true rfl, Nat.le_of_ble_eq_true rfl⟩ hl.1 rfl (Nat.le_of_ble_eq_true rfl) dX10_decree_35) (fun c4 => ?_) (fun c4 => ?_)
        · refine lv_if_eq (tgt := 50) hx hb dX10_decree_38 (by decide) (fun hc => absurd hc (by decide)) (fun _ => ?_)
          refine lv_aload_n hx hb dX10_decree_41 rfl (lv_at hl 0 rfl) ?_
          refine g_get C B (0) (Lc_in (by decide)) cE_0 rfl gf_10 0 (by decide) wl_226 (v := .ref (α 1)) cF_0_0 dX10_decree_42 ?_
          refine lv_iconst (v := 4) hx hb dX10_decree_45 (by decide) ?_
          refine gc_wl B (gr_V C B (k := 1) (As := [.int 4]) (rest := []) (c_X5_answer l D G τ α S J n _ 4 (by decide)) (Lc_in (by decide)) cE_1 rfl wl_267 wl_268 wl_269 wl_30 wl_270 (na := 1) (by decide +kernel) rfl ⟨Nat.le_of_ble_eq_true rfl, Nat.le_of_ble_eq_true rfl⟩ ⟨Nat.le_of_ble_eq_true rfl, Nat.le_of_ble_eq_true rfl⟩ hl.1 rfl (Nat.le_of_ble_eq_true rfl) dX10_decree_46) (fun r u h H locs B => ?_)
          obtain ⟨rfl, rfl⟩ := h
          have B : gB D G τ (gA α (Lc n) sz) s H locs α (cE G α (sNo S 4).2 J n) (Lc n) := B
          exact ge_wl C B hr hlk (by have e9 : sp_decree S kind fr v = ((sNo S 4).1, (sNo S 4).2) := (by unfold sp_decree; (first | rw [if_pos c1] | rw [if_neg c1] | rw [if_neg (not_not_intro c1)] | skip); (first | rw [if_pos c2] | rw [if_neg c2] | rw [if_neg (not_not_intro c2)] | skip); (first | rw [if_pos (fun h9 => c3 ⟨c1, h9⟩)] | rw [if_neg (not_not_intro c3.2)]); (first | rw [if_pos (show S.1 2 = 60 by have h8 := hN.2.1.2; simp only [i3l, i3e, i3q, inR, isC, isD, zi_0, zi_1, zi_2, zi_3, zi_4, zi_5, zi_6, zi_7, zi_8, zi_9, zi_10, zi_12, zi_20, zi_21, zi_30, zi_60, zi_90, zi_99, zi_100, zi_180, zi_240, zi_400, zi_500, zi_1000, zi_1199, zi_10000, zi_100000, zi_1000000, i3m1] at c4 h8 ⊢; omega)] | rw [if_neg (show ¬ S.1 2 = 60 by have h8 := hN.2.1.2; simp only [i3l, i3e, i3q, inR, isC, isD, zi_0, zi_1, zi_2, zi_3, zi_4, zi_5, zi_6, zi_7, zi_8, zi_9, zi_10, zi_12, zi_20, zi_21, zi_30, zi_60, zi_90, zi_99, zi_100, zi_180, zi_240, zi_400, zi_500, zi_1000, zi_1199, zi_10000, zi_100000, zi_1000000, i3m1] at c4 h8 ⊢; omega)]); (first | done | rfl)); rw [e9]; exact ⟨rfl, rfl⟩) dX10_decree_49
        · refine lv_if_eq (tgt := 50) hx hb dX10_decree_38 (by decide) (fun _ => ?_) (fun hc => absurd (by decide) hc)
          refine lv_aload_n hx hb dX10_decree_50 rfl (lv_at hl 0 rfl) ?_
          refine g_get C B (0) (Lc_in (by decide)) cE_0 rfl gf_10 1 (by decide) wl_227 (v := .ref (α 3)) cF_0_1 dX10_decree_51 ?_
          refine lv_iload_n hx hb dX10_decree_54 rfl (lv_at hl 1 rfl) ?_
          refine lv_iload_n hx hb dX10_decree_55 rfl (lv_at hl 2 rfl) ?_
          refine lv_iload_n hx hb dX10_decree_56 rfl (lv_at hl 3 rfl) ?_
          refine lv_aload_n hx hb dX10_decree_57 rfl (lv_at hl 0 rfl) ?_
          refine g_get C B (0) (Lc_in (by decide)) cE_0 rfl gf_10 10 (by decide) wl_236 (v := .int (S.1 0)) cF_0_10 dX10_decree_58 ?_
          refine gc_wv B (gr_V C B (k := 3) (As := [.int kind, .int fr, .int v, .int (S.1 0)]) (rest := []) (c_X1_add l D G τ α S J n _ kind fr v (S.1 0) c4 hN.2.1.1) (Lc_in (by decide)) cE_3 rfl wl_413 wl_414 wl_415 wl_31 wl_416 (na := 4) (by decide +kernel) rfl ⟨Nat.le_of_ble_eq_true rfl, Nat.le_of_ble_eq_true rfl⟩ ⟨Nat.le_of_ble_eq_true rfl, Nat.le_of_ble_eq_true rfl⟩ hl.1 rfl (Nat.le_of_ble_eq_true rfl) dX10_decree_61) (fun u h H locs B => ?_)
          subst h
          have B : gB D G τ (gA α (Lc n) sz) s H locs α (cE G α (uI (uA (uA (uA (uA S 3 (upd (S.2.2.1 3) (nOf S 2) kind)) 4 (upd (S.2.2.1 4) (nOf S 2) fr)) 5 (upd (S.2.2.1 5) (nOf S 2) v)) 6 (upd (S.2.2.1 6) (nOf S 2) (S.1 0))) 2 (S.1 2 + 1)) J n) (Lc n) := B
          refine lv_aload_n hx hb dX10_decree_64 rfl (lv_at hl 0 rfl) ?_
          refine g_get C B (0) (Lc_in (by decide)) cE_0 rfl gf_10 1 (by decide) wl_227 (v := .ref (α 3)) cF_0_1 dX10_decree_65 ?_
          refine g_get C B (3) (Lc_in (by decide)) cE_3 rfl gf_1 4 (by decide) wl_74 (v := .int ((uI (uA (uA (uA (uA S 3 (upd (S.2.2.1 3) (nOf S 2) kind)) 4 (upd (S.2.2.1 4) (nOf S 2) fr)) 5 (upd (S.2.2.1 5) (nOf S 2) v)) 6 (upd (S.2.2.1 6) (nOf S 2) (S.1 0))) 2 (S.1 2 + 1)).1 2)) cF_3_4 dX10_decree_68 ?_
          refine lv_i2l (v := ((uI (uA (uA (uA (uA S 3 (upd (S.2.2.1 3) (nOf S 2) kind)) 4 (upd (S.2.2.1 4) (nOf S 2) fr)) 5 (upd (S.2.2.1 5) (nOf S 2) v)) 6 (upd (S.2.2.1 6) (nOf S 2) (S.1 0))) 2 (S.1 2 + 1)).1 2).toInt64) hx hb dX10_decree_71 rfl ?_
          exact ge_wl C B hr hlk (by have e9 : sp_decree S kind fr v = (((uI (uA (uA (uA (uA S 3 (upd (S.2.2.1 3) (nOf S 2) kind)) 4 (upd (S.2.2.1 4) (nOf S 2) fr)) 5 (upd (S.2.2.1 5) (nOf S 2) v)) 6 (upd (S.2.2.1 6) (nOf S 2) (S.1 0))) 2 (S.1 2 + 1)).1 2).toInt64, (uI (uA (uA (uA (uA S 3 (upd (S.2.2.1 3) (nOf S 2) kind)) 4 (upd (S.2.2.1 4) (nOf S 2) fr)) 5 (upd (S.2.2.1 5) (nOf S 2) v)) 6 (upd (S.2.2.1 6) (nOf S 2) (S.1 0))) 2 (S.1 2 + 1))) := (by unfold sp_decree; (first | rw [if_pos c1] | rw [if_neg c1] | rw [if_neg (not_not_intro c1)] | skip); (first | rw [if_pos c2] | rw [if_neg c2] | rw [if_neg (not_not_intro c2)] | skip); (first | rw [if_pos (fun h9 => c3 ⟨c1, h9⟩)] | rw [if_neg (not_not_intro c3.2)]); (first | rw [if_pos (show S.1 2 = 60 by have h8 := hN.2.1.2; simp only [i3l, i3e, i3q, inR, isC, isD, zi_0, zi_1, zi_2, zi_3, zi_4, zi_5, zi_6, zi_7, zi_8, zi_9, zi_10, zi_12, zi_20, zi_21, zi_30, zi_60, zi_90, zi_99, zi_100, zi_180, zi_240, zi_400, zi_500, zi_1000, zi_1199, zi_10000, zi_100000, zi_1000000, i3m1] at c4 h8 ⊢; omega)] | rw [if_neg (show ¬ S.1 2 = 60 by have h8 := hN.2.1.2; simp only [i3l, i3e, i3q, inR, isC, isD, zi_0, zi_1, zi_2, zi_3, zi_4, zi_5, zi_6, zi_7, zi_8, zi_9, zi_10, zi_12, zi_20, zi_21, zi_30, zi_60, zi_90, zi_99, zi_100, zi_180, zi_240, zi_400, zi_500, zi_1000, zi_1199, zi_10000, zi_100000, zi_1000000, i3m1] at c4 h8 ⊢; omega)]); (first | done | rfl)); rw [e9]; exact ⟨rfl, rfl⟩) dX10_decree_72
      · refine lv_if_ne (tgt := 31) hx hb dX10_decree_19 (by decide) (fun hc => absurd (by decide) hc) (fun _ => ?_)
        refine lv_aload_n hx hb dX10_decree_22 rfl (lv_at hl 0 rfl) ?_
        refine g_get C B (0) (Lc_in (by decide)) cE_0 rfl gf_10 0 (by decide) wl_226 (v := .ref (α 1)) cF_0_0 dX10_decree_23 ?_
        refine lv_iconst (v := 1) hx hb dX10_decree_26 (by decide) ?_
        refine gc_wl B (gr_V C B (k := 1) (As := [.int 1]) (rest := []) (c_X5_answer l D G τ α S J n _ 1 (by decide)) (Lc_in (by decide)) cE_1 rfl wl_267 wl_268 wl_269 wl_30 wl_270 (na := 1) (by decide +kernel) rfl ⟨Nat.le_of_ble_eq_true rfl, Nat.le_of_ble_eq_true rfl⟩ ⟨Nat.le_of_ble_eq_true rfl, Nat.le_of_ble_eq_true rfl⟩ hl.1 rfl (Nat.le_of_ble_eq_true rfl) dX10_decree_27) (fun r u h H locs B => ?_)
        obtain ⟨rfl, rfl⟩ := h
        have B : gB D G τ (gA α (Lc n) sz) s H locs α (cE G α (sNo S 1).2 J n) (Lc n) := B
        exact ge_wl C B hr hlk (by have e9 : sp_decree S kind fr v = ((sNo S 1).1, (sNo S 1).2) := (by unfold sp_decree; (first | rw [if_pos c1] | rw [if_neg c1] | rw [if_neg (not_not_intro c1)] | skip); (first | rw [if_pos c2] | rw [if_neg c2] | rw [if_neg (not_not_intro c2)] | skip); (first | rw [if_pos (fun h9 => c3 ⟨c1, h9⟩)] | rw [if_neg (not_not_intro c3.2)]); (first | done | rfl)); rw [e9]; exact ⟨rfl, rfl⟩) dX10_decree_30
    · refine lv_if_eq (tgt := 22) hx hb dX10_decree_11 (by decide) (fun _ => ?_) (fun hc => absurd (by decide) hc)
      refine lv_aload_n hx hb dX10_decree_22 rfl (lv_at hl 0 rfl) ?_
      refine g_get C B (0) (Lc_in (by decide)) cE_0 rfl gf_10 0 (by decide) wl_226 (v := .ref (α 1)) cF_0_0 dX10_decree_23 ?_
      refine lv_iconst (v := 1) hx hb dX10_decree_26 (by decide) ?_
      refine gc_wl B (gr_V C B (k := 1) (As := [.int 1]) (rest := []) (c_X5_answer l D G τ α S J n _ 1 (by decide)) (Lc_in (by decide)) cE_1 rfl wl_267 wl_268 wl_269 wl_30 wl_270 (na := 1) (by decide +kernel) rfl ⟨Nat.le_of_ble_eq_true rfl, Nat.le_of_ble_eq_true rfl⟩ ⟨Nat.le_of_ble_eq_true rfl, Nat.le_of_ble_eq_true rfl⟩ hl.1 rfl (Nat.le_of_ble_eq_true rfl) dX10_decree_27) (fun r u h H locs B => ?_)
      obtain ⟨rfl, rfl⟩ := h
      have B : gB D G τ (gA α (Lc n) sz) s H locs α (cE G α (sNo S 1).2 J n) (Lc n) := B
      exact ge_wl C B hr hlk (by have e9 : sp_decree S kind fr v = ((sNo S 1).1, (sNo S 1).2) := (by unfold sp_decree; (first | rw [if_pos c1] | rw [if_neg c1] | rw [if_neg (not_not_intro c1)] | skip); (first | rw [if_pos c2] | rw [if_neg c2] | rw [if_neg (not_not_intro c2)] | skip); (first | done | rfl)); rw [e9]; exact ⟨rfl, rfl⟩) dX10_decree_30
  · refine lv_if_eq (tgt := 22) hx hb dX10_decree_4 (by decide) (fun _ => ?_) (fun hc => absurd (by decide) hc)
    refine lv_aload_n hx hb dX10_decree_22 rfl (lv_at hl 0 rfl) ?_
    refine g_get C B (0) (Lc_in (by decide)) cE_0 rfl gf_10 0 (by decide) wl_226 (v := .ref (α 1)) cF_0_0 dX10_decree_23 ?_
    refine lv_iconst (v := 1) hx hb dX10_decree_26 (by decide) ?_
    refine gc_wl B (gr_V C B (k := 1) (As := [.int 1]) (rest := []) (c_X5_answer l D G τ α S J n _ 1 (by decide)) (Lc_in (by decide)) cE_1 rfl wl_267 wl_268 wl_269 wl_30 wl_270 (na := 1) (by decide +kernel) rfl ⟨Nat.le_of_ble_eq_true rfl, Nat.le_of_ble_eq_true rfl⟩ ⟨Nat.le_of_ble_eq_true rfl, Nat.le_of_ble_eq_true rfl⟩ hl.1 rfl (Nat.le_of_ble_eq_true rfl) dX10_decree_27) (fun r u h H locs B => ?_)
    obtain ⟨rfl, rfl⟩ := h
    have B : gB D G τ (gA α (Lc n) sz) s H locs α (cE G α (sNo S 1).2 J n) (Lc n) := B
    exact ge_wl C B hr hlk (by have e9 : sp_decree S kind fr v = ((sNo S 1).1, (sNo S 1).2) := (by unfold sp_decree; (first | rw [if_pos c1] | rw [if_neg c1] | rw [if_neg (not_not_intro c1)] | skip); (first | done | rfl)); rw [e9]; exact ⟨rfl, rfl⟩) dX10_decree_30
set_option maxHeartbeats 4000000 in
set_option maxRecDepth 100000 in
theorem c_X10_force (l : Launch) (D : va_G) (G : Nat → ClassId) (τ α : Nat → Nat) (S J : St) (n sz : Nat) (kind month known : Int32) (hN : okN S) : Wl l D G τ yX10_force cX10_force 4 (some .long) 3 0 0 [.ref (α 0), .int kind, .int month, .int known] α (cE G α S J n) (Lc n) sz (fun r u => r = (sp_force S kind month known).1 ∧ u = (α, cE G α (sp_force S kind month known).2 J n, Lc n)) := by
  refine gM _ (by decide) rfl (Nat.le_of_ble_eq_true rfl) ?_
  intro p e s m below meth c ls C hr hlk hnm hsz B hl
  have hx := C.1
  have hb := C.2.1
  have hl : lv_has ls 4 [(0, .ref (α 0)), (1, .int kind), (2, .int month), (3, .int known)] := hl
  refine lv_iload_n hx hb dX10_force_0 rfl (lv_at hl 1 rfl) ?_
  refine gc_b (gr_S C B (As := [.int kind]) (rest := []) (c_X1_isKind l D G τ α _ _ _ kind) wl_398 wl_319 wl_31 wl_320 (na := 1) (by decide +kernel) rfl ⟨Nat.le_of_ble_eq_true rfl, Nat.le_of_ble_eq_true rfl⟩ ⟨Nat.le_of_ble_eq_true rfl, Nat.le_of_ble_eq_true rfl⟩ hl.1 rfl (Nat.le_of_ble_eq_true rfl) dX10_force_1) (fun c1 => ?_) (fun c1 => ?_)
  · refine lv_if_eq (tgt := 21) hx hb dX10_force_4 (by decide) (fun hc => absurd hc (by decide)) (fun _ => ?_)
    refine lv_iload_n hx hb dX10_force_7 rfl (lv_at hl 2 rfl) ?_
    refine gc_b (gr_S C B (As := [.int month]) (rest := []) (c_X10_isMonth l D G τ α _ _ _ month) wl_399 wl_400 wl_29 wl_401 (na := 1) (by decide +kernel) rfl ⟨Nat.le_of_ble_eq_true rfl, Nat.le_of_ble_eq_true rfl⟩ ⟨Nat.le_of_ble_eq_true rfl, Nat.le_of_ble_eq_true rfl⟩ hl.1 rfl (Nat.le_of_ble_eq_true rfl) dX10_force_8) (fun c2 => ?_) (fun c2 => ?_)
    · refine lv_if_eq (tgt := 21) hx hb dX10_force_11 (by decide) (fun hc => absurd hc (by decide)) (fun _ => ?_)
      refine lv_iload_n hx hb dX10_force_14 rfl (lv_at hl 3 rfl) ?_
      refine gc_b (gr_S C B (As := [.int known]) (rest := []) (c_X10_isMonth l D G τ α _ _ _ known) wl_399 wl_400 wl_29 wl_401 (na := 1) (by decide +kernel) rfl ⟨Nat.le_of_ble_eq_true rfl, Nat.le_of_ble_eq_true rfl⟩ ⟨Nat.le_of_ble_eq_true rfl, Nat.le_of_ble_eq_true rfl⟩ hl.1 rfl (Nat.le_of_ble_eq_true rfl) dX10_force_15) (fun c3 => ?_) (fun c3 => ?_)
      · refine lv_if_ne (tgt := 30) hx hb dX10_force_18 (by decide) (fun _ => ?_) (fun hc => absurd hc (by decide))
        refine lv_aload_n hx hb dX10_force_30 rfl (lv_at hl 0 rfl) ?_
        refine g_get C B (0) (Lc_in (by decide)) cE_0 rfl gf_10 1 (by decide) wl_227 (v := .ref (α 3)) cF_0_1 dX10_force_31 ?_
        refine lv_iload_n hx hb dX10_force_34 rfl (lv_at hl 1 rfl) ?_
        refine lv_iload_n hx hb dX10_force_35 rfl (lv_at hl 2 rfl) ?_
        refine lv_iload_n hx hb dX10_force_36 rfl (lv_at hl 3 rfl) ?_
        refine gc_i (gr_V C B (k := 3) (As := [.int kind, .int month, .int known]) (rest := []) (c_X1_inForce l D G τ α S J n _ kind month known hN) (Lc_in (by decide)) cE_3 rfl wl_422 wl_315 wl_316 wl_31 wl_317 (na := 3) (by decide +kernel) rfl ⟨Nat.le_of_ble_eq_true rfl, Nat.le_of_ble_eq_true rfl⟩ ⟨Nat.le_of_ble_eq_true rfl, Nat.le_of_ble_eq_true rfl⟩ hl.1 rfl (Nat.le_of_ble_eq_true rfl) dX10_force_37) (fun r h => ?_)
        subst h
        refine lv_i2l (v := (sInf S kind month known).toInt64) hx hb dX10_force_40 rfl ?_
        exact ge_wl C B hr hlk (by have e9 : sp_force S kind month known = ((sInf S kind month known).toInt64, S) := (by unfold sp_force; (first | rw [if_pos c1] | rw [if_neg c1] | rw [if_neg (not_not_intro c1)] | skip); (first | rw [if_pos c2] | rw [if_neg c2] | rw [if_neg (not_not_intro c2)] | skip); (first | rw [if_pos c3] | rw [if_neg c3] | rw [if_neg (not_not_intro c3)] | skip); (first | done | rfl)); rw [e9]; exact ⟨rfl, rfl⟩) dX10_force_41
      · refine lv_if_ne (tgt := 30) hx hb dX10_force_18 (by decide) (fun hc => absurd (by decide) hc) (fun _ => ?_)
        refine lv_aload_n hx hb dX10_force_21 rfl (lv_at hl 0 rfl) ?_
        refine g_get C B (0) (Lc_in (by decide)) cE_0 rfl gf_10 0 (by decide) wl_226 (v := .ref (α 1)) cF_0_0 dX10_force_22 ?_
        refine lv_iconst (v := 1) hx hb dX10_force_25 (by decide) ?_
        refine gc_wl B (gr_V C B (k := 1) (As := [.int 1]) (rest := []) (c_X5_answer l D G τ α S J n _ 1 (by decide)) (Lc_in (by decide)) cE_1 rfl wl_267 wl_268 wl_269 wl_30 wl_270 (na := 1) (by decide +kernel) rfl ⟨Nat.le_of_ble_eq_true rfl, Nat.le_of_ble_eq_true rfl⟩ ⟨Nat.le_of_ble_eq_true rfl, Nat.le_of_ble_eq_true rfl⟩ hl.1 rfl (Nat.le_of_ble_eq_true rfl) dX10_force_26) (fun r u h H locs B => ?_)
        obtain ⟨rfl, rfl⟩ := h
        have B : gB D G τ (gA α (Lc n) sz) s H locs α (cE G α (sNo S 1).2 J n) (Lc n) := B
        exact ge_wl C B hr hlk (by have e9 : sp_force S kind month known = ((sNo S 1).1, (sNo S 1).2) := (by unfold sp_force; (first | rw [if_pos c1] | rw [if_neg c1] | rw [if_neg (not_not_intro c1)] | skip); (first | rw [if_pos c2] | rw [if_neg c2] | rw [if_neg (not_not_intro c2)] | skip); (first | rw [if_pos c3] | rw [if_neg c3] | rw [if_neg (not_not_intro c3)] | skip); (first | done | rfl)); rw [e9]; exact ⟨rfl, rfl⟩) dX10_force_29
    · refine lv_if_eq (tgt := 21) hx hb dX10_force_11 (by decide) (fun _ => ?_) (fun hc => absurd (by decide) hc)
      refine lv_aload_n hx hb dX10_force_21 rfl (lv_at hl 0 rfl) ?_
      refine g_get C B (0) (Lc_in (by decide)) cE_0 rfl gf_10 0 (by decide) wl_226 (v := .ref (α 1)) cF_0_0 dX10_force_22 ?_
      refine lv_iconst (v := 1) hx hb dX10_force_25 (by decide) ?_
      refine gc_wl B (gr_V C B (k := 1) (As := [.int 1]) (rest := []) (c_X5_answer l D G τ α S J n _ 1 (by decide)) (Lc_in (by decide)) cE_1 rfl wl_267 wl_268 wl_269 wl_30 wl_270 (na := 1) (by decide +kernel) rfl ⟨Nat.le_of_ble_eq_true rfl, Nat.le_of_ble_eq_true rfl⟩ ⟨Nat.le_of_ble_eq_true rfl, Nat.le_of_ble_eq_true rfl⟩ hl.1 rfl (Nat.le_of_ble_eq_true rfl) dX10_force_26) (fun r u h H locs B => ?_)
      obtain ⟨rfl, rfl⟩ := h
      have B : gB D G τ (gA α (Lc n) sz) s H locs α (cE G α (sNo S 1).2 J n) (Lc n) := B
      exact ge_wl C B hr hlk (by have e9 : sp_force S kind month known = ((sNo S 1).1, (sNo S 1).2) := (by unfold sp_force; (first | rw [if_pos c1] | rw [if_neg c1] | rw [if_neg (not_not_intro c1)] | skip); (first | rw [if_pos c2] | rw [if_neg c2] | rw [if_neg (not_not_intro c2)] | skip); (first | done | rfl)); rw [e9]; exact ⟨rfl, rfl⟩) dX10_force_29
  · refine lv_if_eq (tgt := 21) hx hb dX10_force_4 (by decide) (fun _ => ?_) (fun hc => absurd (by decide) hc)
    refine lv_aload_n hx hb dX10_force_21 rfl (lv_at hl 0 rfl) ?_
    refine g_get C B (0) (Lc_in (by decide)) cE_0 rfl gf_10 0 (by decide) wl_226 (v := .ref (α 1)) cF_0_0 dX10_force_22 ?_
    refine lv_iconst (v := 1) hx hb dX10_force_25 (by decide) ?_
    refine gc_wl B (gr_V C B (k := 1) (As := [.int 1]) (rest := []) (c_X5_answer l D G τ α S J n _ 1 (by decide)) (Lc_in (by decide)) cE_1 rfl wl_267 wl_268 wl_269 wl_30 wl_270 (na := 1) (by decide +kernel) rfl ⟨Nat.le_of_ble_eq_true rfl, Nat.le_of_ble_eq_true rfl⟩ ⟨Nat.le_of_ble_eq_true rfl, Nat.le_of_ble_eq_true rfl⟩ hl.1 rfl (Nat.le_of_ble_eq_true rfl) dX10_force_26) (fun r u h H locs B => ?_)
    obtain ⟨rfl, rfl⟩ := h
    have B : gB D G τ (gA α (Lc n) sz) s H locs α (cE G α (sNo S 1).2 J n) (Lc n) := B
    exact ge_wl C B hr hlk (by have e9 : sp_force S kind month known = ((sNo S 1).1, (sNo S 1).2) := (by unfold sp_force; (first | rw [if_pos c1] | rw [if_neg c1] | rw [if_neg (not_not_intro c1)] | skip); (first | done | rfl)); rw [e9]; exact ⟨rfl, rfl⟩) dX10_force_29
set_option maxHeartbeats 4000000 in
set_option maxRecDepth 100000 in
theorem c_X10_rate (l : Launch) (D : va_G) (G : Nat → ClassId) (τ α : Nat → Nat) (S J : St) (n sz : Nat) (y v : Int32) (hN : okN S) : Wl l D G τ yX10_rate cX10_rate 4 (some .long) 2 0 0 [.ref (α 0), .int y, .int v] α (cE G α S J n) (Lc n) sz (fun r u => r = (sp_rate S y v).1 ∧ u = (α, cE G α (sp_rate S y v).2 J n, Lc n)) := by
  refine gM _ (by decide) rfl (Nat.le_of_ble_eq_true rfl) ?_
  intro p e s m below meth c ls C hr hlk hnm hsz B hl
  have hx := C.1
  have hb := C.2.1
  have hl : lv_has ls 4 [(0, .ref (α 0)), (1, .int y), (2, .int v)] := hl
  refine lv_iload_n hx hb dX10_rate_0 rfl (lv_at hl 1 rfl) ?_
  refine lv_iconst (v := 1) hx hb dX10_rate_1 (by decide) ?_
  refine lv_bipush (v := 20) hx hb dX10_rate_2 (by decide) ?_
  refine gc_b (gr_S C B (As := [.int y, .int 1, .int 20]) (rest := []) (c_X10_isWithin l D G τ α _ _ _ y 1 20) wl_264 wl_265 wl_29 wl_266 (na := 3) (by decide +kernel) rfl ⟨Nat.le_of_ble_eq_true rfl, Nat.le_of_ble_eq_true rfl⟩ ⟨Nat.le_of_ble_eq_true rfl, Nat.le_of_ble_eq_true rfl⟩ hl.1 rfl (Nat.le_of_ble_eq_true rfl) dX10_rate_4) (fun c1 => ?_) (fun c1 => ?_)
  · refine lv_if_eq (tgt := 22) hx hb dX10_rate_7 (by decide) (fun hc => absurd hc (by decide)) (fun _ => ?_)
    refine lv_iload_n hx hb dX10_rate_10 rfl (lv_at hl 2 rfl) ?_
    refine lv_bipush (v := 100) hx hb dX10_rate_11 (by decide) ?_
    refine lv_sipush (v := 1000) hx hb dX10_rate_13 (by decide) ?_
    refine gc_b (gr_S C B (As := [.int v, .int 100, .int 1000]) (rest := []) (c_X10_isWithin l D G τ α _ _ _ v 100 1000) wl_264 wl_265 wl_29 wl_266 (na := 3) (by decide +kernel) rfl ⟨Nat.le_of_ble_eq_true rfl, Nat.le_of_ble_eq_true rfl⟩ ⟨Nat.le_of_ble_eq_true rfl, Nat.le_of_ble_eq_true rfl⟩ hl.1 rfl (Nat.le_of_ble_eq_true rfl) dX10_rate_16) (fun c2 => ?_) (fun c2 => ?_)
    · refine lv_if_ne (tgt := 31) hx hb dX10_rate_19 (by decide) (fun _ => ?_) (fun hc => absurd hc (by decide))
      refine lv_aload_n hx hb dX10_rate_31 rfl (lv_at hl 0 rfl) ?_
      refine g_get C B (0) (Lc_in (by decide)) cE_0 rfl gf_10 2 (by decide) wl_228 (v := .ref (α 8)) cF_0_2 dX10_rate_32 ?_
      refine lv_iload_n hx hb dX10_rate_35 rfl (lv_at hl 1 rfl) ?_
      refine g_iald C B (8) (Lc_in (by decide)) (f := S.2.2.1 7) cE_8 (vp_rng c1 (by decide) (by decide)) (j := y.toNatClampNeg) rfl dX10_rate_36 ?_
      refine lv_istore_n (lv' := [(3, .int (S.2.2.1 7 y.toNatClampNeg)), (0, .ref (α 0)), (1, .int y), (2, .int v)]) hx hb dX10_rate_37 rfl hl (by decide) rfl (fun ls hl => ?_)
      refine lv_aload_n hx hb dX10_rate_38 rfl (lv_at hl 1 rfl) ?_
      refine g_get C B (0) (Lc_in (by decide)) cE_0 rfl gf_10 2 (by decide) wl_228 (v := .ref (α 8)) cF_0_2 dX10_rate_39 ?_
      refine lv_iload_n hx hb dX10_rate_42 rfl (lv_at hl 2 rfl) ?_
      refine lv_iload_n hx hb dX10_rate_43 rfl (lv_at hl 3 rfl) ?_
      refine g_iast C B (8) (Lc_in (by decide)) (f := S.2.2.1 7) cE_8 (vp_rng c1 (by decide) (by decide)) (j := y.toNatClampNeg) rfl dX10_rate_44 cU_8 (fun H locs B => ?_)
      refine lv_iload_n hx hb dX10_rate_45 rfl (lv_at hl 0 rfl) ?_
      refine lv_i2l (v := (S.2.2.1 7 y.toNatClampNeg).toInt64) hx hb dX10_rate_46 rfl ?_
      exact ge_wl C B hr hlk (by have e9 : sp_rate S y v = ((S.2.2.1 7 y.toNatClampNeg).toInt64, (uA S 7 (upd (S.2.2.1 7) y.toNatClampNeg v))) := (by unfold sp_rate; (first | rw [if_pos c1] | rw [if_neg c1] | rw [if_neg (not_not_intro c1)] | skip); (first | rw [if_pos c2] | rw [if_neg c2] | rw [if_neg (not_not_intro c2)] | skip); (first | done | rfl)); rw [e9]; exact ⟨rfl, rfl⟩) dX10_rate_47
    · refine lv_if_ne (tgt := 31) hx hb dX10_rate_19 (by decide) (fun hc => absurd (by decide) hc) (fun _ => ?_)
      refine lv_aload_n hx hb dX10_rate_22 rfl (lv_at hl 0 rfl) ?_
      refine g_get C B (0) (Lc_in (by decide)) cE_0 rfl gf_10 0 (by decide) wl_226 (v := .ref (α 1)) cF_0_0 dX10_rate_23 ?_
      refine lv_iconst (v := 1) hx hb dX10_rate_26 (by decide) ?_
      refine gc_wl B (gr_V C B (k := 1) (As := [.int 1]) (rest := []) (c_X5_answer l D G τ α S J n _ 1 (by decide)) (Lc_in (by decide)) cE_1 rfl wl_267 wl_268 wl_269 wl_30 wl_270 (na := 1) (by decide +kernel) rfl ⟨Nat.le_of_ble_eq_true rfl, Nat.le_of_ble_eq_true rfl⟩ ⟨Nat.le_of_ble_eq_true rfl, Nat.le_of_ble_eq_true rfl⟩ hl.1 rfl (Nat.le_of_ble_eq_true rfl) dX10_rate_27) (fun r u h H locs B => ?_)
      obtain ⟨rfl, rfl⟩ := h
      have B : gB D G τ (gA α (Lc n) sz) s H locs α (cE G α (sNo S 1).2 J n) (Lc n) := B
      exact ge_wl C B hr hlk (by have e9 : sp_rate S y v = ((sNo S 1).1, (sNo S 1).2) := (by unfold sp_rate; (first | rw [if_pos c1] | rw [if_neg c1] | rw [if_neg (not_not_intro c1)] | skip); (first | rw [if_pos c2] | rw [if_neg c2] | rw [if_neg (not_not_intro c2)] | skip); (first | done | rfl)); rw [e9]; exact ⟨rfl, rfl⟩) dX10_rate_30
  · refine lv_if_eq (tgt := 22) hx hb dX10_rate_7 (by decide) (fun _ => ?_) (fun hc => absurd (by decide) hc)
    refine lv_aload_n hx hb dX10_rate_22 rfl (lv_at hl 0 rfl) ?_
    refine g_get C B (0) (Lc_in (by decide)) cE_0 rfl gf_10 0 (by decide) wl_226 (v := .ref (α 1)) cF_0_0 dX10_rate_23 ?_
    refine lv_iconst (v := 1) hx hb dX10_rate_26 (by decide) ?_
    refine gc_wl B (gr_V C B (k := 1) (As := [.int 1]) (rest := []) (c_X5_answer l D G τ α S J n _ 1 (by decide)) (Lc_in (by decide)) cE_1 rfl wl_267 wl_268 wl_269 wl_30 wl_270 (na := 1) (by decide +kernel) rfl ⟨Nat.le_of_ble_eq_true rfl, Nat.le_of_ble_eq_true rfl⟩ ⟨Nat.le_of_ble_eq_true rfl, Nat.le_of_ble_eq_true rfl⟩ hl.1 rfl (Nat.le_of_ble_eq_true rfl) dX10_rate_27) (fun r u h H locs B => ?_)
    obtain ⟨rfl, rfl⟩ := h
    have B : gB D G τ (gA α (Lc n) sz) s H locs α (cE G α (sNo S 1).2 J n) (Lc n) := B
    exact ge_wl C B hr hlk (by have e9 : sp_rate S y v = ((sNo S 1).1, (sNo S 1).2) := (by unfold sp_rate; (first | rw [if_pos c1] | rw [if_neg c1] | rw [if_neg (not_not_intro c1)] | skip); (first | done | rfl)); rw [e9]; exact ⟨rfl, rfl⟩) dX10_rate_30
set_option maxHeartbeats 4000000 in
set_option maxRecDepth 100000 in
theorem c_X10_child (l : Launch) (D : va_G) (G : Nat → ClassId) (τ α : Nat → Nat) (S J : St) (n sz : Nat) (mo : Int32) (hN : okN S) : Wl l D G τ yX10_child cX10_child 2 (some .long) 2 0 0 [.ref (α 0), .int mo] α (cE G α S J n) (Lc n) sz (fun r u => r = (sp_child S mo).1 ∧ u = (α, cE G α (sp_child S mo).2 J n, Lc n)) := by
  refine gM _ (by decide) rfl (Nat.le_of_ble_eq_true rfl) ?_
  intro p e s m below meth c ls C hr hlk hnm hsz B hl
  have hx := C.1
  have hb := C.2.1
  have hl : lv_has ls 2 [(0, .ref (α 0)), (1, .int mo)] := hl
  refine lv_iload_n hx hb dX10_child_0 rfl (lv_at hl 1 rfl) ?_
  refine lv_iconst (v := 0) hx hb dX10_child_1 (by decide) ?_
  refine lv_aload_n hx hb dX10_child_2 rfl (lv_at hl 0 rfl) ?_
  refine g_get C B (0) (Lc_in (by decide)) cE_0 rfl gf_10 10 (by decide) wl_236 (v := .int (S.1 0)) cF_0_10 dX10_child_3 ?_
  refine gc_b (gr_S C B (As := [.int mo, .int 0, .int (S.1 0)]) (rest := []) (c_X10_isWithin l D G τ α _ _ _ mo 0 (S.1 0)) wl_264 wl_265 wl_29 wl_266 (na := 3) (by decide +kernel) rfl ⟨Nat.le_of_ble_eq_true rfl, Nat.le_of_ble_eq_true rfl⟩ ⟨Nat.le_of_ble_eq_true rfl, Nat.le_of_ble_eq_true rfl⟩ hl.1 rfl (Nat.le_of_ble_eq_true rfl) dX10_child_6) (fun c1 => ?_) (fun c1 => ?_)
  · refine lv_if_ne (tgt := 21) hx hb dX10_child_9 (by decide) (fun _ => ?_) (fun hc => absurd hc (by decide))
    refine lv_aload_n hx hb dX10_child_21 rfl (lv_at hl 0 rfl) ?_
    refine g_get C B (0) (Lc_in (by decide)) cE_0 rfl gf_10 3 (by decide) wl_229 (v := .ref (α 9)) cF_0_3 dX10_child_22 ?_
    refine gc_b (gr_V C B (k := 9) (As := []) (rest := []) (c_X0_isFull l D G τ α S J n _) (Lc_in (by decide)) cE_9 rfl wl_431 wl_432 wl_433 wl_33 wl_434 (na := 0) (by decide +kernel) rfl ⟨Nat.le_of_ble_eq_true rfl, Nat.le_of_ble_eq_true rfl⟩ ⟨Nat.le_of_ble_eq_true rfl, Nat.le_of_ble_eq_true rfl⟩ hl.1 rfl (Nat.le_of_ble_eq_true rfl) dX10_child_25) (fun c2 => ?_) (fun c2 => ?_)
    · refine lv_if_eq (tgt := 40) hx hb dX10_child_28 (by decide) (fun hc => absurd hc (by decide)) (fun _ => ?_)
      refine lv_aload_n hx hb dX10_child_31 rfl (lv_at hl 0 rfl) ?_
      refine g_get C B (0) (Lc_in (by decide)) cE_0 rfl gf_10 0 (by decide) wl_226 (v := .ref (α 1)) cF_0_0 dX10_child_32 ?_
      refine lv_iconst (v := 4) hx hb dX10_child_35 (by decide) ?_
      refine gc_wl B (gr_V C B (k := 1) (As := [.int 4]) (rest := []) (c_X5_answer l D G τ α S J n _ 4 (by decide)) (Lc_in (by decide)) cE_1 rfl wl_267 wl_268 wl_269 wl_30 wl_270 (na := 1) (by decide +kernel) rfl ⟨Nat.le_of_ble_eq_true rfl, Nat.le_of_ble_eq_true rfl⟩ ⟨Nat.le_of_ble_eq_true rfl, Nat.le_of_ble_eq_true rfl⟩ hl.1 rfl (Nat.le_of_ble_eq_true rfl) dX10_child_36) (fun r u h H locs B => ?_)
      obtain ⟨rfl, rfl⟩ := h
      have B : gB D G τ (gA α (Lc n) sz) s H locs α (cE G α (sNo S 4).2 J n) (Lc n) := B
      exact ge_wl C B hr hlk (by have e9 : sp_child S mo = ((sNo S 4).1, (sNo S 4).2) := (by unfold sp_child; (first | rw [if_pos c1] | rw [if_neg c1] | rw [if_neg (not_not_intro c1)] | skip); (first | rw [if_pos (show S.1 8 = 30 by have h8 := hN.2.2.1.2; simp only [i3l, i3e, i3q, inR, isC, isD, zi_0, zi_1, zi_2, zi_3, zi_4, zi_5, zi_6, zi_7, zi_8, zi_9, zi_10, zi_12, zi_20, zi_21, zi_30, zi_60, zi_90, zi_99, zi_100, zi_180, zi_240, zi_400, zi_500, zi_1000, zi_1199, zi_10000, zi_100000, zi_1000000, i3m1] at c2 h8 ⊢; omega)] | rw [if_neg (show ¬ S.1 8 = 30 by have h8 := hN.2.2.1.2; simp only [i3l, i3e, i3q, inR, isC, isD, zi_0, zi_1, zi_2, zi_3, zi_4, zi_5, zi_6, zi_7, zi_8, zi_9, zi_10, zi_12, zi_20, zi_21, zi_30, zi_60, zi_90, zi_99, zi_100, zi_180, zi_240, zi_400, zi_500, zi_1000, zi_1199, zi_10000, zi_100000, zi_1000000, i3m1] at c2 h8 ⊢; omega)]); (first | done | rfl)); rw [e9]; exact ⟨rfl, rfl⟩) dX10_child_39
    · refine lv_if_eq (tgt := 40) hx hb dX10_child_28 (by decide) (fun _ => ?_) (fun hc => absurd (by decide) hc)
      refine lv_aload_n hx hb dX10_child_40 rfl (lv_at hl 0 rfl) ?_
      refine g_get C B (0) (Lc_in (by decide)) cE_0 rfl gf_10 3 (by decide) wl_229 (v := .ref (α 9)) cF_0_3 dX10_child_41 ?_
      refine lv_iload_n hx hb dX10_child_44 rfl (lv_at hl 1 rfl) ?_
      refine gc_wv B (gr_V C B (k := 9) (As := [.int mo]) (rest := []) (c_X0_add l D G τ α S J n _ mo c2 hN.2.2.1.1) (Lc_in (by decide)) cE_9 rfl wl_435 wl_436 wl_437 wl_33 wl_438 (na := 1) (by decide +kernel) rfl ⟨Nat.le_of_ble_eq_true rfl, Nat.le_of_ble_eq_true rfl⟩ ⟨Nat.le_of_ble_eq_true rfl, Nat.le_of_ble_eq_true rfl⟩ hl.1 rfl (Nat.le_of_ble_eq_true rfl) dX10_child_45) (fun u h H locs B => ?_)
      subst h
      have B : gB D G τ (gA α (Lc n) sz) s H locs α (cE G α (uI (uA S 9 (upd (S.2.2.1 9) (nOf S 8) mo)) 8 (S.1 8 + 1)) J n) (Lc n) := B
      refine lv_aload_n hx hb dX10_child_48 rfl (lv_at hl 0 rfl) ?_
      refine g_get C B (0) (Lc_in (by decide)) cE_0 rfl gf_10 3 (by decide) wl_229 (v := .ref (α 9)) cF_0_3 dX10_child_49 ?_
      refine g_get C B (9) (Lc_in (by decide)) cE_9 rfl gf_0 1 (by decide) wl_97 (v := .int ((uI (uA S 9 (upd (S.2.2.1 9) (nOf S 8) mo)) 8 (S.1 8 + 1)).1 8)) cF_9_1 dX10_child_52 ?_
      refine lv_iconst (v := 1) hx hb dX10_child_55 (by decide) ?_
      refine lv_isub hx hb dX10_child_56 ?_
      refine lv_i2l (v := ((uI (uA S 9 (upd (S.2.2.1 9) (nOf S 8) mo)) 8 (S.1 8 + 1)).1 8 - 1).toInt64) hx hb dX10_child_57 rfl ?_
      exact ge_wl C B hr hlk (by have e9 : sp_child S mo = (((uI (uA S 9 (upd (S.2.2.1 9) (nOf S 8) mo)) 8 (S.1 8 + 1)).1 8 - 1).toInt64, (uI (uA S 9 (upd (S.2.2.1 9) (nOf S 8) mo)) 8 (S.1 8 + 1))) := (by unfold sp_child; (first | rw [if_pos c1] | rw [if_neg c1] | rw [if_neg (not_not_intro c1)] | skip); (first | rw [if_pos (show S.1 8 = 30 by have h8 := hN.2.2.1.2; simp only [i3l, i3e, i3q, inR, isC, isD, zi_0, zi_1, zi_2, zi_3, zi_4, zi_5, zi_6, zi_7, zi_8, zi_9, zi_10, zi_12, zi_20, zi_21, zi_30, zi_60, zi_90, zi_99, zi_100, zi_180, zi_240, zi_400, zi_500, zi_1000, zi_1199, zi_10000, zi_100000, zi_1000000, i3m1] at c2 h8 ⊢; omega)] | rw [if_neg (show ¬ S.1 8 = 30 by have h8 := hN.2.2.1.2; simp only [i3l, i3e, i3q, inR, isC, isD, zi_0, zi_1, zi_2, zi_3, zi_4, zi_5, zi_6, zi_7, zi_8, zi_9, zi_10, zi_12, zi_20, zi_21, zi_30, zi_60, zi_90, zi_99, zi_100, zi_180, zi_240, zi_400, zi_500, zi_1000, zi_1199, zi_10000, zi_100000, zi_1000000, i3m1] at c2 h8 ⊢; omega)]); (first | done | rfl)); rw [e9]; exact ⟨rfl, rfl⟩) dX10_child_58
  · refine lv_if_ne (tgt := 21) hx hb dX10_child_9 (by decide) (fun hc => absurd (by decide) hc) (fun _ => ?_)
    refine lv_aload_n hx hb dX10_child_12 rfl (lv_at hl 0 rfl) ?_
    refine g_get C B (0) (Lc_in (by decide)) cE_0 rfl gf_10 0 (by decide) wl_226 (v := .ref (α 1)) cF_0_0 dX10_child_13 ?_
    refine lv_iconst (v := 1) hx hb dX10_child_16 (by decide) ?_
    refine gc_wl B (gr_V C B (k := 1) (As := [.int 1]) (rest := []) (c_X5_answer l D G τ α S J n _ 1 (by decide)) (Lc_in (by decide)) cE_1 rfl wl_267 wl_268 wl_269 wl_30 wl_270 (na := 1) (by decide +kernel) rfl ⟨Nat.le_of_ble_eq_true rfl, Nat.le_of_ble_eq_true rfl⟩ ⟨Nat.le_of_ble_eq_true rfl, Nat.le_of_ble_eq_true rfl⟩ hl.1 rfl (Nat.le_of_ble_eq_true rfl) dX10_child_17) (fun r u h H locs B => ?_)
    obtain ⟨rfl, rfl⟩ := h
    have B : gB D G τ (gA α (Lc n) sz) s H locs α (cE G α (sNo S 1).2 J n) (Lc n) := B
    exact ge_wl C B hr hlk (by have e9 : sp_child S mo = ((sNo S 1).1, (sNo S 1).2) := (by unfold sp_child; (first | rw [if_pos c1] | rw [if_neg c1] | rw [if_neg (not_not_intro c1)] | skip); (first | done | rfl)); rw [e9]; exact ⟨rfl, rfl⟩) dX10_child_20
set_option maxHeartbeats 4000000 in
set_option maxRecDepth 100000 in
theorem c_X10_fate (l : Launch) (D : va_G) (G : Nat → ClassId) (τ α : Nat → Nat) (S J : St) (n sz : Nat) (ch f mo : Int32) (hN : okN S) : Wl l D G τ yX10_fate cX10_fate 4 (some .long) 2 0 0 [.ref (α 0), .int ch, .int f, .int mo] α (cE G α S J n) (Lc n) sz (fun r u => r = (sp_fate S ch f mo).1 ∧ u = (α, cE G α (sp_fate S ch f mo).2 J n, Lc n)) := by
  refine gM _ (by decide) rfl (Nat.le_of_ble_eq_true rfl) ?_
  intro p e s m below meth c ls C hr hlk hnm hsz B hl
  have hx := C.1
  have hb := C.2.1
  have hl : lv_has ls 4 [(0, .ref (α 0)), (1, .int ch), (2, .int f), (3, .int mo)] := hl
  refine lv_aload_n hx hb dX10_fate_0 rfl (lv_at hl 0 rfl) ?_
  refine g_get C B (0) (Lc_in (by decide)) cE_0 rfl gf_10 3 (by decide) wl_229 (v := .ref (α 9)) cF_0_3 dX10_fate_1 ?_
  refine lv_iload_n hx hb dX10_fate_4 rfl (lv_at hl 1 rfl) ?_
  refine gc_b (gr_V C B (k := 9) (As := [.int ch]) (rest := []) (c_X0_has l D G τ α S J n _ ch) (Lc_in (by decide)) cE_9 rfl wl_444 wl_445 wl_446 wl_33 wl_447 (na := 1) (by decide +kernel) rfl ⟨Nat.le_of_ble_eq_true rfl, Nat.le_of_ble_eq_true rfl⟩ ⟨Nat.le_of_ble_eq_true rfl, Nat.le_of_ble_eq_true rfl⟩ hl.1 rfl (Nat.le_of_ble_eq_true rfl) dX10_fate_5) (fun c1 => ?_) (fun c1 => ?_)
  · refine lv_if_eq (tgt := 20) hx hb dX10_fate_8 (by decide) (fun hc => absurd hc (by decide)) (fun _ => ?_)
    refine lv_iload_n hx hb dX10_fate_11 rfl (lv_at hl 2 rfl) ?_
    refine lv_iconst (v := 0) hx hb dX10_fate_12 (by decide) ?_
    refine lv_iconst (v := 3) hx hb dX10_fate_13 (by decide) ?_
    refine gc_b (gr_S C B (As := [.int f, .int 0, .int 3]) (rest := []) (c_X10_isWithin l D G τ α _ _ _ f 0 3) wl_264 wl_265 wl_29 wl_266 (na := 3) (by decide +kernel) rfl ⟨Nat.le_of_ble_eq_true rfl, Nat.le_of_ble_eq_true rfl⟩ ⟨Nat.le_of_ble_eq_true rfl, Nat.le_of_ble_eq_true rfl⟩ hl.1 rfl (Nat.le_of_ble_eq_true rfl) dX10_fate_14) (fun c2 => ?_) (fun c2 => ?_)
    · refine lv_if_ne (tgt := 29) hx hb dX10_fate_17 (by decide) (fun _ => ?_) (fun hc => absurd hc (by decide))
      refine lv_iload_n hx hb dX10_fate_29 rfl (lv_at hl 2 rfl) ?_
      refine lv_iconst (v := 3) hx hb dX10_fate_30 (by decide) ?_
      refine lv_icmp_eq (tgt := 61) hx hb dX10_fate_31 (by decide) (fun c3 => ?_) (fun c3 => ?_)
      · refine lv_aload_n hx hb dX10_fate_61 rfl (lv_at hl 0 rfl) ?_
        refine g_get C B (0) (Lc_in (by decide)) cE_0 rfl gf_10 3 (by decide) wl_229 (v := .ref (α 9)) cF_0_3 dX10_fate_62 ?_
        refine gc_b (gr_V C B (k := 9) (As := []) (rest := []) (c_X0_areFatesFull l D G τ α S J n _) (Lc_in (by decide)) cE_9 rfl wl_452 wl_453 wl_454 wl_33 wl_455 (na := 0) (by decide +kernel) rfl ⟨Nat.le_of_ble_eq_true rfl, Nat.le_of_ble_eq_true rfl⟩ ⟨Nat.le_of_ble_eq_true rfl, Nat.le_of_ble_eq_true rfl⟩ hl.1 rfl (Nat.le_of_ble_eq_true rfl) dX10_fate_65) (fun c4 => ?_) (fun c4 => ?_)
        · refine lv_if_eq (tgt := 80) hx hb dX10_fate_68 (by decide) (fun hc => absurd hc (by decide)) (fun _ => ?_)
          refine lv_aload_n hx hb dX10_fate_71 rfl (lv_at hl 0 rfl) ?_
          refine g_get C B (0) (Lc_in (by decide)) cE_0 rfl gf_10 0 (by decide) wl_226 (v := .ref (α 1)) cF_0_0 dX10_fate_72 ?_
          refine lv_iconst (v := 4) hx hb dX10_fate_75 (by decide) ?_
          refine gc_wl B (gr_V C B (k := 1) (As := [.int 4]) (rest := []) (c_X5_answer l D G τ α S J n _ 4 (by decide)) (Lc_in (by decide)) cE_1 rfl wl_267 wl_268 wl_269 wl_30 wl_270 (na := 1) (by decide +kernel) rfl ⟨Nat.le_of_ble_eq_true rfl, Nat.le_of_ble_eq_true rfl⟩ ⟨Nat.le_of_ble_eq_true rfl, Nat.le_of_ble_eq_true rfl⟩ hl.1 rfl (Nat.le_of_ble_eq_true rfl) dX10_fate_76) (fun r u h H locs B => ?_)
          obtain ⟨rfl, rfl⟩ := h
          have B : gB D G τ (gA α (Lc n) sz) s H locs α (cE G α (sNo S 4).2 J n) (Lc n) := B
          exact ge_wl C B hr hlk (by have e9 : sp_fate S ch f mo = ((sNo S 4).1, (sNo S 4).2) := (by unfold sp_fate sp_fateT; (first | rw [if_pos c1] | rw [if_neg c1] | rw [if_neg (not_not_intro c1)] | skip); (first | rw [if_pos c2] | rw [if_neg c2] | rw [if_neg (not_not_intro c2)] | skip); (first | rw [if_pos (show f < 3 by simp only [i3l, i3e, i3q, inR, isC, isD, zi_0, zi_1, zi_2, zi_3, zi_4, zi_5, zi_6, zi_7, zi_8, zi_9, zi_10, zi_12, zi_20, zi_21, zi_30, zi_60, zi_90, zi_99, zi_100, zi_180, zi_240, zi_400, zi_500, zi_1000, zi_1199, zi_10000, zi_100000, zi_1000000, i3m1] at c2 c3 ⊢; omega)] | rw [if_neg (show ¬ f < 3 by simp only [i3l, i3e, i3q, inR, isC, isD, zi_0, zi_1, zi_2, zi_3, zi_4, zi_5, zi_6, zi_7, zi_8, zi_9, zi_10, zi_12, zi_20, zi_21, zi_30, zi_60, zi_90, zi_99, zi_100, zi_180, zi_240, zi_400, zi_500, zi_1000, zi_1199, zi_10000, zi_100000, zi_1000000, i3m1] at c2 c3 ⊢; omega)]); (first | rw [if_pos (show S.1 10 = 90 by have h8 := hN.2.2.2.1.2; simp only [i3l, i3e, i3q, inR, isC, isD, zi_0, zi_1, zi_2, zi_3, zi_4, zi_5, zi_6, zi_7, zi_8, zi_9, zi_10, zi_12, zi_20, zi_21, zi_30, zi_60, zi_90, zi_99, zi_100, zi_180, zi_240, zi_400, zi_500, zi_1000, zi_1199, zi_10000, zi_100000, zi_1000000, i3m1] at c4 h8 ⊢; omega)] | rw [if_neg (show ¬ S.1 10 = 90 by have h8 := hN.2.2.2.1.2; simp only [i3l, i3e, i3q, inR, isC, isD, zi_0, zi_1, zi_2, zi_3, zi_4, zi_5, zi_6, zi_7, zi_8, zi_9, zi_10, zi_12, zi_20, zi_21, zi_30, zi_60, zi_90, zi_99, zi_100, zi_180, zi_240, zi_400, zi_500, zi_1000, zi_1199, zi_10000, zi_100000, zi_1000000, i3m1] at c4 h8 ⊢; omega)]); (first | done | rfl)); rw [e9]; exact ⟨rfl, rfl⟩) dX10_fate_79
        · refine lv_if_eq (tgt := 80) hx hb dX10_fate_68 (by decide) (fun _ => ?_) (fun hc => absurd (by decide) hc)
          refine lv_aload_n hx hb dX10_fate_80 rfl (lv_at hl 0 rfl) ?_
          refine g_get C B (0) (Lc_in (by decide)) cE_0 rfl gf_10 3 (by decide) wl_229 (v := .ref (α 9)) cF_0_3 dX10_fate_81 ?_
          refine lv_iload_n hx hb dX10_fate_84 rfl (lv_at hl 1 rfl) ?_
          refine lv_iload_n hx hb dX10_fate_85 rfl (lv_at hl 2 rfl) ?_
          refine lv_iload_n hx hb dX10_fate_86 rfl (lv_at hl 3 rfl) ?_
          refine lv_aload_n hx hb dX10_fate_87 rfl (lv_at hl 0 rfl) ?_
          refine g_get C B (0) (Lc_in (by decide)) cE_0 rfl gf_10 10 (by decide) wl_236 (v := .int (S.1 0)) cF_0_10 dX10_fate_88 ?_
          refine gc_wv B (gr_V C B (k := 9) (As := [.int ch, .int f, .int mo, .int (S.1 0)]) (rest := []) (c_X0_addFate l D G τ α S J n _ ch f mo (S.1 0) c4 hN.2.2.2.1.1) (Lc_in (by decide)) cE_9 rfl wl_456 wl_457 wl_458 wl_33 wl_459 (na := 4) (by decide +kernel) rfl ⟨Nat.le_of_ble_eq_true rfl, Nat.le_of_ble_eq_true rfl⟩ ⟨Nat.le_of_ble_eq_true rfl, Nat.le_of_ble_eq_true rfl⟩ hl.1 rfl (Nat.le_of_ble_eq_true rfl) dX10_fate_91) (fun u h H locs B => ?_)
          subst h
          have B : gB D G τ (gA α (Lc n) sz) s H locs α (cE G α (uI (uA (uA (uA (uA S 11 (upd (S.2.2.1 11) (nOf S 10) ch)) 12 (upd (S.2.2.1 12) (nOf S 10) f)) 13 (upd (S.2.2.1 13) (nOf S 10) mo)) 14 (upd (S.2.2.1 14) (nOf S 10) (S.1 0))) 10 (S.1 10 + 1)) J n) (Lc n) := B
          refine lv_aload_n hx hb dX10_fate_94 rfl (lv_at hl 0 rfl) ?_
          refine g_get C B (0) (Lc_in (by decide)) cE_0 rfl gf_10 3 (by decide) wl_229 (v := .ref (α 9)) cF_0_3 dX10_fate_95 ?_
          refine g_get C B (9) (Lc_in (by decide)) cE_9 rfl gf_0 6 (by decide) wl_103 (v := .int ((uI (uA (uA (uA (uA S 11 (upd (S.2.2.1 11) (nOf S 10) ch)) 12 (upd (S.2.2.1 12) (nOf S 10) f)) 13 (upd (S.2.2.1 13) (nOf S 10) mo)) 14 (upd (S.2.2.1 14) (nOf S 10) (S.1 0))) 10 (S.1 10 + 1)).1 10)) cF_9_6 dX10_fate_98 ?_
          refine lv_i2l (v := ((uI (uA (uA (uA (uA S 11 (upd (S.2.2.1 11) (nOf S 10) ch)) 12 (upd (S.2.2.1 12) (nOf S 10) f)) 13 (upd (S.2.2.1 13) (nOf S 10) mo)) 14 (upd (S.2.2.1 14) (nOf S 10) (S.1 0))) 10 (S.1 10 + 1)).1 10).toInt64) hx hb dX10_fate_101 rfl ?_
          exact ge_wl C B hr hlk (by have e9 : sp_fate S ch f mo = (((uI (uA (uA (uA (uA S 11 (upd (S.2.2.1 11) (nOf S 10) ch)) 12 (upd (S.2.2.1 12) (nOf S 10) f)) 13 (upd (S.2.2.1 13) (nOf S 10) mo)) 14 (upd (S.2.2.1 14) (nOf S 10) (S.1 0))) 10 (S.1 10 + 1)).1 10).toInt64, (uI (uA (uA (uA (uA S 11 (upd (S.2.2.1 11) (nOf S 10) ch)) 12 (upd (S.2.2.1 12) (nOf S 10) f)) 13 (upd (S.2.2.1 13) (nOf S 10) mo)) 14 (upd (S.2.2.1 14) (nOf S 10) (S.1 0))) 10 (S.1 10 + 1))) := (by unfold sp_fate sp_fateT; (first | rw [if_pos c1] | rw [if_neg c1] | rw [if_neg (not_not_intro c1)] | skip); (first | rw [if_pos c2] | rw [if_neg c2] | rw [if_neg (not_not_intro c2)] | skip); (first | rw [if_pos (show f < 3 by simp only [i3l, i3e, i3q, inR, isC, isD, zi_0, zi_1, zi_2, zi_3, zi_4, zi_5, zi_6, zi_7, zi_8, zi_9, zi_10, zi_12, zi_20, zi_21, zi_30, zi_60, zi_90, zi_99, zi_100, zi_180, zi_240, zi_400, zi_500, zi_1000, zi_1199, zi_10000, zi_100000, zi_1000000, i3m1] at c2 c3 ⊢; omega)] | rw [if_neg (show ¬ f < 3 by simp only [i3l, i3e, i3q, inR, isC, isD, zi_0, zi_1, zi_2, zi_3, zi_4, zi_5, zi_6, zi_7, zi_8, zi_9, zi_10, zi_12, zi_20, zi_21, zi_30, zi_60, zi_90, zi_99, zi_100, zi_180, zi_240, zi_400, zi_500, zi_1000, zi_1199, zi_10000, zi_100000, zi_1000000, i3m1] at c2 c3 ⊢; omega)]); (first | rw [if_pos (show S.1 10 = 90 by have h8 := hN.2.2.2.1.2; simp only [i3l, i3e, i3q, inR, isC, isD, zi_0, zi_1, zi_2, zi_3, zi_4, zi_5, zi_6, zi_7, zi_8, zi_9, zi_10, zi_12, zi_20, zi_21, zi_30, zi_60, zi_90, zi_99, zi_100, zi_180, zi_240, zi_400, zi_500, zi_1000, zi_1199, zi_10000, zi_100000, zi_1000000, i3m1] at c4 h8 ⊢; omega)] | rw [if_neg (show ¬ S.1 10 = 90 by have h8 := hN.2.2.2.1.2; simp only [i3l, i3e, i3q, inR, isC, isD, zi_0, zi_1, zi_2, zi_3, zi_4, zi_5, zi_6, zi_7, zi_8, zi_9, zi_10, zi_12, zi_20, zi_21, zi_30, zi_60, zi_90, zi_99, zi_100, zi_180, zi_240, zi_400, zi_500, zi_1000, zi_1199, zi_10000, zi_100000, zi_1000000, i3m1] at c4 h8 ⊢; omega)]); (first | done | rfl)); rw [e9]; exact ⟨rfl, rfl⟩) dX10_fate_102
      · refine lv_iload_n hx hb dX10_fate_34 rfl (lv_at hl 3 rfl) ?_
        refine lv_aload_n hx hb dX10_fate_35 rfl (lv_at hl 0 rfl) ?_
        refine g_get C B (0) (Lc_in (by decide)) cE_0 rfl gf_10 3 (by decide) wl_229 (v := .ref (α 9)) cF_0_3 dX10_fate_36 ?_
        refine lv_iload_n hx hb dX10_fate_39 rfl (lv_at hl 1 rfl) ?_
        refine gc_i (gr_V C B (k := 9) (As := [.int ch]) (rest := [.int mo]) (c_X0_birthOf l D G τ α S J n _ ch c1 hN) (Lc_in (by decide)) cE_9 rfl wl_448 wl_449 wl_450 wl_33 wl_451 (na := 1) (by decide +kernel) rfl ⟨Nat.le_of_ble_eq_true rfl, Nat.le_of_ble_eq_true rfl⟩ ⟨Nat.le_of_ble_eq_true rfl, Nat.le_of_ble_eq_true rfl⟩ hl.1 rfl (Nat.le_of_ble_eq_true rfl) dX10_fate_40) (fun r h => ?_)
        subst h
        refine lv_sipush (v := 1199) hx hb dX10_fate_43 (by decide) ?_
        refine gc_b (gr_S C B (As := [.int mo, .int (S.2.2.1 9 ch.toNatClampNeg), .int 1199]) (rest := []) (c_X10_isWithin l D G τ α _ _ _ mo (S.2.2.1 9 ch.toNatClampNeg) 1199) wl_264 wl_265 wl_29 wl_266 (na := 3) (by decide +kernel) rfl ⟨Nat.le_of_ble_eq_true rfl, Nat.le_of_ble_eq_true rfl⟩ ⟨Nat.le_of_ble_eq_true rfl, Nat.le_of_ble_eq_true rfl⟩ hl.1 rfl (Nat.le_of_ble_eq_true rfl) dX10_fate_46) (fun c5 => ?_) (fun c5 => ?_)
        · refine lv_if_ne (tgt := 61) hx hb dX10_fate_49 (by decide) (fun _ => ?_) (fun hc => absurd hc (by decide))
          refine lv_aload_n hx hb dX10_fate_61 rfl (lv_at hl 0 rfl) ?_
          refine g_get C B (0) (Lc_in (by decide)) cE_0 rfl gf_10 3 (by decide) wl_229 (v := .ref (α 9)) cF_0_3 dX10_fate_62 ?_
          refine gc_b (gr_V C B (k := 9) (As := []) (rest := []) (c_X0_areFatesFull l D G τ α S J n _) (Lc_in (by decide)) cE_9 rfl wl_452 wl_453 wl_454 wl_33 wl_455 (na := 0) (by decide +kernel) rfl ⟨Nat.le_of_ble_eq_true rfl, Nat.le_of_ble_eq_true rfl⟩ ⟨Nat.le_of_ble_eq_true rfl, Nat.le_of_ble_eq_true rfl⟩ hl.1 rfl (Nat.le_of_ble_eq_true rfl) dX10_fate_65) (fun c6 => ?_) (fun c6 => ?_)
          · refine lv_if_eq (tgt := 80) hx hb dX10_fate_68 (by decide) (fun hc => absurd hc (by decide)) (fun _ => ?_)
            refine lv_aload_n hx hb dX10_fate_71 rfl (lv_at hl 0 rfl) ?_
            refine g_get C B (0) (Lc_in (by decide)) cE_0 rfl gf_10 0 (by decide) wl_226 (v := .ref (α 1)) cF_0_0 dX10_fate_72 ?_
            refine lv_iconst (v := 4) hx hb dX10_fate_75 (by decide) ?_
            refine gc_wl B (gr_V C B (k := 1) (As := [.int 4]) (rest := []) (c_X5_answer l D G τ α S J n _ 4 (by decide)) (Lc_in (by decide)) cE_1 rfl wl_267 wl_268 wl_269 wl_30 wl_270 (na := 1) (by decide +kernel) rfl ⟨Nat.le_of_ble_eq_true rfl, Nat.le_of_ble_eq_true rfl⟩ ⟨Nat.le_of_ble_eq_true rfl, Nat.le_of_ble_eq_true rfl⟩ hl.1 rfl (Nat.le_of_ble_eq_true rfl) dX10_fate_76) (fun r u h H locs B => ?_)
            obtain ⟨rfl, rfl⟩ := h
            have B : gB D G τ (gA α (Lc n) sz) s H locs α (cE G α (sNo S 4).2 J n) (Lc n) := B
            exact ge_wl C B hr hlk (by have e9 : sp_fate S ch f mo = ((sNo S 4).1, (sNo S 4).2) := (by unfold sp_fate sp_fateT; (first | rw [if_pos c1] | rw [if_neg c1] | rw [if_neg (not_not_intro c1)] | skip); (first | rw [if_pos c2] | rw [if_neg c2] | rw [if_neg (not_not_intro c2)] | skip); (first | rw [if_pos (show f < 3 by simp only [i3l, i3e, i3q, inR, isC, isD, zi_0, zi_1, zi_2, zi_3, zi_4, zi_5, zi_6, zi_7, zi_8, zi_9, zi_10, zi_12, zi_20, zi_21, zi_30, zi_60, zi_90, zi_99, zi_100, zi_180, zi_240, zi_400, zi_500, zi_1000, zi_1199, zi_10000, zi_100000, zi_1000000, i3m1] at c2 c3 ⊢; omega)] | rw [if_neg (show ¬ f < 3 by simp only [i3l, i3e, i3q, inR, isC, isD, zi_0, zi_1, zi_2, zi_3, zi_4, zi_5, zi_6, zi_7, zi_8, zi_9, zi_10, zi_12, zi_20, zi_21, zi_30, zi_60, zi_90, zi_99, zi_100, zi_180, zi_240, zi_400, zi_500, zi_1000, zi_1199, zi_10000, zi_100000, zi_1000000, i3m1] at c2 c3 ⊢; omega)]); (first | rw [if_pos c5] | rw [if_neg c5] | rw [if_neg (not_not_intro c5)] | skip); (first | rw [if_pos (show S.1 10 = 90 by have h8 := hN.2.2.2.1.2; simp only [i3l, i3e, i3q, inR, isC, isD, zi_0, zi_1, zi_2, zi_3, zi_4, zi_5, zi_6, zi_7, zi_8, zi_9, zi_10, zi_12, zi_20, zi_21, zi_30, zi_60, zi_90, zi_99, zi_100, zi_180, zi_240, zi_400, zi_500, zi_1000, zi_1199, zi_10000, zi_100000, zi_1000000, i3m1] at c6 h8 ⊢; omega)] | rw [if_neg (show ¬ S.1 10 = 90 by have h8 := hN.2.2.2.1.2; simp only [i3l, i3e, i3q, inR, isC, isD, zi_0, zi_1, zi_2, zi_3, zi_4, zi_5, zi_6, zi_7, zi_8, zi_9, zi_10, zi_12, zi_20, zi_21, zi_30, zi_60, zi_90, zi_99, zi_100, zi_180, zi_240, zi_400, zi_500, zi_1000, zi_1199, zi_10000, zi_100000, zi_1000000, i3m1] at c6 h8 ⊢; omega)]); (first | done | rfl)); rw [e9]; exact ⟨rfl, rfl⟩) dX10_fate_79
          · refine lv_if_eq (tgt := 80) hx hb dX10_fate_68 (by decide) (fun _ => ?_) (fun hc => absurd (by decide) hc)
            refine lv_aload_n hx hb dX10_fate_80 rfl (lv_at hl 0 rfl) ?_
            refine g_get C B (0) (Lc_in (by decide)) cE_0 rfl gf_10 3 (by decide) wl_229 (v := .ref (α 9)) cF_0_3 dX10_fate_81 ?_
            refine lv_iload_n hx hb dX10_fate_84 rfl (lv_at hl 1 rfl) ?_
            refine lv_iload_n hx hb dX10_fate_85 rfl (lv_at hl 2 rfl) ?_
            refine lv_iload_n hx hb dX10_fate_86 rfl (lv_at hl 3 rfl) ?_
            refine lv_aload_n hx hb dX10_fate_87 rfl (lv_at hl 0 rfl) ?_
            refine g_get C B (0) (Lc_in (by decide)) cE_0 rfl gf_10 10 (by decide) wl_236 (v := .int (S.1 0)) cF_0_10 dX10_fate_88 ?_
            refine gc_wv B (gr_V C B (k := 9) (As := [.int ch, .int f, .int mo, .int (S.1 0)]) (rest := []) (c_X0_addFate l D G τ α S J n _ ch f mo (S.1 0) c6 hN.2.2.2.1.1) (Lc_in (by decide)) cE_9 rfl wl_456 wl_457 wl_458 wl_33 wl_459 (na := 4) (by decide +kernel) rfl ⟨Nat.le_of_ble_eq_true rfl, Nat.le_of_ble_eq_true rfl⟩ ⟨Nat.le_of_ble_eq_true rfl, Nat.le_of_ble_eq_true rfl⟩ hl.1 rfl (Nat.le_of_ble_eq_true rfl) dX10_fate_91) (fun u h H locs B => ?_)
            subst h
            have B : gB D G τ (gA α (Lc n) sz) s H locs α (cE G α (uI (uA (uA (uA (uA S 11 (upd (S.2.2.1 11) (nOf S 10) ch)) 12 (upd (S.2.2.1 12) (nOf S 10) f)) 13 (upd (S.2.2.1 13) (nOf S 10) mo)) 14 (upd (S.2.2.1 14) (nOf S 10) (S.1 0))) 10 (S.1 10 + 1)) J n) (Lc n) := B
            refine lv_aload_n hx hb dX10_fate_94 rfl (lv_at hl 0 rfl) ?_
            refine g_get C B (0) (Lc_in (by decide)) cE_0 rfl gf_10 3 (by decide) wl_229 (v := .ref (α 9)) cF_0_3 dX10_fate_95 ?_
            refine g_get C B (9) (Lc_in (by decide)) cE_9 rfl gf_0 6 (by decide) wl_103 (v := .int ((uI (uA (uA (uA (uA S 11 (upd (S.2.2.1 11) (nOf S 10) ch)) 12 (upd (S.2.2.1 12) (nOf S 10) f)) 13 (upd (S.2.2.1 13) (nOf S 10) mo)) 14 (upd (S.2.2.1 14) (nOf S 10) (S.1 0))) 10 (S.1 10 + 1)).1 10)) cF_9_6 dX10_fate_98 ?_
            refine lv_i2l (v := ((uI (uA (uA (uA (uA S 11 (upd (S.2.2.1 11) (nOf S 10) ch)) 12 (upd (S.2.2.1 12) (nOf S 10) f)) 13 (upd (S.2.2.1 13) (nOf S 10) mo)) 14 (upd (S.2.2.1 14) (nOf S 10) (S.1 0))) 10 (S.1 10 + 1)).1 10).toInt64) hx hb dX10_fate_101 rfl ?_
            exact ge_wl C B hr hlk (by have e9 : sp_fate S ch f mo = (((uI (uA (uA (uA (uA S 11 (upd (S.2.2.1 11) (nOf S 10) ch)) 12 (upd (S.2.2.1 12) (nOf S 10) f)) 13 (upd (S.2.2.1 13) (nOf S 10) mo)) 14 (upd (S.2.2.1 14) (nOf S 10) (S.1 0))) 10 (S.1 10 + 1)).1 10).toInt64, (uI (uA (uA (uA (uA S 11 (upd (S.2.2.1 11) (nOf S 10) ch)) 12 (upd (S.2.2.1 12) (nOf S 10) f)) 13 (upd (S.2.2.1 13) (nOf S 10) mo)) 14 (upd (S.2.2.1 14) (nOf S 10) (S.1 0))) 10 (S.1 10 + 1))) := (by unfold sp_fate sp_fateT; (first | rw [if_pos c1] | rw [if_neg c1] | rw [if_neg (not_not_intro c1)] | skip); (first | rw [if_pos c2] | rw [if_neg c2] | rw [if_neg (not_not_intro c2)] | skip); (first | rw [if_pos (show f < 3 by simp only [i3l, i3e, i3q, inR, isC, isD, zi_0, zi_1, zi_2, zi_3, zi_4, zi_5, zi_6, zi_7, zi_8, zi_9, zi_10, zi_12, zi_20, zi_21, zi_30, zi_60, zi_90, zi_99, zi_100, zi_180, zi_240, zi_400, zi_500, zi_1000, zi_1199, zi_10000, zi_100000, zi_1000000, i3m1] at c2 c3 ⊢; omega)] | rw [if_neg (show ¬ f < 3 by simp only [i3l, i3e, i3q, inR, isC, isD, zi_0, zi_1, zi_2, zi_3, zi_4, zi_5, zi_6, zi_7, zi_8, zi_9, zi_10, zi_12, zi_20, zi_21, zi_30, zi_60, zi_90, zi_99, zi_100, zi_180, zi_240, zi_400, zi_500, zi_1000, zi_1199, zi_10000, zi_100000, zi_1000000, i3m1] at c2 c3 ⊢; omega)]); (first | rw [if_pos c5] | rw [if_neg c5] | rw [if_neg (not_not_intro c5)] | skip); (first | rw [if_pos (show S.1 10 = 90 by have h8 := hN.2.2.2.1.2; simp only [i3l, i3e, i3q, inR, isC, isD, zi_0, zi_1, zi_2, zi_3, zi_4, zi_5, zi_6, zi_7, zi_8, zi_9, zi_10, zi_12, zi_20, zi_21, zi_30, zi_60, zi_90, zi_99, zi_100, zi_180, zi_240, zi_400, zi_500, zi_1000, zi_1199, zi_10000, zi_100000, zi_1000000, i3m1] at c6 h8 ⊢; omega)] | rw [if_neg (show ¬ S.1 10 = 90 by have h8 := hN.2.2.2.1.2; simp only [i3l, i3e, i3q, inR, isC, isD, zi_0, zi_1, zi_2, zi_3, zi_4, zi_5, zi_6, zi_7, zi_8, zi_9, zi_10, zi_12, zi_20, zi_21, zi_30, zi_60, zi_90, zi_99, zi_100, zi_180, zi_240, zi_400, zi_500, zi_1000, zi_1199, zi_10000, zi_100000, zi_1000000, i3m1] at c6 h8 ⊢; omega)]); (first | done | rfl)); rw [e9]; exact ⟨rfl, rfl⟩) dX10_fate_102
        · refine lv_if_ne (tgt := 61) hx hb dX10_fate_49 (by decide) (fun hc => absurd (by decide) hc) (fun _ => ?_)
          refine lv_aload_n hx hb dX10_fate_52 rfl (lv_at hl 0 rfl) ?_
          refine g_get C B (0) (Lc_in (by decide)) cE_0 rfl gf_10 0 (by decide) wl_226 (v := .ref (α 1)) cF_0_0 dX10_fate_53 ?_
          refine lv_iconst (v := 1) hx hb dX10_fate_56 (by decide) ?_
          refine gc_wl B (gr_V C B (k := 1) (As := [.int 1]) (rest := []) (c_X5_answer l D G τ α S J n _ 1 (by decide)) (Lc_in (by decide)) cE_1 rfl wl_267 wl_268 wl_269 wl_30 wl_270 (na := 1) (by decide +kernel) rfl ⟨Nat.le_of_ble_eq_true rfl, Nat.le_of_ble_eq_true rfl⟩ ⟨Nat.le_of_ble_eq_true rfl, Nat.le_of_ble_eq_true rfl⟩ hl.1 rfl (Nat.le_of_ble_eq_true rfl) dX10_fate_57) (fun r u h H locs B => ?_)
          obtain ⟨rfl, rfl⟩ := h
          have B : gB D G τ (gA α (Lc n) sz) s H locs α (cE G α (sNo S 1).2 J n) (Lc n) := B
          exact ge_wl C B hr hlk (by have e9 : sp_fate S ch f mo = ((sNo S 1).1, (sNo S 1).2) := (by unfold sp_fate sp_fateT; (first | rw [if_pos c1] | rw [if_neg c1] | rw [if_neg (not_not_intro c1)] | skip); (first | rw [if_pos c2] | rw [if_neg c2] | rw [if_neg (not_not_intro c2)] | skip); (first | rw [if_pos (show f < 3 by simp only [i3l, i3e, i3q, inR, isC, isD, zi_0, zi_1, zi_2, zi_3, zi_4, zi_5, zi_6, zi_7, zi_8, zi_9, zi_10, zi_12, zi_20, zi_21, zi_30, zi_60, zi_90, zi_99, zi_100, zi_180, zi_240, zi_400, zi_500, zi_1000, zi_1199, zi_10000, zi_100000, zi_1000000, i3m1] at c2 c3 ⊢; omega)] | rw [if_neg (show ¬ f < 3 by simp only [i3l, i3e, i3q, inR, isC, isD, zi_0, zi_1, zi_2, zi_3, zi_4, zi_5, zi_6, zi_7, zi_8, zi_9, zi_10, zi_12, zi_20, zi_21, zi_30, zi_60, zi_90, zi_99, zi_100, zi_180, zi_240, zi_400, zi_500, zi_1000, zi_1199, zi_10000, zi_100000, zi_1000000, i3m1] at c2 c3 ⊢; omega)]); (first | rw [if_pos c5] | rw [if_neg c5] | rw [if_neg (not_not_intro c5)] | skip); (first | done | rfl)); rw [e9]; exact ⟨rfl, rfl⟩) dX10_fate_60
    · refine lv_if_ne (tgt := 29) hx hb dX10_fate_17 (by decide) (fun hc => absurd (by decide) hc) (fun _ => ?_)
      refine lv_aload_n hx hb dX10_fate_20 rfl (lv_at hl 0 rfl) ?_
      refine g_get C B (0) (Lc_in (by decide)) cE_0 rfl gf_10 0 (by decide) wl_226 (v := .ref (α 1)) cF_0_0 dX10_fate_21 ?_
      refine lv_iconst (v := 1) hx hb dX10_fate_24 (by decide) ?_
      refine gc_wl B (gr_V C B (k := 1) (As := [.int 1]) (rest := []) (c_X5_answer l D G τ α S J n _ 1 (by decide)) (Lc_in (by decide)) cE_1 rfl wl_267 wl_268 wl_269 wl_30 wl_270 (na := 1) (by decide +kernel) rfl ⟨Nat.le_of_ble_eq_true rfl, Nat.le_of_ble_eq_true rfl⟩ ⟨Nat.le_of_ble_eq_true rfl, Nat.le_of_ble_eq_true rfl⟩ hl.1 rfl (Nat.le_of_ble_eq_true rfl) dX10_fate_25) (fun r u h H locs B => ?_)
      obtain ⟨rfl, rfl⟩ := h
      have B : gB D G τ (gA α (Lc n) sz) s H locs α (cE G α (sNo S 1).2 J n) (Lc n) := B
      exact ge_wl C B hr hlk (by have e9 : sp_fate S ch f mo = ((sNo S 1).1, (sNo S 1).2) := (by unfold sp_fate sp_fateT; (first | rw [if_pos c1] | rw [if_neg c1] | rw [if_neg (not_not_intro c1)] | skip); (first | rw [if_pos c2] | rw [if_neg c2] | rw [if_neg (not_not_intro c2)] | skip); (first | done | rfl)); rw [e9]; exact ⟨rfl, rfl⟩) dX10_fate_28
  · refine lv_if_eq (tgt := 20) hx hb dX10_fate_8 (by decide) (fun _ => ?_) (fun hc => absurd (by decide) hc)
    refine lv_aload_n hx hb dX10_fate_20 rfl (lv_at hl 0 rfl) ?_
    refine g_get C B (0) (Lc_in (by decide)) cE_0 rfl gf_10 0 (by decide) wl_226 (v := .ref (α 1)) cF_0_0 dX10_fate_21 ?_
    refine lv_iconst (v := 1) hx hb dX10_fate_24 (by decide) ?_
    refine gc_wl B (gr_V C B (k := 1) (As := [.int 1]) (rest := []) (c_X5_answer l D G τ α S J n _ 1 (by decide)) (Lc_in (by decide)) cE_1 rfl wl_267 wl_268 wl_269 wl_30 wl_270 (na := 1) (by decide +kernel) rfl ⟨Nat.le_of_ble_eq_true rfl, Nat.le_of_ble_eq_true rfl⟩ ⟨Nat.le_of_ble_eq_true rfl, Nat.le_of_ble_eq_true rfl⟩ hl.1 rfl (Nat.le_of_ble_eq_true rfl) dX10_fate_25) (fun r u h H locs B => ?_)
    obtain ⟨rfl, rfl⟩ := h
    have B : gB D G τ (gA α (Lc n) sz) s H locs α (cE G α (sNo S 1).2 J n) (Lc n) := B
    exact ge_wl C B hr hlk (by have e9 : sp_fate S ch f mo = ((sNo S 1).1, (sNo S 1).2) := (by unfold sp_fate sp_fateT; (first | rw [if_pos c1] | rw [if_neg c1] | rw [if_neg (not_not_intro c1)] | skip); (first | done | rfl)); rw [e9]; exact ⟨rfl, rfl⟩) dX10_fate_28
set_option maxHeartbeats 4000000 in
set_option maxRecDepth 100000 in
theorem c_X10_told (l : Launch) (D : va_G) (G : Nat → ClassId) (τ α : Nat → Nat) (S J : St) (n sz : Nat) (ch k mb : Int32) (hN : okN S) (hF : okF S) : Wl l D G τ yX10_told cX10_told 5 (some .long) 2 0 0 [.ref (α 0), .int ch, .int k, .int mb] α (cE G α S J n) (Lc n) sz (fun r u => r = (sp_told S ch k mb).1 ∧ u = (α, cE G α (sp_told S ch k mb).2 J n, Lc n)) := by
  refine gM _ (by decide) rfl (Nat.le_of_ble_eq_true rfl) ?_
  intro p e s m below meth c ls C hr hlk hnm hsz B hl
  have hx := C.1
  have hb := C.2.1
  have hl : lv_has ls 5 [(0, .ref (α 0)), (1, .int ch), (2, .int k), (3, .int mb)] := hl
  refine lv_aload_n hx hb dX10_told_0 rfl (lv_at hl 0 rfl) ?_
  refine g_get C B (0) (Lc_in (by decide)) cE_0 rfl gf_10 3 (by decide) wl_229 (v := .ref (α 9)) cF_0_3 dX10_told_1 ?_
  refine lv_iload_n hx hb dX10_told_4 rfl (lv_at hl 1 rfl) ?_
  refine gc_b (gr_V C B (k := 9) (As := [.int ch]) (rest := []) (c_X0_has l D G τ α S J n _ ch) (Lc_in (by decide)) cE_9 rfl wl_444 wl_445 wl_446 wl_33 wl_447 (na := 1) (by decide +kernel) rfl ⟨Nat.le_of_ble_eq_true rfl, Nat.le_of_ble_eq_true rfl⟩ ⟨Nat.le_of_ble_eq_true rfl, Nat.le_of_ble_eq_true rfl⟩ hl.1 rfl (Nat.le_of_ble_eq_true rfl) dX10_told_5) (fun c1 => ?_) (fun c1 => ?_)
  · refine lv_if_eq (tgt := 18) hx hb dX10_told_8 (by decide) (fun hc => absurd hc (by decide)) (fun _ => ?_)
    refine lv_iload_n hx hb dX10_told_11 rfl (lv_at hl 2 rfl) ?_
    refine gc_b (gr_S C B (As := [.int k]) (rest := []) (c_X10_isMonth l D G τ α _ _ _ k) wl_399 wl_400 wl_29 wl_401 (na := 1) (by decide +kernel) rfl ⟨Nat.le_of_ble_eq_true rfl, Nat.le_of_ble_eq_true rfl⟩ ⟨Nat.le_of_ble_eq_true rfl, Nat.le_of_ble_eq_true rfl⟩ hl.1 rfl (Nat.le_of_ble_eq_true rfl) dX10_told_12) (fun c2 => ?_) (fun c2 => ?_)
    · refine lv_if_ne (tgt := 27) hx hb dX10_told_15 (by decide) (fun _ => ?_) (fun hc => absurd hc (by decide))
      refine lv_aload_n hx hb dX10_told_27 rfl (lv_at hl 0 rfl) ?_
      refine g_get C B (0) (Lc_in (by decide)) cE_0 rfl gf_10 3 (by decide) wl_229 (v := .ref (α 9)) cF_0_3 dX10_told_28 ?_
      refine lv_iload_n hx hb dX10_told_31 rfl (lv_at hl 1 rfl) ?_
      refine lv_iload_n hx hb dX10_told_32 rfl (lv_at hl 2 rfl) ?_
      refine gc_o (oI := oI) (gr_V C B (k := 9) (As := [.int ch, .int k]) (rest := []) (c_X0_fateRow l D G τ α S J n _ ch k hN hF) (Lc_in (by decide)) cE_9 rfl wl_465 wl_290 wl_291 wl_33 wl_292 (na := 2) (by decide +kernel) rfl ⟨Nat.le_of_ble_eq_true rfl, Nat.le_of_ble_eq_true rfl⟩ ⟨Nat.le_of_ble_eq_true rfl, Nat.le_of_ble_eq_true rfl⟩ hl.1 rfl (Nat.le_of_ble_eq_true rfl) dX10_told_33) (fun o3 => ?_) (fun f4 o3 => ?_)
      · refine lv_istore (lv' := [(4, .int (-1)), (0, .ref (α 0)), (1, .int ch), (2, .int k), (3, .int mb)]) hx hb dX10_told_36 hl (by decide) rfl (fun ls hl => ?_)
        refine lv_iload hx hb dX10_told_38 (lv_at hl 0 rfl) ?_
        refine lv_iconst (v := (-1)) hx hb dX10_told_40 (by decide) ?_
        refine lv_icmp_ne (tgt := 53) hx hb dX10_told_41 (by decide) (fun hc => absurd (by decide) hc) (fun _ => ?_)
        refine lv_aload_n hx hb dX10_told_44 rfl (lv_at hl 1 rfl) ?_
        refine g_get C B (0) (Lc_in (by decide)) cE_0 rfl gf_10 0 (by decide) wl_226 (v := .ref (α 1)) cF_0_0 dX10_told_45 ?_
        refine lv_iconst (v := 2) hx hb dX10_told_48 (by decide) ?_
        refine gc_wl B (gr_V C B (k := 1) (As := [.int 2]) (rest := []) (c_X5_answer l D G τ α S J n _ 2 (by decide)) (Lc_in (by decide)) cE_1 rfl wl_267 wl_268 wl_269 wl_30 wl_270 (na := 1) (by decide +kernel) rfl ⟨Nat.le_of_ble_eq_true rfl, Nat.le_of_ble_eq_true rfl⟩ ⟨Nat.le_of_ble_eq_true rfl, Nat.le_of_ble_eq_true rfl⟩ hl.1 rfl (Nat.le_of_ble_eq_true rfl) dX10_told_49) (fun r u h H locs B => ?_)
        obtain ⟨rfl, rfl⟩ := h
        have B : gB D G τ (gA α (Lc n) sz) s H locs α (cE G α (sNo S 2).2 J n) (Lc n) := B
        exact ge_wl C B hr hlk (by have e9 : sp_told S ch k mb = ((sNo S 2).1, (sNo S 2).2) := (by unfold sp_told; (first | rw [if_pos c1] | rw [if_neg c1] | rw [if_neg (not_not_intro c1)] | skip); (first | rw [if_pos c2] | rw [if_neg c2] | rw [if_neg (not_not_intro c2)] | skip); (first | rw [o3] | skip); (try dsimp only); (first | done | rfl)); rw [e9]; exact ⟨rfl, rfl⟩) dX10_told_52
      · have f4_b : f4 < 90 := Nat.lt_of_lt_of_le (sFate_lt o3).1 (nOf_le hN.2.2.2.1.1 hN.2.2.2.1.2 (by decide))
        refine lv_istore (lv' := [(4, .int (nI f4)), (0, .ref (α 0)), (1, .int ch), (2, .int k), (3, .int mb)]) hx hb dX10_told_36 hl (by decide) rfl (fun ls hl => ?_)
        refine lv_iload hx hb dX10_told_38 (lv_at hl 0 rfl) ?_
        refine lv_iconst (v := (-1)) hx hb dX10_told_40 (by decide) ?_
        refine lv_icmp_ne (tgt := 53) hx hb dX10_told_41 (by decide) (fun _ => ?_) (fun hc => absurd hc (nI_m1 (by omega)))
        refine lv_iload_n hx hb dX10_told_53 rfl (lv_at hl 4 rfl) ?_
        refine lv_if_eq (tgt := 70) hx hb dX10_told_54 (by decide) (fun c5 => ?_) (fun c5 => ?_)
        · refine lv_aload_n hx hb dX10_told_70 rfl (lv_at hl 1 rfl) ?_
          refine g_get C B (0) (Lc_in (by decide)) cE_0 rfl gf_10 3 (by decide) wl_229 (v := .ref (α 9)) cF_0_3 dX10_told_71 ?_
          refine lv_iload hx hb dX10_told_74 (lv_at hl 0 rfl) ?_
          refine gc_i (gr_V C B (k := 9) (As := [.int (nI f4)]) (rest := []) (c_X0_fateOf l D G τ α S J n _ f4 (by omega)) (Lc_in (by decide)) cE_9 rfl wl_467 wl_306 wl_307 wl_33 wl_308 (na := 1) (by decide +kernel) rfl ⟨Nat.le_of_ble_eq_true rfl, Nat.le_of_ble_eq_true rfl⟩ ⟨Nat.le_of_ble_eq_true rfl, Nat.le_of_ble_eq_true rfl⟩ hl.1 rfl (Nat.le_of_ble_eq_true rfl) dX10_told_76) (fun r h => ?_)
          subst h
          refine lv_i2l (v := (S.2.2.1 12 f4).toInt64) hx hb dX10_told_79 rfl ?_
          exact ge_wl C B hr hlk (by have e9 : sp_told S ch k mb = ((S.2.2.1 12 f4).toInt64, S) := (by unfold sp_told; (first | rw [if_pos c1] | rw [if_neg c1] | rw [if_neg (not_not_intro c1)] | skip); (first | rw [if_pos c2] | rw [if_neg c2] | rw [if_neg (not_not_intro c2)] | skip); (first | rw [o3] | skip); (try dsimp only); (first | rw [if_pos c5] | rw [if_neg c5] | rw [if_neg (not_not_intro c5)] | skip); (first | done | rfl)); rw [e9]; exact ⟨rfl, rfl⟩) dX10_told_80
        · refine lv_aload_n hx hb dX10_told_57 rfl (lv_at hl 1 rfl) ?_
          refine g_get C B (0) (Lc_in (by decide)) cE_0 rfl gf_10 3 (by decide) wl_229 (v := .ref (α 9)) cF_0_3 dX10_told_58 ?_
          refine lv_iload hx hb dX10_told_61 (lv_at hl 0 rfl) ?_
          refine gc_i (gr_V C B (k := 9) (As := [.int (nI f4)]) (rest := []) (c_X0_monthOf l D G τ α S J n _ f4 (by omega)) (Lc_in (by decide)) cE_9 rfl wl_466 wl_297 wl_298 wl_33 wl_299 (na := 1) (by decide +kernel) rfl ⟨Nat.le_of_ble_eq_true rfl, Nat.le_of_ble_eq_true rfl⟩ ⟨Nat.le_of_ble_eq_true rfl, Nat.le_of_ble_eq_true rfl⟩ hl.1 rfl (Nat.le_of_ble_eq_true rfl) dX10_told_63) (fun r h => ?_)
          subst h
          refine lv_i2l (v := (S.2.2.1 13 f4).toInt64) hx hb dX10_told_66 rfl ?_
          refine lv_goto (tgt := 80) hx hb dX10_told_67 (by decide) ?_
          exact ge_wl C B hr hlk (by have e9 : sp_told S ch k mb = ((S.2.2.1 13 f4).toInt64, S) := (by unfold sp_told; (first | rw [if_pos c1] | rw [if_neg c1] | rw [if_neg (not_not_intro c1)] | skip); (first | rw [if_pos c2] | rw [if_neg c2] | rw [if_neg (not_not_intro c2)] | skip); (first | rw [o3] | skip); (try dsimp only); (first | rw [if_pos c5] | rw [if_neg c5] | rw [if_neg (not_not_intro c5)] | skip); (first | done | rfl)); rw [e9]; exact ⟨rfl, rfl⟩) dX10_told_80
    · refine lv_if_ne (tgt := 27) hx hb dX10_told_15 (by decide) (fun hc => absurd (by decide) hc) (fun _ => ?_)
      refine lv_aload_n hx hb dX10_told_18 rfl (lv_at hl 0 rfl) ?_
      refine g_get C B (0) (Lc_in (by decide)) cE_0 rfl gf_10 0 (by decide) wl_226 (v := .ref (α 1)) cF_0_0 dX10_told_19 ?_
      refine lv_iconst (v := 1) hx hb dX10_told_22 (by decide) ?_
      refine gc_wl B (gr_V C B (k := 1) (As := [.int 1]) (rest := []) (c_X5_answer l D G τ α S J n _ 1 (by decide)) (Lc_in (by decide)) cE_1 rfl wl_267 wl_268 wl_269 wl_30 wl_270 (na := 1) (by decide +kernel) rfl ⟨Nat.le_of_ble_eq_true rfl, Nat.le_of_ble_eq_true rfl⟩ ⟨Nat.le_of_ble_eq_true rfl, Nat.le_of_ble_eq_true rfl⟩ hl.1 rfl (Nat.le_of_ble_eq_true rfl) dX10_told_23) (fun r u h H locs B => ?_)
      obtain ⟨rfl, rfl⟩ := h
      have B : gB D G τ (gA α (Lc n) sz) s H locs α (cE G α (sNo S 1).2 J n) (Lc n) := B
      exact ge_wl C B hr hlk (by have e9 : sp_told S ch k mb = ((sNo S 1).1, (sNo S 1).2) := (by unfold sp_told; (first | rw [if_pos c1] | rw [if_neg c1] | rw [if_neg (not_not_intro c1)] | skip); (first | rw [if_pos c2] | rw [if_neg c2] | rw [if_neg (not_not_intro c2)] | skip); (first | done | rfl)); rw [e9]; exact ⟨rfl, rfl⟩) dX10_told_26
  · refine lv_if_eq (tgt := 18) hx hb dX10_told_8 (by decide) (fun _ => ?_) (fun hc => absurd (by decide) hc)
    refine lv_aload_n hx hb dX10_told_18 rfl (lv_at hl 0 rfl) ?_
    refine g_get C B (0) (Lc_in (by decide)) cE_0 rfl gf_10 0 (by decide) wl_226 (v := .ref (α 1)) cF_0_0 dX10_told_19 ?_
    refine lv_iconst (v := 1) hx hb dX10_told_22 (by decide) ?_
    refine gc_wl B (gr_V C B (k := 1) (As := [.int 1]) (rest := []) (c_X5_answer l D G τ α S J n _ 1 (by decide)) (Lc_in (by decide)) cE_1 rfl wl_267 wl_268 wl_269 wl_30 wl_270 (na := 1) (by decide +kernel) rfl ⟨Nat.le_of_ble_eq_true rfl, Nat.le_of_ble_eq_true rfl⟩ ⟨Nat.le_of_ble_eq_true rfl, Nat.le_of_ble_eq_true rfl⟩ hl.1 rfl (Nat.le_of_ble_eq_true rfl) dX10_told_23) (fun r u h H locs B => ?_)
    obtain ⟨rfl, rfl⟩ := h
    have B : gB D G τ (gA α (Lc n) sz) s H locs α (cE G α (sNo S 1).2 J n) (Lc n) := B
    exact ge_wl C B hr hlk (by have e9 : sp_told S ch k mb = ((sNo S 1).1, (sNo S 1).2) := (by unfold sp_told; (first | rw [if_pos c1] | rw [if_neg c1] | rw [if_neg (not_not_intro c1)] | skip); (first | done | rfl)); rw [e9]; exact ⟨rfl, rfl⟩) dX10_told_26
set_option maxHeartbeats 4000000 in
set_option maxRecDepth 100000 in
theorem c_X10_as (l : Launch) (D : va_G) (G : Nat → ClassId) (τ α : Nat → Nat) (S J : St) (n sz : Nat) (d k : Int32) (hN : okN S) (hn : S.1 15 = nI n) (hn30 : n ≤ 30) : Wl l D G τ yX10_as cX10_as 4 (some .long) 2 0 0 [.ref (α 0), .int d, .int k] α (cE G α S J n) (Lc n) sz (fun r u => r = (sp_as S d k).1 ∧ u = (α, cE G α (sp_as S d k).2 J n, Lc n)) := by
  refine gM _ (by decide) rfl (Nat.le_of_ble_eq_true rfl) ?_
  intro p e s m below meth c ls C hr hlk hnm hsz B hl
  have hx := C.1
  have hb := C.2.1
  have hl : lv_has ls 4 [(0, .ref (α 0)), (1, .int d), (2, .int k)] := hl
  refine lv_aload_n hx hb dX10_as_0 rfl (lv_at hl 0 rfl) ?_
  refine g_get C B (0) (Lc_in (by decide)) cE_0 rfl gf_10 4 (by decide) wl_230 (v := .ref (α 15)) cF_0_4 dX10_as_1 ?_
  refine lv_iload_n hx hb dX10_as_4 rfl (lv_at hl 1 rfl) ?_
  refine gc_f (gr_V C B (k := 15) (As := [.int d]) (rest := []) (c_X3_find l D G τ α S J n _ d hn hn30) (Lc_in (by decide)) cE_15 rfl wl_578 wl_278 wl_279 wl_34 wl_280 (na := 1) (by decide +kernel) rfl ⟨Nat.le_of_ble_eq_true rfl, Nat.le_of_ble_eq_true rfl⟩ ⟨Nat.le_of_ble_eq_true rfl, Nat.le_of_ble_eq_true rfl⟩ hl.1 rfl (Nat.le_of_ble_eq_true rfl) dX10_as_5) (fun c1 => ?_) (fun c1 => ?_)
  · obtain ⟨d9, d9_d, rfl⟩ := isD_nat c1
    have d9_n : d9 < n := by have h9 := d9_d; rw [nOf, hn, nI_clamp (by omega)] at h9; exact h9
    have d9_b : d9 < 2 ^ 31 := by omega
    rw [nI_clamp d9_b]
    refine lv_astore_n (lv' := [(3, .ref (α (27 + 3 * d9))), (0, .ref (α 0)), (1, .int (nI d9)), (2, .int k)]) hx hb dX10_as_8 rfl hl (by decide) rfl (fun ls hl => ?_)
    refine lv_aload_n hx hb dX10_as_9 rfl (lv_at hl 0 rfl) ?_
    refine lv_ifnull hx hb dX10_as_10 ?_
    refine lv_iload_n hx hb dX10_as_13 rfl (lv_at hl 3 rfl) ?_
    refine gc_b (gr_S C B (As := [.int k]) (rest := []) (c_X10_isDepositKind l D G τ α _ _ _ k) wl_472 wl_473 wl_29 wl_474 (na := 1) (by decide +kernel) rfl ⟨Nat.le_of_ble_eq_true rfl, Nat.le_of_ble_eq_true rfl⟩ ⟨Nat.le_of_ble_eq_true rfl, Nat.le_of_ble_eq_true rfl⟩ hl.1 rfl (Nat.le_of_ble_eq_true rfl) dX10_as_14) (fun c2 => ?_) (fun c2 => ?_)
    · refine lv_if_ne (tgt := 29) hx hb dX10_as_17 (by decide) (fun _ => ?_) (fun hc => absurd hc (by decide))
      refine lv_iload_n hx hb dX10_as_29 rfl (lv_at hl 3 rfl) ?_
      refine lv_if_eq (tgt := 50) hx hb dX10_as_30 (by decide) (fun c3 => ?_) (fun c3 => ?_)
      · refine lv_aload_n hx hb dX10_as_50 rfl (lv_at hl 0 rfl) ?_
        refine g_get C B (27 + 3 * d9) (Lc_d (i := d9) (by omega) (by omega) (by omega)) cE_d rfl gf_2 4 (by decide) wl_503 (v := .int ((S.2.2.1 19) d9)) cD_4 dX10_as_51 ?_
        refine lv_i2l (v := ((S.2.2.1 19) d9).toInt64) hx hb dX10_as_54 rfl ?_
        exact ge_wl C B hr hlk (by have e9 : sp_as S (nI d9) k = (((S.2.2.1 19) d9).toInt64, S) := (by unfold sp_as; (first | rw [if_pos c1] | rw [if_neg c1] | rw [if_neg (not_not_intro c1)] | skip); (try simp only [nI_clamp d9_b]); (first | rw [if_pos c2] | rw [if_neg c2] | rw [if_neg (not_not_intro c2)] | skip); (first | rw [if_pos c3] | rw [if_neg c3] | rw [if_neg (not_not_intro c3)] | skip); (try simp only [nI_clamp d9_b]); (first | done | rfl)); rw [e9]; exact ⟨rfl, rfl⟩) dX10_as_55
      · refine lv_iload_n hx hb dX10_as_33 rfl (lv_at hl 3 rfl) ?_
        refine lv_aload_n hx hb dX10_as_34 rfl (lv_at hl 0 rfl) ?_
        refine g_get C B (27 + 3 * d9) (Lc_d (i := d9) (by omega) (by omega) (by omega)) cE_d rfl gf_2 0 (by decide) wl_493 (v := .int ((S.2.2.1 16) d9)) cD_0 dX10_as_35 ?_
        refine lv_icmp_eq (tgt := 50) hx hb dX10_as_38 (by decide) (fun c4 => ?_) (fun c4 => ?_)
        · refine lv_aload_n hx hb dX10_as_50 rfl (lv_at hl 0 rfl) ?_
          refine g_get C B (27 + 3 * d9) (Lc_d (i := d9) (by omega) (by omega) (by omega)) cE_d rfl gf_2 4 (by decide) wl_503 (v := .int ((S.2.2.1 19) d9)) cD_4 dX10_as_51 ?_
          refine lv_i2l (v := ((S.2.2.1 19) d9).toInt64) hx hb dX10_as_54 rfl ?_
          exact ge_wl C B hr hlk (by have e9 : sp_as S (nI d9) k = (((S.2.2.1 19) d9).toInt64, S) := (by unfold sp_as; (first | rw [if_pos c1] | rw [if_neg c1] | rw [if_neg (not_not_intro c1)] | skip); (try simp only [nI_clamp d9_b]); (first | rw [if_pos c2] | rw [if_neg c2] | rw [if_neg (not_not_intro c2)] | skip); (first | rw [if_pos c3] | rw [if_neg c3] | rw [if_neg (not_not_intro c3)] | skip); (first | rw [if_pos c4.symm] | rw [if_neg (fun h9 => c4 h9.symm)]); (try simp only [nI_clamp d9_b]); (first | done | rfl)); rw [e9]; exact ⟨rfl, rfl⟩) dX10_as_55
        · refine lv_aload_n hx hb dX10_as_41 rfl (lv_at hl 1 rfl) ?_
          refine g_get C B (0) (Lc_in (by decide)) cE_0 rfl gf_10 0 (by decide) wl_226 (v := .ref (α 1)) cF_0_0 dX10_as_42 ?_
          refine lv_iconst (v := 5) hx hb dX10_as_45 (by decide) ?_
          refine gc_wl B (gr_V C B (k := 1) (As := [.int 5]) (rest := []) (c_X5_answer l D G τ α S J n _ 5 (by decide)) (Lc_in (by decide)) cE_1 rfl wl_267 wl_268 wl_269 wl_30 wl_270 (na := 1) (by decide +kernel) rfl ⟨Nat.le_of_ble_eq_true rfl, Nat.le_of_ble_eq_true rfl⟩ ⟨Nat.le_of_ble_eq_true rfl, Nat.le_of_ble_eq_true rfl⟩ hl.1 rfl (Nat.le_of_ble_eq_true rfl) dX10_as_46) (fun r u h H locs B => ?_)
          obtain ⟨rfl, rfl⟩ := h
          have B : gB D G τ (gA α (Lc n) sz) s H locs α (cE G α (sNo S 5).2 J n) (Lc n) := B
          exact ge_wl C B hr hlk (by have e9 : sp_as S (nI d9) k = ((sNo S 5).1, (sNo S 5).2) := (by unfold sp_as; (first | rw [if_pos c1] | rw [if_neg c1] | rw [if_neg (not_not_intro c1)] | skip); (try simp only [nI_clamp d9_b]); (first | rw [if_pos c2] | rw [if_neg c2] | rw [if_neg (not_not_intro c2)] | skip); (first | rw [if_pos c3] | rw [if_neg c3] | rw [if_neg (not_not_intro c3)] | skip); (first | rw [if_pos c4.symm] | rw [if_neg (fun h9 => c4 h9.symm)]); (try simp only [nI_clamp d9_b]); (first | done | rfl)); rw [e9]; exact ⟨rfl, rfl⟩) dX10_as_49
    · refine lv_if_ne (tgt := 29) hx hb dX10_as_17 (by decide) (fun hc => absurd (by decide) hc) (fun _ => ?_)
      refine lv_aload_n hx hb dX10_as_20 rfl (lv_at hl 1 rfl) ?_
      refine g_get C B (0) (Lc_in (by decide)) cE_0 rfl gf_10 0 (by decide) wl_226 (v := .ref (α 1)) cF_0_0 dX10_as_21 ?_
      refine lv_iconst (v := 1) hx hb dX10_as_24 (by decide) ?_
      refine gc_wl B (gr_V C B (k := 1) (As := [.int 1]) (rest := []) (c_X5_answer l D G τ α S J n _ 1 (by decide)) (Lc_in (by decide)) cE_1 rfl wl_267 wl_268 wl_269 wl_30 wl_270 (na := 1) (by decide +kernel) rfl ⟨Nat.le_of_ble_eq_true rfl, Nat.le_of_ble_eq_true rfl⟩ ⟨Nat.le_of_ble_eq_true rfl, Nat.le_of_ble_eq_true rfl⟩ hl.1 rfl (Nat.le_of_ble_eq_true rfl) dX10_as_25) (fun r u h H locs B => ?_)
      obtain ⟨rfl, rfl⟩ := h
      have B : gB D G τ (gA α (Lc n) sz) s H locs α (cE G α (sNo S 1).2 J n) (Lc n) := B
      exact ge_wl C B hr hlk (by have e9 : sp_as S (nI d9) k = ((sNo S 1).1, (sNo S 1).2) := (by unfold sp_as; (first | rw [if_pos c1] | rw [if_neg c1] | rw [if_neg (not_not_intro c1)] | skip); (try simp only [nI_clamp d9_b]); (first | rw [if_pos c2] | rw [if_neg c2] | rw [if_neg (not_not_intro c2)] | skip); (try simp only [nI_clamp d9_b]); (first | done | rfl)); rw [e9]; exact ⟨rfl, rfl⟩) dX10_as_28
  · refine lv_astore_nN (lv' := [(3, .null), (0, .ref (α 0)), (1, .int d), (2, .int k)]) hx hb dX10_as_8 rfl hl (by decide) rfl (fun ls hl => ?_)
    refine lv_aload_nN hx hb dX10_as_9 rfl (lv_at hl 0 rfl) ?_
    refine lv_ifnullN (tgt := 20) hx hb dX10_as_10 (by decide) ?_
    refine lv_aload_n hx hb dX10_as_20 rfl (lv_at hl 1 rfl) ?_
    refine g_get C B (0) (Lc_in (by decide)) cE_0 rfl gf_10 0 (by decide) wl_226 (v := .ref (α 1)) cF_0_0 dX10_as_21 ?_
    refine lv_iconst (v := 1) hx hb dX10_as_24 (by decide) ?_
    refine gc_wl B (gr_V C B (k := 1) (As := [.int 1]) (rest := []) (c_X5_answer l D G τ α S J n _ 1 (by decide)) (Lc_in (by decide)) cE_1 rfl wl_267 wl_268 wl_269 wl_30 wl_270 (na := 1) (by decide +kernel) rfl ⟨Nat.le_of_ble_eq_true rfl, Nat.le_of_ble_eq_true rfl⟩ ⟨Nat.le_of_ble_eq_true rfl, Nat.le_of_ble_eq_true rfl⟩ hl.1 rfl (Nat.le_of_ble_eq_true rfl) dX10_as_25) (fun r u h H locs B => ?_)
    obtain ⟨rfl, rfl⟩ := h
    have B : gB D G τ (gA α (Lc n) sz) s H locs α (cE G α (sNo S 1).2 J n) (Lc n) := B
    exact ge_wl C B hr hlk (by have e9 : sp_as S d k = ((sNo S 1).1, (sNo S 1).2) := (by unfold sp_as; (first | rw [if_pos c1] | rw [if_neg c1] | rw [if_neg (not_not_intro c1)] | skip); (try simp only [nI_clamp d9_b]); (first | done | rfl)); rw [e9]; exact ⟨rfl, rfl⟩) dX10_as_28
set_option maxHeartbeats 4000000 in
set_option maxRecDepth 100000 in
theorem c_X10_about (l : Launch) (D : va_G) (G : Nat → ClassId) (τ α : Nat → Nat) (S J : St) (n sz : Nat) (d w : Int32) (hN : okN S) (hn : S.1 15 = nI n) (hn30 : n ≤ 30) (hJ9 : ∀ i, i < n → S.2.2.1 16 i = 1 → J.2.2.1 0 i = S.2.2.1 18 i) : Wl l D G τ yX10_about cX10_about 4 (some .long) 2 0 0 [.ref (α 0), .int d, .int w] α (cE G α S J n) (Lc n) sz (fun r u => r = (sp_about S d w).1 ∧ u = (α, cE G α (sp_about S d w).2 J n, Lc n)) := by
  refine gM _ (by decide) rfl (Nat.le_of_ble_eq_true rfl) ?_
  intro p e s m below meth c ls C hr hlk hnm hsz B hl
  have hx := C.1
  have hb := C.2.1
  have hl : lv_has ls 4 [(0, .ref (α 0)), (1, .int d), (2, .int w)] := hl
  refine lv_aload_n hx hb dX10_about_0 rfl (lv_at hl 0 rfl) ?_
  refine g_get C B (0) (Lc_in (by decide)) cE_0 rfl gf_10 4 (by decide) wl_230 (v := .ref (α 15)) cF_0_4 dX10_about_1 ?_
  refine lv_iload_n hx hb dX10_about_4 rfl (lv_at hl 1 rfl) ?_
  refine gc_f (gr_V C B (k := 15) (As := [.int d]) (rest := []) (c_X3_find l D G τ α S J n _ d hn hn30) (Lc_in (by decide)) cE_15 rfl wl_578 wl_278 wl_279 wl_34 wl_280 (na := 1) (by decide +kernel) rfl ⟨Nat.le_of_ble_eq_true rfl, Nat.le_of_ble_eq_true rfl⟩ ⟨Nat.le_of_ble_eq_true rfl, Nat.le_of_ble_eq_true rfl⟩ hl.1 rfl (Nat.le_of_ble_eq_true rfl) dX10_about_5) (fun c1 => ?_) (fun c1 => ?_)
  · obtain ⟨d9, d9_d, rfl⟩ := isD_nat c1
    have d9_n : d9 < n := by have h9 := d9_d; rw [nOf, hn, nI_clamp (by omega)] at h9; exact h9
    have d9_b : d9 < 2 ^ 31 := by omega
    rw [nI_clamp d9_b]
    refine lv_astore_n (lv' := [(3, .ref (α (27 + 3 * d9))), (0, .ref (α 0)), (1, .int (nI d9)), (2, .int w)]) hx hb dX10_about_8 rfl hl (by decide) rfl (fun ls hl => ?_)
    refine lv_aload_n hx hb dX10_about_9 rfl (lv_at hl 0 rfl) ?_
    refine lv_ifnull hx hb dX10_about_10 ?_
    refine lv_iload_n hx hb dX10_about_13 rfl (lv_at hl 3 rfl) ?_
    refine lv_iconst (v := 0) hx hb dX10_about_14 (by decide) ?_
    refine lv_bipush (v := 8) hx hb dX10_about_15 (by decide) ?_
    refine gc_b (gr_S C B (As := [.int w, .int 0, .int 8]) (rest := []) (c_X10_isWithin l D G τ α _ _ _ w 0 8) wl_264 wl_265 wl_29 wl_266 (na := 3) (by decide +kernel) rfl ⟨Nat.le_of_ble_eq_true rfl, Nat.le_of_ble_eq_true rfl⟩ ⟨Nat.le_of_ble_eq_true rfl, Nat.le_of_ble_eq_true rfl⟩ hl.1 rfl (Nat.le_of_ble_eq_true rfl) dX10_about_17) (fun c2 => ?_) (fun c2 => ?_)
    · refine lv_if_ne (tgt := 32) hx hb dX10_about_20 (by decide) (fun _ => ?_) (fun hc => absurd hc (by decide))
      refine lv_iload_n hx hb dX10_about_32 rfl (lv_at hl 3 rfl) ?_
      refine lv_iconst (v := 2) hx hb dX10_about_33 (by decide) ?_
      refine lv_icmp_ne (tgt := 54) hx hb dX10_about_34 (by decide) (fun c3 => ?_) (fun c3 => ?_)
      · refine lv_aload_n hx hb dX10_about_54 rfl (lv_at hl 0 rfl) ?_
        refine lv_iload_n hx hb dX10_about_55 rfl (lv_at hl 3 rfl) ?_
        refine gc_l (gr_V C B (k := 27 + 3 * d9) (As := [.int w]) (rest := []) (c_X2_tellOf l D G τ α S J n _ d9 w (by omega)) (Lc_d (i := d9) (by omega) (by omega) (by omega)) cE_d rfl wl_579 wl_580 wl_581 wl_42 wl_582 (na := 1) (by decide +kernel) rfl ⟨Nat.le_of_ble_eq_true rfl, Nat.le_of_ble_eq_true rfl⟩ ⟨Nat.le_of_ble_eq_true rfl, Nat.le_of_ble_eq_true rfl⟩ hl.1 rfl (Nat.le_of_ble_eq_true rfl) dX10_about_56) (fun r h => ?_)
        subst h
        exact ge_wl C B hr hlk (by have e9 : sp_about S (nI d9) w = ((if w = 0 then (S.2.2.1 16 d9).toInt64 else if w = 1 then (S.2.2.1 17 d9).toInt64 else if w = 2 then (J.2.2.1 0 d9).toInt64 else if w = 3 then (S.2.2.1 19 d9).toInt64 else if w = 4 then S.2.2.2 20 d9 else if w = 5 then (S.2.2.1 21 d9).toInt64 else if w = 6 then (S.2.2.1 22 d9).toInt64 else if w = 7 then S.2.2.2 23 d9 else if S.2.2.1 24 d9 = 0 then 0 else 1), S) := (by unfold sp_about; (first | rw [if_pos c1] | rw [if_neg c1] | rw [if_neg (not_not_intro c1)] | skip); (try simp only [nI_clamp d9_b]); (first | rw [if_pos c2] | rw [if_neg c2] | rw [if_neg (not_not_intro c2)] | skip); rw [if_neg (c := w = 2) c3, if_neg (c := w = 2) c3]; (repeat' split) <;> rfl; (try simp only [nI_clamp d9_b]); (first | done | rfl)); rw [e9]; exact ⟨rfl, rfl⟩) dX10_about_59
      · refine lv_aload_n hx hb dX10_about_37 rfl (lv_at hl 0 rfl) ?_
        refine g_get C B (27 + 3 * d9) (Lc_d (i := d9) (by omega) (by omega) (by omega)) cE_d rfl gf_2 0 (by decide) wl_493 (v := .int ((S.2.2.1 16) d9)) cD_0 dX10_about_38 ?_
        refine lv_iconst (v := 1) hx hb dX10_about_41 (by decide) ?_
        refine lv_icmp_eq (tgt := 54) hx hb dX10_about_42 (by decide) (fun c4 => ?_) (fun c4 => ?_)
        · refine lv_aload_n hx hb dX10_about_54 rfl (lv_at hl 0 rfl) ?_
          refine lv_iload_n hx hb dX10_about_55 rfl (lv_at hl 3 rfl) ?_
          refine gc_l (gr_V C B (k := 27 + 3 * d9) (As := [.int w]) (rest := []) (c_X2_tellOf l D G τ α S J n _ d9 w (by omega)) (Lc_d (i := d9) (by omega) (by omega) (by omega)) cE_d rfl wl_579 wl_580 wl_581 wl_42 wl_582 (na := 1) (by decide +kernel) rfl ⟨Nat.le_of_ble_eq_true rfl, Nat.le_of_ble_eq_true rfl⟩ ⟨Nat.le_of_ble_eq_true rfl, Nat.le_of_ble_eq_true rfl⟩ hl.1 rfl (Nat.le_of_ble_eq_true rfl) dX10_about_56) (fun r h => ?_)
          subst h
          exact ge_wl C B hr hlk (by have e9 : sp_about S (nI d9) w = ((if w = 0 then (S.2.2.1 16 d9).toInt64 else if w = 1 then (S.2.2.1 17 d9).toInt64 else if w = 2 then (J.2.2.1 0 d9).toInt64 else if w = 3 then (S.2.2.1 19 d9).toInt64 else if w = 4 then S.2.2.2 20 d9 else if w = 5 then (S.2.2.1 21 d9).toInt64 else if w = 6 then (S.2.2.1 22 d9).toInt64 else if w = 7 then S.2.2.2 23 d9 else if S.2.2.1 24 d9 = 0 then 0 else 1), S) := (by unfold sp_about; (first | rw [if_pos c1] | rw [if_neg c1] | rw [if_neg (not_not_intro c1)] | skip); (try simp only [nI_clamp d9_b]); (first | rw [if_pos c2] | rw [if_neg c2] | rw [if_neg (not_not_intro c2)] | skip); rw [if_neg (show ¬ w = 0 by rw [c3]; decide), if_neg (show ¬ w = 1 by rw [c3]; decide), if_pos c3, if_pos c4, if_neg (show ¬ w = 0 by rw [c3]; decide), if_neg (show ¬ w = 1 by rw [c3]; decide), if_pos c3, hJ9 d9 d9_n c4]; (try simp only [nI_clamp d9_b]); (first | done | rfl)); rw [e9]; exact ⟨rfl, rfl⟩) dX10_about_59
        · refine lv_aload_n hx hb dX10_about_45 rfl (lv_at hl 1 rfl) ?_
          refine g_get C B (0) (Lc_in (by decide)) cE_0 rfl gf_10 0 (by decide) wl_226 (v := .ref (α 1)) cF_0_0 dX10_about_46 ?_
          refine lv_iconst (v := 2) hx hb dX10_about_49 (by decide) ?_
          refine gc_wl B (gr_V C B (k := 1) (As := [.int 2]) (rest := []) (c_X5_answer l D G τ α S J n _ 2 (by decide)) (Lc_in (by decide)) cE_1 rfl wl_267 wl_268 wl_269 wl_30 wl_270 (na := 1) (by decide +kernel) rfl ⟨Nat.le_of_ble_eq_true rfl, Nat.le_of_ble_eq_true rfl⟩ ⟨Nat.le_of_ble_eq_true rfl, Nat.le_of_ble_eq_true rfl⟩ hl.1 rfl (Nat.le_of_ble_eq_true rfl) dX10_about_50) (fun r u h H locs B => ?_)
          obtain ⟨rfl, rfl⟩ := h
          have B : gB D G τ (gA α (Lc n) sz) s H locs α (cE G α (sNo S 2).2 J n) (Lc n) := B
          exact ge_wl C B hr hlk (by have e9 : sp_about S (nI d9) w = ((sNo S 2).1, (sNo S 2).2) := (by unfold sp_about; (first | rw [if_pos c1] | rw [if_neg c1] | rw [if_neg (not_not_intro c1)] | skip); (try simp only [nI_clamp d9_b]); (first | rw [if_pos c2] | rw [if_neg c2] | rw [if_neg (not_not_intro c2)] | skip); rw [if_neg (by rw [c3]; decide), if_neg (by rw [c3]; decide), if_pos c3, if_neg c4]; (try simp only [nI_clamp d9_b]); (first | done | rfl)); rw [e9]; exact ⟨rfl, rfl⟩) dX10_about_53
    · refine lv_if_ne (tgt := 32) hx hb dX10_about_20 (by decide) (fun hc => absurd (by decide) hc) (fun _ => ?_)
      refine lv_aload_n hx hb dX10_about_23 rfl (lv_at hl 1 rfl) ?_
      refine g_get C B (0) (Lc_in (by decide)) cE_0 rfl gf_10 0 (by decide) wl_226 (v := .ref (α 1)) cF_0_0 dX10_about_24 ?_
      refine lv_iconst (v := 1) hx hb dX10_about_27 (by decide) ?_
      refine gc_wl B (gr_V C B (k := 1) (As := [.int 1]) (rest := []) (c_X5_answer l D G τ α S J n _ 1 (by decide)) (Lc_in (by decide)) cE_1 rfl wl_267 wl_268 wl_269 wl_30 wl_270 (na := 1) (by decide +kernel) rfl ⟨Nat.le_of_ble_eq_true rfl, Nat.le_of_ble_eq_true rfl⟩ ⟨Nat.le_of_ble_eq_true rfl, Nat.le_of_ble_eq_true rfl⟩ hl.1 rfl (Nat.le_of_ble_eq_true rfl) dX10_about_28) (fun r u h H locs B => ?_)
      obtain ⟨rfl, rfl⟩ := h
      have B : gB D G τ (gA α (Lc n) sz) s H locs α (cE G α (sNo S 1).2 J n) (Lc n) := B
      exact ge_wl C B hr hlk (by have e9 : sp_about S (nI d9) w = ((sNo S 1).1, (sNo S 1).2) := (by unfold sp_about; (first | rw [if_pos c1] | rw [if_neg c1] | rw [if_neg (not_not_intro c1)] | skip); (try simp only [nI_clamp d9_b]); (first | rw [if_pos c2] | rw [if_neg c2] | rw [if_neg (not_not_intro c2)] | skip); (try simp only [nI_clamp d9_b]); (first | done | rfl)); rw [e9]; exact ⟨rfl, rfl⟩) dX10_about_31
  · refine lv_astore_nN (lv' := [(3, .null), (0, .ref (α 0)), (1, .int d), (2, .int w)]) hx hb dX10_about_8 rfl hl (by decide) rfl (fun ls hl => ?_)
    refine lv_aload_nN hx hb dX10_about_9 rfl (lv_at hl 0 rfl) ?_
    refine lv_ifnullN (tgt := 23) hx hb dX10_about_10 (by decide) ?_
    refine lv_aload_n hx hb dX10_about_23 rfl (lv_at hl 1 rfl) ?_
    refine g_get C B (0) (Lc_in (by decide)) cE_0 rfl gf_10 0 (by decide) wl_226 (v := .ref (α 1)) cF_0_0 dX10_about_24 ?_
    refine lv_iconst (v := 1) hx hb dX10_about_27 (by decide) ?_
    refine gc_wl B (gr_V C B (k := 1) (As := [.int 1]) (rest := []) (c_X5_answer l D G τ α S J n _ 1 (by decide)) (Lc_in (by decide)) cE_1 rfl wl_267 wl_268 wl_269 wl_30 wl_270 (na := 1) (by decide +kernel) rfl ⟨Nat.le_of_ble_eq_true rfl, Nat.le_of_ble_eq_true rfl⟩ ⟨Nat.le_of_ble_eq_true rfl, Nat.le_of_ble_eq_true rfl⟩ hl.1 rfl (Nat.le_of_ble_eq_true rfl) dX10_about_28) (fun r u h H locs B => ?_)
    obtain ⟨rfl, rfl⟩ := h
    have B : gB D G τ (gA α (Lc n) sz) s H locs α (cE G α (sNo S 1).2 J n) (Lc n) := B
    exact ge_wl C B hr hlk (by have e9 : sp_about S d w = ((sNo S 1).1, (sNo S 1).2) := (by unfold sp_about; (first | rw [if_pos c1] | rw [if_neg c1] | rw [if_neg (not_not_intro c1)] | skip); (try simp only [nI_clamp d9_b]); (first | done | rfl)); rw [e9]; exact ⟨rfl, rfl⟩) dX10_about_31
set_option maxHeartbeats 4000000 in
set_option maxRecDepth 100000 in
theorem c_X10_sell (l : Launch) (D : va_G) (G : Nat → ClassId) (τ α : Nat → Nat) (S J : St) (n sz : Nat) (d ho : Int32) (hN : okN S) (hn : S.1 15 = nI n) (hn30 : n ≤ 30) (hP : okP S) : Wl l D G τ yX10_sell cX10_sell 5 (some .long) 5 0 0 [.ref (α 0), .int d, .int ho] α (cE G α S J n) (Lc n) sz (fun r u => r = (sp_sell S d ho).1 ∧ u = (α, cE G α (sp_sell S d ho).2 J n, Lc n)) := by
  refine gM _ (by decide) rfl (Nat.le_of_ble_eq_true rfl) ?_
  intro p e s m below meth c ls C hr hlk hnm hsz B hl
  have hx := C.1
  have hb := C.2.1
  have hl : lv_has ls 5 [(0, .ref (α 0)), (1, .int d), (2, .int ho)] := hl
  refine lv_aload_n hx hb dX10_sell_0 rfl (lv_at hl 0 rfl) ?_
  refine g_get C B (0) (Lc_in (by decide)) cE_0 rfl gf_10 4 (by decide) wl_230 (v := .ref (α 15)) cF_0_4 dX10_sell_1 ?_
  refine lv_iload_n hx hb dX10_sell_4 rfl (lv_at hl 1 rfl) ?_
  refine gc_f (gr_V C B (k := 15) (As := [.int d]) (rest := []) (c_X3_find l D G τ α S J n _ d hn hn30) (Lc_in (by decide)) cE_15 rfl wl_578 wl_278 wl_279 wl_34 wl_280 (na := 1) (by decide +kernel) rfl ⟨Nat.le_of_ble_eq_true rfl, Nat.le_of_ble_eq_true rfl⟩ ⟨Nat.le_of_ble_eq_true rfl, Nat.le_of_ble_eq_true rfl⟩ hl.1 rfl (Nat.le_of_ble_eq_true rfl) dX10_sell_5) (fun c1 => ?_) (fun c1 => ?_)
  · obtain ⟨d9, d9_d, rfl⟩ := isD_nat c1
    have d9_n : d9 < n := by have h9 := d9_d; rw [nOf, hn, nI_clamp (by omega)] at h9; exact h9
    have d9_b : d9 < 2 ^ 31 := by omega
    rw [nI_clamp d9_b]
    refine lv_astore_n (lv' := [(3, .ref (α (27 + 3 * d9))), (0, .ref (α 0)), (1, .int (nI d9)), (2, .int ho)]) hx hb dX10_sell_8 rfl hl (by decide) rfl (fun ls hl => ?_)
    refine lv_aload_n hx hb dX10_sell_9 rfl (lv_at hl 0 rfl) ?_
    refine lv_ifnull hx hb dX10_sell_10 ?_
    refine lv_iload_n hx hb dX10_sell_13 rfl (lv_at hl 3 rfl) ?_
    refine gc_b (gr_S C B (As := [.int ho]) (rest := []) (c_X10_isHolder l D G τ α _ _ _ ho) wl_475 wl_380 wl_29 wl_381 (na := 1) (by decide +kernel) rfl ⟨Nat.le_of_ble_eq_true rfl, Nat.le_of_ble_eq_true rfl⟩ ⟨Nat.le_of_ble_eq_true rfl, Nat.le_of_ble_eq_true rfl⟩ hl.1 rfl (Nat.le_of_ble_eq_true rfl) dX10_sell_14) (fun c2 => ?_) (fun c2 => ?_)
    · refine lv_if_ne (tgt := 29) hx hb dX10_sell_17 (by decide) (fun _ => ?_) (fun hc => absurd hc (by decide))
      refine lv_aload_n hx hb dX10_sell_29 rfl (lv_at hl 0 rfl) ?_
      refine g_get C B (27 + 3 * d9) (Lc_d (i := d9) (by omega) (by omega) (by omega)) cE_d rfl gf_2 11 (by decide) wl_516 (v := .int ((S.2.2.1 24) d9)) cD_11 dX10_sell_30 ?_
      refine lv_if_eq (tgt := 45) hx hb dX10_sell_33 (by decide) (fun c3 => ?_) (fun c3 => ?_)
      · have hk8 := (hP d9 d9_d).2.2.2.2.2.2.2.2.2
        have hk9 := hk8.1
        have hh9 := sHold_last hk8
        refine lv_aload_n hx hb dX10_sell_45 rfl (lv_at hl 0 rfl) ?_
        refine gc_i (gr_V C B (k := 27 + 3 * d9) (As := []) (rest := []) (c_X2_latestHolder l D G τ α S J n _ d9 (by omega) hk9) (Lc_d (i := d9) (by omega) (by omega) (by omega)) cE_d rfl wl_591 wl_368 wl_369 wl_42 wl_370 (na := 0) (by decide +kernel) rfl ⟨Nat.le_of_ble_eq_true rfl, Nat.le_of_ble_eq_true rfl⟩ ⟨Nat.le_of_ble_eq_true rfl, Nat.le_of_ble_eq_true rfl⟩ hl.1 rfl (Nat.le_of_ble_eq_true rfl) dX10_sell_46) (fun r h => ?_)
        subst h
        refine lv_istore (lv' := [(4, .int ((S.2.2.1 27) (sLast S d9))), (3, .ref (α (27 + 3 * d9))), (0, .ref (α 0)), (1, .int (nI d9)), (2, .int ho)]) hx hb dX10_sell_49 hl (by decide) rfl (fun ls hl => ?_)
        refine lv_iload hx hb dX10_sell_51 (lv_at hl 0 rfl) ?_
        refine lv_iload_n hx hb dX10_sell_53 rfl (lv_at hl 4 rfl) ?_
        refine lv_icmp_ne (tgt := 66) hx hb dX10_sell_54 (by decide) (fun c4 => ?_) (fun c4 => ?_)
        · refine lv_aload_n hx hb dX10_sell_66 rfl (lv_at hl 1 rfl) ?_
          refine lv_aload_n hx hb dX10_sell_67 rfl (lv_at hl 2 rfl) ?_
          refine g_get C B (0) (Lc_in (by decide)) cE_0 rfl gf_10 10 (by decide) wl_236 (v := .int (S.1 0)) cF_0_10 dX10_sell_68 ?_
          refine gc_b (gr_V C B (k := 27 + 3 * d9) (As := [.int (S.1 0)]) (rest := []) (c_X2_maySellIn l D G τ α S J n _ d9 (S.1 0) (by omega) hk9) (Lc_d (i := d9) (by omega) (by omega) (by omega)) cE_d rfl wl_592 wl_593 wl_594 wl_42 wl_595 (na := 1) (by decide +kernel) rfl ⟨Nat.le_of_ble_eq_true rfl, Nat.le_of_ble_eq_true rfl⟩ ⟨Nat.le_of_ble_eq_true rfl, Nat.le_of_ble_eq_true rfl⟩ hl.1 rfl (Nat.le_of_ble_eq_true rfl) dX10_sell_71) (fun c5 => ?_) (fun c5 => ?_)
          · refine lv_if_ne (tgt := 86) hx hb dX10_sell_74 (by decide) (fun _ => ?_) (fun hc => absurd hc (by decide))
            refine lv_aload_n hx hb dX10_sell_86 rfl (lv_at hl 1 rfl) ?_
            refine lv_iload_n hx hb dX10_sell_87 rfl (lv_at hl 4 rfl) ?_
            refine lv_aload_n hx hb dX10_sell_88 rfl (lv_at hl 2 rfl) ?_
            refine g_get C B (0) (Lc_in (by decide)) cE_0 rfl gf_10 10 (by decide) wl_236 (v := .int (S.1 0)) cF_0_10 dX10_sell_89 ?_
            refine gc_wv B (gr_V C B (k := 27 + 3 * d9) (As := [.int ho, .int (S.1 0)]) (rest := []) (c_X2_handTo l D G τ α S J n _ d9 ho (S.1 0) (by omega) hk9 c5) (Lc_d (i := d9) (by omega) (by omega) (by omega)) cE_d rfl wl_600 wl_601 wl_602 wl_42 wl_603 (na := 2) (by decide +kernel) rfl ⟨Nat.le_of_ble_eq_true rfl, Nat.le_of_ble_eq_true rfl⟩ ⟨Nat.le_of_ble_eq_true rfl, Nat.le_of_ble_eq_true rfl⟩ hl.1 rfl (Nat.le_of_ble_eq_true rfl) dX10_sell_92) (fun u h H locs B => ?_)
            subst h
            have B : gB D G τ (gA α (Lc n) sz) s H locs α (cE G α (if S.2.2.1 26 (sLast S d9) = (S.1 0) then uA (uA S 26 (upd (S.2.2.1 26) (sLast S d9) (S.1 0))) 27 (upd (S.2.2.1 27) (sLast S d9) ho) else uA (uA (uA S 25 (upd (S.2.2.1 25) d9 (S.2.2.1 25 d9 + 1))) 26 (upd (S.2.2.1 26) (sLast S d9 + 1) (S.1 0))) 27 (upd (S.2.2.1 27) (sLast S d9 + 1) ho)) J n) (Lc n) := B
            refine lv_iload hx hb dX10_sell_95 (lv_at hl 0 rfl) ?_
            refine lv_i2l (v := ((S.2.2.1 27) (sLast S d9)).toInt64) hx hb dX10_sell_97 rfl ?_
            exact ge_wl C B hr hlk ((Decidable.em (S.2.2.1 26 (sLast S d9) = S.1 0)).elim (fun h6 => by have e9 : sp_sell S (nI d9) ho = (((S.2.2.1 27) (sLast S d9)).toInt64, (if S.2.2.1 26 (sLast S d9) = (S.1 0) then uA (uA S 26 (upd (S.2.2.1 26) (sLast S d9) (S.1 0))) 27 (upd (S.2.2.1 27) (sLast S d9) ho) else uA (uA (uA S 25 (upd (S.2.2.1 25) d9 (S.2.2.1 25 d9 + 1))) 26 (upd (S.2.2.1 26) (sLast S d9 + 1) (S.1 0))) 27 (upd (S.2.2.1 27) (sLast S d9 + 1) ho))) := (by unfold sp_sell; (first | rw [if_pos c1] | rw [if_neg c1] | rw [if_neg (not_not_intro c1)] | skip); (try simp only [nI_clamp d9_b]); (first | rw [if_pos c2] | rw [if_neg c2] | rw [if_neg (not_not_intro c2)] | skip); (first | rw [if_pos c3] | rw [if_neg c3] | rw [if_neg (not_not_intro c3)] | skip); rw [hh9.1]; (first | rw [if_pos c4] | rw [if_neg c4] | rw [if_neg (not_not_intro c4)] | skip); rw [if_pos h6, if_pos h6]); rw [e9]; exact ⟨rfl, rfl⟩) (fun h6 => by have e9 : sp_sell S (nI d9) ho = (((S.2.2.1 27) (sLast S d9)).toInt64, (if S.2.2.1 26 (sLast S d9) = (S.1 0) then uA (uA S 26 (upd (S.2.2.1 26) (sLast S d9) (S.1 0))) 27 (upd (S.2.2.1 27) (sLast S d9) ho) else uA (uA (uA S 25 (upd (S.2.2.1 25) d9 (S.2.2.1 25 d9 + 1))) 26 (upd (S.2.2.1 26) (sLast S d9 + 1) (S.1 0))) 27 (upd (S.2.2.1 27) (sLast S d9 + 1) ho))) := (by unfold sp_sell; (first | rw [if_pos c1] | rw [if_neg c1] | rw [if_neg (not_not_intro c1)] | skip); (try simp only [nI_clamp d9_b]); (first | rw [if_pos c2] | rw [if_neg c2] | rw [if_neg (not_not_intro c2)] | skip); (first | rw [if_pos c3] | rw [if_neg c3] | rw [if_neg (not_not_intro c3)] | skip); rw [hh9.1]; (first | rw [if_pos c4] | rw [if_neg c4] | rw [if_neg (not_not_intro c4)] | skip); rw [if_neg h6, if_neg h6, if_neg (show ¬ S.2.2.1 25 d9 = 7 by have h7 := c5.resolve_left h6; simp only [i3l, i3e, i3q, inR, isC, isD, zi_0, zi_1, zi_2, zi_3, zi_4, zi_5, zi_6, zi_7, zi_8, zi_9, zi_10, zi_12, zi_20, zi_21, zi_30, zi_60, zi_90, zi_99, zi_100, zi_180, zi_240, zi_400, zi_500, zi_1000, zi_1199, zi_10000, zi_100000, zi_1000000, i3m1] at h7 ⊢; omega)]); rw [e9]; exact ⟨rfl, rfl⟩)) dX10_sell_98
          · refine lv_if_ne (tgt := 86) hx hb dX10_sell_74 (by decide) (fun hc => absurd (by decide) hc) (fun _ => ?_)
            refine lv_aload_n hx hb dX10_sell_77 rfl (lv_at hl 2 rfl) ?_
            refine g_get C B (0) (Lc_in (by decide)) cE_0 rfl gf_10 0 (by decide) wl_226 (v := .ref (α 1)) cF_0_0 dX10_sell_78 ?_
            refine lv_iconst (v := 4) hx hb dX10_sell_81 (by decide) ?_
            refine gc_wl B (gr_V C B (k := 1) (As := [.int 4]) (rest := []) (c_X5_answer l D G τ α S J n _ 4 (by decide)) (Lc_in (by decide)) cE_1 rfl wl_267 wl_268 wl_269 wl_30 wl_270 (na := 1) (by decide +kernel) rfl ⟨Nat.le_of_ble_eq_true rfl, Nat.le_of_ble_eq_true rfl⟩ ⟨Nat.le_of_ble_eq_true rfl, Nat.le_of_ble_eq_true rfl⟩ hl.1 rfl (Nat.le_of_ble_eq_true rfl) dX10_sell_82) (fun r u h H locs B => ?_)
            obtain ⟨rfl, rfl⟩ := h
            have B : gB D G τ (gA α (Lc n) sz) s H locs α (cE G α (sNo S 4).2 J n) (Lc n) := B
            exact ge_wl C B hr hlk (by have e9 : sp_sell S (nI d9) ho = ((sNo S 4).1, (sNo S 4).2) := (by unfold sp_sell; (first | rw [if_pos c1] | rw [if_neg c1] | rw [if_neg (not_not_intro c1)] | skip); (try simp only [nI_clamp d9_b]); (first | rw [if_pos c2] | rw [if_neg c2] | rw [if_neg (not_not_intro c2)] | skip); (first | rw [if_pos c3] | rw [if_neg c3] | rw [if_neg (not_not_intro c3)] | skip); rw [hh9.1]; (first | rw [if_pos c4] | rw [if_neg c4] | rw [if_neg (not_not_intro c4)] | skip); rw [if_neg (fun h9 => c5 (Or.inl h9)), if_pos (show S.2.2.1 25 d9 = 7 by have h8 := hk9.2; have h7 : ¬ S.2.2.1 25 d9 < 7 := fun h9 => c5 (Or.inr h9); simp only [i3l, i3e, i3q, inR, isC, isD, zi_0, zi_1, zi_2, zi_3, zi_4, zi_5, zi_6, zi_7, zi_8, zi_9, zi_10, zi_12, zi_20, zi_21, zi_30, zi_60, zi_90, zi_99, zi_100, zi_180, zi_240, zi_400, zi_500, zi_1000, zi_1199, zi_10000, zi_100000, zi_1000000, i3m1] at h7 h8 ⊢; omega)]; (try simp only [nI_clamp d9_b]); (first | done | rfl)); rw [e9]; exact ⟨rfl, rfl⟩) dX10_sell_85
        · refine lv_aload_n hx hb dX10_sell_57 rfl (lv_at hl 2 rfl) ?_
          refine g_get C B (0) (Lc_in (by decide)) cE_0 rfl gf_10 0 (by decide) wl_226 (v := .ref (α 1)) cF_0_0 dX10_sell_58 ?_
          refine lv_iconst (v := 5) hx hb dX10_sell_61 (by decide) ?_
          refine gc_wl B (gr_V C B (k := 1) (As := [.int 5]) (rest := []) (c_X5_answer l D G τ α S J n _ 5 (by decide)) (Lc_in (by decide)) cE_1 rfl wl_267 wl_268 wl_269 wl_30 wl_270 (na := 1) (by decide +kernel) rfl ⟨Nat.le_of_ble_eq_true rfl, Nat.le_of_ble_eq_true rfl⟩ ⟨Nat.le_of_ble_eq_true rfl, Nat.le_of_ble_eq_true rfl⟩ hl.1 rfl (Nat.le_of_ble_eq_true rfl) dX10_sell_62) (fun r u h H locs B => ?_)
          obtain ⟨rfl, rfl⟩ := h
          have B : gB D G τ (gA α (Lc n) sz) s H locs α (cE G α (sNo S 5).2 J n) (Lc n) := B
          exact ge_wl C B hr hlk (by have e9 : sp_sell S (nI d9) ho = ((sNo S 5).1, (sNo S 5).2) := (by unfold sp_sell; (first | rw [if_pos c1] | rw [if_neg c1] | rw [if_neg (not_not_intro c1)] | skip); (try simp only [nI_clamp d9_b]); (first | rw [if_pos c2] | rw [if_neg c2] | rw [if_neg (not_not_intro c2)] | skip); (first | rw [if_pos c3] | rw [if_neg c3] | rw [if_neg (not_not_intro c3)] | skip); rw [hh9.1]; (first | rw [if_pos c4] | rw [if_neg c4] | rw [if_neg (not_not_intro c4)] | skip); (try simp only [nI_clamp d9_b]); (first | done | rfl)); rw [e9]; exact ⟨rfl, rfl⟩) dX10_sell_65
      · refine lv_aload_n hx hb dX10_sell_36 rfl (lv_at hl 1 rfl) ?_
        refine g_get C B (0) (Lc_in (by decide)) cE_0 rfl gf_10 0 (by decide) wl_226 (v := .ref (α 1)) cF_0_0 dX10_sell_37 ?_
        refine lv_iconst (v := 3) hx hb dX10_sell_40 (by decide) ?_
        refine gc_wl B (gr_V C B (k := 1) (As := [.int 3]) (rest := []) (c_X5_answer l D G τ α S J n _ 3 (by decide)) (Lc_in (by decide)) cE_1 rfl wl_267 wl_268 wl_269 wl_30 wl_270 (na := 1) (by decide +kernel) rfl ⟨Nat.le_of_ble_eq_true rfl, Nat.le_of_ble_eq_true rfl⟩ ⟨Nat.le_of_ble_eq_true rfl, Nat.le_of_ble_eq_true rfl⟩ hl.1 rfl (Nat.le_of_ble_eq_true rfl) dX10_sell_41) (fun r u h H locs B => ?_)
        obtain ⟨rfl, rfl⟩ := h
        have B : gB D G τ (gA α (Lc n) sz) s H locs α (cE G α (sNo S 3).2 J n) (Lc n) := B
        exact ge_wl C B hr hlk (by have e9 : sp_sell S (nI d9) ho = ((sNo S 3).1, (sNo S 3).2) := (by unfold sp_sell; (first | rw [if_pos c1] | rw [if_neg c1] | rw [if_neg (not_not_intro c1)] | skip); (try simp only [nI_clamp d9_b]); (first | rw [if_pos c2] | rw [if_neg c2] | rw [if_neg (not_not_intro c2)] | skip); (first | rw [if_pos c3] | rw [if_neg c3] | rw [if_neg (not_not_intro c3)] | skip); (try simp only [nI_clamp d9_b]); (first | done | rfl)); rw [e9]; exact ⟨rfl, rfl⟩) dX10_sell_44
    · refine lv_if_ne (tgt := 29) hx hb dX10_sell_17 (by decide) (fun hc => absurd (by decide) hc) (fun _ => ?_)
      refine lv_aload_n hx hb dX10_sell_20 rfl (lv_at hl 1 rfl) ?_
      refine g_get C B (0) (Lc_in (by decide)) cE_0 rfl gf_10 0 (by decide) wl_226 (v := .ref (α 1)) cF_0_0 dX10_sell_21 ?_
      refine lv_iconst (v := 1) hx hb dX10_sell_24 (by decide) ?_
      refine gc_wl B (gr_V C B (k := 1) (As := [.int 1]) (rest := []) (c_X5_answer l D G τ α S J n _ 1 (by decide)) (Lc_in (by decide)) cE_1 rfl wl_267 wl_268 wl_269 wl_30 wl_270 (na := 1) (by decide +kernel) rfl ⟨Nat.le_of_ble_eq_true rfl, Nat.le_of_ble_eq_true rfl⟩ ⟨Nat.le_of_ble_eq_true rfl, Nat.le_of_ble_eq_true rfl⟩ hl.1 rfl (Nat.le_of_ble_eq_true rfl) dX10_sell_25) (fun r u h H locs B => ?_)
      obtain ⟨rfl, rfl⟩ := h
      have B : gB D G τ (gA α (Lc n) sz) s H locs α (cE G α (sNo S 1).2 J n) (Lc n) := B
      exact ge_wl C B hr hlk (by have e9 : sp_sell S (nI d9) ho = ((sNo S 1).1, (sNo S 1).2) := (by unfold sp_sell; (first | rw [if_pos c1] | rw [if_neg c1] | rw [if_neg (not_not_intro c1)] | skip); (try simp only [nI_clamp d9_b]); (first | rw [if_pos c2] | rw [if_neg c2] | rw [if_neg (not_not_intro c2)] | skip); (try simp only [nI_clamp d9_b]); (first | done | rfl)); rw [e9]; exact ⟨rfl, rfl⟩) dX10_sell_28
  · refine lv_astore_nN (lv' := [(3, .null), (0, .ref (α 0)), (1, .int d), (2, .int ho)]) hx hb dX10_sell_8 rfl hl (by decide) rfl (fun ls hl => ?_)
    refine lv_aload_nN hx hb dX10_sell_9 rfl (lv_at hl 0 rfl) ?_
    refine lv_ifnullN (tgt := 20) hx hb dX10_sell_10 (by decide) ?_
    refine lv_aload_n hx hb dX10_sell_20 rfl (lv_at hl 1 rfl) ?_
    refine g_get C B (0) (Lc_in (by decide)) cE_0 rfl gf_10 0 (by decide) wl_226 (v := .ref (α 1)) cF_0_0 dX10_sell_21 ?_
    refine lv_iconst (v := 1) hx hb dX10_sell_24 (by decide) ?_
    refine gc_wl B (gr_V C B (k := 1) (As := [.int 1]) (rest := []) (c_X5_answer l D G τ α S J n _ 1 (by decide)) (Lc_in (by decide)) cE_1 rfl wl_267 wl_268 wl_269 wl_30 wl_270 (na := 1) (by decide +kernel) rfl ⟨Nat.le_of_ble_eq_true rfl, Nat.le_of_ble_eq_true rfl⟩ ⟨Nat.le_of_ble_eq_true rfl, Nat.le_of_ble_eq_true rfl⟩ hl.1 rfl (Nat.le_of_ble_eq_true rfl) dX10_sell_25) (fun r u h H locs B => ?_)
    obtain ⟨rfl, rfl⟩ := h
    have B : gB D G τ (gA α (Lc n) sz) s H locs α (cE G α (sNo S 1).2 J n) (Lc n) := B
    exact ge_wl C B hr hlk (by have e9 : sp_sell S d ho = ((sNo S 1).1, (sNo S 1).2) := (by unfold sp_sell; (first | rw [if_pos c1] | rw [if_neg c1] | rw [if_neg (not_not_intro c1)] | skip); (try simp only [nI_clamp d9_b]); (first | done | rfl)); rw [e9]; exact ⟨rfl, rfl⟩) dX10_sell_28
theorem okS_inc {S : St} {d : Nat} (h : okS S d) : ∀ j, j < (S.2.2.1 25 d).toNatClampNeg → S.2.2.1 26 (7 * d) ≤ S.2.2.1 26 (7 * d + j)
  | 0, _ => by rw [Nat.add_zero, i3e]; omega
  | j + 1, hj => by
    have h1 := okS_inc h j (by omega)
    have h2 := h.2.2.1 j hj
    simp only [i3e, i3l] at h1 h2 ⊢
    omega
theorem holdL_pos {S : St} {d : Nat} (h : okS S d) {mo : Int32} (hm : S.2.2.1 22 d ≤ mo) : ∀ k, k < (S.2.2.1 25 d).toNatClampNeg → 0 ≤ holdL S d mo (k + 1)
  | 0, hk => by
    rw [holdL, if_pos (by rw [Nat.add_zero, h.2.1]; exact hm)]
    exact (h.2.2.2.2 0 hk).1
  | k + 1, hk => by
    rw [holdL]
    split
    · exact (h.2.2.2.2 (k + 1) hk).1
    · exact holdL_pos h hm k (by omega)
theorem hold_pos {S : St} {d : Nat} (h : okS S d) {mo : Int32} (hm : S.2.2.1 22 d ≤ mo) : 0 ≤ sHold S d mo := by
  have h1 := (lr_eq h.1).2.2
  rw [sHold, h1]
  exact holdL_pos h hm _ (by omega)
theorem holdL_neg {S : St} {d : Nat} (h : okS S d) {mo : Int32} (hm : ¬ S.2.2.1 22 d ≤ mo) : ∀ k, k ≤ (S.2.2.1 25 d).toNatClampNeg → holdL S d mo k = -1
  | 0, _ => rfl
  | k + 1, hk => by
    have h1 := okS_inc h k (by omega)
    rw [h.2.1] at h1
    rw [holdL, if_neg (by simp only [i3e] at h1 hm ⊢; omega), holdL_neg h hm k (by omega)]
theorem hold_neg {S : St} {d : Nat} (h : okS S d) {mo : Int32} (hm : ¬ S.2.2.1 22 d ≤ mo) : ¬ 0 ≤ sHold S d mo := by
  rw [sHold, holdL_neg h hm _ (Nat.le_refl _)]
  decide
set_option maxHeartbeats 4000000 in
set_option maxRecDepth 100000 in
theorem c_X10_holder (l : Launch) (D : va_G) (G : Nat → ClassId) (τ α : Nat → Nat) (S J : St) (n sz : Nat) (d mo : Int32) (hN : okN S) (hn : S.1 15 = nI n) (hn30 : n ≤ 30) (hP : okP S) : Wl l D G τ yX10_holder cX10_holder 4 (some .long) 3 0 0 [.ref (α 0), .int d, .int mo] α (cE G α S J n) (Lc n) sz (fun r u => r = (sp_holder S d mo).1 ∧ u = (α, cE G α (sp_holder S d mo).2 J n, Lc n)) := by
  refine gM _ (by decide) rfl (Nat.le_of_ble_eq_true rfl) ?_
  intro p e s m below meth c ls C hr hlk hnm hsz B hl
  have hx := C.1
  have hb := C.2.1
  have hl : lv_has ls 4 [(0, .ref (α 0)), (1, .int d), (2, .int mo)] := hl
  refine lv_aload_n hx hb dX10_holder_0 rfl (lv_at hl 0 rfl) ?_
  refine g_get C B (0) (Lc_in (by decide)) cE_0 rfl gf_10 4 (by decide) wl_230 (v := .ref (α 15)) cF_0_4 dX10_holder_1 ?_
  refine lv_iload_n hx hb dX10_holder_4 rfl (lv_at hl 1 rfl) ?_
  refine gc_f (gr_V C B (k := 15) (As := [.int d]) (rest := []) (c_X3_find l D G τ α S J n _ d hn hn30) (Lc_in (by decide)) cE_15 rfl wl_578 wl_278 wl_279 wl_34 wl_280 (na := 1) (by decide +kernel) rfl ⟨Nat.le_of_ble_eq_true rfl, Nat.le_of_ble_eq_true rfl⟩ ⟨Nat.le_of_ble_eq_true rfl, Nat.le_of_ble_eq_true rfl⟩ hl.1 rfl (Nat.le_of_ble_eq_true rfl) dX10_holder_5) (fun c1 => ?_) (fun c1 => ?_)
  · obtain ⟨d9, d9_d, rfl⟩ := isD_nat c1
    have d9_n : d9 < n := by have h9 := d9_d; rw [nOf, hn, nI_clamp (by omega)] at h9; exact h9
    have d9_b : d9 < 2 ^ 31 := by omega
    rw [nI_clamp d9_b]
    refine lv_astore_n (lv' := [(3, .ref (α (27 + 3 * d9))), (0, .ref (α 0)), (1, .int (nI d9)), (2, .int mo)]) hx hb dX10_holder_8 rfl hl (by decide) rfl (fun ls hl => ?_)
    refine lv_aload_n hx hb dX10_holder_9 rfl (lv_at hl 0 rfl) ?_
    refine lv_ifnull hx hb dX10_holder_10 ?_
    refine lv_iload_n hx hb dX10_holder_13 rfl (lv_at hl 3 rfl) ?_
    refine gc_b (gr_S C B (As := [.int mo]) (rest := []) (c_X10_isMonth l D G τ α _ _ _ mo) wl_399 wl_400 wl_29 wl_401 (na := 1) (by decide +kernel) rfl ⟨Nat.le_of_ble_eq_true rfl, Nat.le_of_ble_eq_true rfl⟩ ⟨Nat.le_of_ble_eq_true rfl, Nat.le_of_ble_eq_true rfl⟩ hl.1 rfl (Nat.le_of_ble_eq_true rfl) dX10_holder_14) (fun c2 => ?_) (fun c2 => ?_)
    · refine lv_if_ne (tgt := 29) hx hb dX10_holder_17 (by decide) (fun _ => ?_) (fun hc => absurd hc (by decide))
      have hk8 := (hP d9 d9_d).2.2.2.2.2.2.2.2.2
      have hk9 := hk8.1
      refine lv_iload_n hx hb dX10_holder_29 rfl (lv_at hl 3 rfl) ?_
      refine lv_aload_n hx hb dX10_holder_30 rfl (lv_at hl 0 rfl) ?_
      refine g_get C B (27 + 3 * d9) (Lc_d (i := d9) (by omega) (by omega) (by omega)) cE_d rfl gf_2 3 (by decide) wl_500 (v := .int ((S.2.2.1 22) d9)) cD_3 dX10_holder_31 ?_
      refine lv_icmp_ge (tgt := 46) hx hb dX10_holder_34 (by decide) (fun c3 => ?_) (fun c3 => ?_)
      · refine lv_aload_n hx hb dX10_holder_46 rfl (lv_at hl 0 rfl) ?_
        refine lv_iload_n hx hb dX10_holder_47 rfl (lv_at hl 3 rfl) ?_
        refine gc_i (gr_V C B (k := 27 + 3 * d9) (As := [.int mo]) (rest := []) (c_X2_holderIn l D G τ α S J n _ d9 mo (by omega) hk9 (by rw [hk8.2.1]; simp only [i3l, i3e, i3q, inR, isC, isD, zi_0, zi_1, zi_2, zi_3, zi_4, zi_5, zi_6, zi_7, zi_8, zi_9, zi_10, zi_12, zi_20, zi_21, zi_30, zi_60, zi_90, zi_99, zi_100, zi_180, zi_240, zi_400, zi_500, zi_1000, zi_1199, zi_10000, zi_100000, zi_1000000, i3m1] at c3 ⊢; omega)) (Lc_d (i := d9) (by omega) (by omega) (by omega)) cE_d rfl wl_609 wl_610 wl_611 wl_42 wl_612 (na := 1) (by decide +kernel) rfl ⟨Nat.le_of_ble_eq_true rfl, Nat.le_of_ble_eq_true rfl⟩ ⟨Nat.le_of_ble_eq_true rfl, Nat.le_of_ble_eq_true rfl⟩ hl.1 rfl (Nat.le_of_ble_eq_true rfl) dX10_holder_48) (fun r h => ?_)
        subst h
        refine lv_i2l (v := (sHold S d9 mo).toInt64) hx hb dX10_holder_51 rfl ?_
        exact ge_wl C B hr hlk (by have e9 : sp_holder S (nI d9) mo = ((sHold S d9 mo).toInt64, S) := (by unfold sp_holder; (first | rw [if_pos c1] | rw [if_neg c1] | rw [if_neg (not_not_intro c1)] | skip); (try simp only [nI_clamp d9_b]); (first | rw [if_pos c2] | rw [if_neg c2] | rw [if_neg (not_not_intro c2)] | skip); (first | rw [if_pos (hold_pos hk8 (show S.2.2.1 22 d9 ≤ mo by simp only [i3l, i3e, i3q, inR, isC, isD, zi_0, zi_1, zi_2, zi_3, zi_4, zi_5, zi_6, zi_7, zi_8, zi_9, zi_10, zi_12, zi_20, zi_21, zi_30, zi_60, zi_90, zi_99, zi_100, zi_180, zi_240, zi_400, zi_500, zi_1000, zi_1199, zi_10000, zi_100000, zi_1000000, i3m1] at c3 ⊢; omega))] | rw [if_neg (hold_neg hk8 (show ¬ S.2.2.1 22 d9 ≤ mo by simp only [i3l, i3e, i3q, inR, isC, isD, zi_0, zi_1, zi_2, zi_3, zi_4, zi_5, zi_6, zi_7, zi_8, zi_9, zi_10, zi_12, zi_20, zi_21, zi_30, zi_60, zi_90, zi_99, zi_100, zi_180, zi_240, zi_400, zi_500, zi_1000, zi_1199, zi_10000, zi_100000, zi_1000000, i3m1] at c3 ⊢; omega))]); (try simp only [nI_clamp d9_b]); (first | done | rfl)); rw [e9]; exact ⟨rfl, rfl⟩) dX10_holder_52
      · refine lv_aload_n hx hb dX10_holder_37 rfl (lv_at hl 1 rfl) ?_
        refine g_get C B (0) (Lc_in (by decide)) cE_0 rfl gf_10 0 (by decide) wl_226 (v := .ref (α 1)) cF_0_0 dX10_holder_38 ?_
        refine lv_iconst (v := 2) hx hb dX10_holder_41 (by decide) ?_
        refine gc_wl B (gr_V C B (k := 1) (As := [.int 2]) (rest := []) (c_X5_answer l D G τ α S J n _ 2 (by decide)) (Lc_in (by decide)) cE_1 rfl wl_267 wl_268 wl_269 wl_30 wl_270 (na := 1) (by decide +kernel) rfl ⟨Nat.le_of_ble_eq_true rfl, Nat.le_of_ble_eq_true rfl⟩ ⟨Nat.le_of_ble_eq_true rfl, Nat.le_of_ble_eq_true rfl⟩ hl.1 rfl (Nat.le_of_ble_eq_true rfl) dX10_holder_42) (fun r u h H locs B => ?_)
        obtain ⟨rfl, rfl⟩ := h
        have B : gB D G τ (gA α (Lc n) sz) s H locs α (cE G α (sNo S 2).2 J n) (Lc n) := B
        exact ge_wl C B hr hlk (by have e9 : sp_holder S (nI d9) mo = ((sNo S 2).1, (sNo S 2).2) := (by unfold sp_holder; (first | rw [if_pos c1] | rw [if_neg c1] | rw [if_neg (not_not_intro c1)] | skip); (try simp only [nI_clamp d9_b]); (first | rw [if_pos c2] | rw [if_neg c2] | rw [if_neg (not_not_intro c2)] | skip); (first | rw [if_pos (hold_pos hk8 (show S.2.2.1 22 d9 ≤ mo by simp only [i3l, i3e, i3q, inR, isC, isD, zi_0, zi_1, zi_2, zi_3, zi_4, zi_5, zi_6, zi_7, zi_8, zi_9, zi_10, zi_12, zi_20, zi_21, zi_30, zi_60, zi_90, zi_99, zi_100, zi_180, zi_240, zi_400, zi_500, zi_1000, zi_1199, zi_10000, zi_100000, zi_1000000, i3m1] at c3 ⊢; omega))] | rw [if_neg (hold_neg hk8 (show ¬ S.2.2.1 22 d9 ≤ mo by simp only [i3l, i3e, i3q, inR, isC, isD, zi_0, zi_1, zi_2, zi_3, zi_4, zi_5, zi_6, zi_7, zi_8, zi_9, zi_10, zi_12, zi_20, zi_21, zi_30, zi_60, zi_90, zi_99, zi_100, zi_180, zi_240, zi_400, zi_500, zi_1000, zi_1199, zi_10000, zi_100000, zi_1000000, i3m1] at c3 ⊢; omega))]); (try simp only [nI_clamp d9_b]); (first | done | rfl)); rw [e9]; exact ⟨rfl, rfl⟩) dX10_holder_45
    · refine lv_if_ne (tgt := 29) hx hb dX10_holder_17 (by decide) (fun hc => absurd (by decide) hc) (fun _ => ?_)
      refine lv_aload_n hx hb dX10_holder_20 rfl (lv_at hl 1 rfl) ?_
      refine g_get C B (0) (Lc_in (by decide)) cE_0 rfl gf_10 0 (by decide) wl_226 (v := .ref (α 1)) cF_0_0 dX10_holder_21 ?_
      refine lv_iconst (v := 1) hx hb dX10_holder_24 (by decide) ?_
      refine gc_wl B (gr_V C B (k := 1) (As := [.int 1]) (rest := []) (c_X5_answer l D G τ α S J n _ 1 (by decide)) (Lc_in (by decide)) cE_1 rfl wl_267 wl_268 wl_269 wl_30 wl_270 (na := 1) (by decide +kernel) rfl ⟨Nat.le_of_ble_eq_true rfl, Nat.le_of_ble_eq_true rfl⟩ ⟨Nat.le_of_ble_eq_true rfl, Nat.le_of_ble_eq_true rfl⟩ hl.1 rfl (Nat.le_of_ble_eq_true rfl) dX10_holder_25) (fun r u h H locs B => ?_)
      obtain ⟨rfl, rfl⟩ := h
      have B : gB D G τ (gA α (Lc n) sz) s H locs α (cE G α (sNo S 1).2 J n) (Lc n) := B
      exact ge_wl C B hr hlk (by have e9 : sp_holder S (nI d9) mo = ((sNo S 1).1, (sNo S 1).2) := (by unfold sp_holder; (first | rw [if_pos c1] | rw [if_neg c1] | rw [if_neg (not_not_intro c1)] | skip); (try simp only [nI_clamp d9_b]); (first | rw [if_pos c2] | rw [if_neg c2] | rw [if_neg (not_not_intro c2)] | skip); (try simp only [nI_clamp d9_b]); (first | done | rfl)); rw [e9]; exact ⟨rfl, rfl⟩) dX10_holder_28
  · refine lv_astore_nN (lv' := [(3, .null), (0, .ref (α 0)), (1, .int d), (2, .int mo)]) hx hb dX10_holder_8 rfl hl (by decide) rfl (fun ls hl => ?_)
    refine lv_aload_nN hx hb dX10_holder_9 rfl (lv_at hl 0 rfl) ?_
    refine lv_ifnullN (tgt := 20) hx hb dX10_holder_10 (by decide) ?_
    refine lv_aload_n hx hb dX10_holder_20 rfl (lv_at hl 1 rfl) ?_
    refine g_get C B (0) (Lc_in (by decide)) cE_0 rfl gf_10 0 (by decide) wl_226 (v := .ref (α 1)) cF_0_0 dX10_holder_21 ?_
    refine lv_iconst (v := 1) hx hb dX10_holder_24 (by decide) ?_
    refine gc_wl B (gr_V C B (k := 1) (As := [.int 1]) (rest := []) (c_X5_answer l D G τ α S J n _ 1 (by decide)) (Lc_in (by decide)) cE_1 rfl wl_267 wl_268 wl_269 wl_30 wl_270 (na := 1) (by decide +kernel) rfl ⟨Nat.le_of_ble_eq_true rfl, Nat.le_of_ble_eq_true rfl⟩ ⟨Nat.le_of_ble_eq_true rfl, Nat.le_of_ble_eq_true rfl⟩ hl.1 rfl (Nat.le_of_ble_eq_true rfl) dX10_holder_25) (fun r u h H locs B => ?_)
    obtain ⟨rfl, rfl⟩ := h
    have B : gB D G τ (gA α (Lc n) sz) s H locs α (cE G α (sNo S 1).2 J n) (Lc n) := B
    exact ge_wl C B hr hlk (by have e9 : sp_holder S d mo = ((sNo S 1).1, (sNo S 1).2) := (by unfold sp_holder; (first | rw [if_pos c1] | rw [if_neg c1] | rw [if_neg (not_not_intro c1)] | skip); (try simp only [nI_clamp d9_b]); (first | done | rfl)); rw [e9]; exact ⟨rfl, rfl⟩) dX10_holder_28
set_option maxHeartbeats 4000000 in
set_option maxRecDepth 100000 in
theorem c_X10_due (l : Launch) (D : va_G) (G : Nat → ClassId) (τ α : Nat → Nat) (S J : St) (n sz : Nat) (d k w : Int32) (hN : okN S) (hn : S.1 15 = nI n) (hn30 : n ≤ 30) (hF : okF S) (hJ9 : ∀ i, i < n → S.2.2.1 16 i = 1 → J.2.2.1 0 i = S.2.2.1 18 i) : Wl l D G τ yX10_due cX10_due 6 (some .long) 5 0 0 [.ref (α 0), .int d, .int k, .int w] α (cE G α S J n) (Lc n) sz (fun r u => r = (sp_due S d k w).1 ∧ u = (α, cE G α (sp_due S d k w).2 J n, Lc n)) := by
  refine gM _ (by decide) rfl (Nat.le_of_ble_eq_true rfl) ?_
  intro p e s m below meth c ls C hr hlk hnm hsz B hl
  have hx := C.1
  have hb := C.2.1
  have hl : lv_has ls 6 [(0, .ref (α 0)), (1, .int d), (2, .int k), (3, .int w)] := hl
  refine lv_aload_n hx hb dX10_due_0 rfl (lv_at hl 0 rfl) ?_
  refine g_get C B (0) (Lc_in (by decide)) cE_0 rfl gf_10 4 (by decide) wl_230 (v := .ref (α 15)) cF_0_4 dX10_due_1 ?_
  refine lv_iload_n hx hb dX10_due_4 rfl (lv_at hl 1 rfl) ?_
  refine gc_f (gr_V C B (k := 15) (As := [.int d]) (rest := []) (c_X3_find l D G τ α S J n _ d hn hn30) (Lc_in (by decide)) cE_15 rfl wl_578 wl_278 wl_279 wl_34 wl_280 (na := 1) (by decide +kernel) rfl ⟨Nat.le_of_ble_eq_true rfl, Nat.le_of_ble_eq_true rfl⟩ ⟨Nat.le_of_ble_eq_true rfl, Nat.le_of_ble_eq_true rfl⟩ hl.1 rfl (Nat.le_of_ble_eq_true rfl) dX10_due_5) (fun c1 => ?_) (fun c1 => ?_)
  · obtain ⟨d9, d9_d, rfl⟩ := isD_nat c1
    have d9_n : d9 < n := by have h9 := d9_d; rw [nOf, hn, nI_clamp (by omega)] at h9; exact h9
    have d9_b : d9 < 2 ^ 31 := by omega
    rw [nI_clamp d9_b]
    refine lv_astore (lv' := [(4, .ref (α (27 + 3 * d9))), (0, .ref (α 0)), (1, .int (nI d9)), (2, .int k), (3, .int w)]) hx hb dX10_due_8 hl (by decide) rfl (fun ls hl => ?_)
    refine lv_aload hx hb dX10_due_10 (lv_at hl 0 rfl) ?_
    refine lv_ifnull hx hb dX10_due_12 ?_
    refine lv_iload_n hx hb dX10_due_15 rfl (lv_at hl 3 rfl) ?_
    refine gc_b (gr_S C B (As := [.int k]) (rest := []) (c_X10_isMonth l D G τ α _ _ _ k) wl_399 wl_400 wl_29 wl_401 (na := 1) (by decide +kernel) rfl ⟨Nat.le_of_ble_eq_true rfl, Nat.le_of_ble_eq_true rfl⟩ ⟨Nat.le_of_ble_eq_true rfl, Nat.le_of_ble_eq_true rfl⟩ hl.1 rfl (Nat.le_of_ble_eq_true rfl) dX10_due_16) (fun c2 => ?_) (fun c2 => ?_)
    · refine lv_if_eq (tgt := 31) hx hb dX10_due_19 (by decide) (fun hc => absurd hc (by decide)) (fun _ => ?_)
      refine lv_iload_n hx hb dX10_due_22 rfl (lv_at hl 4 rfl) ?_
      refine lv_iconst (v := 0) hx hb dX10_due_23 (by decide) ?_
      refine lv_iconst (v := 3) hx hb dX10_due_24 (by decide) ?_
      refine gc_b (gr_S C B (As := [.int w, .int 0, .int 3]) (rest := []) (c_X10_isWithin l D G τ α _ _ _ w 0 3) wl_264 wl_265 wl_29 wl_266 (na := 3) (by decide +kernel) rfl ⟨Nat.le_of_ble_eq_true rfl, Nat.le_of_ble_eq_true rfl⟩ ⟨Nat.le_of_ble_eq_true rfl, Nat.le_of_ble_eq_true rfl⟩ hl.1 rfl (Nat.le_of_ble_eq_true rfl) dX10_due_25) (fun c3 => ?_) (fun c3 => ?_)
      · refine lv_if_ne (tgt := 40) hx hb dX10_due_28 (by decide) (fun _ => ?_) (fun hc => absurd hc (by decide))
        refine lv_aload_n hx hb dX10_due_40 rfl (lv_at hl 1 rfl) ?_
        refine g_get C B (0) (Lc_in (by decide)) cE_0 rfl gf_10 5 (by decide) wl_231 (v := .ref (α 17)) cF_0_5 dX10_due_41 ?_
        refine lv_aload hx hb dX10_due_44 (lv_at hl 0 rfl) ?_
        refine lv_iload_n hx hb dX10_due_46 rfl (lv_at hl 3 rfl) ?_
        refine gc_o (oI := oI) (gr_V C B (k := 17) (As := [.ref (α (27 + 3 * d9)), .int k]) (rest := []) (c_X4_fallRow l D G τ α S J n _ d9 k (by omega) hN hF (hJ9 d9 d9_n)) (Lc_in (by decide)) cE_17 rfl wl_617 wl_282 wl_283 wl_35 wl_284 (na := 2) (by decide +kernel) rfl ⟨Nat.le_of_ble_eq_true rfl, Nat.le_of_ble_eq_true rfl⟩ ⟨Nat.le_of_ble_eq_true rfl, Nat.le_of_ble_eq_true rfl⟩ hl.1 rfl (Nat.le_of_ble_eq_true rfl) dX10_due_47) (fun o4 => ?_) (fun f5 o4 => ?_)
        · refine lv_istore (lv' := [(5, .int (-1)), (4, .ref (α (27 + 3 * d9))), (0, .ref (α 0)), (1, .int (nI d9)), (2, .int k), (3, .int w)]) hx hb dX10_due_50 hl (by decide) rfl (fun ls hl => ?_)
          refine lv_iload hx hb dX10_due_52 (lv_at hl 0 rfl) ?_
          refine lv_iconst (v := (-1)) hx hb dX10_due_54 (by decide) ?_
          refine lv_icmp_ne (tgt := 67) hx hb dX10_due_55 (by decide) (fun hc => absurd (by decide) hc) (fun _ => ?_)
          refine lv_aload_n hx hb dX10_due_58 rfl (lv_at hl 2 rfl) ?_
          refine g_get C B (0) (Lc_in (by decide)) cE_0 rfl gf_10 0 (by decide) wl_226 (v := .ref (α 1)) cF_0_0 dX10_due_59 ?_
          refine lv_iconst (v := 2) hx hb dX10_due_62 (by decide) ?_
          refine gc_wl B (gr_V C B (k := 1) (As := [.int 2]) (rest := []) (c_X5_answer l D G τ α S J n _ 2 (by decide)) (Lc_in (by decide)) cE_1 rfl wl_267 wl_268 wl_269 wl_30 wl_270 (na := 1) (by decide +kernel) rfl ⟨Nat.le_of_ble_eq_true rfl, Nat.le_of_ble_eq_true rfl⟩ ⟨Nat.le_of_ble_eq_true rfl, Nat.le_of_ble_eq_true rfl⟩ hl.1 rfl (Nat.le_of_ble_eq_true rfl) dX10_due_63) (fun r u h H locs B => ?_)
          obtain ⟨rfl, rfl⟩ := h
          have B : gB D G τ (gA α (Lc n) sz) s H locs α (cE G α (sNo S 2).2 J n) (Lc n) := B
          exact ge_wl C B hr hlk (by have e9 : sp_due S (nI d9) k w = ((sNo S 2).1, (sNo S 2).2) := (by unfold sp_due; (first | rw [if_pos c1] | rw [if_neg c1] | rw [if_neg (not_not_intro c1)] | skip); (try simp only [nI_clamp d9_b]); (first | rw [if_pos c2] | rw [if_neg c2] | rw [if_neg (not_not_intro c2)] | skip); (first | rw [if_pos c3] | rw [if_neg c3] | rw [if_neg (not_not_intro c3)] | skip); (first | rw [o4] | skip); (try dsimp only); (try simp only [nI_clamp d9_b]); (first | done | rfl)); rw [e9]; exact ⟨rfl, rfl⟩) dX10_due_66
        · have f5_b : f5 < 90 := Nat.lt_of_lt_of_le (sFall_lt o4).1 (nOf_le hN.2.2.2.1.1 hN.2.2.2.1.2 (by decide))
          refine lv_istore (lv' := [(5, .int (nI f5)), (4, .ref (α (27 + 3 * d9))), (0, .ref (α 0)), (1, .int (nI d9)), (2, .int k), (3, .int w)]) hx hb dX10_due_50 hl (by decide) rfl (fun ls hl => ?_)
          refine lv_iload hx hb dX10_due_52 (lv_at hl 0 rfl) ?_
          refine lv_iconst (v := (-1)) hx hb dX10_due_54 (by decide) ?_
          refine lv_icmp_ne (tgt := 67) hx hb dX10_due_55 (by decide) (fun _ => ?_) (fun hc => absurd hc (nI_m1 (by omega)))
          refine lv_iload_n hx hb dX10_due_67 rfl (lv_at hl 5 rfl) ?_
          rcases sw_2 w with w6 | w6 | w6 | w6
          · refine lv_tableIn (tgt := 96) hx hb dX10_due_68 (by rw [w6]; decide) (by rw [w6]; decide) (off := 28) (by rw [w6]; rfl) (by decide) ?_
            refine lv_aload_n hx hb dX10_due_96 rfl (lv_at hl 2 rfl) ?_
            refine g_get C B (0) (Lc_in (by decide)) cE_0 rfl gf_10 3 (by decide) wl_229 (v := .ref (α 9)) cF_0_3 dX10_due_97 ?_
            refine lv_iload hx hb dX10_due_100 (lv_at hl 0 rfl) ?_
            refine gc_i (gr_V C B (k := 9) (As := [.int (nI f5)]) (rest := []) (c_X0_monthOf l D G τ α S J n _ f5 (by omega)) (Lc_in (by decide)) cE_9 rfl wl_466 wl_297 wl_298 wl_33 wl_299 (na := 1) (by decide +kernel) rfl ⟨Nat.le_of_ble_eq_true rfl, Nat.le_of_ble_eq_true rfl⟩ ⟨Nat.le_of_ble_eq_true rfl, Nat.le_of_ble_eq_true rfl⟩ hl.1 rfl (Nat.le_of_ble_eq_true rfl) dX10_due_102) (fun r h => ?_)
            subst h
            refine lv_i2l (v := (S.2.2.1 13 f5).toInt64) hx hb dX10_due_105 rfl ?_
            exact ge_wl C B hr hlk (by have e9 : sp_due S (nI d9) k w = ((S.2.2.1 13 f5).toInt64, S) := (by unfold sp_due; (first | rw [if_pos c1] | rw [if_neg c1] | rw [if_neg (not_not_intro c1)] | skip); (try simp only [nI_clamp d9_b]); (first | rw [if_pos c2] | rw [if_neg c2] | rw [if_neg (not_not_intro c2)] | skip); (first | rw [if_pos c3] | rw [if_neg c3] | rw [if_neg (not_not_intro c3)] | skip); (first | rw [o4] | skip); (try dsimp only); (first | rw [if_neg (by rw [w6]; decide)] | (rw [if_pos w6]) | (rw [if_neg (sw_ne w6 (by decide))]) | skip); (first | rw [if_neg (by rw [w6]; decide)] | (rw [if_pos w6]) | (rw [if_neg (sw_ne w6 (by decide))]) | skip); (first | rw [if_neg (by rw [w6]; decide)] | (rw [if_pos w6]) | (rw [if_neg (sw_ne w6 (by decide))]) | skip); (try simp only [nI_clamp d9_b]); (first | done | rfl)); rw [e9]; exact ⟨rfl, rfl⟩) dX10_due_106
          · refine lv_tableIn (tgt := 107) hx hb dX10_due_68 (by rw [w6]; decide) (by rw [w6]; decide) (off := 39) (by rw [w6]; rfl) (by decide) ?_
            refine lv_aload_n hx hb dX10_due_107 rfl (lv_at hl 2 rfl) ?_
            refine g_get C B (0) (Lc_in (by decide)) cE_0 rfl gf_10 5 (by decide) wl_231 (v := .ref (α 17)) cF_0_5 dX10_due_108 ?_
            refine lv_iload hx hb dX10_due_111 (lv_at hl 0 rfl) ?_
            refine lv_iload_n hx hb dX10_due_113 rfl (lv_at hl 4 rfl) ?_
            refine gc_i (gr_V C B (k := 17) (As := [.int (nI f5), .int k]) (rest := []) (c_X4_dueMonth l D G τ α S J n _ f5 k (by omega) hN) (Lc_in (by decide)) cE_17 rfl wl_618 wl_311 wl_312 wl_35 wl_313 (na := 2) (by decide +kernel) rfl ⟨Nat.le_of_ble_eq_true rfl, Nat.le_of_ble_eq_true rfl⟩ ⟨Nat.le_of_ble_eq_true rfl, Nat.le_of_ble_eq_true rfl⟩ hl.1 rfl (Nat.le_of_ble_eq_true rfl) dX10_due_114) (fun r h => ?_)
            subst h
            refine lv_i2l (v := (sDueM S f5 k).toInt64) hx hb dX10_due_117 rfl ?_
            exact ge_wl C B hr hlk (by have e9 : sp_due S (nI d9) k w = ((sDueM S f5 k).toInt64, S) := (by unfold sp_due; (first | rw [if_pos c1] | rw [if_neg c1] | rw [if_neg (not_not_intro c1)] | skip); (try simp only [nI_clamp d9_b]); (first | rw [if_pos c2] | rw [if_neg c2] | rw [if_neg (not_not_intro c2)] | skip); (first | rw [if_pos c3] | rw [if_neg c3] | rw [if_neg (not_not_intro c3)] | skip); (first | rw [o4] | skip); (try dsimp only); (first | rw [if_neg (by rw [w6]; decide)] | (rw [if_pos w6]) | (rw [if_neg (sw_ne w6 (by decide))]) | skip); (first | rw [if_neg (by rw [w6]; decide)] | (rw [if_pos w6]) | (rw [if_neg (sw_ne w6 (by decide))]) | skip); (first | rw [if_neg (by rw [w6]; decide)] | (rw [if_pos w6]) | (rw [if_neg (sw_ne w6 (by decide))]) | skip); (try simp only [nI_clamp d9_b]); (first | done | rfl)); rw [e9]; exact ⟨rfl, rfl⟩) dX10_due_118
          · refine lv_tableIn (tgt := 119) hx hb dX10_due_68 (by rw [w6]; decide) (by rw [w6]; decide) (off := 51) (by rw [w6]; rfl) (by decide) ?_
            refine lv_aload_n hx hb dX10_due_119 rfl (lv_at hl 2 rfl) ?_
            refine g_get C B (0) (Lc_in (by decide)) cE_0 rfl gf_10 5 (by decide) wl_231 (v := .ref (α 17)) cF_0_5 dX10_due_120 ?_
            refine lv_aload hx hb dX10_due_123 (lv_at hl 1 rfl) ?_
            refine lv_iload hx hb dX10_due_125 (lv_at hl 0 rfl) ?_
            refine lv_iload_n hx hb dX10_due_127 rfl (lv_at hl 4 rfl) ?_
            refine gc_l (gr_V C B (k := 17) (As := [.ref (α (27 + 3 * d9)), .int (nI f5), .int k]) (rest := []) (c_X4_dueSum l D G τ α S J n _ d9 f5 k (by omega) (by omega) hN) (Lc_in (by decide)) cE_17 rfl wl_619 wl_325 wl_326 wl_35 wl_327 (na := 3) (by decide +kernel) rfl ⟨Nat.le_of_ble_eq_true rfl, Nat.le_of_ble_eq_true rfl⟩ ⟨Nat.le_of_ble_eq_true rfl, Nat.le_of_ble_eq_true rfl⟩ hl.1 rfl (Nat.le_of_ble_eq_true rfl) dX10_due_128) (fun r h => ?_)
            subst h
            exact ge_wl C B hr hlk (by have e9 : sp_due S (nI d9) k w = ((sDue S d9 f5 k), S) := (by unfold sp_due; (first | rw [if_pos c1] | rw [if_neg c1] | rw [if_neg (not_not_intro c1)] | skip); (try simp only [nI_clamp d9_b]); (first | rw [if_pos c2] | rw [if_neg c2] | rw [if_neg (not_not_intro c2)] | skip); (first | rw [if_pos c3] | rw [if_neg c3] | rw [if_neg (not_not_intro c3)] | skip); (first | rw [o4] | skip); (try dsimp only); (first | rw [if_neg (by rw [w6]; decide)] | (rw [if_pos w6]) | (rw [if_neg (sw_ne w6 (by decide))]) | skip); (first | rw [if_neg (by rw [w6]; decide)] | (rw [if_pos w6]) | (rw [if_neg (sw_ne w6 (by decide))]) | skip); (first | rw [if_neg (by rw [w6]; decide)] | (rw [if_pos w6]) | (rw [if_neg (sw_ne w6 (by decide))]) | skip); (try simp only [nI_clamp d9_b]); (first | done | rfl)); rw [e9]; exact ⟨rfl, rfl⟩) dX10_due_131
          · refine lv_tableOut (tgt := 132) hx hb dX10_due_68 w6 (by decide) ?_
            refine lv_aload_n hx hb dX10_due_132 rfl (lv_at hl 2 rfl) ?_
            refine g_get C B (0) (Lc_in (by decide)) cE_0 rfl gf_10 3 (by decide) wl_229 (v := .ref (α 9)) cF_0_3 dX10_due_133 ?_
            refine lv_iload hx hb dX10_due_136 (lv_at hl 0 rfl) ?_
            refine gc_i (gr_V C B (k := 9) (As := [.int (nI f5)]) (rest := []) (c_X0_fateOf l D G τ α S J n _ f5 (by omega)) (Lc_in (by decide)) cE_9 rfl wl_467 wl_306 wl_307 wl_33 wl_308 (na := 1) (by decide +kernel) rfl ⟨Nat.le_of_ble_eq_true rfl, Nat.le_of_ble_eq_true rfl⟩ ⟨Nat.le_of_ble_eq_true rfl, Nat.le_of_ble_eq_true rfl⟩ hl.1 rfl (Nat.le_of_ble_eq_true rfl) dX10_due_138) (fun r h => ?_)
            subst h
            refine lv_i2l (v := (S.2.2.1 12 f5).toInt64) hx hb dX10_due_141 rfl ?_
            exact ge_wl C B hr hlk (by have e9 : sp_due S (nI d9) k w = ((S.2.2.1 12 f5).toInt64, S) := (by unfold sp_due; (first | rw [if_pos c1] | rw [if_neg c1] | rw [if_neg (not_not_intro c1)] | skip); (try simp only [nI_clamp d9_b]); (first | rw [if_pos c2] | rw [if_neg c2] | rw [if_neg (not_not_intro c2)] | skip); (first | rw [if_pos c3] | rw [if_neg c3] | rw [if_neg (not_not_intro c3)] | skip); (first | rw [o4] | skip); (try dsimp only); (first | rw [if_neg (by rw [w6]; decide)] | (rw [if_pos w6]) | (rw [if_neg (sw_ne w6 (by decide))]) | skip); (first | rw [if_neg (by rw [w6]; decide)] | (rw [if_pos w6]) | (rw [if_neg (sw_ne w6 (by decide))]) | skip); (first | rw [if_neg (by rw [w6]; decide)] | (rw [if_pos w6]) | (rw [if_neg (sw_ne w6 (by decide))]) | skip); (try simp only [nI_clamp d9_b]); (first | done | rfl)); rw [e9]; exact ⟨rfl, rfl⟩) dX10_due_142
      · refine lv_if_ne (tgt := 40) hx hb dX10_due_28 (by decide) (fun hc => absurd (by decide) hc) (fun _ => ?_)
        refine lv_aload_n hx hb dX10_due_31 rfl (lv_at hl 1 rfl) ?_
        refine g_get C B (0) (Lc_in (by decide)) cE_0 rfl gf_10 0 (by decide) wl_226 (v := .ref (α 1)) cF_0_0 dX10_due_32 ?_
        refine lv_iconst (v := 1) hx hb dX10_due_35 (by decide) ?_
        refine gc_wl B (gr_V C B (k := 1) (As := [.int 1]) (rest := []) (c_X5_answer l D G τ α S J n _ 1 (by decide)) (Lc_in (by decide)) cE_1 rfl wl_267 wl_268 wl_269 wl_30 wl_270 (na := 1) (by decide +kernel) rfl ⟨Nat.le_of_ble_eq_true rfl, Nat.le_of_ble_eq_true rfl⟩ ⟨Nat.le_of_ble_eq_true rfl, Nat.le_of_ble_eq_true rfl⟩ hl.1 rfl (Nat.le_of_ble_eq_true rfl) dX10_due_36) (fun r u h H locs B => ?_)
        obtain ⟨rfl, rfl⟩ := h
        have B : gB D G τ (gA α (Lc n) sz) s H locs α (cE G α (sNo S 1).2 J n) (Lc n) := B
        exact ge_wl C B hr hlk (by have e9 : sp_due S (nI d9) k w = ((sNo S 1).1, (sNo S 1).2) := (by unfold sp_due; (first | rw [if_pos c1] | rw [if_neg c1] | rw [if_neg (not_not_intro c1)] | skip); (try simp only [nI_clamp d9_b]); (first | rw [if_pos c2] | rw [if_neg c2] | rw [if_neg (not_not_intro c2)] | skip); (first | rw [if_pos c3] | rw [if_neg c3] | rw [if_neg (not_not_intro c3)] | skip); (try simp only [nI_clamp d9_b]); (first | done | rfl)); rw [e9]; exact ⟨rfl, rfl⟩) dX10_due_39
    · refine lv_if_eq (tgt := 31) hx hb dX10_due_19 (by decide) (fun _ => ?_) (fun hc => absurd (by decide) hc)
      refine lv_aload_n hx hb dX10_due_31 rfl (lv_at hl 1 rfl) ?_
      refine g_get C B (0) (Lc_in (by decide)) cE_0 rfl gf_10 0 (by decide) wl_226 (v := .ref (α 1)) cF_0_0 dX10_due_32 ?_
      refine lv_iconst (v := 1) hx hb dX10_due_35 (by decide) ?_
      refine gc_wl B (gr_V C B (k := 1) (As := [.int 1]) (rest := []) (c_X5_answer l D G τ α S J n _ 1 (by decide)) (Lc_in (by decide)) cE_1 rfl wl_267 wl_268 wl_269 wl_30 wl_270 (na := 1) (by decide +kernel) rfl ⟨Nat.le_of_ble_eq_true rfl, Nat.le_of_ble_eq_true rfl⟩ ⟨Nat.le_of_ble_eq_true rfl, Nat.le_of_ble_eq_true rfl⟩ hl.1 rfl (Nat.le_of_ble_eq_true rfl) dX10_due_36) (fun r u h H locs B => ?_)
      obtain ⟨rfl, rfl⟩ := h
      have B : gB D G τ (gA α (Lc n) sz) s H locs α (cE G α (sNo S 1).2 J n) (Lc n) := B
      exact ge_wl C B hr hlk (by have e9 : sp_due S (nI d9) k w = ((sNo S 1).1, (sNo S 1).2) := (by unfold sp_due; (first | rw [if_pos c1] | rw [if_neg c1] | rw [if_neg (not_not_intro c1)] | skip); (try simp only [nI_clamp d9_b]); (first | rw [if_pos c2] | rw [if_neg c2] | rw [if_neg (not_not_intro c2)] | skip); (try simp only [nI_clamp d9_b]); (first | done | rfl)); rw [e9]; exact ⟨rfl, rfl⟩) dX10_due_39
  · refine lv_astoreN (lv' := [(4, .null), (0, .ref (α 0)), (1, .int d), (2, .int k), (3, .int w)]) hx hb dX10_due_8 hl (by decide) rfl (fun ls hl => ?_)
    refine lv_aloadN hx hb dX10_due_10 (lv_at hl 0 rfl) ?_
    refine lv_ifnullN (tgt := 31) hx hb dX10_due_12 (by decide) ?_
    refine lv_aload_n hx hb dX10_due_31 rfl (lv_at hl 1 rfl) ?_
    refine g_get C B (0) (Lc_in (by decide)) cE_0 rfl gf_10 0 (by decide) wl_226 (v := .ref (α 1)) cF_0_0 dX10_due_32 ?_
    refine lv_iconst (v := 1) hx hb dX10_due_35 (by decide) ?_
    refine gc_wl B (gr_V C B (k := 1) (As := [.int 1]) (rest := []) (c_X5_answer l D G τ α S J n _ 1 (by decide)) (Lc_in (by decide)) cE_1 rfl wl_267 wl_268 wl_269 wl_30 wl_270 (na := 1) (by decide +kernel) rfl ⟨Nat.le_of_ble_eq_true rfl, Nat.le_of_ble_eq_true rfl⟩ ⟨Nat.le_of_ble_eq_true rfl, Nat.le_of_ble_eq_true rfl⟩ hl.1 rfl (Nat.le_of_ble_eq_true rfl) dX10_due_36) (fun r u h H locs B => ?_)
    obtain ⟨rfl, rfl⟩ := h
    have B : gB D G τ (gA α (Lc n) sz) s H locs α (cE G α (sNo S 1).2 J n) (Lc n) := B
    exact ge_wl C B hr hlk (by have e9 : sp_due S d k w = ((sNo S 1).1, (sNo S 1).2) := (by unfold sp_due; (first | rw [if_pos c1] | rw [if_neg c1] | rw [if_neg (not_not_intro c1)] | skip); (try simp only [nI_clamp d9_b]); (first | done | rfl)); rw [e9]; exact ⟨rfl, rfl⟩) dX10_due_39
set_option maxHeartbeats 4000000 in
set_option maxRecDepth 100000 in
theorem c_X10_foretold (l : Launch) (D : va_G) (G : Nat → ClassId) (τ α : Nat → Nat) (S J : St) (n sz : Nat) (mo : Int32) (hN : okN S) (hn : S.1 15 = nI n) (hn30 : n ≤ 30) (hF : okF S) (hJ9 : ∀ i, i < n → S.2.2.1 16 i = 1 → J.2.2.1 0 i = S.2.2.1 18 i) : Wl l D G τ yX10_foretold cX10_foretold 7 (some .long) 5 0 0 [.ref (α 0), .int mo] α (cE G α S J n) (Lc n) sz (fun r u => r = (sp_foretold S mo).1 ∧ u = (α, cE G α (sp_foretold S mo).2 J n, Lc n)) := by
  refine gM _ (by decide) rfl (Nat.le_of_ble_eq_true rfl) ?_
  intro p e s m below meth c ls C hr hlk hnm hsz B hl
  have hx := C.1
  have hb := C.2.1
  have hl : lv_has ls 7 [(0, .ref (α 0)), (1, .int mo)] := hl
  by_cases hmo : ¬ inR mo 0 1199
  · refine lv_iload_n hx hb dX10_foretold_0 rfl (lv_at hl 1 rfl) ?_
    refine gc_b (gr_S C B (As := [.int mo]) (rest := []) (c_X10_isMonth l D G τ α _ _ _ mo) wl_399 wl_400 wl_29 wl_401 (na := 1) (by decide +kernel) rfl ⟨Nat.le_of_ble_eq_true rfl, Nat.le_of_ble_eq_true rfl⟩ ⟨Nat.le_of_ble_eq_true rfl, Nat.le_of_ble_eq_true rfl⟩ hl.1 rfl (Nat.le_of_ble_eq_true rfl) dX10_foretold_1) (fun c1 => ?_) (fun c1 => ?_)
    · refine lv_if_ne (tgt := 16) hx hb dX10_foretold_4 (by decide) (fun _ => ?_) (fun hc => absurd hc (by decide))
      exact absurd c1 hmo
    · refine lv_if_ne (tgt := 16) hx hb dX10_foretold_4 (by decide) (fun hc => absurd (by decide) hc) (fun _ => ?_)
      refine lv_aload_n hx hb dX10_foretold_7 rfl (lv_at hl 0 rfl) ?_
      refine g_get C B (0) (Lc_in (by decide)) cE_0 rfl gf_10 0 (by decide) wl_226 (v := .ref (α 1)) cF_0_0 dX10_foretold_8 ?_
      refine lv_iconst (v := 1) hx hb dX10_foretold_11 (by decide) ?_
      refine gc_wl B (gr_V C B (k := 1) (As := [.int 1]) (rest := []) (c_X5_answer l D G τ α S J n _ 1 (by decide)) (Lc_in (by decide)) cE_1 rfl wl_267 wl_268 wl_269 wl_30 wl_270 (na := 1) (by decide +kernel) rfl ⟨Nat.le_of_ble_eq_true rfl, Nat.le_of_ble_eq_true rfl⟩ ⟨Nat.le_of_ble_eq_true rfl, Nat.le_of_ble_eq_true rfl⟩ hl.1 rfl (Nat.le_of_ble_eq_true rfl) dX10_foretold_12) (fun r u h H locs B => ?_)
      obtain ⟨rfl, rfl⟩ := h
      have B : gB D G τ (gA α (Lc n) sz) s H locs α (cE G α (sNo S 1).2 J n) (Lc n) := B
      exact ge_wl C B hr hlk (by have e9 : sp_foretold S mo = ((sNo S 1).1, (sNo S 1).2) := (by unfold sp_foretold; (first | rw [if_pos c1] | rw [if_neg c1] | rw [if_neg (not_not_intro c1)] | skip); (first | done | rfl)); rw [e9]; exact ⟨rfl, rfl⟩) dX10_foretold_15
  have hmo : inR mo 0 1199 := Decidable.not_not.mp hmo
  have loop : ∀ (nn kk : Nat) (x : Int64) (ls : Array Slot), nn + kk = n → (forL S mo kk = x) → lv_has ls 7 [(4, .int (nI kk)), (2, .long x), (0, .ref (α 0)), (1, .int mo)] → W p l e (rmd 5 0 0) s m [.ref (α 0), .int mo].toArray below meth c s.heap [] 0 0 (MQ below (va_Ql (fun r u => r = (sp_foretold S mo).1 ∧ u = (α, cE G α (sp_foretold S mo).2 J n, Lc n)) (gAt D (gA α (Lc n) sz)) (gA α (Lc n) sz)) [.ref (α 0), .int mo].toArray s 0 0 (gA α (Lc n) sz)) (F0 m 21 ls []) := by
    intro nn
    induction nn with
    | zero =>
      intro kk x ls hk hI hl
      refine lv_iload hx hb dX10_foretold_21 (lv_at hl 0 rfl) ?_
      refine lv_aload_n hx hb dX10_foretold_23 rfl (lv_at hl 2 rfl) ?_
      refine g_get C B (0) (Lc_in (by decide)) cE_0 rfl gf_10 4 (by decide) wl_230 (v := .ref (α 15)) cF_0_4 dX10_foretold_24 ?_
      refine g_get C B (15) (Lc_in (by decide)) cE_15 rfl gf_3 1 (by decide) wl_130 (v := .int (S.1 15)) cF_15_1 dX10_foretold_27 ?_
      refine lv_icmp_ge (tgt := 97) hx hb dX10_foretold_30 (by decide) (fun _ => ?_) (fun hc => absurd (by rw [hn]; exact nI_le (by omega) (by omega)) hc)
      refine lv_lload_n hx hb dX10_foretold_97 rfl (lv_at hl 1 rfl) ?_
      exact ge_wl C B hr hlk (by have e9 : sp_foretold S mo = (x, S) := (by unfold sp_foretold; rw [if_neg (not_not_intro hmo), nOf, hn, nI_clamp (by omega), show n = kk by omega, hI]); rw [e9]; exact ⟨rfl, rfl⟩) dX10_foretold_98
    | succ nn ih =>
      intro kk x ls hk hI hl
      refine lv_iload hx hb dX10_foretold_21 (lv_at hl 0 rfl) ?_
      refine lv_aload_n hx hb dX10_foretold_23 rfl (lv_at hl 2 rfl) ?_
      refine g_get C B (0) (Lc_in (by decide)) cE_0 rfl gf_10 4 (by decide) wl_230 (v := .ref (α 15)) cF_0_4 dX10_foretold_24 ?_
      refine g_get C B (15) (Lc_in (by decide)) cE_15 rfl gf_3 1 (by decide) wl_130 (v := .int (S.1 15)) cF_15_1 dX10_foretold_27 ?_
      refine lv_icmp_ge (tgt := 97) hx hb dX10_foretold_30 (by decide) (fun hc => absurd hc (by rw [hn]; exact nI_ge (by omega) (by omega))) (fun _ => ?_)
      refine lv_aload_n hx hb dX10_foretold_33 rfl (lv_at hl 2 rfl) ?_
      refine g_get C B (0) (Lc_in (by decide)) cE_0 rfl gf_10 4 (by decide) wl_230 (v := .ref (α 15)) cF_0_4 dX10_foretold_34 ?_
      refine lv_iload hx hb dX10_foretold_37 (lv_at hl 0 rfl) ?_
      refine gc_r (gr_V C B (k := 15) (As := [.int (nI kk)]) (rest := []) (c_X3_findN l D G τ α S J n _ kk (by omega) hn hn30) (Lc_in (by decide)) cE_15 rfl wl_578 wl_278 wl_279 wl_34 wl_280 (na := 1) (by decide +kernel) rfl ⟨Nat.le_of_ble_eq_true rfl, Nat.le_of_ble_eq_true rfl⟩ ⟨Nat.le_of_ble_eq_true rfl, Nat.le_of_ble_eq_true rfl⟩ hl.1 rfl (Nat.le_of_ble_eq_true rfl) dX10_foretold_39) ?_
      refine lv_astore (lv' := [(5, .ref (α (27 + 3 * kk))), (4, .int (nI kk)), (2, .long x), (0, .ref (α 0)), (1, .int mo)]) hx hb dX10_foretold_42 hl (by decide) rfl (fun ls hl => ?_)
      refine lv_aload_n hx hb dX10_foretold_44 rfl (lv_at hl 3 rfl) ?_
      refine g_get C B (0) (Lc_in (by decide)) cE_0 rfl gf_10 5 (by decide) wl_231 (v := .ref (α 17)) cF_0_5 dX10_foretold_45 ?_
      refine lv_aload hx hb dX10_foretold_48 (lv_at hl 0 rfl) ?_
      refine lv_iload_n hx hb dX10_foretold_50 rfl (lv_at hl 4 rfl) ?_
      refine gc_o (oI := oI) (gr_V C B (k := 17) (As := [.ref (α (27 + 3 * kk)), .int mo]) (rest := []) (c_X4_fallRow l D G τ α S J n _ kk mo (by omega) hN hF (hJ9 kk (by omega))) (Lc_in (by decide)) cE_17 rfl wl_617 wl_282 wl_283 wl_35 wl_284 (na := 2) (by decide +kernel) rfl ⟨Nat.le_of_ble_eq_true rfl, Nat.le_of_ble_eq_true rfl⟩ ⟨Nat.le_of_ble_eq_true rfl, Nat.le_of_ble_eq_true rfl⟩ hl.1 rfl (Nat.le_of_ble_eq_true rfl) dX10_foretold_51) (fun o2 => ?_) (fun f3 o2 => ?_)
      · refine lv_istore (lv' := [(6, .int (-1)), (5, .ref (α (27 + 3 * kk))), (4, .int (nI kk)), (2, .long x), (0, .ref (α 0)), (1, .int mo)]) hx hb dX10_foretold_54 hl (by decide) rfl (fun ls hl => ?_)
        refine lv_iload hx hb dX10_foretold_56 (lv_at hl 0 rfl) ?_
        refine lv_iconst (v := (-1)) hx hb dX10_foretold_58 (by decide) ?_
        refine lv_icmp_eq (tgt := 91) hx hb dX10_foretold_59 (by decide) (fun _ => ?_) (fun hc => absurd (by decide) hc)
        refine lv_iinc (v := ((nI kk) + 1)) (lv' := [(4, .int ((nI kk) + 1)), (6, .int (-1)), (5, .ref (α (27 + 3 * kk))), (2, .long x), (0, .ref (α 0)), (1, .int mo)]) hx hb dX10_foretold_91 hl (k := 2) rfl rfl (by decide) rfl (fun ls hl => ?_)
        refine lv_goto (tgt := 21) hx hb dX10_foretold_94 (by decide) ?_
        exact ih (kk + 1) x ls (by omega) (by rw [forL, o2]; exact hI) (by have h9 := lv_sub (l' := [(4, .int ((nI kk) + 1)), (2, .long x), (0, .ref (α 0)), (1, .int mo)]) hl [0, 3, 4, 5] rfl; rw [nI_1] at h9; exact h9)
      · have f3_b : f3 < 90 := Nat.lt_of_lt_of_le (sFall_lt o2).1 (nOf_le hN.2.2.2.1.1 hN.2.2.2.1.2 (by decide))
        refine lv_istore (lv' := [(6, .int (nI f3)), (5, .ref (α (27 + 3 * kk))), (4, .int (nI kk)), (2, .long x), (0, .ref (α 0)), (1, .int mo)]) hx hb dX10_foretold_54 hl (by decide) rfl (fun ls hl => ?_)
        refine lv_iload hx hb dX10_foretold_56 (lv_at hl 0 rfl) ?_
        refine lv_iconst (v := (-1)) hx hb dX10_foretold_58 (by decide) ?_
        refine lv_icmp_eq (tgt := 91) hx hb dX10_foretold_59 (by decide) (fun hc => absurd hc (nI_m1 (by omega))) (fun _ => ?_)
        refine lv_aload_n hx hb dX10_foretold_62 rfl (lv_at hl 4 rfl) ?_
        refine g_get C B (0) (Lc_in (by decide)) cE_0 rfl gf_10 5 (by decide) wl_231 (v := .ref (α 17)) cF_0_5 dX10_foretold_63 ?_
        refine lv_iload hx hb dX10_foretold_66 (lv_at hl 0 rfl) ?_
        refine lv_iload_n hx hb dX10_foretold_68 rfl (lv_at hl 5 rfl) ?_
        refine gc_i (gr_V C B (k := 17) (As := [.int (nI f3), .int mo]) (rest := []) (c_X4_dueMonth l D G τ α S J n _ f3 mo (by omega) hN) (Lc_in (by decide)) cE_17 rfl wl_618 wl_311 wl_312 wl_35 wl_313 (na := 2) (by decide +kernel) rfl ⟨Nat.le_of_ble_eq_true rfl, Nat.le_of_ble_eq_true rfl⟩ ⟨Nat.le_of_ble_eq_true rfl, Nat.le_of_ble_eq_true rfl⟩ hl.1 rfl (Nat.le_of_ble_eq_true rfl) dX10_foretold_69) (fun r h => ?_)
        subst h
        refine lv_iload_n hx hb dX10_foretold_72 rfl (lv_at hl 5 rfl) ?_
        refine lv_icmp_ne (tgt := 91) hx hb dX10_foretold_73 (by decide) (fun c4 => ?_) (fun c4 => ?_)
        · refine lv_iinc (v := ((nI kk) + 1)) (lv' := [(4, .int ((nI kk) + 1)), (6, .int (nI f3)), (5, .ref (α (27 + 3 * kk))), (2, .long x), (0, .ref (α 0)), (1, .int mo)]) hx hb dX10_foretold_91 hl (k := 2) rfl rfl (by decide) rfl (fun ls hl => ?_)
          refine lv_goto (tgt := 21) hx hb dX10_foretold_94 (by decide) ?_
          exact ih (kk + 1) x ls (by omega) (by rw [forL, o2]; dsimp only; (first | rw [if_pos c4] | rw [if_neg c4]); rw [hI]) (by have h9 := lv_sub (l' := [(4, .int ((nI kk) + 1)), (2, .long x), (0, .ref (α 0)), (1, .int mo)]) hl [0, 3, 4, 5] rfl; rw [nI_1] at h9; exact h9)
        · refine lv_lload_n hx hb dX10_foretold_76 rfl (lv_at hl 3 rfl) ?_
          refine lv_aload_n hx hb dX10_foretold_77 rfl (lv_at hl 4 rfl) ?_
          refine g_get C B (0) (Lc_in (by decide)) cE_0 rfl gf_10 5 (by decide) wl_231 (v := .ref (α 17)) cF_0_5 dX10_foretold_78 ?_
          refine lv_aload hx hb dX10_foretold_81 (lv_at hl 1 rfl) ?_
          refine lv_iload hx hb dX10_foretold_83 (lv_at hl 0 rfl) ?_
          refine lv_iload_n hx hb dX10_foretold_85 rfl (lv_at hl 5 rfl) ?_
          refine gc_l (gr_V C B (k := 17) (As := [.ref (α (27 + 3 * kk)), .int (nI f3), .int mo]) (rest := [.long x]) (c_X4_dueSum l D G τ α S J n _ kk f3 mo (by omega) (by omega) hN) (Lc_in (by decide)) cE_17 rfl wl_619 wl_325 wl_326 wl_35 wl_327 (na := 3) (by decide +kernel) rfl ⟨Nat.le_of_ble_eq_true rfl, Nat.le_of_ble_eq_true rfl⟩ ⟨Nat.le_of_ble_eq_true rfl, Nat.le_of_ble_eq_true rfl⟩ hl.1 rfl (Nat.le_of_ble_eq_true rfl) dX10_foretold_86) (fun r h => ?_)
          subst h
          refine lv_ladd hx hb dX10_foretold_89 ?_
          refine lv_lstore_n (lv' := [(2, .long (x + (sDue S kk f3 mo))), (6, .int (nI f3)), (5, .ref (α (27 + 3 * kk))), (4, .int (nI kk)), (0, .ref (α 0)), (1, .int mo)]) hx hb dX10_foretold_90 rfl hl (by decide) rfl (fun ls hl => ?_)
          refine lv_iinc (v := ((nI kk) + 1)) (lv' := [(4, .int ((nI kk) + 1)), (2, .long (x + (sDue S kk f3 mo))), (6, .int (nI f3)), (5, .ref (α (27 + 3 * kk))), (0, .ref (α 0)), (1, .int mo)]) hx hb dX10_foretold_91 hl (k := 3) rfl rfl (by decide) rfl (fun ls hl => ?_)
          refine lv_goto (tgt := 21) hx hb dX10_foretold_94 (by decide) ?_
          exact ih (kk + 1) (x + (sDue S kk f3 mo)) ls (by omega) (by rw [forL, o2]; dsimp only; (first | rw [if_pos c4] | rw [if_neg c4]); rw [hI]) (by have h9 := lv_sub (l' := [(4, .int ((nI kk) + 1)), (2, .long (x + (sDue S kk f3 mo))), (0, .ref (α 0)), (1, .int mo)]) hl [0, 1, 4, 5] rfl; rw [nI_1] at h9; exact h9)
  refine lv_iload_n hx hb dX10_foretold_0 rfl (lv_at hl 1 rfl) ?_
  refine gc_b (gr_S C B (As := [.int mo]) (rest := []) (c_X10_isMonth l D G τ α _ _ _ mo) wl_399 wl_400 wl_29 wl_401 (na := 1) (by decide +kernel) rfl ⟨Nat.le_of_ble_eq_true rfl, Nat.le_of_ble_eq_true rfl⟩ ⟨Nat.le_of_ble_eq_true rfl, Nat.le_of_ble_eq_true rfl⟩ hl.1 rfl (Nat.le_of_ble_eq_true rfl) dX10_foretold_1) (fun c5 => ?_) (fun c5 => ?_)
  · refine lv_if_ne (tgt := 16) hx hb dX10_foretold_4 (by decide) (fun _ => ?_) (fun hc => absurd hc (by decide))
    refine lv_lconst (v := 0) hx hb dX10_foretold_16 (by decide) ?_
    refine lv_lstore_n (lv' := [(2, .long 0), (0, .ref (α 0)), (1, .int mo)]) hx hb dX10_foretold_17 rfl hl (by decide) rfl (fun ls hl => ?_)
    refine lv_iconst (v := 0) hx hb dX10_foretold_18 (by decide) ?_
    refine lv_istore (lv' := [(4, .int 0), (2, .long 0), (0, .ref (α 0)), (1, .int mo)]) hx hb dX10_foretold_19 hl (by decide) rfl (fun ls hl => ?_)
    exact loop n 0 0 ls (by omega) rfl (lv_sub hl [0, 1, 2, 3] rfl)
  · refine lv_if_ne (tgt := 16) hx hb dX10_foretold_4 (by decide) (fun hc => absurd (by decide) hc) (fun _ => ?_)
    exact absurd hmo c5
set_option maxHeartbeats 4000000 in
set_option maxRecDepth 100000 in
theorem c_X10_income (l : Launch) (D : va_G) (G : Nat → ClassId) (τ α : Nat → Nat) (S J : St) (n sz : Nat) (v : Int32) (hN : okN S) : Wl l D G τ yX10_income cX10_income 2 (some .long) 2 0 0 [.ref (α 0), .int v] α (cE G α S J n) (Lc n) sz (fun r u => r = (sp_income S v).1 ∧ u = (α, cE G α (sp_income S v).2 J n, Lc n)) := by
  refine gM _ (by decide) rfl (Nat.le_of_ble_eq_true rfl) ?_
  intro p e s m below meth c ls C hr hlk hnm hsz B hl
  have hx := C.1
  have hb := C.2.1
  have hl : lv_has ls 2 [(0, .ref (α 0)), (1, .int v)] := hl
  refine lv_iload_n hx hb dX10_income_0 rfl (lv_at hl 1 rfl) ?_
  refine lv_iconst (v := 0) hx hb dX10_income_1 (by decide) ?_
  refine g_ldc C wl_628 dX10_income_2 ?_
  refine gc_b (gr_S C B (As := [.int v, .int 0, .int 1000000]) (rest := []) (c_X10_isWithin l D G τ α _ _ _ v 0 1000000) wl_264 wl_265 wl_29 wl_266 (na := 3) (by decide +kernel) rfl ⟨Nat.le_of_ble_eq_true rfl, Nat.le_of_ble_eq_true rfl⟩ ⟨Nat.le_of_ble_eq_true rfl, Nat.le_of_ble_eq_true rfl⟩ hl.1 rfl (Nat.le_of_ble_eq_true rfl) dX10_income_4) (fun c1 => ?_) (fun c1 => ?_)
  · refine lv_if_ne (tgt := 19) hx hb dX10_income_7 (by decide) (fun _ => ?_) (fun hc => absurd hc (by decide))
    refine lv_aload_n hx hb dX10_income_19 rfl (lv_at hl 0 rfl) ?_
    refine g_get C B (0) (Lc_in (by decide)) cE_0 rfl gf_10 6 (by decide) wl_232 (v := .ref (α 18)) cF_0_6 dX10_income_20 ?_
    refine g_get C B (18) (Lc_in (by decide)) cE_18 rfl gf_7 0 (by decide) wl_157 (v := .long (S.2.1 28)) cF_18_0 dX10_income_23 ?_
    refine lv_iload_n hx hb dX10_income_26 rfl (lv_at hl 1 rfl) ?_
    refine lv_i2l (v := v.toInt64) hx hb dX10_income_27 rfl ?_
    refine lv_ladd hx hb dX10_income_28 ?_
    refine g_ldc2 C wl_629 dX10_income_29 ?_
    refine gl_le (tgt := 45) hx hb dX10_income_32 dX10_income_33 (by decide) (fun c2 => ?_) (fun c2 => ?_)
    · refine lv_aload_n hx hb dX10_income_45 rfl (lv_at hl 0 rfl) ?_
      refine g_get C B (0) (Lc_in (by decide)) cE_0 rfl gf_10 6 (by decide) wl_232 (v := .ref (α 18)) cF_0_6 dX10_income_46 ?_
      refine lv_dup hx hb dX10_income_49 rfl ?_
      refine g_get C B (18) (Lc_in (by decide)) cE_18 rfl gf_7 0 (by decide) wl_157 (v := .long (S.2.1 28)) cF_18_0 dX10_income_50 ?_
      refine lv_iload_n hx hb dX10_income_53 rfl (lv_at hl 1 rfl) ?_
      refine lv_i2l (v := v.toInt64) hx hb dX10_income_54 rfl ?_
      refine lv_ladd hx hb dX10_income_55 ?_
      refine g_put C B (18) (Lc_in (by decide)) cE_18 rfl gf_7 tyX7 tyX7_ok nmX7 0 (by decide) wl_157 rfl (ty := .long) (v := .long (S.2.1 28 + v.toInt64)) (by decide +kernel) rfl rfl (Nat.le_of_ble_eq_true rfl) dX10_income_56 cO_18_0 (fun H locs B => ?_)
      refine lv_aload_n hx hb dX10_income_59 rfl (lv_at hl 0 rfl) ?_
      refine g_get C B (0) (Lc_in (by decide)) cE_0 rfl gf_10 6 (by decide) wl_232 (v := .ref (α 18)) cF_0_6 dX10_income_60 ?_
      refine lv_dup hx hb dX10_income_63 rfl ?_
      refine g_get C B (18) (Lc_in (by decide)) cE_18 rfl gf_7 1 (by decide) wl_159 (v := .long (S.2.1 29)) cF_18_1 dX10_income_64 ?_
      refine lv_iload_n hx hb dX10_income_67 rfl (lv_at hl 1 rfl) ?_
      refine lv_i2l (v := v.toInt64) hx hb dX10_income_68 rfl ?_
      refine lv_ladd hx hb dX10_income_69 ?_
      refine g_put C B (18) (Lc_in (by decide)) cE_18 rfl gf_7 tyX7 tyX7_ok nmX7 1 (by decide) wl_159 rfl (ty := .long) (v := .long (S.2.1 29 + v.toInt64)) (by decide +kernel) rfl rfl (Nat.le_of_ble_eq_true rfl) dX10_income_70 cO_18_1 (fun H locs B => ?_)
      refine lv_aload_n hx hb dX10_income_73 rfl (lv_at hl 0 rfl) ?_
      refine g_get C B (0) (Lc_in (by decide)) cE_0 rfl gf_10 6 (by decide) wl_232 (v := .ref (α 18)) cF_0_6 dX10_income_74 ?_
      refine g_get C B (18) (Lc_in (by decide)) cE_18 rfl gf_7 0 (by decide) wl_157 (v := .long (S.2.1 28 + v.toInt64)) cF_18_0 dX10_income_77 ?_
      exact ge_wl C B hr hlk (by have e9 : sp_income S v = ((S.2.1 28 + v.toInt64), (uJ (uJ S 28 (S.2.1 28 + v.toInt64)) 29 (S.2.1 29 + v.toInt64))) := (by unfold sp_income; (first | rw [if_pos c1] | rw [if_neg c1] | rw [if_neg (not_not_intro c1)] | skip); (first | rw [if_pos c2] | rw [if_neg c2] | rw [if_neg (not_not_intro c2)] | skip); (first | done | rfl)); rw [e9]; exact ⟨rfl, rfl⟩) dX10_income_80
    · refine lv_aload_n hx hb dX10_income_36 rfl (lv_at hl 0 rfl) ?_
      refine g_get C B (0) (Lc_in (by decide)) cE_0 rfl gf_10 0 (by decide) wl_226 (v := .ref (α 1)) cF_0_0 dX10_income_37 ?_
      refine lv_iconst (v := 4) hx hb dX10_income_40 (by decide) ?_
      refine gc_wl B (gr_V C B (k := 1) (As := [.int 4]) (rest := []) (c_X5_answer l D G τ α S J n _ 4 (by decide)) (Lc_in (by decide)) cE_1 rfl wl_267 wl_268 wl_269 wl_30 wl_270 (na := 1) (by decide +kernel) rfl ⟨Nat.le_of_ble_eq_true rfl, Nat.le_of_ble_eq_true rfl⟩ ⟨Nat.le_of_ble_eq_true rfl, Nat.le_of_ble_eq_true rfl⟩ hl.1 rfl (Nat.le_of_ble_eq_true rfl) dX10_income_41) (fun r u h H locs B => ?_)
      obtain ⟨rfl, rfl⟩ := h
      have B : gB D G τ (gA α (Lc n) sz) s H locs α (cE G α (sNo S 4).2 J n) (Lc n) := B
      exact ge_wl C B hr hlk (by have e9 : sp_income S v = ((sNo S 4).1, (sNo S 4).2) := (by unfold sp_income; (first | rw [if_pos c1] | rw [if_neg c1] | rw [if_neg (not_not_intro c1)] | skip); (first | rw [if_pos c2] | rw [if_neg c2] | rw [if_neg (not_not_intro c2)] | skip); (first | done | rfl)); rw [e9]; exact ⟨rfl, rfl⟩) dX10_income_44
  · refine lv_if_ne (tgt := 19) hx hb dX10_income_7 (by decide) (fun hc => absurd (by decide) hc) (fun _ => ?_)
    refine lv_aload_n hx hb dX10_income_10 rfl (lv_at hl 0 rfl) ?_
    refine g_get C B (0) (Lc_in (by decide)) cE_0 rfl gf_10 0 (by decide) wl_226 (v := .ref (α 1)) cF_0_0 dX10_income_11 ?_
    refine lv_iconst (v := 1) hx hb dX10_income_14 (by decide) ?_
    refine gc_wl B (gr_V C B (k := 1) (As := [.int 1]) (rest := []) (c_X5_answer l D G τ α S J n _ 1 (by decide)) (Lc_in (by decide)) cE_1 rfl wl_267 wl_268 wl_269 wl_30 wl_270 (na := 1) (by decide +kernel) rfl ⟨Nat.le_of_ble_eq_true rfl, Nat.le_of_ble_eq_true rfl⟩ ⟨Nat.le_of_ble_eq_true rfl, Nat.le_of_ble_eq_true rfl⟩ hl.1 rfl (Nat.le_of_ble_eq_true rfl) dX10_income_15) (fun r u h H locs B => ?_)
    obtain ⟨rfl, rfl⟩ := h
    have B : gB D G τ (gA α (Lc n) sz) s H locs α (cE G α (sNo S 1).2 J n) (Lc n) := B
    exact ge_wl C B hr hlk (by have e9 : sp_income S v = ((sNo S 1).1, (sNo S 1).2) := (by unfold sp_income; (first | rw [if_pos c1] | rw [if_neg c1] | rw [if_neg (not_not_intro c1)] | skip); (first | done | rfl)); rw [e9]; exact ⟨rfl, rfl⟩) dX10_income_18
set_option maxHeartbeats 4000000 in
set_option maxRecDepth 100000 in
theorem c_X10_purse (l : Launch) (D : va_G) (G : Nat → ClassId) (τ α : Nat → Nat) (S J : St) (n sz : Nat) (w : Int32) (hN : okN S) (hn : S.1 15 = nI n) (hn30 : n ≤ 30) : Wl l D G τ yX10_purse cX10_purse 2 (some .long) 2 0 0 [.ref (α 0), .int w] α (cE G α S J n) (Lc n) sz (fun r u => r = (sp_purse S w).1 ∧ u = (α, cE G α (sp_purse S w).2 J n, Lc n)) := by
  refine gM _ (by decide) rfl (Nat.le_of_ble_eq_true rfl) ?_
  intro p e s m below meth c ls C hr hlk hnm hsz B hl
  have hx := C.1
  have hb := C.2.1
  have hl : lv_has ls 2 [(0, .ref (α 0)), (1, .int w)] := hl
  refine lv_iload_n hx hb dX10_purse_0 rfl (lv_at hl 1 rfl) ?_
  rcases sw_5 w with w1 | w1 | w1 | w1 | w1 | w1 | w1
  · refine lv_tableIn (tgt := 40) hx hb dX10_purse_1 (by rw [w1]; decide) (by rw [w1]; decide) (off := 39) (by rw [w1]; rfl) (by decide) ?_
    refine lv_aload_n hx hb dX10_purse_40 rfl (lv_at hl 0 rfl) ?_
    refine g_get C B (0) (Lc_in (by decide)) cE_0 rfl gf_10 6 (by decide) wl_232 (v := .ref (α 18)) cF_0_6 dX10_purse_41 ?_
    refine g_get C B (18) (Lc_in (by decide)) cE_18 rfl gf_7 0 (by decide) wl_157 (v := .long (S.2.1 28)) cF_18_0 dX10_purse_44 ?_
    exact ge_wl C B hr hlk (by have e9 : sp_purse S w = (S.2.1 28, S) := (by unfold sp_purse; (first | rw [if_neg (by rw [w1]; decide)] | (rw [if_pos w1]) | (rw [if_neg (sw_ne w1 (by decide))]) | skip); (first | rw [if_neg (by rw [w1]; decide)] | (rw [if_pos w1]) | (rw [if_neg (sw_ne w1 (by decide))]) | skip); (first | rw [if_neg (by rw [w1]; decide)] | (rw [if_pos w1]) | (rw [if_neg (sw_ne w1 (by decide))]) | skip); (first | rw [if_neg (by rw [w1]; decide)] | (rw [if_pos w1]) | (rw [if_neg (sw_ne w1 (by decide))]) | skip); (first | rw [if_neg (by rw [w1]; decide)] | (rw [if_pos w1]) | (rw [if_neg (sw_ne w1 (by decide))]) | skip); (first | rw [if_neg (by rw [w1]; decide)] | (rw [if_pos w1]) | (rw [if_neg (sw_ne w1 (by decide))]) | skip); (try rw [nOf, hn, nI_clamp (by omega)]); (first | done | rfl)); rw [e9]; exact ⟨rfl, rfl⟩) dX10_purse_47
  · refine lv_tableIn (tgt := 48) hx hb dX10_purse_1 (by rw [w1]; decide) (by rw [w1]; decide) (off := 47) (by rw [w1]; rfl) (by decide) ?_
    refine lv_aload_n hx hb dX10_purse_48 rfl (lv_at hl 0 rfl) ?_
    refine g_get C B (0) (Lc_in (by decide)) cE_0 rfl gf_10 6 (by decide) wl_232 (v := .ref (α 18)) cF_0_6 dX10_purse_49 ?_
    refine g_get C B (18) (Lc_in (by decide)) cE_18 rfl gf_7 1 (by decide) wl_159 (v := .long (S.2.1 29)) cF_18_1 dX10_purse_52 ?_
    exact ge_wl C B hr hlk (by have e9 : sp_purse S w = (S.2.1 29, S) := (by unfold sp_purse; (first | rw [if_neg (by rw [w1]; decide)] | (rw [if_pos w1]) | (rw [if_neg (sw_ne w1 (by decide))]) | skip); (first | rw [if_neg (by rw [w1]; decide)] | (rw [if_pos w1]) | (rw [if_neg (sw_ne w1 (by decide))]) | skip); (first | rw [if_neg (by rw [w1]; decide)] | (rw [if_pos w1]) | (rw [if_neg (sw_ne w1 (by decide))]) | skip); (first | rw [if_neg (by rw [w1]; decide)] | (rw [if_pos w1]) | (rw [if_neg (sw_ne w1 (by decide))]) | skip); (first | rw [if_neg (by rw [w1]; decide)] | (rw [if_pos w1]) | (rw [if_neg (sw_ne w1 (by decide))]) | skip); (first | rw [if_neg (by rw [w1]; decide)] | (rw [if_pos w1]) | (rw [if_neg (sw_ne w1 (by decide))]) | skip); (try rw [nOf, hn, nI_clamp (by omega)]); (first | done | rfl)); rw [e9]; exact ⟨rfl, rfl⟩) dX10_purse_55
  · refine lv_tableIn (tgt := 56) hx hb dX10_purse_1 (by rw [w1]; decide) (by rw [w1]; decide) (off := 55) (by rw [w1]; rfl) (by decide) ?_
    refine lv_aload_n hx hb dX10_purse_56 rfl (lv_at hl 0 rfl) ?_
    refine g_get C B (0) (Lc_in (by decide)) cE_0 rfl gf_10 6 (by decide) wl_232 (v := .ref (α 18)) cF_0_6 dX10_purse_57 ?_
    refine g_get C B (18) (Lc_in (by decide)) cE_18 rfl gf_7 2 (by decide) wl_161 (v := .long (S.2.1 30)) cF_18_2 dX10_purse_60 ?_
    exact ge_wl C B hr hlk (by have e9 : sp_purse S w = (S.2.1 30, S) := (by unfold sp_purse; (first | rw [if_neg (by rw [w1]; decide)] | (rw [if_pos w1]) | (rw [if_neg (sw_ne w1 (by decide))]) | skip); (first | rw [if_neg (by rw [w1]; decide)] | (rw [if_pos w1]) | (rw [if_neg (sw_ne w1 (by decide))]) | skip); (first | rw [if_neg (by rw [w1]; decide)] | (rw [if_pos w1]) | (rw [if_neg (sw_ne w1 (by decide))]) | skip); (first | rw [if_neg (by rw [w1]; decide)] | (rw [if_pos w1]) | (rw [if_neg (sw_ne w1 (by decide))]) | skip); (first | rw [if_neg (by rw [w1]; decide)] | (rw [if_pos w1]) | (rw [if_neg (sw_ne w1 (by decide))]) | skip); (first | rw [if_neg (by rw [w1]; decide)] | (rw [if_pos w1]) | (rw [if_neg (sw_ne w1 (by decide))]) | skip); (try rw [nOf, hn, nI_clamp (by omega)]); (first | done | rfl)); rw [e9]; exact ⟨rfl, rfl⟩) dX10_purse_63
  · refine lv_tableIn (tgt := 64) hx hb dX10_purse_1 (by rw [w1]; decide) (by rw [w1]; decide) (off := 63) (by rw [w1]; rfl) (by decide) ?_
    refine lv_aload_n hx hb dX10_purse_64 rfl (lv_at hl 0 rfl) ?_
    refine g_get C B (0) (Lc_in (by decide)) cE_0 rfl gf_10 7 (by decide) wl_233 (v := .ref (α 20)) cF_0_7 dX10_purse_65 ?_
    refine g_get C B (20) (Lc_in (by decide)) cE_20 rfl gf_8 2 (by decide) wl_183 (v := .long (S.2.1 31)) cF_20_2 dX10_purse_68 ?_
    exact ge_wl C B hr hlk (by have e9 : sp_purse S w = (S.2.1 31, S) := (by unfold sp_purse; (first | rw [if_neg (by rw [w1]; decide)] | (rw [if_pos w1]) | (rw [if_neg (sw_ne w1 (by decide))]) | skip); (first | rw [if_neg (by rw [w1]; decide)] | (rw [if_pos w1]) | (rw [if_neg (sw_ne w1 (by decide))]) | skip); (first | rw [if_neg (by rw [w1]; decide)] | (rw [if_pos w1]) | (rw [if_neg (sw_ne w1 (by decide))]) | skip); (first | rw [if_neg (by rw [w1]; decide)] | (rw [if_pos w1]) | (rw [if_neg (sw_ne w1 (by decide))]) | skip); (first | rw [if_neg (by rw [w1]; decide)] | (rw [if_pos w1]) | (rw [if_neg (sw_ne w1 (by decide))]) | skip); (first | rw [if_neg (by rw [w1]; decide)] | (rw [if_pos w1]) | (rw [if_neg (sw_ne w1 (by decide))]) | skip); (try rw [nOf, hn, nI_clamp (by omega)]); (first | done | rfl)); rw [e9]; exact ⟨rfl, rfl⟩) dX10_purse_71
  · refine lv_tableIn (tgt := 72) hx hb dX10_purse_1 (by rw [w1]; decide) (by rw [w1]; decide) (off := 71) (by rw [w1]; rfl) (by decide) ?_
    refine lv_aload_n hx hb dX10_purse_72 rfl (lv_at hl 0 rfl) ?_
    refine g_get C B (0) (Lc_in (by decide)) cE_0 rfl gf_10 7 (by decide) wl_233 (v := .ref (α 20)) cF_0_7 dX10_purse_73 ?_
    refine g_get C B (20) (Lc_in (by decide)) cE_20 rfl gf_8 3 (by decide) wl_185 (v := .int (S.1 32)) cF_20_3 dX10_purse_76 ?_
    refine lv_i2l (v := (S.1 32).toInt64) hx hb dX10_purse_79 rfl ?_
    exact ge_wl C B hr hlk (by have e9 : sp_purse S w = ((S.1 32).toInt64, S) := (by unfold sp_purse; (first | rw [if_neg (by rw [w1]; decide)] | (rw [if_pos w1]) | (rw [if_neg (sw_ne w1 (by decide))]) | skip); (first | rw [if_neg (by rw [w1]; decide)] | (rw [if_pos w1]) | (rw [if_neg (sw_ne w1 (by decide))]) | skip); (first | rw [if_neg (by rw [w1]; decide)] | (rw [if_pos w1]) | (rw [if_neg (sw_ne w1 (by decide))]) | skip); (first | rw [if_neg (by rw [w1]; decide)] | (rw [if_pos w1]) | (rw [if_neg (sw_ne w1 (by decide))]) | skip); (first | rw [if_neg (by rw [w1]; decide)] | (rw [if_pos w1]) | (rw [if_neg (sw_ne w1 (by decide))]) | skip); (first | rw [if_neg (by rw [w1]; decide)] | (rw [if_pos w1]) | (rw [if_neg (sw_ne w1 (by decide))]) | skip); (try rw [nOf, hn, nI_clamp (by omega)]); (first | done | rfl)); rw [e9]; exact ⟨rfl, rfl⟩) dX10_purse_80
  · refine lv_tableIn (tgt := 81) hx hb dX10_purse_1 (by rw [w1]; decide) (by rw [w1]; decide) (off := 80) (by rw [w1]; rfl) (by decide) ?_
    refine lv_aload_n hx hb dX10_purse_81 rfl (lv_at hl 0 rfl) ?_
    refine g_get C B (0) (Lc_in (by decide)) cE_0 rfl gf_10 4 (by decide) wl_230 (v := .ref (α 15)) cF_0_4 dX10_purse_82 ?_
    refine gc_i (gr_V C B (k := 15) (As := []) (rest := []) (c_X3_countPaidOut l D G τ α S J n _ hn hn30) (Lc_in (by decide)) cE_15 rfl wl_634 wl_635 wl_636 wl_34 wl_637 (na := 0) (by decide +kernel) rfl ⟨Nat.le_of_ble_eq_true rfl, Nat.le_of_ble_eq_true rfl⟩ ⟨Nat.le_of_ble_eq_true rfl, Nat.le_of_ble_eq_true rfl⟩ hl.1 rfl (Nat.le_of_ble_eq_true rfl) dX10_purse_85) (fun r h => ?_)
    subst h
    refine lv_i2l (v := (outL S n).toInt64) hx hb dX10_purse_88 rfl ?_
    exact ge_wl C B hr hlk (by have e9 : sp_purse S w = ((outL S n).toInt64, S) := (by unfold sp_purse; (first | rw [if_neg (by rw [w1]; decide)] | (rw [if_pos w1]) | (rw [if_neg (sw_ne w1 (by decide))]) | skip); (first | rw [if_neg (by rw [w1]; decide)] | (rw [if_pos w1]) | (rw [if_neg (sw_ne w1 (by decide))]) | skip); (first | rw [if_neg (by rw [w1]; decide)] | (rw [if_pos w1]) | (rw [if_neg (sw_ne w1 (by decide))]) | skip); (first | rw [if_neg (by rw [w1]; decide)] | (rw [if_pos w1]) | (rw [if_neg (sw_ne w1 (by decide))]) | skip); (first | rw [if_neg (by rw [w1]; decide)] | (rw [if_pos w1]) | (rw [if_neg (sw_ne w1 (by decide))]) | skip); (first | rw [if_neg (by rw [w1]; decide)] | (rw [if_pos w1]) | (rw [if_neg (sw_ne w1 (by decide))]) | skip); (try rw [nOf, hn, nI_clamp (by omega)]); (first | done | rfl)); rw [e9]; exact ⟨rfl, rfl⟩) dX10_purse_89
  · refine lv_tableOut (tgt := 90) hx hb dX10_purse_1 w1 (by decide) ?_
    refine lv_aload_n hx hb dX10_purse_90 rfl (lv_at hl 0 rfl) ?_
    refine g_get C B (0) (Lc_in (by decide)) cE_0 rfl gf_10 0 (by decide) wl_226 (v := .ref (α 1)) cF_0_0 dX10_purse_91 ?_
    refine lv_iconst (v := 1) hx hb dX10_purse_94 (by decide) ?_
    refine gc_wl B (gr_V C B (k := 1) (As := [.int 1]) (rest := []) (c_X5_answer l D G τ α S J n _ 1 (by decide)) (Lc_in (by decide)) cE_1 rfl wl_267 wl_268 wl_269 wl_30 wl_270 (na := 1) (by decide +kernel) rfl ⟨Nat.le_of_ble_eq_true rfl, Nat.le_of_ble_eq_true rfl⟩ ⟨Nat.le_of_ble_eq_true rfl, Nat.le_of_ble_eq_true rfl⟩ hl.1 rfl (Nat.le_of_ble_eq_true rfl) dX10_purse_95) (fun r u h H locs B => ?_)
    obtain ⟨rfl, rfl⟩ := h
    have B : gB D G τ (gA α (Lc n) sz) s H locs α (cE G α (sNo S 1).2 J n) (Lc n) := B
    exact ge_wl C B hr hlk (by have e9 : sp_purse S w = ((sNo S 1).1, (sNo S 1).2) := (by unfold sp_purse; (first | rw [if_neg (by rw [w1]; decide)] | (rw [if_pos w1]) | (rw [if_neg (sw_ne w1 (by decide))]) | skip); (first | rw [if_neg (by rw [w1]; decide)] | (rw [if_pos w1]) | (rw [if_neg (sw_ne w1 (by decide))]) | skip); (first | rw [if_neg (by rw [w1]; decide)] | (rw [if_pos w1]) | (rw [if_neg (sw_ne w1 (by decide))]) | skip); (first | rw [if_neg (by rw [w1]; decide)] | (rw [if_pos w1]) | (rw [if_neg (sw_ne w1 (by decide))]) | skip); (first | rw [if_neg (by rw [w1]; decide)] | (rw [if_pos w1]) | (rw [if_neg (sw_ne w1 (by decide))]) | skip); (first | rw [if_neg (by rw [w1]; decide)] | (rw [if_pos w1]) | (rw [if_neg (sw_ne w1 (by decide))]) | skip); (try rw [nOf, hn, nI_clamp (by omega)]); (first | done | rfl)); rw [e9]; exact ⟨rfl, rfl⟩) dX10_purse_98
set_option maxHeartbeats 4000000 in
set_option maxRecDepth 100000 in
theorem c_X10_count (l : Launch) (D : va_G) (G : Nat → ClassId) (τ α : Nat → Nat) (S J : St) (n sz : Nat) (w : Int32) (hN : okN S) : Wl l D G τ yX10_count cX10_count 2 (some .long) 2 0 0 [.ref (α 0), .int w] α (cE G α S J n) (Lc n) sz (fun r u => r = (sp_count S w).1 ∧ u = (α, cE G α (sp_count S w).2 J n, Lc n)) := by
  refine gM _ (by decide) rfl (Nat.le_of_ble_eq_true rfl) ?_
  intro p e s m below meth c ls C hr hlk hnm hsz B hl
  have hx := C.1
  have hb := C.2.1
  have hl : lv_has ls 2 [(0, .ref (α 0)), (1, .int w)] := hl
  refine lv_iload_n hx hb dX10_count_0 rfl (lv_at hl 1 rfl) ?_
  rcases sw_5 w with w1 | w1 | w1 | w1 | w1 | w1 | w1
  · refine lv_tableIn (tgt := 40) hx hb dX10_count_1 (by rw [w1]; decide) (by rw [w1]; decide) (off := 39) (by rw [w1]; rfl) (by decide) ?_
    refine lv_aload_n hx hb dX10_count_40 rfl (lv_at hl 0 rfl) ?_
    refine g_get C B (0) (Lc_in (by decide)) cE_0 rfl gf_10 10 (by decide) wl_236 (v := .int (S.1 0)) cF_0_10 dX10_count_41 ?_
    refine lv_i2l (v := (S.1 0).toInt64) hx hb dX10_count_44 rfl ?_
    exact ge_wl C B hr hlk (by have e9 : sp_count S w = ((S.1 0).toInt64, S) := (by unfold sp_count; (first | rw [if_neg (by rw [w1]; decide)] | (rw [if_pos w1]) | (rw [if_neg (sw_ne w1 (by decide))]) | skip); (first | rw [if_neg (by rw [w1]; decide)] | (rw [if_pos w1]) | (rw [if_neg (sw_ne w1 (by decide))]) | skip); (first | rw [if_neg (by rw [w1]; decide)] | (rw [if_pos w1]) | (rw [if_neg (sw_ne w1 (by decide))]) | skip); (first | rw [if_neg (by rw [w1]; decide)] | (rw [if_pos w1]) | (rw [if_neg (sw_ne w1 (by decide))]) | skip); (first | rw [if_neg (by rw [w1]; decide)] | (rw [if_pos w1]) | (rw [if_neg (sw_ne w1 (by decide))]) | skip); (first | rw [if_neg (by rw [w1]; decide)] | (rw [if_pos w1]) | (rw [if_neg (sw_ne w1 (by decide))]) | skip); (first | done | rfl)); rw [e9]; exact ⟨rfl, rfl⟩) dX10_count_45
  · refine lv_tableIn (tgt := 46) hx hb dX10_count_1 (by rw [w1]; decide) (by rw [w1]; decide) (off := 45) (by rw [w1]; rfl) (by decide) ?_
    refine lv_aload_n hx hb dX10_count_46 rfl (lv_at hl 0 rfl) ?_
    refine g_get C B (0) (Lc_in (by decide)) cE_0 rfl gf_10 1 (by decide) wl_227 (v := .ref (α 3)) cF_0_1 dX10_count_47 ?_
    refine g_get C B (3) (Lc_in (by decide)) cE_3 rfl gf_1 4 (by decide) wl_74 (v := .int (S.1 2)) cF_3_4 dX10_count_50 ?_
    refine lv_i2l (v := (S.1 2).toInt64) hx hb dX10_count_53 rfl ?_
    exact ge_wl C B hr hlk (by have e9 : sp_count S w = ((S.1 2).toInt64, S) := (by unfold sp_count; (first | rw [if_neg (by rw [w1]; decide)] | (rw [if_pos w1]) | (rw [if_neg (sw_ne w1 (by decide))]) | skip); (first | rw [if_neg (by rw [w1]; decide)] | (rw [if_pos w1]) | (rw [if_neg (sw_ne w1 (by decide))]) | skip); (first | rw [if_neg (by rw [w1]; decide)] | (rw [if_pos w1]) | (rw [if_neg (sw_ne w1 (by decide))]) | skip); (first | rw [if_neg (by rw [w1]; decide)] | (rw [if_pos w1]) | (rw [if_neg (sw_ne w1 (by decide))]) | skip); (first | rw [if_neg (by rw [w1]; decide)] | (rw [if_pos w1]) | (rw [if_neg (sw_ne w1 (by decide))]) | skip); (first | rw [if_neg (by rw [w1]; decide)] | (rw [if_pos w1]) | (rw [if_neg (sw_ne w1 (by decide))]) | skip); (first | done | rfl)); rw [e9]; exact ⟨rfl, rfl⟩) dX10_count_54
  · refine lv_tableIn (tgt := 55) hx hb dX10_count_1 (by rw [w1]; decide) (by rw [w1]; decide) (off := 54) (by rw [w1]; rfl) (by decide) ?_
    refine lv_aload_n hx hb dX10_count_55 rfl (lv_at hl 0 rfl) ?_
    refine g_get C B (0) (Lc_in (by decide)) cE_0 rfl gf_10 3 (by decide) wl_229 (v := .ref (α 9)) cF_0_3 dX10_count_56 ?_
    refine g_get C B (9) (Lc_in (by decide)) cE_9 rfl gf_0 1 (by decide) wl_97 (v := .int (S.1 8)) cF_9_1 dX10_count_59 ?_
    refine lv_i2l (v := (S.1 8).toInt64) hx hb dX10_count_62 rfl ?_
    exact ge_wl C B hr hlk (by have e9 : sp_count S w = ((S.1 8).toInt64, S) := (by unfold sp_count; (first | rw [if_neg (by rw [w1]; decide)] | (rw [if_pos w1]) | (rw [if_neg (sw_ne w1 (by decide))]) | skip); (first | rw [if_neg (by rw [w1]; decide)] | (rw [if_pos w1]) | (rw [if_neg (sw_ne w1 (by decide))]) | skip); (first | rw [if_neg (by rw [w1]; decide)] | (rw [if_pos w1]) | (rw [if_neg (sw_ne w1 (by decide))]) | skip); (first | rw [if_neg (by rw [w1]; decide)] | (rw [if_pos w1]) | (rw [if_neg (sw_ne w1 (by decide))]) | skip); (first | rw [if_neg (by rw [w1]; decide)] | (rw [if_pos w1]) | (rw [if_neg (sw_ne w1 (by decide))]) | skip); (first | rw [if_neg (by rw [w1]; decide)] | (rw [if_pos w1]) | (rw [if_neg (sw_ne w1 (by decide))]) | skip); (first | done | rfl)); rw [e9]; exact ⟨rfl, rfl⟩) dX10_count_63
  · refine lv_tableIn (tgt := 64) hx hb dX10_count_1 (by rw [w1]; decide) (by rw [w1]; decide) (off := 63) (by rw [w1]; rfl) (by decide) ?_
    refine lv_aload_n hx hb dX10_count_64 rfl (lv_at hl 0 rfl) ?_
    refine g_get C B (0) (Lc_in (by decide)) cE_0 rfl gf_10 3 (by decide) wl_229 (v := .ref (α 9)) cF_0_3 dX10_count_65 ?_
    refine g_get C B (9) (Lc_in (by decide)) cE_9 rfl gf_0 6 (by decide) wl_103 (v := .int (S.1 10)) cF_9_6 dX10_count_68 ?_
    refine lv_i2l (v := (S.1 10).toInt64) hx hb dX10_count_71 rfl ?_
    exact ge_wl C B hr hlk (by have e9 : sp_count S w = ((S.1 10).toInt64, S) := (by unfold sp_count; (first | rw [if_neg (by rw [w1]; decide)] | (rw [if_pos w1]) | (rw [if_neg (sw_ne w1 (by decide))]) | skip); (first | rw [if_neg (by rw [w1]; decide)] | (rw [if_pos w1]) | (rw [if_neg (sw_ne w1 (by decide))]) | skip); (first | rw [if_neg (by rw [w1]; decide)] | (rw [if_pos w1]) | (rw [if_neg (sw_ne w1 (by decide))]) | skip); (first | rw [if_neg (by rw [w1]; decide)] | (rw [if_pos w1]) | (rw [if_neg (sw_ne w1 (by decide))]) | skip); (first | rw [if_neg (by rw [w1]; decide)] | (rw [if_pos w1]) | (rw [if_neg (sw_ne w1 (by decide))]) | skip); (first | rw [if_neg (by rw [w1]; decide)] | (rw [if_pos w1]) | (rw [if_neg (sw_ne w1 (by decide))]) | skip); (first | done | rfl)); rw [e9]; exact ⟨rfl, rfl⟩) dX10_count_72
  · refine lv_tableIn (tgt := 73) hx hb dX10_count_1 (by rw [w1]; decide) (by rw [w1]; decide) (off := 72) (by rw [w1]; rfl) (by decide) ?_
    refine lv_aload_n hx hb dX10_count_73 rfl (lv_at hl 0 rfl) ?_
    refine g_get C B (0) (Lc_in (by decide)) cE_0 rfl gf_10 4 (by decide) wl_230 (v := .ref (α 15)) cF_0_4 dX10_count_74 ?_
    refine g_get C B (15) (Lc_in (by decide)) cE_15 rfl gf_3 1 (by decide) wl_130 (v := .int (S.1 15)) cF_15_1 dX10_count_77 ?_
    refine lv_i2l (v := (S.1 15).toInt64) hx hb dX10_count_80 rfl ?_
    exact ge_wl C B hr hlk (by have e9 : sp_count S w = ((S.1 15).toInt64, S) := (by unfold sp_count; (first | rw [if_neg (by rw [w1]; decide)] | (rw [if_pos w1]) | (rw [if_neg (sw_ne w1 (by decide))]) | skip); (first | rw [if_neg (by rw [w1]; decide)] | (rw [if_pos w1]) | (rw [if_neg (sw_ne w1 (by decide))]) | skip); (first | rw [if_neg (by rw [w1]; decide)] | (rw [if_pos w1]) | (rw [if_neg (sw_ne w1 (by decide))]) | skip); (first | rw [if_neg (by rw [w1]; decide)] | (rw [if_pos w1]) | (rw [if_neg (sw_ne w1 (by decide))]) | skip); (first | rw [if_neg (by rw [w1]; decide)] | (rw [if_pos w1]) | (rw [if_neg (sw_ne w1 (by decide))]) | skip); (first | rw [if_neg (by rw [w1]; decide)] | (rw [if_pos w1]) | (rw [if_neg (sw_ne w1 (by decide))]) | skip); (first | done | rfl)); rw [e9]; exact ⟨rfl, rfl⟩) dX10_count_81
  · refine lv_tableIn (tgt := 82) hx hb dX10_count_1 (by rw [w1]; decide) (by rw [w1]; decide) (off := 81) (by rw [w1]; rfl) (by decide) ?_
    refine lv_aload_n hx hb dX10_count_82 rfl (lv_at hl 0 rfl) ?_
    refine g_get C B (0) (Lc_in (by decide)) cE_0 rfl gf_10 9 (by decide) wl_235 (v := .ref (α 25)) cF_0_9 dX10_count_83 ?_
    refine g_get C B (25) (Lc_in (by decide)) cE_25 rfl gf_9 1 (by decide) wl_220 (v := .int (S.1 37)) cF_25_1 dX10_count_86 ?_
    refine lv_i2l (v := (S.1 37).toInt64) hx hb dX10_count_89 rfl ?_
    exact ge_wl C B hr hlk (by have e9 : sp_count S w = ((S.1 37).toInt64, S) := (by unfold sp_count; (first | rw [if_neg (by rw [w1]; decide)] | (rw [if_pos w1]) | (rw [if_neg (sw_ne w1 (by decide))]) | skip); (first | rw [if_neg (by rw [w1]; decide)] | (rw [if_pos w1]) | (rw [if_neg (sw_ne w1 (by decide))]) | skip); (first | rw [if_neg (by rw [w1]; decide)] | (rw [if_pos w1]) | (rw [if_neg (sw_ne w1 (by decide))]) | skip); (first | rw [if_neg (by rw [w1]; decide)] | (rw [if_pos w1]) | (rw [if_neg (sw_ne w1 (by decide))]) | skip); (first | rw [if_neg (by rw [w1]; decide)] | (rw [if_pos w1]) | (rw [if_neg (sw_ne w1 (by decide))]) | skip); (first | rw [if_neg (by rw [w1]; decide)] | (rw [if_pos w1]) | (rw [if_neg (sw_ne w1 (by decide))]) | skip); (first | done | rfl)); rw [e9]; exact ⟨rfl, rfl⟩) dX10_count_90
  · refine lv_tableOut (tgt := 91) hx hb dX10_count_1 w1 (by decide) ?_
    refine lv_aload_n hx hb dX10_count_91 rfl (lv_at hl 0 rfl) ?_
    refine g_get C B (0) (Lc_in (by decide)) cE_0 rfl gf_10 0 (by decide) wl_226 (v := .ref (α 1)) cF_0_0 dX10_count_92 ?_
    refine lv_iconst (v := 1) hx hb dX10_count_95 (by decide) ?_
    refine gc_wl B (gr_V C B (k := 1) (As := [.int 1]) (rest := []) (c_X5_answer l D G τ α S J n _ 1 (by decide)) (Lc_in (by decide)) cE_1 rfl wl_267 wl_268 wl_269 wl_30 wl_270 (na := 1) (by decide +kernel) rfl ⟨Nat.le_of_ble_eq_true rfl, Nat.le_of_ble_eq_true rfl⟩ ⟨Nat.le_of_ble_eq_true rfl, Nat.le_of_ble_eq_true rfl⟩ hl.1 rfl (Nat.le_of_ble_eq_true rfl) dX10_count_96) (fun r u h H locs B => ?_)
    obtain ⟨rfl, rfl⟩ := h
    have B : gB D G τ (gA α (Lc n) sz) s H locs α (cE G α (sNo S 1).2 J n) (Lc n) := B
    exact ge_wl C B hr hlk (by have e9 : sp_count S w = ((sNo S 1).1, (sNo S 1).2) := (by unfold sp_count; (first | rw [if_neg (by rw [w1]; decide)] | (rw [if_pos w1]) | (rw [if_neg (sw_ne w1 (by decide))]) | skip); (first | rw [if_neg (by rw [w1]; decide)] | (rw [if_pos w1]) | (rw [if_neg (sw_ne w1 (by decide))]) | skip); (first | rw [if_neg (by rw [w1]; decide)] | (rw [if_pos w1]) | (rw [if_neg (sw_ne w1 (by decide))]) | skip); (first | rw [if_neg (by rw [w1]; decide)] | (rw [if_pos w1]) | (rw [if_neg (sw_ne w1 (by decide))]) | skip); (first | rw [if_neg (by rw [w1]; decide)] | (rw [if_pos w1]) | (rw [if_neg (sw_ne w1 (by decide))]) | skip); (first | rw [if_neg (by rw [w1]; decide)] | (rw [if_pos w1]) | (rw [if_neg (sw_ne w1 (by decide))]) | skip); (first | done | rfl)); rw [e9]; exact ⟨rfl, rfl⟩) dX10_count_99
set_option maxHeartbeats 4000000 in
set_option maxRecDepth 100000 in
theorem c_X10_paid (l : Launch) (D : va_G) (G : Nat → ClassId) (τ α : Nat → Nat) (S J : St) (n sz : Nat) (h9 : Int32) (hN : okN S) : Wl l D G τ yX10_paid cX10_paid 2 (some .long) 2 0 0 [.ref (α 0), .int h9] α (cE G α S J n) (Lc n) sz (fun r u => r = (sp_paid S h9).1 ∧ u = (α, cE G α (sp_paid S h9).2 J n, Lc n)) := by
  refine gM _ (by decide) rfl (Nat.le_of_ble_eq_true rfl) ?_
  intro p e s m below meth c ls C hr hlk hnm hsz B hl
  have hx := C.1
  have hb := C.2.1
  have hl : lv_has ls 2 [(0, .ref (α 0)), (1, .int h9)] := hl
  refine lv_iload_n hx hb dX10_paid_0 rfl (lv_at hl 1 rfl) ?_
  refine gc_b (gr_S C B (As := [.int h9]) (rest := []) (c_X10_isHolder l D G τ α _ _ _ h9) wl_475 wl_380 wl_29 wl_381 (na := 1) (by decide +kernel) rfl ⟨Nat.le_of_ble_eq_true rfl, Nat.le_of_ble_eq_true rfl⟩ ⟨Nat.le_of_ble_eq_true rfl, Nat.le_of_ble_eq_true rfl⟩ hl.1 rfl (Nat.le_of_ble_eq_true rfl) dX10_paid_1) (fun c1 => ?_) (fun c1 => ?_)
  · refine lv_if_ne (tgt := 16) hx hb dX10_paid_4 (by decide) (fun _ => ?_) (fun hc => absurd hc (by decide))
    refine lv_aload_n hx hb dX10_paid_16 rfl (lv_at hl 0 rfl) ?_
    refine g_get C B (0) (Lc_in (by decide)) cE_0 rfl gf_10 6 (by decide) wl_232 (v := .ref (α 18)) cF_0_6 dX10_paid_17 ?_
    refine g_get C B (18) (Lc_in (by decide)) cE_18 rfl gf_7 3 (by decide) wl_163 (v := .ref (α 19)) cF_18_3 dX10_paid_20 ?_
    refine lv_iload_n hx hb dX10_paid_23 rfl (lv_at hl 1 rfl) ?_
    refine g_lald C B (19) (Lc_in (by decide)) (f := S.2.2.2 33) cE_19 (vp_rng c1 (by decide) (by decide)) (j := h9.toNatClampNeg) rfl dX10_paid_24 ?_
    exact ge_wl C B hr hlk (by have e9 : sp_paid S h9 = ((S.2.2.2 33 h9.toNatClampNeg), S) := (by unfold sp_paid; (first | rw [if_pos c1] | rw [if_neg c1] | rw [if_neg (not_not_intro c1)] | skip); (first | done | rfl)); rw [e9]; exact ⟨rfl, rfl⟩) dX10_paid_25
  · refine lv_if_ne (tgt := 16) hx hb dX10_paid_4 (by decide) (fun hc => absurd (by decide) hc) (fun _ => ?_)
    refine lv_aload_n hx hb dX10_paid_7 rfl (lv_at hl 0 rfl) ?_
    refine g_get C B (0) (Lc_in (by decide)) cE_0 rfl gf_10 0 (by decide) wl_226 (v := .ref (α 1)) cF_0_0 dX10_paid_8 ?_
    refine lv_iconst (v := 1) hx hb dX10_paid_11 (by decide) ?_
    refine gc_wl B (gr_V C B (k := 1) (As := [.int 1]) (rest := []) (c_X5_answer l D G τ α S J n _ 1 (by decide)) (Lc_in (by decide)) cE_1 rfl wl_267 wl_268 wl_269 wl_30 wl_270 (na := 1) (by decide +kernel) rfl ⟨Nat.le_of_ble_eq_true rfl, Nat.le_of_ble_eq_true rfl⟩ ⟨Nat.le_of_ble_eq_true rfl, Nat.le_of_ble_eq_true rfl⟩ hl.1 rfl (Nat.le_of_ble_eq_true rfl) dX10_paid_12) (fun r u h H locs B => ?_)
    obtain ⟨rfl, rfl⟩ := h
    have B : gB D G τ (gA α (Lc n) sz) s H locs α (cE G α (sNo S 1).2 J n) (Lc n) := B
    exact ge_wl C B hr hlk (by have e9 : sp_paid S h9 = ((sNo S 1).1, (sNo S 1).2) := (by unfold sp_paid; (first | rw [if_pos c1] | rw [if_neg c1] | rw [if_neg (not_not_intro c1)] | skip); (first | done | rfl)); rw [e9]; exact ⟨rfl, rfl⟩) dX10_paid_15
set_option maxHeartbeats 4000000 in
set_option maxRecDepth 100000 in
theorem c_X10_found (l : Launch) (D : va_G) (G : Nat → ClassId) (τ α : Nat → Nat) (S J : St) (n sz : Nat) (k : Int32) (hN : okN S) : Wl l D G τ yX10_found cX10_found 2 (some .long) 2 0 0 [.ref (α 0), .int k] α (cE G α S J n) (Lc n) sz (fun r u => r = (sp_found S k).1 ∧ u = (α, cE G α (sp_found S k).2 J n, Lc n)) := by
  refine gM _ (by decide) rfl (Nat.le_of_ble_eq_true rfl) ?_
  intro p e s m below meth c ls C hr hlk hnm hsz B hl
  have hx := C.1
  have hb := C.2.1
  have hl : lv_has ls 2 [(0, .ref (α 0)), (1, .int k)] := hl
  refine lv_iload_n hx hb dX10_found_0 rfl (lv_at hl 1 rfl) ?_
  refine lv_iconst (v := 1) hx hb dX10_found_1 (by decide) ?_
  refine lv_iconst (v := 5) hx hb dX10_found_2 (by decide) ?_
  refine gc_b (gr_S C B (As := [.int k, .int 1, .int 5]) (rest := []) (c_X10_isWithin l D G τ α _ _ _ k 1 5) wl_264 wl_265 wl_29 wl_266 (na := 3) (by decide +kernel) rfl ⟨Nat.le_of_ble_eq_true rfl, Nat.le_of_ble_eq_true rfl⟩ ⟨Nat.le_of_ble_eq_true rfl, Nat.le_of_ble_eq_true rfl⟩ hl.1 rfl (Nat.le_of_ble_eq_true rfl) dX10_found_3) (fun c1 => ?_) (fun c1 => ?_)
  · refine lv_if_ne (tgt := 18) hx hb dX10_found_6 (by decide) (fun _ => ?_) (fun hc => absurd hc (by decide))
    refine lv_aload_n hx hb dX10_found_18 rfl (lv_at hl 0 rfl) ?_
    refine g_get C B (0) (Lc_in (by decide)) cE_0 rfl gf_10 0 (by decide) wl_226 (v := .ref (α 1)) cF_0_0 dX10_found_19 ?_
    refine g_get C B (1) (Lc_in (by decide)) cE_1 rfl gf_5 0 (by decide) wl_58 (v := .ref (α 2)) cF_1_0 dX10_found_22 ?_
    refine lv_iload_n hx hb dX10_found_25 rfl (lv_at hl 1 rfl) ?_
    refine g_iald C B (2) (Lc_in (by decide)) (f := S.2.2.1 1) cE_2 (vp_rng c1 (by decide) (by decide)) (j := k.toNatClampNeg) rfl dX10_found_26 ?_
    refine lv_i2l (v := (S.2.2.1 1 k.toNatClampNeg).toInt64) hx hb dX10_found_27 rfl ?_
    exact ge_wl C B hr hlk (by have e9 : sp_found S k = ((S.2.2.1 1 k.toNatClampNeg).toInt64, S) := (by unfold sp_found; (first | rw [if_pos c1] | rw [if_neg c1] | rw [if_neg (not_not_intro c1)] | skip); (first | done | rfl)); rw [e9]; exact ⟨rfl, rfl⟩) dX10_found_28
  · refine lv_if_ne (tgt := 18) hx hb dX10_found_6 (by decide) (fun hc => absurd (by decide) hc) (fun _ => ?_)
    refine lv_aload_n hx hb dX10_found_9 rfl (lv_at hl 0 rfl) ?_
    refine g_get C B (0) (Lc_in (by decide)) cE_0 rfl gf_10 0 (by decide) wl_226 (v := .ref (α 1)) cF_0_0 dX10_found_10 ?_
    refine lv_iconst (v := 1) hx hb dX10_found_13 (by decide) ?_
    refine gc_wl B (gr_V C B (k := 1) (As := [.int 1]) (rest := []) (c_X5_answer l D G τ α S J n _ 1 (by decide)) (Lc_in (by decide)) cE_1 rfl wl_267 wl_268 wl_269 wl_30 wl_270 (na := 1) (by decide +kernel) rfl ⟨Nat.le_of_ble_eq_true rfl, Nat.le_of_ble_eq_true rfl⟩ ⟨Nat.le_of_ble_eq_true rfl, Nat.le_of_ble_eq_true rfl⟩ hl.1 rfl (Nat.le_of_ble_eq_true rfl) dX10_found_14) (fun r u h H locs B => ?_)
    obtain ⟨rfl, rfl⟩ := h
    have B : gB D G τ (gA α (Lc n) sz) s H locs α (cE G α (sNo S 1).2 J n) (Lc n) := B
    exact ge_wl C B hr hlk (by have e9 : sp_found S k = ((sNo S 1).1, (sNo S 1).2) := (by unfold sp_found; (first | rw [if_pos c1] | rw [if_neg c1] | rw [if_neg (not_not_intro c1)] | skip); (first | done | rfl)); rw [e9]; exact ⟨rfl, rfl⟩) dX10_found_17
theorem lv_no {α : Type} {A B C D : Prop} [Decidable A] [Decidable B] [Decidable C] [Decidable D] {x y : α} (h : ¬ (A ∧ B ∧ C ∧ D)) : (if ¬ A then x else if ¬ B then x else if ¬ C then x else if D then y else x) = x := by
  by_cases h1 : A <;> by_cases h2 : B <;> by_cases h3 : C <;> by_cases h4 : D <;> simp_all
set_option maxHeartbeats 4000000 in
set_option maxRecDepth 100000 in
theorem c_X10_lives (l : Launch) (D : va_G) (G : Nat → ClassId) (τ α : Nat → Nat) (S J : St) (n sz : Nat) (a x y z : Int32) (hN : okN S) : Wl l D G τ yX10_lives cX10_lives 5 (some .long) 3 0 0 [.ref (α 0), .int a, .int x, .int y, .int z] α (cE G α S J n) (Lc n) sz (fun r u => r = (sp_lives S a x y z).1 ∧ u = (α, cE G α (sp_lives S a x y z).2 J n, Lc n)) := by
  refine gM _ (by decide) rfl (Nat.le_of_ble_eq_true rfl) ?_
  intro p e s m below meth c ls C hr hlk hnm hsz B hl
  have hx := C.1
  have hb := C.2.1
  have hl : lv_has ls 5 [(0, .ref (α 0)), (1, .int a), (2, .int x), (3, .int y), (4, .int z)] := hl
  refine lv_iload_n hx hb dX10_lives_0 rfl (lv_at hl 1 rfl) ?_
  refine gc_b (gr_S C B (As := [.int a]) (rest := []) (c_X6_isAge l D G τ α _ _ _ a) wl_647 wl_648 wl_38 wl_649 (na := 1) (by decide +kernel) rfl ⟨Nat.le_of_ble_eq_true rfl, Nat.le_of_ble_eq_true rfl⟩ ⟨Nat.le_of_ble_eq_true rfl, Nat.le_of_ble_eq_true rfl⟩ hl.1 rfl (Nat.le_of_ble_eq_true rfl) dX10_lives_1) (fun c1 => ?_) (fun c1 => ?_)
  · refine lv_if_eq (tgt := 17) hx hb dX10_lives_4 (by decide) (fun hc => absurd hc (by decide)) (fun _ => ?_)
    refine lv_iload_n hx hb dX10_lives_7 rfl (lv_at hl 2 rfl) ?_
    refine lv_iload_n hx hb dX10_lives_8 rfl (lv_at hl 3 rfl) ?_
    refine lv_iload hx hb dX10_lives_9 (lv_at hl 4 rfl) ?_
    refine gc_b (gr_S C B (As := [.int x, .int y, .int z]) (rest := []) (c_X6_mayGo l D G τ α _ _ _ x y z) wl_651 wl_652 wl_38 wl_653 (na := 3) (by decide +kernel) rfl ⟨Nat.le_of_ble_eq_true rfl, Nat.le_of_ble_eq_true rfl⟩ ⟨Nat.le_of_ble_eq_true rfl, Nat.le_of_ble_eq_true rfl⟩ hl.1 rfl (Nat.le_of_ble_eq_true rfl) dX10_lives_11) (fun c2 => ?_) (fun c2 => ?_)
    · refine lv_if_ne (tgt := 26) hx hb dX10_lives_14 (by decide) (fun _ => ?_) (fun hc => absurd hc (by decide))
      refine lv_aload_n hx hb dX10_lives_26 rfl (lv_at hl 0 rfl) ?_
      refine g_get C B (0) (Lc_in (by decide)) cE_0 rfl gf_10 8 (by decide) wl_234 (v := .ref (α 21)) cF_0_8 dX10_lives_27 ?_
      refine lv_iload_n hx hb dX10_lives_30 rfl (lv_at hl 1 rfl) ?_
      refine lv_iload_n hx hb dX10_lives_31 rfl (lv_at hl 2 rfl) ?_
      refine lv_iload_n hx hb dX10_lives_32 rfl (lv_at hl 3 rfl) ?_
      refine lv_iload hx hb dX10_lives_33 (lv_at hl 4 rfl) ?_
      refine gc_wv B (gr_V C B (k := 21) (As := [.int a, .int x, .int y, .int z]) (rest := []) (c_X6_set l D G τ α S J n _ a x y z c1) (Lc_in (by decide)) cE_21 rfl wl_655 wl_656 wl_657 wl_38 wl_658 (na := 4) (by decide +kernel) rfl ⟨Nat.le_of_ble_eq_true rfl, Nat.le_of_ble_eq_true rfl⟩ ⟨Nat.le_of_ble_eq_true rfl, Nat.le_of_ble_eq_true rfl⟩ hl.1 rfl (Nat.le_of_ble_eq_true rfl) dX10_lives_35) (fun u h H locs B => ?_)
      subst h
      have B : gB D G τ (gA α (Lc n) sz) s H locs α (cE G α (uA (uA (uA S 34 (upd (S.2.2.1 34) a.toNatClampNeg x)) 35 (upd (S.2.2.1 35) a.toNatClampNeg y)) 36 (upd (S.2.2.1 36) a.toNatClampNeg z)) J n) (Lc n) := B
      refine lv_sipush (v := 1000) hx hb dX10_lives_38 (by decide) ?_
      refine lv_iload_n hx hb dX10_lives_41 rfl (lv_at hl 2 rfl) ?_
      refine lv_isub hx hb dX10_lives_42 ?_
      refine lv_iload_n hx hb dX10_lives_43 rfl (lv_at hl 3 rfl) ?_
      refine lv_isub hx hb dX10_lives_44 ?_
      refine lv_iload hx hb dX10_lives_45 (lv_at hl 4 rfl) ?_
      refine lv_isub hx hb dX10_lives_47 ?_
      refine lv_i2l (v := (((1000 - x) - y) - z).toInt64) hx hb dX10_lives_48 rfl ?_
      exact ge_wl C B hr hlk (by have e9 : sp_lives S a x y z = ((((1000 - x) - y) - z).toInt64, (uA (uA (uA S 34 (upd (S.2.2.1 34) a.toNatClampNeg x)) 35 (upd (S.2.2.1 35) a.toNatClampNeg y)) 36 (upd (S.2.2.1 36) a.toNatClampNeg z))) := (by unfold sp_lives; (first | rw [if_pos c1] | rw [if_neg c1] | rw [if_neg (not_not_intro c1)] | skip); rw [if_neg (not_not_intro c2.1), if_neg (not_not_intro c2.2.1), if_neg (not_not_intro c2.2.2.1), if_pos c2.2.2.2]; (first | done | rfl)); rw [e9]; exact ⟨rfl, rfl⟩) dX10_lives_49
    · refine lv_if_ne (tgt := 26) hx hb dX10_lives_14 (by decide) (fun hc => absurd (by decide) hc) (fun _ => ?_)
      refine lv_aload_n hx hb dX10_lives_17 rfl (lv_at hl 0 rfl) ?_
      refine g_get C B (0) (Lc_in (by decide)) cE_0 rfl gf_10 0 (by decide) wl_226 (v := .ref (α 1)) cF_0_0 dX10_lives_18 ?_
      refine lv_iconst (v := 1) hx hb dX10_lives_21 (by decide) ?_
      refine gc_wl B (gr_V C B (k := 1) (As := [.int 1]) (rest := []) (c_X5_answer l D G τ α S J n _ 1 (by decide)) (Lc_in (by decide)) cE_1 rfl wl_267 wl_268 wl_269 wl_30 wl_270 (na := 1) (by decide +kernel) rfl ⟨Nat.le_of_ble_eq_true rfl, Nat.le_of_ble_eq_true rfl⟩ ⟨Nat.le_of_ble_eq_true rfl, Nat.le_of_ble_eq_true rfl⟩ hl.1 rfl (Nat.le_of_ble_eq_true rfl) dX10_lives_22) (fun r u h H locs B => ?_)
      obtain ⟨rfl, rfl⟩ := h
      have B : gB D G τ (gA α (Lc n) sz) s H locs α (cE G α (sNo S 1).2 J n) (Lc n) := B
      exact ge_wl C B hr hlk (by have e9 : sp_lives S a x y z = ((sNo S 1).1, (sNo S 1).2) := (by unfold sp_lives; (first | rw [if_pos c1] | rw [if_neg c1] | rw [if_neg (not_not_intro c1)] | skip); exact lv_no c2; (first | done | rfl)); rw [e9]; exact ⟨rfl, rfl⟩) dX10_lives_25
  · refine lv_if_eq (tgt := 17) hx hb dX10_lives_4 (by decide) (fun _ => ?_) (fun hc => absurd (by decide) hc)
    refine lv_aload_n hx hb dX10_lives_17 rfl (lv_at hl 0 rfl) ?_
    refine g_get C B (0) (Lc_in (by decide)) cE_0 rfl gf_10 0 (by decide) wl_226 (v := .ref (α 1)) cF_0_0 dX10_lives_18 ?_
    refine lv_iconst (v := 1) hx hb dX10_lives_21 (by decide) ?_
    refine gc_wl B (gr_V C B (k := 1) (As := [.int 1]) (rest := []) (c_X5_answer l D G τ α S J n _ 1 (by decide)) (Lc_in (by decide)) cE_1 rfl wl_267 wl_268 wl_269 wl_30 wl_270 (na := 1) (by decide +kernel) rfl ⟨Nat.le_of_ble_eq_true rfl, Nat.le_of_ble_eq_true rfl⟩ ⟨Nat.le_of_ble_eq_true rfl, Nat.le_of_ble_eq_true rfl⟩ hl.1 rfl (Nat.le_of_ble_eq_true rfl) dX10_lives_22) (fun r u h H locs B => ?_)
    obtain ⟨rfl, rfl⟩ := h
    have B : gB D G τ (gA α (Lc n) sz) s H locs α (cE G α (sNo S 1).2 J n) (Lc n) := B
    exact ge_wl C B hr hlk (by have e9 : sp_lives S a x y z = ((sNo S 1).1, (sNo S 1).2) := (by unfold sp_lives; (first | rw [if_pos c1] | rw [if_neg c1] | rw [if_neg (not_not_intro c1)] | skip); (first | done | rfl)); rw [e9]; exact ⟨rfl, rfl⟩) dX10_lives_25
set_option maxHeartbeats 4000000 in
set_option maxRecDepth 100000 in
theorem c_X10_value (l : Launch) (D : va_G) (G : Nat → ClassId) (τ α : Nat → Nat) (S J : St) (n sz : Nat) (a b d : Int32) (hN : okN S) : Wl l D G τ yX10_value cX10_value 4 (some .long) 4 0 0 [.ref (α 0), .int a, .int b, .int d] α (cE G α S J n) (Lc n) sz (fun r u => r = (sp_value S a b d).1 ∧ u = (α, cE G α (sp_value S a b d).2 J n, Lc n)) := by
  refine gM _ (by decide) rfl (Nat.le_of_ble_eq_true rfl) ?_
  intro p e s m below meth c ls C hr hlk hnm hsz B hl
  have hx := C.1
  have hb := C.2.1
  have hl : lv_has ls 4 [(0, .ref (α 0)), (1, .int a), (2, .int b), (3, .int d)] := hl
  refine lv_iload_n hx hb dX10_value_0 rfl (lv_at hl 1 rfl) ?_
  refine lv_iload_n hx hb dX10_value_1 rfl (lv_at hl 2 rfl) ?_
  refine gc_b (gr_S C B (As := [.int a, .int b]) (rest := []) (c_X6_isSpan l D G τ α _ _ _ a b) wl_664 wl_665 wl_38 wl_666 (na := 2) (by decide +kernel) rfl ⟨Nat.le_of_ble_eq_true rfl, Nat.le_of_ble_eq_true rfl⟩ ⟨Nat.le_of_ble_eq_true rfl, Nat.le_of_ble_eq_true rfl⟩ hl.1 rfl (Nat.le_of_ble_eq_true rfl) dX10_value_2) (fun c1 => ?_) (fun c1 => ?_)
  · obtain ⟨a9, b9, hab9, hb21, rfl, rfl⟩ := ages_nat c1
    have a9_b : a9 < 2 ^ 31 := by omega
    have b9_b : b9 < 2 ^ 31 := by omega
    refine lv_if_eq (tgt := 19) hx hb dX10_value_5 (by decide) (fun hc => absurd hc (by decide)) (fun _ => ?_)
    refine lv_iload_n hx hb dX10_value_8 rfl (lv_at hl 3 rfl) ?_
    refine lv_iconst (v := 0) hx hb dX10_value_9 (by decide) ?_
    refine g_ldcw C wl_667 dX10_value_10 ?_
    refine gc_b (gr_S C B (As := [.int d, .int 0, .int 100000]) (rest := []) (c_X10_isWithin l D G τ α _ _ _ d 0 100000) wl_264 wl_265 wl_29 wl_266 (na := 3) (by decide +kernel) rfl ⟨Nat.le_of_ble_eq_true rfl, Nat.le_of_ble_eq_true rfl⟩ ⟨Nat.le_of_ble_eq_true rfl, Nat.le_of_ble_eq_true rfl⟩ hl.1 rfl (Nat.le_of_ble_eq_true rfl) dX10_value_13) (fun c2 => ?_) (fun c2 => ?_)
    · refine lv_if_ne (tgt := 28) hx hb dX10_value_16 (by decide) (fun _ => ?_) (fun hc => absurd hc (by decide))
      refine lv_iload_n hx hb dX10_value_28 rfl (lv_at hl 3 rfl) ?_
      refine lv_i2l (v := d.toInt64) hx hb dX10_value_29 rfl ?_
      refine lv_aload_n hx hb dX10_value_30 rfl (lv_at hl 0 rfl) ?_
      refine g_get C B (0) (Lc_in (by decide)) cE_0 rfl gf_10 8 (by decide) wl_234 (v := .ref (α 21)) cF_0_8 dX10_value_31 ?_
      refine lv_iload_n hx hb dX10_value_34 rfl (lv_at hl 1 rfl) ?_
      refine lv_iload_n hx hb dX10_value_35 rfl (lv_at hl 2 rfl) ?_
      refine gc_l (gr_V C B (k := 21) (As := [.int (nI a9), .int (nI b9)]) (rest := [.long d.toInt64]) (c_X6_wedBetween l D G τ α S J n _ a9 b9 (by omega) (by omega)) (Lc_in (by decide)) cE_21 rfl wl_668 wl_669 wl_670 wl_38 wl_671 (na := 2) (by decide +kernel) rfl ⟨Nat.le_of_ble_eq_true rfl, Nat.le_of_ble_eq_true rfl⟩ ⟨Nat.le_of_ble_eq_true rfl, Nat.le_of_ble_eq_true rfl⟩ hl.1 rfl (Nat.le_of_ble_eq_true rfl) dX10_value_36) (fun r h => ?_)
      subst h
      refine lv_lmul hx hb dX10_value_39 ?_
      refine g_ldc2 C wl_679 dX10_value_40 ?_
      refine lv_ldiv hx hb dX10_value_43 (by decide) ?_
      exact ge_wl C B hr hlk (by have e9 : sp_value S (nI a9) (nI b9) d = (((d.toInt64 * (liveL S a9 (b9 - a9)).2) / 1000000), (uJ (uJ S 41 ((liveL S a9 (b9 - a9)).1)) 42 ((liveL S a9 (b9 - a9)).2))) := (by unfold sp_value sLv; (try simp only [nI_clamp a9_b, nI_clamp b9_b]); (first | rw [if_pos c1] | rw [if_neg c1] | rw [if_neg (not_not_intro c1)] | skip); (try simp only [nI_clamp a9_b, nI_clamp b9_b]); (first | rw [if_pos c2] | rw [if_neg c2] | rw [if_neg (not_not_intro c2)] | skip); (try simp only [nI_clamp a9_b, nI_clamp b9_b]); (first | done | rfl)); rw [e9]; exact ⟨rfl, rfl⟩) dX10_value_44
    · refine lv_if_ne (tgt := 28) hx hb dX10_value_16 (by decide) (fun hc => absurd (by decide) hc) (fun _ => ?_)
      refine lv_aload_n hx hb dX10_value_19 rfl (lv_at hl 0 rfl) ?_
      refine g_get C B (0) (Lc_in (by decide)) cE_0 rfl gf_10 0 (by decide) wl_226 (v := .ref (α 1)) cF_0_0 dX10_value_20 ?_
      refine lv_iconst (v := 1) hx hb dX10_value_23 (by decide) ?_
      refine gc_wl B (gr_V C B (k := 1) (As := [.int 1]) (rest := []) (c_X5_answer l D G τ α S J n _ 1 (by decide)) (Lc_in (by decide)) cE_1 rfl wl_267 wl_268 wl_269 wl_30 wl_270 (na := 1) (by decide +kernel) rfl ⟨Nat.le_of_ble_eq_true rfl, Nat.le_of_ble_eq_true rfl⟩ ⟨Nat.le_of_ble_eq_true rfl, Nat.le_of_ble_eq_true rfl⟩ hl.1 rfl (Nat.le_of_ble_eq_true rfl) dX10_value_24) (fun r u h H locs B => ?_)
      obtain ⟨rfl, rfl⟩ := h
      have B : gB D G τ (gA α (Lc n) sz) s H locs α (cE G α (sNo S 1).2 J n) (Lc n) := B
      exact ge_wl C B hr hlk (by have e9 : sp_value S (nI a9) (nI b9) d = ((sNo S 1).1, (sNo S 1).2) := (by unfold sp_value sLv; (try simp only [nI_clamp a9_b, nI_clamp b9_b]); (first | rw [if_pos c1] | rw [if_neg c1] | rw [if_neg (not_not_intro c1)] | skip); (try simp only [nI_clamp a9_b, nI_clamp b9_b]); (first | rw [if_pos c2] | rw [if_neg c2] | rw [if_neg (not_not_intro c2)] | skip); (try simp only [nI_clamp a9_b, nI_clamp b9_b]); (first | done | rfl)); rw [e9]; exact ⟨rfl, rfl⟩) dX10_value_27
  · refine lv_if_eq (tgt := 19) hx hb dX10_value_5 (by decide) (fun _ => ?_) (fun hc => absurd (by decide) hc)
    refine lv_aload_n hx hb dX10_value_19 rfl (lv_at hl 0 rfl) ?_
    refine g_get C B (0) (Lc_in (by decide)) cE_0 rfl gf_10 0 (by decide) wl_226 (v := .ref (α 1)) cF_0_0 dX10_value_20 ?_
    refine lv_iconst (v := 1) hx hb dX10_value_23 (by decide) ?_
    refine gc_wl B (gr_V C B (k := 1) (As := [.int 1]) (rest := []) (c_X5_answer l D G τ α S J n _ 1 (by decide)) (Lc_in (by decide)) cE_1 rfl wl_267 wl_268 wl_269 wl_30 wl_270 (na := 1) (by decide +kernel) rfl ⟨Nat.le_of_ble_eq_true rfl, Nat.le_of_ble_eq_true rfl⟩ ⟨Nat.le_of_ble_eq_true rfl, Nat.le_of_ble_eq_true rfl⟩ hl.1 rfl (Nat.le_of_ble_eq_true rfl) dX10_value_24) (fun r u h H locs B => ?_)
    obtain ⟨rfl, rfl⟩ := h
    have B : gB D G τ (gA α (Lc n) sz) s H locs α (cE G α (sNo S 1).2 J n) (Lc n) := B
    exact ge_wl C B hr hlk (by have e9 : sp_value S a b d = ((sNo S 1).1, (sNo S 1).2) := (by unfold sp_value sLv; (first | rw [if_pos c1] | rw [if_neg c1] | rw [if_neg (not_not_intro c1)] | skip); (first | done | rfl)); rw [e9]; exact ⟨rfl, rfl⟩) dX10_value_27
set_option maxHeartbeats 4000000 in
set_option maxRecDepth 100000 in
theorem c_X10_left (l : Launch) (D : va_G) (G : Nat → ClassId) (τ α : Nat → Nat) (S J : St) (n sz : Nat) (a b : Int32) (hN : okN S) : Wl l D G τ yX10_left cX10_left 3 (some .long) 4 0 0 [.ref (α 0), .int a, .int b] α (cE G α S J n) (Lc n) sz (fun r u => r = (sp_left S a b).1 ∧ u = (α, cE G α (sp_left S a b).2 J n, Lc n)) := by
  refine gM _ (by decide) rfl (Nat.le_of_ble_eq_true rfl) ?_
  intro p e s m below meth c ls C hr hlk hnm hsz B hl
  have hx := C.1
  have hb := C.2.1
  have hl : lv_has ls 3 [(0, .ref (α 0)), (1, .int a), (2, .int b)] := hl
  refine lv_iload_n hx hb dX10_left_0 rfl (lv_at hl 1 rfl) ?_
  refine lv_iload_n hx hb dX10_left_1 rfl (lv_at hl 2 rfl) ?_
  refine gc_b (gr_S C B (As := [.int a, .int b]) (rest := []) (c_X6_isSpan l D G τ α _ _ _ a b) wl_664 wl_665 wl_38 wl_666 (na := 2) (by decide +kernel) rfl ⟨Nat.le_of_ble_eq_true rfl, Nat.le_of_ble_eq_true rfl⟩ ⟨Nat.le_of_ble_eq_true rfl, Nat.le_of_ble_eq_true rfl⟩ hl.1 rfl (Nat.le_of_ble_eq_true rfl) dX10_left_2) (fun c1 => ?_) (fun c1 => ?_)
  · obtain ⟨a9, b9, hab9, hb21, rfl, rfl⟩ := ages_nat c1
    have a9_b : a9 < 2 ^ 31 := by omega
    have b9_b : b9 < 2 ^ 31 := by omega
    refine lv_if_ne (tgt := 17) hx hb dX10_left_5 (by decide) (fun _ => ?_) (fun hc => absurd hc (by decide))
    refine lv_aload_n hx hb dX10_left_17 rfl (lv_at hl 0 rfl) ?_
    refine g_get C B (0) (Lc_in (by decide)) cE_0 rfl gf_10 8 (by decide) wl_234 (v := .ref (α 21)) cF_0_8 dX10_left_18 ?_
    refine lv_iload_n hx hb dX10_left_21 rfl (lv_at hl 1 rfl) ?_
    refine lv_iload_n hx hb dX10_left_22 rfl (lv_at hl 2 rfl) ?_
    refine gc_l (gr_V C B (k := 21) (As := [.int (nI a9), .int (nI b9)]) (rest := []) (c_X6_stillThere l D G τ α S J n _ a9 b9 (by omega) (by omega)) (Lc_in (by decide)) cE_21 rfl wl_684 wl_685 wl_686 wl_38 wl_687 (na := 2) (by decide +kernel) rfl ⟨Nat.le_of_ble_eq_true rfl, Nat.le_of_ble_eq_true rfl⟩ ⟨Nat.le_of_ble_eq_true rfl, Nat.le_of_ble_eq_true rfl⟩ hl.1 rfl (Nat.le_of_ble_eq_true rfl) dX10_left_23) (fun r h => ?_)
    subst h
    exact ge_wl C B hr hlk (by have e9 : sp_left S (nI a9) (nI b9) = ((liveL S a9 (b9 - a9)).1, (uJ (uJ S 41 ((liveL S a9 (b9 - a9)).1)) 42 ((liveL S a9 (b9 - a9)).2))) := (by unfold sp_left sLv; (try simp only [nI_clamp a9_b, nI_clamp b9_b]); (first | rw [if_pos c1] | rw [if_neg c1] | rw [if_neg (not_not_intro c1)] | skip); (try simp only [nI_clamp a9_b, nI_clamp b9_b]); (first | done | rfl)); rw [e9]; exact ⟨rfl, rfl⟩) dX10_left_26
  · refine lv_if_ne (tgt := 17) hx hb dX10_left_5 (by decide) (fun hc => absurd (by decide) hc) (fun _ => ?_)
    refine lv_aload_n hx hb dX10_left_8 rfl (lv_at hl 0 rfl) ?_
    refine g_get C B (0) (Lc_in (by decide)) cE_0 rfl gf_10 0 (by decide) wl_226 (v := .ref (α 1)) cF_0_0 dX10_left_9 ?_
    refine lv_iconst (v := 1) hx hb dX10_left_12 (by decide) ?_
    refine gc_wl B (gr_V C B (k := 1) (As := [.int 1]) (rest := []) (c_X5_answer l D G τ α S J n _ 1 (by decide)) (Lc_in (by decide)) cE_1 rfl wl_267 wl_268 wl_269 wl_30 wl_270 (na := 1) (by decide +kernel) rfl ⟨Nat.le_of_ble_eq_true rfl, Nat.le_of_ble_eq_true rfl⟩ ⟨Nat.le_of_ble_eq_true rfl, Nat.le_of_ble_eq_true rfl⟩ hl.1 rfl (Nat.le_of_ble_eq_true rfl) dX10_left_13) (fun r u h H locs B => ?_)
    obtain ⟨rfl, rfl⟩ := h
    have B : gB D G τ (gA α (Lc n) sz) s H locs α (cE G α (sNo S 1).2 J n) (Lc n) := B
    exact ge_wl C B hr hlk (by have e9 : sp_left S a b = ((sNo S 1).1, (sNo S 1).2) := (by unfold sp_left sLv; (first | rw [if_pos c1] | rw [if_neg c1] | rw [if_neg (not_not_intro c1)] | skip); (first | done | rfl)); rw [e9]; exact ⟨rfl, rfl⟩) dX10_left_16
set_option maxHeartbeats 4000000 in
set_option maxRecDepth 100000 in
theorem c_X10_tell (l : Launch) (D : va_G) (G : Nat → ClassId) (τ α : Nat → Nat) (S J : St) (n sz : Nat) (v : Int32) (hN : okN S) : Wl l D G τ yX10_tell cX10_tell 2 (some .long) 2 0 0 [.ref (α 0), .int v] α (cE G α S J n) (Lc n) sz (fun r u => r = (sp_tell S v).1 ∧ u = (α, cE G α (sp_tell S v).2 J n, Lc n)) := by
  refine gM _ (by decide) rfl (Nat.le_of_ble_eq_true rfl) ?_
  intro p e s m below meth c ls C hr hlk hnm hsz B hl
  have hx := C.1
  have hb := C.2.1
  have hl : lv_has ls 2 [(0, .ref (α 0)), (1, .int v)] := hl
  refine lv_aload_n hx hb dX10_tell_0 rfl (lv_at hl 0 rfl) ?_
  refine g_get C B (0) (Lc_in (by decide)) cE_0 rfl gf_10 9 (by decide) wl_235 (v := .ref (α 25)) cF_0_9 dX10_tell_1 ?_
  refine gc_b (gr_V C B (k := 25) (As := []) (rest := []) (c_X9_isFull l D G τ α S J n _) (Lc_in (by decide)) cE_25 rfl wl_692 wl_693 wl_694 wl_39 wl_695 (na := 0) (by decide +kernel) rfl ⟨Nat.le_of_ble_eq_true rfl, Nat.le_of_ble_eq_true rfl⟩ ⟨Nat.le_of_ble_eq_true rfl, Nat.le_of_ble_eq_true rfl⟩ hl.1 rfl (Nat.le_of_ble_eq_true rfl) dX10_tell_4) (fun c1 => ?_) (fun c1 => ?_)
  · refine lv_if_eq (tgt := 19) hx hb dX10_tell_7 (by decide) (fun hc => absurd hc (by decide)) (fun _ => ?_)
    refine lv_aload_n hx hb dX10_tell_10 rfl (lv_at hl 0 rfl) ?_
    refine g_get C B (0) (Lc_in (by decide)) cE_0 rfl gf_10 0 (by decide) wl_226 (v := .ref (α 1)) cF_0_0 dX10_tell_11 ?_
    refine lv_iconst (v := 4) hx hb dX10_tell_14 (by decide) ?_
    refine gc_wl B (gr_V C B (k := 1) (As := [.int 4]) (rest := []) (c_X5_answer l D G τ α S J n _ 4 (by decide)) (Lc_in (by decide)) cE_1 rfl wl_267 wl_268 wl_269 wl_30 wl_270 (na := 1) (by decide +kernel) rfl ⟨Nat.le_of_ble_eq_true rfl, Nat.le_of_ble_eq_true rfl⟩ ⟨Nat.le_of_ble_eq_true rfl, Nat.le_of_ble_eq_true rfl⟩ hl.1 rfl (Nat.le_of_ble_eq_true rfl) dX10_tell_15) (fun r u h H locs B => ?_)
    obtain ⟨rfl, rfl⟩ := h
    have B : gB D G τ (gA α (Lc n) sz) s H locs α (cE G α (sNo S 4).2 J n) (Lc n) := B
    exact ge_wl C B hr hlk (by have e9 : sp_tell S v = ((sNo S 4).1, (sNo S 4).2) := (by unfold sp_tell; (first | rw [if_pos (show S.1 37 = 30 by have h8 := hN.2.2.2.2.2.2; simp only [i3l, i3e, i3q, inR, isC, isD, zi_0, zi_1, zi_2, zi_3, zi_4, zi_5, zi_6, zi_7, zi_8, zi_9, zi_10, zi_12, zi_20, zi_21, zi_30, zi_60, zi_90, zi_99, zi_100, zi_180, zi_240, zi_400, zi_500, zi_1000, zi_1199, zi_10000, zi_100000, zi_1000000, i3m1] at c1 h8 ⊢; omega)] | rw [if_neg (show ¬ S.1 37 = 30 by have h8 := hN.2.2.2.2.2.2; simp only [i3l, i3e, i3q, inR, isC, isD, zi_0, zi_1, zi_2, zi_3, zi_4, zi_5, zi_6, zi_7, zi_8, zi_9, zi_10, zi_12, zi_20, zi_21, zi_30, zi_60, zi_90, zi_99, zi_100, zi_180, zi_240, zi_400, zi_500, zi_1000, zi_1199, zi_10000, zi_100000, zi_1000000, i3m1] at c1 h8 ⊢; omega)]); (first | done | rfl)); rw [e9]; exact ⟨rfl, rfl⟩) dX10_tell_18
  · refine lv_if_eq (tgt := 19) hx hb dX10_tell_7 (by decide) (fun _ => ?_) (fun hc => absurd (by decide) hc)
    refine lv_aload_n hx hb dX10_tell_19 rfl (lv_at hl 0 rfl) ?_
    refine g_get C B (0) (Lc_in (by decide)) cE_0 rfl gf_10 9 (by decide) wl_235 (v := .ref (α 25)) cF_0_9 dX10_tell_20 ?_
    refine lv_iload_n hx hb dX10_tell_23 rfl (lv_at hl 1 rfl) ?_
    refine gc_wv B (gr_V C B (k := 25) (As := [.int v]) (rest := []) (c_X9_add l D G τ α S J n _ v c1 hN.2.2.2.2.2.1) (Lc_in (by decide)) cE_25 rfl wl_696 wl_697 wl_698 wl_39 wl_699 (na := 1) (by decide +kernel) rfl ⟨Nat.le_of_ble_eq_true rfl, Nat.le_of_ble_eq_true rfl⟩ ⟨Nat.le_of_ble_eq_true rfl, Nat.le_of_ble_eq_true rfl⟩ hl.1 rfl (Nat.le_of_ble_eq_true rfl) dX10_tell_24) (fun u h H locs B => ?_)
    subst h
    have B : gB D G τ (gA α (Lc n) sz) s H locs α (cE G α (uI (uA S 38 (upd (S.2.2.1 38) (nOf S 37) v)) 37 (S.1 37 + 1)) J n) (Lc n) := B
    refine lv_aload_n hx hb dX10_tell_27 rfl (lv_at hl 0 rfl) ?_
    refine g_get C B (0) (Lc_in (by decide)) cE_0 rfl gf_10 9 (by decide) wl_235 (v := .ref (α 25)) cF_0_9 dX10_tell_28 ?_
    refine g_get C B (25) (Lc_in (by decide)) cE_25 rfl gf_9 1 (by decide) wl_220 (v := .int ((uI (uA S 38 (upd (S.2.2.1 38) (nOf S 37) v)) 37 (S.1 37 + 1)).1 37)) cF_25_1 dX10_tell_31 ?_
    refine lv_i2l (v := ((uI (uA S 38 (upd (S.2.2.1 38) (nOf S 37) v)) 37 (S.1 37 + 1)).1 37).toInt64) hx hb dX10_tell_34 rfl ?_
    exact ge_wl C B hr hlk (by have e9 : sp_tell S v = (((uI (uA S 38 (upd (S.2.2.1 38) (nOf S 37) v)) 37 (S.1 37 + 1)).1 37).toInt64, (uI (uA S 38 (upd (S.2.2.1 38) (nOf S 37) v)) 37 (S.1 37 + 1))) := (by unfold sp_tell; (first | rw [if_pos (show S.1 37 = 30 by have h8 := hN.2.2.2.2.2.2; simp only [i3l, i3e, i3q, inR, isC, isD, zi_0, zi_1, zi_2, zi_3, zi_4, zi_5, zi_6, zi_7, zi_8, zi_9, zi_10, zi_12, zi_20, zi_21, zi_30, zi_60, zi_90, zi_99, zi_100, zi_180, zi_240, zi_400, zi_500, zi_1000, zi_1199, zi_10000, zi_100000, zi_1000000, i3m1] at c1 h8 ⊢; omega)] | rw [if_neg (show ¬ S.1 37 = 30 by have h8 := hN.2.2.2.2.2.2; simp only [i3l, i3e, i3q, inR, isC, isD, zi_0, zi_1, zi_2, zi_3, zi_4, zi_5, zi_6, zi_7, zi_8, zi_9, zi_10, zi_12, zi_20, zi_21, zi_30, zi_60, zi_90, zi_99, zi_100, zi_180, zi_240, zi_400, zi_500, zi_1000, zi_1199, zi_10000, zi_100000, zi_1000000, i3m1] at c1 h8 ⊢; omega)]); (first | done | rfl)); rw [e9]; exact ⟨rfl, rfl⟩) dX10_tell_35
set_option maxHeartbeats 4000000 in
set_option maxRecDepth 100000 in
theorem c_X10_dueNow (l : Launch) (D : va_G) (G : Nat → ClassId) (τ α : Nat → Nat) (S J : St) (n sz : Nat) (i : Nat) (hi : i < n) (hN : okN S) (hF : okF S) (hJ : S.2.2.1 16 i = 1 → J.2.2.1 0 i = S.2.2.1 18 i) : Rl l D G τ yX10_dueNow cX10_dueNow 3 (some .long) 5 [.ref (α 0), .ref (α (27 + 3 * i))] α (cE G α S J n) (Lc n) sz (fun r => r = sNow S i) := by
  refine gM _ (by decide) rfl (Nat.le_of_ble_eq_true rfl) ?_
  intro p e s m below meth c ls C hr hlk hnm hsz B hl
  have hx := C.1
  have hb := C.2.1
  have hl : lv_has ls 3 [(0, .ref (α 0)), (1, .ref (α (27 + 3 * i)))] := hl
  refine lv_aload_n hx hb dX10_dueNow_0 rfl (lv_at hl 0 rfl) ?_
  refine g_get C B (0) (Lc_in (by decide)) cE_0 rfl gf_10 5 (by decide) wl_231 (v := .ref (α 17)) cF_0_5 dX10_dueNow_1 ?_
  refine lv_aload_n hx hb dX10_dueNow_4 rfl (lv_at hl 1 rfl) ?_
  refine lv_aload_n hx hb dX10_dueNow_5 rfl (lv_at hl 0 rfl) ?_
  refine g_get C B (0) (Lc_in (by decide)) cE_0 rfl gf_10 10 (by decide) wl_236 (v := .int (S.1 0)) cF_0_10 dX10_dueNow_6 ?_
  refine gc_o (oI := oI) (gr_V C B (k := 17) (As := [.ref (α (27 + 3 * i)), .int (S.1 0)]) (rest := []) (c_X4_fallRow l D G τ α S J n _ i (S.1 0) (by omega) hN hF hJ) (Lc_in (by decide)) cE_17 rfl wl_617 wl_282 wl_283 wl_35 wl_284 (na := 2) (by decide +kernel) rfl ⟨Nat.le_of_ble_eq_true rfl, Nat.le_of_ble_eq_true rfl⟩ ⟨Nat.le_of_ble_eq_true rfl, Nat.le_of_ble_eq_true rfl⟩ hl.1 rfl (Nat.le_of_ble_eq_true rfl) dX10_dueNow_9) (fun o1 => ?_) (fun f2 o1 => ?_)
  · refine lv_istore_n (lv' := [(2, .int (-1)), (0, .ref (α 0)), (1, .ref (α (27 + 3 * i)))]) hx hb dX10_dueNow_12 rfl hl (by decide) rfl (fun ls hl => ?_)
    refine lv_iload_n hx hb dX10_dueNow_13 rfl (lv_at hl 0 rfl) ?_
    refine lv_iconst (v := (-1)) hx hb dX10_dueNow_14 (by decide) ?_
    refine lv_icmp_ne (tgt := 22) hx hb dX10_dueNow_15 (by decide) (fun hc => absurd (by decide) hc) (fun _ => ?_)
    refine lv_lconst (v := 0) hx hb dX10_dueNow_18 (by decide) ?_
    refine lv_goto (tgt := 35) hx hb dX10_dueNow_19 (by decide) ?_
    exact ge_l C hr hlk (by rw [sNow, o1]) dX10_dueNow_35
  · have f2_b : f2 < 90 := Nat.lt_of_lt_of_le (sFall_lt o1).1 (nOf_le hN.2.2.2.1.1 hN.2.2.2.1.2 (by decide))
    refine lv_istore_n (lv' := [(2, .int (nI f2)), (0, .ref (α 0)), (1, .ref (α (27 + 3 * i)))]) hx hb dX10_dueNow_12 rfl hl (by decide) rfl (fun ls hl => ?_)
    refine lv_iload_n hx hb dX10_dueNow_13 rfl (lv_at hl 0 rfl) ?_
    refine lv_iconst (v := (-1)) hx hb dX10_dueNow_14 (by decide) ?_
    refine lv_icmp_ne (tgt := 22) hx hb dX10_dueNow_15 (by decide) (fun _ => ?_) (fun hc => absurd hc (nI_m1 (by omega)))
    refine lv_aload_n hx hb dX10_dueNow_22 rfl (lv_at hl 1 rfl) ?_
    refine g_get C B (0) (Lc_in (by decide)) cE_0 rfl gf_10 5 (by decide) wl_231 (v := .ref (α 17)) cF_0_5 dX10_dueNow_23 ?_
    refine lv_aload_n hx hb dX10_dueNow_26 rfl (lv_at hl 2 rfl) ?_
    refine lv_iload_n hx hb dX10_dueNow_27 rfl (lv_at hl 0 rfl) ?_
    refine lv_aload_n hx hb dX10_dueNow_28 rfl (lv_at hl 1 rfl) ?_
    refine g_get C B (0) (Lc_in (by decide)) cE_0 rfl gf_10 10 (by decide) wl_236 (v := .int (S.1 0)) cF_0_10 dX10_dueNow_29 ?_
    refine gc_l (gr_V C B (k := 17) (As := [.ref (α (27 + 3 * i)), .int (nI f2), .int (S.1 0)]) (rest := []) (c_X4_dueSum l D G τ α S J n _ i f2 (S.1 0) (by omega) (by omega) hN) (Lc_in (by decide)) cE_17 rfl wl_619 wl_325 wl_326 wl_35 wl_327 (na := 3) (by decide +kernel) rfl ⟨Nat.le_of_ble_eq_true rfl, Nat.le_of_ble_eq_true rfl⟩ ⟨Nat.le_of_ble_eq_true rfl, Nat.le_of_ble_eq_true rfl⟩ hl.1 rfl (Nat.le_of_ble_eq_true rfl) dX10_dueNow_32) (fun r h => ?_)
    subst h
    exact ge_l C hr hlk (by rw [sNow, o1]) dX10_dueNow_35
def chkI (S : St) (many : Int32) : Nat → Nat → Int32
  | 0, _ => if many ≤ S.1 15 then 0 else 99
  | n + 1, k => if many ≤ nI k then 1 + nI k else if (S.2.2.1 38 k).toInt64 = sNow S k then chkI S many n (k + 1) else 1 + nI k
theorem chkI_L (S : St) (many : Int32) : ∀ n k, (chkI S many n k).toInt64 = chkL S many n k
  | 0, _ => by
    rw [chkI, chkL]
    split
    · rfl
    · rfl
  | n + 1, k => by
    rw [chkI, chkL]
    split
    · rfl
    · split
      · exact chkI_L S many n (k + 1)
      · rfl
set_option maxHeartbeats 4000000 in
set_option maxRecDepth 100000 in
theorem c_X10_compareWaiting (l : Launch) (D : va_G) (G : Nat → ClassId) (τ α : Nat → Nat) (S J : St) (n sz : Nat) (hN : okN S) (hn : S.1 15 = nI n) (hn30 : n ≤ 30) (hF : okF S) (hJ9 : ∀ i, i < n → S.2.2.1 16 i = 1 → J.2.2.1 0 i = S.2.2.1 18 i) : Ri l D G τ yX10_compareWaiting cX10_compareWaiting 2 (some .int) 6 [.ref (α 0)] α (cE G α S J n) (Lc n) sz (fun r => r = chkI S (S.1 37) n 0) := by
  refine gM _ (by decide) rfl (Nat.le_of_ble_eq_true rfl) ?_
  intro p e s m below meth c ls C hr hlk hnm hsz B hl
  have hx := C.1
  have hb := C.2.1
  have hl : lv_has ls 2 [(0, .ref (α 0))] := hl
  have loop : ∀ (nn kk : Nat)  (ls : Array Slot), nn + kk = n → (chkI S (S.1 37) n 0 = chkI S (S.1 37) nn kk) → lv_has ls 2 [(1, .int (nI kk)), (0, .ref (α 0))] → W p l e (rmd 6 0 0) s m [.ref (α 0)].toArray below meth c s.heap [] 0 0 (MQ below (vp_Si (fun r => r = chkI S (S.1 37) n 0)) [.ref (α 0)].toArray s 0 0 (fun _ => False)) (F0 m 2 ls []) := by
    intro nn
    induction nn with
    | zero =>
      intro kk  ls hk hI hl
      refine lv_iload_n hx hb dX10_compareWaiting_2 rfl (lv_at hl 0 rfl) ?_
      refine lv_aload_n hx hb dX10_compareWaiting_3 rfl (lv_at hl 1 rfl) ?_
      refine g_get C B (0) (Lc_in (by decide)) cE_0 rfl gf_10 4 (by decide) wl_230 (v := .ref (α 15)) cF_0_4 dX10_compareWaiting_4 ?_
      refine g_get C B (15) (Lc_in (by decide)) cE_15 rfl gf_3 1 (by decide) wl_130 (v := .int (S.1 15)) cF_15_1 dX10_compareWaiting_7 ?_
      refine lv_icmp_ge (tgt := 60) hx hb dX10_compareWaiting_10 (by decide) (fun _ => ?_) (fun hc => absurd (by rw [hn]; exact nI_le (by omega) (by omega)) hc)
      refine lv_aload_n hx hb dX10_compareWaiting_60 rfl (lv_at hl 1 rfl) ?_
      refine g_get C B (0) (Lc_in (by decide)) cE_0 rfl gf_10 9 (by decide) wl_235 (v := .ref (α 25)) cF_0_9 dX10_compareWaiting_61 ?_
      refine g_get C B (25) (Lc_in (by decide)) cE_25 rfl gf_9 1 (by decide) wl_220 (v := .int (S.1 37)) cF_25_1 dX10_compareWaiting_64 ?_
      refine lv_aload_n hx hb dX10_compareWaiting_67 rfl (lv_at hl 1 rfl) ?_
      refine g_get C B (0) (Lc_in (by decide)) cE_0 rfl gf_10 4 (by decide) wl_230 (v := .ref (α 15)) cF_0_4 dX10_compareWaiting_68 ?_
      refine g_get C B (15) (Lc_in (by decide)) cE_15 rfl gf_3 1 (by decide) wl_130 (v := .int (S.1 15)) cF_15_1 dX10_compareWaiting_71 ?_
      refine lv_icmp_le (tgt := 82) hx hb dX10_compareWaiting_74 (by decide) (fun c1 => ?_) (fun c1 => ?_)
      · refine lv_iconst (v := 0) hx hb dX10_compareWaiting_82 (by decide) ?_
        exact ge_i C hr rfl hlk (by rw [hI, chkI]; (first | rw [if_pos (by simp only [i3l, i3e, i3q, inR, isC, isD, zi_0, zi_1, zi_2, zi_3, zi_4, zi_5, zi_6, zi_7, zi_8, zi_9, zi_10, zi_12, zi_20, zi_21, zi_30, zi_60, zi_90, zi_99, zi_100, zi_180, zi_240, zi_400, zi_500, zi_1000, zi_1199, zi_10000, zi_100000, zi_1000000, i3m1] at c1 ⊢; omega)] | rw [if_neg (by simp only [i3l, i3e, i3q, inR, isC, isD, zi_0, zi_1, zi_2, zi_3, zi_4, zi_5, zi_6, zi_7, zi_8, zi_9, zi_10, zi_12, zi_20, zi_21, zi_30, zi_60, zi_90, zi_99, zi_100, zi_180, zi_240, zi_400, zi_500, zi_1000, zi_1199, zi_10000, zi_100000, zi_1000000, i3m1] at c1 ⊢; omega)])) dX10_compareWaiting_83
      · refine lv_bipush (v := 99) hx hb dX10_compareWaiting_77 (by decide) ?_
        refine lv_goto (tgt := 83) hx hb dX10_compareWaiting_79 (by decide) ?_
        exact ge_i C hr rfl hlk (by rw [hI, chkI]; (first | rw [if_pos (by simp only [i3l, i3e, i3q, inR, isC, isD, zi_0, zi_1, zi_2, zi_3, zi_4, zi_5, zi_6, zi_7, zi_8, zi_9, zi_10, zi_12, zi_20, zi_21, zi_30, zi_60, zi_90, zi_99, zi_100, zi_180, zi_240, zi_400, zi_500, zi_1000, zi_1199, zi_10000, zi_100000, zi_1000000, i3m1] at c1 ⊢; omega)] | rw [if_neg (by simp only [i3l, i3e, i3q, inR, isC, isD, zi_0, zi_1, zi_2, zi_3, zi_4, zi_5, zi_6, zi_7, zi_8, zi_9, zi_10, zi_12, zi_20, zi_21, zi_30, zi_60, zi_90, zi_99, zi_100, zi_180, zi_240, zi_400, zi_500, zi_1000, zi_1199, zi_10000, zi_100000, zi_1000000, i3m1] at c1 ⊢; omega)])) dX10_compareWaiting_83
    | succ nn ih =>
      intro kk  ls hk hI hl
      refine lv_iload_n hx hb dX10_compareWaiting_2 rfl (lv_at hl 0 rfl) ?_
      refine lv_aload_n hx hb dX10_compareWaiting_3 rfl (lv_at hl 1 rfl) ?_
      refine g_get C B (0) (Lc_in (by decide)) cE_0 rfl gf_10 4 (by decide) wl_230 (v := .ref (α 15)) cF_0_4 dX10_compareWaiting_4 ?_
      refine g_get C B (15) (Lc_in (by decide)) cE_15 rfl gf_3 1 (by decide) wl_130 (v := .int (S.1 15)) cF_15_1 dX10_compareWaiting_7 ?_
      refine lv_icmp_ge (tgt := 60) hx hb dX10_compareWaiting_10 (by decide) (fun hc => absurd hc (by rw [hn]; exact nI_ge (by omega) (by omega))) (fun _ => ?_)
      refine lv_iload_n hx hb dX10_compareWaiting_13 rfl (lv_at hl 0 rfl) ?_
      refine lv_aload_n hx hb dX10_compareWaiting_14 rfl (lv_at hl 1 rfl) ?_
      refine g_get C B (0) (Lc_in (by decide)) cE_0 rfl gf_10 9 (by decide) wl_235 (v := .ref (α 25)) cF_0_9 dX10_compareWaiting_15 ?_
      refine g_get C B (25) (Lc_in (by decide)) cE_25 rfl gf_9 1 (by decide) wl_220 (v := .int (S.1 37)) cF_25_1 dX10_compareWaiting_18 ?_
      refine lv_icmp_ge (tgt := 50) hx hb dX10_compareWaiting_21 (by decide) (fun c2 => ?_) (fun c2 => ?_)
      · refine lv_iconst (v := 1) hx hb dX10_compareWaiting_50 (by decide) ?_
        refine lv_iload_n hx hb dX10_compareWaiting_51 rfl (lv_at hl 0 rfl) ?_
        refine lv_iadd hx hb dX10_compareWaiting_52 ?_
        exact ge_i C hr rfl hlk (by rw [hI, chkI, if_pos c2]) dX10_compareWaiting_53
      · refine lv_aload_n hx hb dX10_compareWaiting_24 rfl (lv_at hl 1 rfl) ?_
        refine g_get C B (0) (Lc_in (by decide)) cE_0 rfl gf_10 9 (by decide) wl_235 (v := .ref (α 25)) cF_0_9 dX10_compareWaiting_25 ?_
        refine g_get C B (25) (Lc_in (by decide)) cE_25 rfl gf_9 0 (by decide) wl_218 (v := .ref (α 26)) cF_25_0 dX10_compareWaiting_28 ?_
        refine lv_iload_n hx hb dX10_compareWaiting_31 rfl (lv_at hl 0 rfl) ?_
        refine g_iald C B (26) (Lc_in (by decide)) (f := S.2.2.1 38) cE_26 (vp_in_nI (by omega) (by omega)) (j := kk) (nI_clamp (by omega)) dX10_compareWaiting_32 ?_
        refine lv_i2l (v := (S.2.2.1 38 kk).toInt64) hx hb dX10_compareWaiting_33 rfl ?_
        refine lv_aload_n hx hb dX10_compareWaiting_34 rfl (lv_at hl 1 rfl) ?_
        refine lv_aload_n hx hb dX10_compareWaiting_35 rfl (lv_at hl 1 rfl) ?_
        refine g_get C B (0) (Lc_in (by decide)) cE_0 rfl gf_10 4 (by decide) wl_230 (v := .ref (α 15)) cF_0_4 dX10_compareWaiting_36 ?_
        refine lv_iload_n hx hb dX10_compareWaiting_39 rfl (lv_at hl 0 rfl) ?_
        refine gc_r (gr_V C B (k := 15) (As := [.int (nI kk)]) (rest := [.ref (α 0), .long ((S.2.2.1 38 kk).toInt64)]) (c_X3_findN l D G τ α S J n _ kk (by omega) hn hn30) (Lc_in (by decide)) cE_15 rfl wl_578 wl_278 wl_279 wl_34 wl_280 (na := 1) (by decide +kernel) rfl ⟨Nat.le_of_ble_eq_true rfl, Nat.le_of_ble_eq_true rfl⟩ ⟨Nat.le_of_ble_eq_true rfl, Nat.le_of_ble_eq_true rfl⟩ hl.1 rfl (Nat.le_of_ble_eq_true rfl) dX10_compareWaiting_40) ?_
        refine gc_l (gr_V C B (k := 0) (As := [.ref (α (27 + 3 * kk))]) (rest := [.long ((S.2.2.1 38 kk).toInt64)]) (c_X10_dueNow l D G τ α S J n _ kk (by omega) hN hF (hJ9 kk (by omega))) (Lc_in (by decide)) cE_0 rfl wl_709 wl_711 wl_13 wl_29 wl_712 (na := 1) (by decide +kernel) rfl ⟨Nat.le_of_ble_eq_true rfl, Nat.le_of_ble_eq_true rfl⟩ ⟨Nat.le_of_ble_eq_true rfl, Nat.le_of_ble_eq_true rfl⟩ hl.1 rfl (Nat.le_of_ble_eq_true rfl) dX10_compareWaiting_43) (fun r h => ?_)
        subst h
        refine gl_eq (tgt := 54) hx hb dX10_compareWaiting_46 dX10_compareWaiting_47 (by decide) (fun c3 => ?_) (fun c3 => ?_)
        · refine lv_iinc (v := ((nI kk) + 1)) (lv' := [(1, .int ((nI kk) + 1)), (0, .ref (α 0))]) hx hb dX10_compareWaiting_54 hl (k := 0) rfl rfl (by decide) rfl (fun ls hl => ?_)
          refine lv_goto (tgt := 2) hx hb dX10_compareWaiting_57 (by decide) ?_
          exact ih (kk + 1)  ls (by omega) (by rw [hI, chkI, if_neg c2, if_pos c3]) (by have h9 := lv_sub (l' := [(1, .int ((nI kk) + 1)), (0, .ref (α 0))]) hl [0, 1] rfl; rw [nI_1] at h9; exact h9)
        · refine lv_iconst (v := 1) hx hb dX10_compareWaiting_50 (by decide) ?_
          refine lv_iload_n hx hb dX10_compareWaiting_51 rfl (lv_at hl 0 rfl) ?_
          refine lv_iadd hx hb dX10_compareWaiting_52 ?_
          exact ge_i C hr rfl hlk (by rw [hI, chkI, if_neg c2, if_neg c3]) dX10_compareWaiting_53
  refine lv_iconst (v := 0) hx hb dX10_compareWaiting_0 (by decide) ?_
  refine lv_istore_n (lv' := [(1, .int 0), (0, .ref (α 0))]) hx hb dX10_compareWaiting_1 rfl hl (by decide) rfl (fun ls hl => ?_)
  exact loop n 0 ls (by omega) rfl (lv_sub hl [0, 1] rfl)
set_option maxHeartbeats 4000000 in
set_option maxRecDepth 100000 in
theorem c_X10_check (l : Launch) (D : va_G) (G : Nat → ClassId) (τ α : Nat → Nat) (S J : St) (n sz : Nat) (hN : okN S) (hn : S.1 15 = nI n) (hn30 : n ≤ 30) (hF : okF S) (hJ9 : ∀ i, i < n → S.2.2.1 16 i = 1 → J.2.2.1 0 i = S.2.2.1 18 i) : Wl l D G τ yX10_check cX10_check 2 (some .long) 7 0 0 [.ref (α 0)] α (cE G α S J n) (Lc n) sz (fun r u => r = (sp_check S).1 ∧ u = (α, cE G α (sp_check S).2 J n, Lc n)) := by
  refine gM _ (by decide) rfl (Nat.le_of_ble_eq_true rfl) ?_
  intro p e s m below meth c ls C hr hlk hnm hsz B hl
  have hx := C.1
  have hb := C.2.1
  have hl : lv_has ls 2 [(0, .ref (α 0))] := hl
  refine lv_aload_n hx hb dX10_check_0 rfl (lv_at hl 0 rfl) ?_
  refine gc_i (gr_V C B (k := 0) (As := []) (rest := []) (c_X10_compareWaiting l D G τ α S J n _ hN hn hn30 hF hJ9) (Lc_in (by decide)) cE_0 rfl wl_705 wl_707 wl_12 wl_29 wl_708 (na := 0) (by decide +kernel) rfl ⟨Nat.le_of_ble_eq_true rfl, Nat.le_of_ble_eq_true rfl⟩ ⟨Nat.le_of_ble_eq_true rfl, Nat.le_of_ble_eq_true rfl⟩ hl.1 rfl (Nat.le_of_ble_eq_true rfl) dX10_check_1) (fun r h => ?_)
  subst h
  refine lv_istore_n (lv' := [(1, .int (chkI S (S.1 37) n 0)), (0, .ref (α 0))]) hx hb dX10_check_4 rfl hl (by decide) rfl (fun ls hl => ?_)
  refine lv_aload_n hx hb dX10_check_5 rfl (lv_at hl 1 rfl) ?_
  refine g_get C B (0) (Lc_in (by decide)) cE_0 rfl gf_10 9 (by decide) wl_235 (v := .ref (α 25)) cF_0_9 dX10_check_6 ?_
  refine lv_iconst (v := 0) hx hb dX10_check_9 (by decide) ?_
  refine g_put C B (25) (Lc_in (by decide)) cE_25 rfl gf_9 tyX9 tyX9_ok nmX9 1 (by decide) wl_220 rfl (ty := .int) (v := .int 0) (by decide +kernel) rfl rfl (Nat.le_of_ble_eq_true rfl) dX10_check_10 cO_25_1 (fun H locs B => ?_)
  refine lv_iload_n hx hb dX10_check_13 rfl (lv_at hl 0 rfl) ?_
  refine lv_i2l (v := (chkI S (S.1 37) n 0).toInt64) hx hb dX10_check_14 rfl ?_
  exact ge_wl C B hr hlk (by refine ⟨?_, rfl⟩; rw [chkI_L]; show _ = chkL S (S.1 37) (nOf S 15) 0; rw [nOf, hn, nI_clamp (by omega)]) dX10_check_15
