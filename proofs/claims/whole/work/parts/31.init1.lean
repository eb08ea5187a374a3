theorem fl_up (k : Nat) (v : Int32) : upd (fun j => if j < k then v else 0) k v = fun j => if j < k + 1 then v else 0 := by
  funext j
  simp only [upd]
  by_cases h : j = k
  · subst h; simp
  · by_cases h2 : j < k
    · simp [h, h2, show j < k + 1 by omega]
    · simp [h, h2, show ¬ j < k + 1 by omega]
theorem fl_0 (v : Int32) : (fun _ : Nat => (0 : Int32)) = fun j => if j < 0 then v else 0 := by funext j; simp
set_option maxHeartbeats 4000000 in
set_option maxRecDepth 100000 in
theorem c_J7_fill (l : Launch) (D : va_G) (G : Nat → ClassId) (τ : Nat → Nat) (h0 sz : Nat) (v : Int32) : Wv l D G τ yJ7_fill_53178 cJ7_fill_53178 4 none 0 0 0 [.ref h0, .int v] (ga [h0]) (ge [.inl (G 0, 21, .inl (fun _ => 0))]) [0] sz (fun u => u = (ga [h0], ge [.inl (G 0, 21, .inl (fun j => if j < 21 then v else 0))], [0])) := by
  refine gM _ (by decide) rfl (Nat.le_of_ble_eq_true rfl) ?_
  intro p e s m below meth c ls C hr hlk hnm hsz B hl
  have hx := C.1
  have hb := C.2.1
  have hl : lv_has ls 4 [(0, .ref h0), (1, .int v)] := hl
  have loop : ∀ (nn kk : Nat) (H : Heap) (locs : List Loc) (ls : Array Slot), nn + kk = 21 → gB D G τ (gA (ga [h0]) [0] sz) s H locs (ga [h0]) (ge [.inl (G 0, 21, .inl (fun j => if j < kk then v else 0))]) [0] → lv_has ls 4 [(3, .int (nI 21)), (2, .int (nI kk)), (0, .ref h0), (1, .int v)] → W p l e (rmd 0 0 0) s m [.ref h0, .int v].toArray below meth c H locs 0 0 (MQ below (va_Qv (fun u => u = (ga [h0], ge [.inl (G 0, 21, .inl (fun j => if j < 21 then v else 0))], [0])) (gAt D (gA (ga [h0]) [0] sz)) (gA (ga [h0]) [0] sz)) [.ref h0, .int v].toArray s 0 0 (gA (ga [h0]) [0] sz)) (F0 m 5 ls []) := by
    intro nn
    induction nn with
    | zero =>
      intro kk H locs ls hk B hl
      refine lv_iload_n hx hb dJ7_fill_53178_5 rfl (lv_at hl 1 rfl) ?_
      refine lv_iload_n hx hb dJ7_fill_53178_6 rfl (lv_at hl 0 rfl) ?_
      refine lv_icmp_ge (tgt := 20) hx hb dJ7_fill_53178_7 (by decide) (fun _ => ?_) (fun hc => absurd (nI_le (by omega) (by omega)) hc)
      exact ge_wv C B hr hlk (by rw [show kk = 21 by omega]) dJ7_fill_53178_20
    | succ nn ih =>
      intro kk H locs ls hk B hl
      refine lv_iload_n hx hb dJ7_fill_53178_5 rfl (lv_at hl 1 rfl) ?_
      refine lv_iload_n hx hb dJ7_fill_53178_6 rfl (lv_at hl 0 rfl) ?_
      refine lv_icmp_ge (tgt := 20) hx hb dJ7_fill_53178_7 (by decide) (fun hc => absurd hc (nI_ge (by omega) (by omega))) (fun _ => ?_)
      refine lv_aload_n hx hb dJ7_fill_53178_10 rfl (lv_at hl 2 rfl) ?_
      refine lv_iload_n hx hb dJ7_fill_53178_11 rfl (lv_at hl 1 rfl) ?_
      refine lv_iload_n hx hb dJ7_fill_53178_12 rfl (lv_at hl 3 rfl) ?_
      refine g_iast C B 0 (by decide) (n := 21) (f := (fun j => if j < kk then v else 0)) rfl (vp_in_nI (by omega) (by omega)) (j := kk) (nI_clamp (by omega)) dJ7_fill_53178_13 (E' := (ge [.inl (G 0, 21, .inl (upd (fun j => if j < kk then v else 0) kk v))])) ((ge_set (Nat.le_of_ble_eq_true rfl)).trans rfl) (fun H locs B => ?_)
      refine lv_iinc (v := ((nI kk) + 1)) (lv' := [(2, .int ((nI kk) + 1)), (3, .int (nI 21)), (0, .ref h0), (1, .int v)]) hx hb dJ7_fill_53178_14 hl (k := 1) rfl rfl (by decide) rfl (fun ls hl => ?_)
      refine lv_goto (tgt := 5) hx hb dJ7_fill_53178_17 (by decide) ?_
      rw [fl_up] at B
      exact ih (kk + 1) H locs ls (by omega) B (by have h9 := lv_sub (l' := [(3, .int (nI 21)), (2, .int ((nI kk) + 1)), (0, .ref h0), (1, .int v)]) hl [1, 0, 2, 3] rfl; rw [nI_1] at h9; exact h9)
  refine lv_iconst (v := 0) hx hb dJ7_fill_53178_0 (by decide) ?_
  refine lv_istore_n (lv' := [(2, .int 0), (0, .ref h0), (1, .int v)]) hx hb dJ7_fill_53178_1 rfl hl (by decide) rfl (fun ls hl => ?_)
  refine lv_aload_n hx hb dJ7_fill_53178_2 rfl (lv_at hl 1 rfl) ?_
  refine g_alen C B 0 (by decide) (n := 21) (f := (fun _ => 0)) rfl dJ7_fill_53178_3 ?_
  refine lv_istore_n (lv' := [(3, .int (nI 21)), (2, .int 0), (0, .ref h0), (1, .int v)]) hx hb dJ7_fill_53178_4 rfl hl (by decide) rfl (fun ls hl => ?_)
  rw [fl_0 v] at B
  exact loop 21 0 _ _ ls rfl B (lv_sub hl [0, 1, 2, 3] rfl)
set_option maxHeartbeats 4000000 in
set_option maxRecDepth 100000 in
theorem c_X5_init (l : Launch) (D : va_G) (G : Nat → ClassId) (τ : Nat → Nat) (h0 sz : Nat) : Wv l D G τ yX5_init cX5_init 1 none 1 1 6 [.ref h0] (ga [h0]) (ge [.inr (5, [.null])]) [0] sz (fun u => ∃ a1 : Nat, u = ((ga [h0, a1]), (ge [.inr (5, [.ref a1]), .inl (G 0, 6, .inl (fun _ => 0))]), [0, 1])) := by
  refine gM _ (by decide) rfl (Nat.le_of_ble_eq_true rfl) ?_
  intro p e s m below meth c ls C hr hlk hnm hsz B hl
  have hx := C.1
  have hb := C.2.1
  have hl : lv_has ls 1 [(0, .ref h0)] := hl
  refine lv_aload_n hx hb dX5_init_0 rfl (lv_at hl 0 rfl) ?_
  refine W.objInit hx hb C.2.2.2.1 (C.2.2.2.2 _ wl_56) (C.2.2.2.2 _ wl_49) (C.2.2.2.2 _ wl_50) rfl (by rw [C.2.2.1]; exact hl.1) rfl dX5_init_1 (Nat.le_of_ble_eq_true rfl) (Nat.le_of_ble_eq_true rfl) ?_
  refine W.eq (g2 := F0 m 4 ls []) rfl ?_
  refine lv_aload_n hx hb dX5_init_4 rfl (lv_at hl 0 rfl) ?_
  refine lv_bipush (v := 6) hx hb dX5_init_5 (by decide) ?_
  refine g_newi C B.raw wl_62 (by decide) (N' := 6) rfl (by decide) (Nat.le_of_ble_eq_true rfl) (Nat.le_of_ble_eq_true rfl) dX5_init_7 (fun q1 H X => ?_)
  have B : gB D G τ (gA (ga [h0]) [0] sz) s H [] (ga [h0, q1]) (ge [.inr (5, [.null]), .inl (G 0, 6, .inl (fun _ => 0))]) [0, 1] := X.B rfl
  refine g_putF C B hnm 0 (by decide) (ci := 5) (fs := [.null]) rfl rfl gf_5 tyX5 tyX5_ok nmX5 0 (by decide) wl_57 rfl rfl (ty := (.array .int)) (v := .ref q1) (by decide +kernel) rfl rfl (Nat.le_of_ble_eq_true rfl) dX5_init_9 (E' := (ge [.inr (5, [.ref q1]), .inl (G 0, 6, .inl (fun _ => 0))])) ((ge_set (Nat.le_of_ble_eq_true rfl)).trans rfl) (fun H locs B => ?_)
  exact ge_wv C B hr hlk (⟨q1, rfl⟩) dX5_init_12
set_option maxHeartbeats 4000000 in
set_option maxRecDepth 100000 in
theorem c_X1_init (l : Launch) (D : va_G) (G : Nat → ClassId) (τ : Nat → Nat) (h0 sz : Nat) : Wv l D G τ yX1_init cX1_init 1 none 1 4 240 [.ref h0] (ga [h0]) (ge [.inr (1, [.null, .null, .null, .null, .int 0])]) [0] sz (fun u => ∃ a1 a2 a3 a4 : Nat, u = ((ga [h0, a1, a2, a3, a4]), (ge [.inr (1, [.ref a1, .ref a2, .ref a3, .ref a4, .int 0]), .inl (G 0, 60, .inl (fun _ => 0)), .inl (G 0, 60, .inl (fun _ => 0)), .inl (G 0, 60, .inl (fun _ => 0)), .inl (G 0, 60, .inl (fun _ => 0))]), [0, 1, 2, 3, 4])) := by
  refine gM _ (by decide) rfl (Nat.le_of_ble_eq_true rfl) ?_
  intro p e s m below meth c ls C hr hlk hnm hsz B hl
  have hx := C.1
  have hb := C.2.1
  have hl : lv_has ls 1 [(0, .ref h0)] := hl
  refine lv_aload_n hx hb dX1_init_0 rfl (lv_at hl 0 rfl) ?_
  refine W.objInit hx hb C.2.2.2.1 (C.2.2.2.2 _ wl_68) (C.2.2.2.2 _ wl_49) (C.2.2.2.2 _ wl_50) rfl (by rw [C.2.2.1]; exact hl.1) rfl dX1_init_1 (Nat.le_of_ble_eq_true rfl) (Nat.le_of_ble_eq_true rfl) ?_
  refine W.eq (g2 := F0 m 4 ls []) rfl ?_
  refine lv_aload_n hx hb dX1_init_4 rfl (lv_at hl 0 rfl) ?_
  refine lv_bipush (v := 60) hx hb dX1_init_5 (by decide) ?_
  refine g_newi C B.raw wl_62 (by decide) (N' := 60) rfl (by decide) (Nat.le_of_ble_eq_true rfl) (Nat.le_of_ble_eq_true rfl) dX1_init_7 (fun q1 H X => ?_)
  have B : gB D G τ (gA (ga [h0]) [0] sz) s H [] (ga [h0, q1]) (ge [.inr (1, [.null, .null, .null, .null, .int 0]), .inl (G 0, 60, .inl (fun _ => 0))]) [0, 1] := X.B rfl
  refine g_putF C B hnm 0 (by decide) (ci := 1) (fs := [.null, .null, .null, .null, .int 0]) rfl rfl gf_1 tyX1 tyX1_ok nmX1 0 (by decide) wl_69 rfl rfl (ty := (.array .int)) (v := .ref q1) (by decide +kernel) rfl rfl (Nat.le_of_ble_eq_true rfl) dX1_init_9 (E' := (ge [.inr (1, [.ref q1, .null, .null, .null, .int 0]), .inl (G 0, 60, .inl (fun _ => 0))])) ((ge_set (Nat.le_of_ble_eq_true rfl)).trans rfl) (fun H locs B => ?_)
  refine lv_aload_n hx hb dX1_init_12 rfl (lv_at hl 0 rfl) ?_
  refine lv_bipush (v := 60) hx hb dX1_init_13 (by decide) ?_
  refine g_newi C B.raw wl_62 (by decide) (N' := 60) rfl (by decide) (Nat.le_of_ble_eq_true rfl) (Nat.le_of_ble_eq_true rfl) dX1_init_15 (fun q2 H X => ?_)
  have B : gB D G τ (gA (ga [h0]) [0] sz) s H locs (ga [h0, q1, q2]) (ge [.inr (1, [.ref q1, .null, .null, .null, .int 0]), .inl (G 0, 60, .inl (fun _ => 0)), .inl (G 0, 60, .inl (fun _ => 0))]) [0, 1, 2] := X.B rfl
  refine g_putF C B hnm 0 (by decide) (ci := 1) (fs := [.ref q1, .null, .null, .null, .int 0]) rfl rfl gf_1 tyX1 tyX1_ok nmX1 1 (by decide) wl_70 rfl rfl (ty := (.array .int)) (v := .ref q2) (by decide +kernel) rfl rfl (Nat.le_of_ble_eq_true rfl) dX1_init_17 (E' := (ge [.inr (1, [.ref q1, .ref q2, .null, .null, .int 0]), .inl (G 0, 60, .inl (fun _ => 0)), .inl (G 0, 60, .inl (fun _ => 0))])) ((ge_set (Nat.le_of_ble_eq_true rfl)).trans rfl) (fun H locs B => ?_)
  refine lv_aload_n hx hb dX1_init_20 rfl (lv_at hl 0 rfl) ?_
  refine lv_bipush (v := 60) hx hb dX1_init_21 (by decide) ?_
  refine g_newi C B.raw wl_62 (by decide) (N' := 60) rfl (by decide) (Nat.le_of_ble_eq_true rfl) (Nat.le_of_ble_eq_true rfl) dX1_init_23 (fun q3 H X => ?_)
  have B : gB D G τ (gA (ga [h0]) [0] sz) s H locs (ga [h0, q1, q2, q3]) (ge [.inr (1, [.ref q1, .ref q2, .null, .null, .int 0]), .inl (G 0, 60, .inl (fun _ => 0)), .inl (G 0, 60, .inl (fun _ => 0)), .inl (G 0, 60, .inl (fun _ => 0))]) [0, 1, 2, 3] := X.B rfl
  refine g_putF C B hnm 0 (by decide) (ci := 1) (fs := [.ref q1, .ref q2, .null, .null, .int 0]) rfl rfl gf_1 tyX1 tyX1_ok nmX1 2 (by decide) wl_71 rfl rfl (ty := (.array .int)) (v := .ref q3) (by decide +kernel) rfl rfl (Nat.le_of_ble_eq_true rfl) dX1_init_25 (E' := (ge [.inr (1, [.ref q1, .ref q2, .ref q3, .null, .int 0]), .inl (G 0, 60, .inl (fun _ => 0)), .inl (G 0, 60, .inl (fun _ => 0)), .inl (G 0, 60, .inl (fun _ => 0))])) ((ge_set (Nat.le_of_ble_eq_true rfl)).trans rfl) (fun H locs B => ?_)
  refine lv_aload_n hx hb dX1_init_28 rfl (lv_at hl 0 rfl) ?_
  refine lv_bipush (v := 60) hx hb dX1_init_29 (by decide) ?_
  refine g_newi C B.raw wl_62 (by decide) (N' := 60) rfl (by decide) (Nat.le_of_ble_eq_true rfl) (Nat.le_of_ble_eq_true rfl) dX1_init_31 (fun q4 H X => ?_)
  have B : gB D G τ (gA (ga [h0]) [0] sz) s H locs (ga [h0, q1, q2, q3, q4]) (ge [.inr (1, [.ref q1, .ref q2, .ref q3, .null, .int 0]), .inl (G 0, 60, .inl (fun _ => 0)), .inl (G 0, 60, .inl (fun _ => 0)), .inl (G 0, 60, .inl (fun _ => 0)), .inl (G 0, 60, .inl (fun _ => 0))]) [0, 1, 2, 3, 4] := X.B rfl
  refine g_putF C B hnm 0 (by decide) (ci := 1) (fs := [.ref q1, .ref q2, .ref q3, .null, .int 0]) rfl rfl gf_1 tyX1 tyX1_ok nmX1 3 (by decide) wl_72 rfl rfl (ty := (.array .int)) (v := .ref q4) (by decide +kernel) rfl rfl (Nat.le_of_ble_eq_true rfl) dX1_init_33 (E' := (ge [.inr (1, [.ref q1, .ref q2, .ref q3, .ref q4, .int 0]), .inl (G 0, 60, .inl (fun _ => 0)), .inl (G 0, 60, .inl (fun _ => 0)), .inl (G 0, 60, .inl (fun _ => 0)), .inl (G 0, 60, .inl (fun _ => 0))])) ((ge_set (Nat.le_of_ble_eq_true rfl)).trans rfl) (fun H locs B => ?_)
  refine lv_aload_n hx hb dX1_init_36 rfl (lv_at hl 0 rfl) ?_
  refine lv_iconst (v := 0) hx hb dX1_init_37 (by decide) ?_
  refine g_put C B 0 (by decide) (ci := 1) (fs := [.ref q1, .ref q2, .ref q3, .ref q4, .int 0]) rfl rfl gf_1 tyX1 tyX1_ok nmX1 4 (by decide) wl_73 rfl (ty := .int) (v := .int 0) (by decide +kernel) rfl rfl (Nat.le_of_ble_eq_true rfl) dX1_init_38 (E' := (ge [.inr (1, [.ref q1, .ref q2, .ref q3, .ref q4, .int 0]), .inl (G 0, 60, .inl (fun _ => 0)), .inl (G 0, 60, .inl (fun _ => 0)), .inl (G 0, 60, .inl (fun _ => 0)), .inl (G 0, 60, .inl (fun _ => 0))])) ((ge_set (Nat.le_of_ble_eq_true rfl)).trans rfl) (fun H locs B => ?_)
  exact ge_wv C B hr hlk (⟨q1, q2, q3, q4, rfl⟩) dX1_init_41
set_option maxHeartbeats 4000000 in
set_option maxRecDepth 100000 in
theorem c_X0_init (l : Launch) (D : va_G) (G : Nat → ClassId) (τ : Nat → Nat) (h0 sz : Nat) : Wv l D G τ yX0_init cX0_init 1 none 1 5 390 [.ref h0] (ga [h0]) (ge [.inr (0, [.null, .int 0, .null, .null, .null, .null, .int 0])]) [0] sz (fun u => ∃ a1 a2 a3 a4 a5 : Nat, u = ((ga [h0, a1, a2, a3, a4, a5]), (ge [.inr (0, [.ref a1, .int 0, .ref a2, .ref a3, .ref a4, .ref a5, .int 0]), .inl (G 0, 30, .inl (fun _ => 0)), .inl (G 0, 90, .inl (fun _ => 0)), .inl (G 0, 90, .inl (fun _ => 0)), .inl (G 0, 90, .inl (fun _ => 0)), .inl (G 0, 90, .inl (fun _ => 0))]), [0, 1, 2, 3, 4, 5])) := by
  refine gM _ (by decide) rfl (Nat.le_of_ble_eq_true rfl) ?_
  intro p e s m below meth c ls C hr hlk hnm hsz B hl
  have hx := C.1
  have hb := C.2.1
  have hl : lv_has ls 1 [(0, .ref h0)] := hl
  refine lv_aload_n hx hb dX0_init_0 rfl (lv_at hl 0 rfl) ?_
  refine W.objInit hx hb C.2.2.2.1 (C.2.2.2.2 _ wl_94) (C.2.2.2.2 _ wl_49) (C.2.2.2.2 _ wl_50) rfl (by rw [C.2.2.1]; exact hl.1) rfl dX0_init_1 (Nat.le_of_ble_eq_true rfl) (Nat.le_of_ble_eq_true rfl) ?_
  refine W.eq (g2 := F0 m 4 ls []) rfl ?_
  refine lv_aload_n hx hb dX0_init_4 rfl (lv_at hl 0 rfl) ?_
  refine lv_bipush (v := 30) hx hb dX0_init_5 (by decide) ?_
  refine g_newi C B.raw wl_62 (by decide) (N' := 30) rfl (by decide) (Nat.le_of_ble_eq_true rfl) (Nat.le_of_ble_eq_true rfl) dX0_init_7 (fun q1 H X => ?_)
  have B : gB D G τ (gA (ga [h0]) [0] sz) s H [] (ga [h0, q1]) (ge [.inr (0, [.null, .int 0, .null, .null, .null, .null, .int 0]), .inl (G 0, 30, .inl (fun _ => 0))]) [0, 1] := X.B rfl
  refine g_putF C B hnm 0 (by decide) (ci := 0) (fs := [.null, .int 0, .null, .null, .null, .null, .int 0]) rfl rfl gf_0 tyX0 tyX0_ok nmX0 0 (by decide) wl_95 rfl rfl (ty := (.array .int)) (v := .ref q1) (by decide +kernel) rfl rfl (Nat.le_of_ble_eq_true rfl) dX0_init_9 (E' := (ge [.inr (0, [.ref q1, .int 0, .null, .null, .null, .null, .int 0]), .inl (G 0, 30, .inl (fun _ => 0))])) ((ge_set (Nat.le_of_ble_eq_true rfl)).trans rfl) (fun H locs B => ?_)
  refine lv_aload_n hx hb dX0_init_12 rfl (lv_at hl 0 rfl) ?_
  refine lv_iconst (v := 0) hx hb dX0_init_13 (by decide) ?_
  refine g_put C B 0 (by decide) (ci := 0) (fs := [.ref q1, .int 0, .null, .null, .null, .null, .int 0]) rfl rfl gf_0 tyX0 tyX0_ok nmX0 1 (by decide) wl_96 rfl (ty := .int) (v := .int 0) (by decide +kernel) rfl rfl (Nat.le_of_ble_eq_true rfl) dX0_init_14 (E' := (ge [.inr (0, [.ref q1, .int 0, .null, .null, .null, .null, .int 0]), .inl (G 0, 30, .inl (fun _ => 0))])) ((ge_set (Nat.le_of_ble_eq_true rfl)).trans rfl) (fun H locs B => ?_)
  refine lv_aload_n hx hb dX0_init_17 rfl (lv_at hl 0 rfl) ?_
  refine lv_bipush (v := 90) hx hb dX0_init_18 (by decide) ?_
  refine g_newi C B.raw wl_62 (by decide) (N' := 90) rfl (by decide) (Nat.le_of_ble_eq_true rfl) (Nat.le_of_ble_eq_true rfl) dX0_init_20 (fun q2 H X => ?_)
  have B : gB D G τ (gA (ga [h0]) [0] sz) s H locs (ga [h0, q1, q2]) (ge [.inr (0, [.ref q1, .int 0, .null, .null, .null, .null, .int 0]), .inl (G 0, 30, .inl (fun _ => 0)), .inl (G 0, 90, .inl (fun _ => 0))]) [0, 1, 2] := X.B rfl
  refine g_putF C B hnm 0 (by decide) (ci := 0) (fs := [.ref q1, .int 0, .null, .null, .null, .null, .int 0]) rfl rfl gf_0 tyX0 tyX0_ok nmX0 2 (by decide) wl_98 rfl rfl (ty := (.array .int)) (v := .ref q2) (by decide +kernel) rfl rfl (Nat.le_of_ble_eq_true rfl) dX0_init_22 (E' := (ge [.inr (0, [.ref q1, .int 0, .ref q2, .null, .null, .null, .int 0]), .inl (G 0, 30, .inl (fun _ => 0)), .inl (G 0, 90, .inl (fun _ => 0))])) ((ge_set (Nat.le_of_ble_eq_true rfl)).trans rfl) (fun H locs B => ?_)
  refine lv_aload_n hx hb dX0_init_25 rfl (lv_at hl 0 rfl) ?_
  refine lv_bipush (v := 90) hx hb dX0_init_26 (by decide) ?_
  refine g_newi C B.raw wl_62 (by decide) (N' := 90) rfl (by decide) (Nat.le_of_ble_eq_true rfl) (Nat.le_of_ble_eq_true rfl) dX0_init_28 (fun q3 H X => ?_)
  have B : gB D G τ (gA (ga [h0]) [0] sz) s H locs (ga [h0, q1, q2, q3]) (ge [.inr (0, [.ref q1, .int 0, .ref q2, .null, .null, .null, .int 0]), .inl (G 0, 30, .inl (fun _ => 0)), .inl (G 0, 90, .inl (fun _ => 0)), .inl (G 0, 90, .inl (fun _ => 0))]) [0, 1, 2, 3] := X.B rfl
  refine g_putF C B hnm 0 (by decide) (ci := 0) (fs := [.ref q1, .int 0, .ref q2, .null, .null, .null, .int 0]) rfl rfl gf_0 tyX0 tyX0_ok nmX0 3 (by decide) wl_99 rfl rfl (ty := (.array .int)) (v := .ref q3) (by decide +kernel) rfl rfl (Nat.le_of_ble_eq_true rfl) dX0_init_30 (E' := (ge [.inr (0, [.ref q1, .int 0, .ref q2, .ref q3, .null, .null, .int 0]), .inl (G 0, 30, .inl (fun _ => 0)), .inl (G 0, 90, .inl (fun _ => 0)), .inl (G 0, 90, .inl (fun _ => 0))])) ((ge_set (Nat.le_of_ble_eq_true rfl)).trans rfl) (fun H locs B => ?_)
  refine lv_aload_n hx hb dX0_init_33 rfl (lv_at hl 0 rfl) ?_
  refine lv_bipush (v := 90) hx hb dX0_init_34 (by decide) ?_
  refine g_newi C B.raw wl_62 (by decide) (N' := 90) rfl (by decide) (Nat.le_of_ble_eq_true rfl) (Nat.le_of_ble_eq_true rfl) dX0_init_36 (fun q4 H X => ?_)
  have B : gB D G τ (gA (ga [h0]) [0] sz) s H locs (ga [h0, q1, q2, q3, q4]) (ge [.inr (0, [.ref q1, .int 0, .ref q2, .ref q3, .null, .null, .int 0]), .inl (G 0, 30, .inl (fun _ => 0)), .inl (G 0, 90, .inl (fun _ => 0)), .inl (G 0, 90, .inl (fun _ => 0)), .inl (G 0, 90, .inl (fun _ => 0))]) [0, 1, 2, 3, 4] := X.B rfl
  refine g_putF C B hnm 0 (by decide) (ci := 0) (fs := [.ref q1, .int 0, .ref q2, .ref q3, .null, .null, .int 0]) rfl rfl gf_0 tyX0 tyX0_ok nmX0 4 (by decide) wl_100 rfl rfl (ty := (.array .int)) (v := .ref q4) (by decide +kernel) rfl rfl (Nat.le_of_ble_eq_true rfl) dX0_init_38 (E' := (ge [.inr (0, [.ref q1, .int 0, .ref q2, .ref q3, .ref q4, .null, .int 0]), .inl (G 0, 30, .inl (fun _ => 0)), .inl (G 0, 90, .inl (fun _ => 0)), .inl (G 0, 90, .inl (fun _ => 0)), .inl (G 0, 90, .inl (fun _ => 0))])) ((ge_set (Nat.le_of_ble_eq_true rfl)).trans rfl) (fun H locs B => ?_)
  refine lv_aload_n hx hb dX0_init_41 rfl (lv_at hl 0 rfl) ?_
  refine lv_bipush (v := 90) hx hb dX0_init_42 (by decide) ?_
  refine g_newi C B.raw wl_62 (by decide) (N' := 90) rfl (by decide) (Nat.le_of_ble_eq_true rfl) (Nat.le_of_ble_eq_true rfl) dX0_init_44 (fun q5 H X => ?_)
  have B : gB D G τ (gA (ga [h0]) [0] sz) s H locs (ga [h0, q1, q2, q3, q4, q5]) (ge [.inr (0, [.ref q1, .int 0, .ref q2, .ref q3, .ref q4, .null, .int 0]), .inl (G 0, 30, .inl (fun _ => 0)), .inl (G 0, 90, .inl (fun _ => 0)), .inl (G 0, 90, .inl (fun _ => 0)), .inl (G 0, 90, .inl (fun _ => 0)), .inl (G 0, 90, .inl (fun _ => 0))]) [0, 1, 2, 3, 4, 5] := X.B rfl
  refine g_putF C B hnm 0 (by decide) (ci := 0) (fs := [.ref q1, .int 0, .ref q2, .ref q3, .ref q4, .null, .int 0]) rfl rfl gf_0 tyX0 tyX0_ok nmX0 5 (by decide) wl_101 rfl rfl (ty := (.array .int)) (v := .ref q5) (by decide +kernel) rfl rfl (Nat.le_of_ble_eq_true rfl) dX0_init_46 (E' := (ge [.inr (0, [.ref q1, .int 0, .ref q2, .ref q3, .ref q4, .ref q5, .int 0]), .inl (G 0, 30, .inl (fun _ => 0)), .inl (G 0, 90, .inl (fun _ => 0)), .inl (G 0, 90, .inl (fun _ => 0)), .inl (G 0, 90, .inl (fun _ => 0)), .inl (G 0, 90, .inl (fun _ => 0))])) ((ge_set (Nat.le_of_ble_eq_true rfl)).trans rfl) (fun H locs B => ?_)
  refine lv_aload_n hx hb dX0_init_49 rfl (lv_at hl 0 rfl) ?_
  refine lv_iconst (v := 0) hx hb dX0_init_50 (by decide) ?_
  refine g_put C B 0 (by decide) (ci := 0) (fs := [.ref q1, .int 0, .ref q2, .ref q3, .ref q4, .ref q5, .int 0]) rfl rfl gf_0 tyX0 tyX0_ok nmX0 6 (by decide) wl_102 rfl (ty := .int) (v := .int 0) (by decide +kernel) rfl rfl (Nat.le_of_ble_eq_true rfl) dX0_init_51 (E' := (ge [.inr (0, [.ref q1, .int 0, .ref q2, .ref q3, .ref q4, .ref q5, .int 0]), .inl (G 0, 30, .inl (fun _ => 0)), .inl (G 0, 90, .inl (fun _ => 0)), .inl (G 0, 90, .inl (fun _ => 0)), .inl (G 0, 90, .inl (fun _ => 0)), .inl (G 0, 90, .inl (fun _ => 0))])) ((ge_set (Nat.le_of_ble_eq_true rfl)).trans rfl) (fun H locs B => ?_)
  exact ge_wv C B hr hlk (⟨q1, q2, q3, q4, q5, rfl⟩) dX0_init_54
set_option maxHeartbeats 4000000 in
set_option maxRecDepth 100000 in
theorem c_X3_init (l : Launch) (D : va_G) (G : Nat → ClassId) (τ : Nat → Nat) (h0 sz : Nat) : Wv l D G τ yX3_init cX3_init 1 none 1 1 30 [.ref h0] (ga [h0]) (ge [.inr (3, [.null, .int 0])]) [0] sz (fun u => ∃ a1 : Nat, u = ((ga [h0, a1]), (ge [.inr (3, [.ref a1, .int 0]), .inl (G 3, 30, .inr (.inr (.inr (.inr (fun _ => none)))))]), [0, 1])) := by
  refine gM _ (by decide) rfl (Nat.le_of_ble_eq_true rfl) ?_
  intro p e s m below meth c ls C hr hlk hnm hsz B hl
  have hx := C.1
  have hb := C.2.1
  have hl : lv_has ls 1 [(0, .ref h0)] := hl
  refine lv_aload_n hx hb dX3_init_0 rfl (lv_at hl 0 rfl) ?_
  refine W.objInit hx hb C.2.2.2.1 (C.2.2.2.2 _ wl_124) (C.2.2.2.2 _ wl_49) (C.2.2.2.2 _ wl_50) rfl (by rw [C.2.2.1]; exact hl.1) rfl dX3_init_1 (Nat.le_of_ble_eq_true rfl) (Nat.le_of_ble_eq_true rfl) ?_
  refine W.eq (g2 := F0 m 4 ls []) rfl ?_
  refine lv_aload_n hx hb dX3_init_4 rfl (lv_at hl 0 rfl) ?_
  refine lv_bipush (v := 30) hx hb dX3_init_5 (by decide) ?_
  refine g_newr C B.raw wl_125 (by decide) (N' := 30) rfl (by decide) (Nat.le_of_ble_eq_true rfl) (Nat.le_of_ble_eq_true rfl) dX3_init_7 (fun q1 H X => ?_)
  have B : gB D G τ (gA (ga [h0]) [0] sz) s H [] (ga [h0, q1]) (ge [.inr (3, [.null, .int 0]), .inl (G 3, 30, .inr (.inr (.inr (.inr (fun _ => none)))))]) [0, 1] := X.B rfl
  refine g_putF C B hnm 0 (by decide) (ci := 3) (fs := [.null, .int 0]) rfl rfl gf_3 tyX3 tyX3_ok nmX3 0 (by decide) wl_127 rfl rfl (ty := (.array (.object "DowryFund$Deposit"))) (v := .ref q1) (by decide +kernel) rfl rfl (Nat.le_of_ble_eq_true rfl) dX3_init_10 (E' := (ge [.inr (3, [.ref q1, .int 0]), .inl (G 3, 30, .inr (.inr (.inr (.inr (fun _ => none)))))])) ((ge_set (Nat.le_of_ble_eq_true rfl)).trans rfl) (fun H locs B => ?_)
  refine lv_aload_n hx hb dX3_init_13 rfl (lv_at hl 0 rfl) ?_
  refine lv_iconst (v := 0) hx hb dX3_init_14 (by decide) ?_
  refine g_put C B 0 (by decide) (ci := 3) (fs := [.ref q1, .int 0]) rfl rfl gf_3 tyX3 tyX3_ok nmX3 1 (by decide) wl_128 rfl (ty := .int) (v := .int 0) (by decide +kernel) rfl rfl (Nat.le_of_ble_eq_true rfl) dX3_init_15 (E' := (ge [.inr (3, [.ref q1, .int 0]), .inl (G 3, 30, .inr (.inr (.inr (.inr (fun _ => none)))))])) ((ge_set (Nat.le_of_ble_eq_true rfl)).trans rfl) (fun H locs B => ?_)
  exact ge_wv C B hr hlk (⟨q1, rfl⟩) dX3_init_18
set_option maxHeartbeats 4000000 in
set_option maxRecDepth 100000 in
theorem c_X4_init (l : Launch) (D : va_G) (G : Nat → ClassId) (τ : Nat → Nat) (h0 sz : Nat) (d1 d2 : Nat) : Wv l D G τ yX4_init cX4_init 3 none 1 0 0 [.ref h0, .ref d1, .ref d2] (ga [h0]) (ge [.inr (4, [.null, .null])]) [0] sz (fun u => u = ((ga [h0]), (ge [.inr (4, [.ref d1, .ref d2])]), [0])) := by
  refine gM _ (by decide) rfl (Nat.le_of_ble_eq_true rfl) ?_
  intro p e s m below meth c ls C hr hlk hnm hsz B hl
  have hx := C.1
  have hb := C.2.1
  have hl : lv_has ls 3 [(0, .ref h0), (1, .ref d1), (2, .ref d2)] := hl
  refine lv_aload_n hx hb dX4_init_0 rfl (lv_at hl 0 rfl) ?_
  refine W.objInit hx hb C.2.2.2.1 (C.2.2.2.2 _ wl_141) (C.2.2.2.2 _ wl_49) (C.2.2.2.2 _ wl_50) rfl (by rw [C.2.2.1]; exact hl.1) rfl dX4_init_1 (Nat.le_of_ble_eq_true rfl) (Nat.le_of_ble_eq_true rfl) ?_
  refine W.eq (g2 := F0 m 4 ls []) rfl ?_
  refine lv_aload_n hx hb dX4_init_4 rfl (lv_at hl 0 rfl) ?_
  refine lv_aload_n hx hb dX4_init_5 rfl (lv_at hl 1 rfl) ?_
  refine g_putF C B hnm 0 (by decide) (ci := 4) (fs := [.null, .null]) rfl rfl gf_4 tyX4 tyX4_ok nmX4 0 (by decide) wl_142 rfl rfl (ty := (.object "DowryFund$Decrees")) (v := .ref d1) (by decide +kernel) rfl rfl (Nat.le_of_ble_eq_true rfl) dX4_init_6 (E' := (ge [.inr (4, [.ref d1, .null])])) ((ge_set (Nat.le_of_ble_eq_true rfl)).trans rfl) (fun H locs B => ?_)
  refine lv_aload_n hx hb dX4_init_9 rfl (lv_at hl 0 rfl) ?_
  refine lv_aload_n hx hb dX4_init_10 rfl (lv_at hl 2 rfl) ?_
  refine g_putF C B hnm 0 (by decide) (ci := 4) (fs := [.ref d1, .null]) rfl rfl gf_4 tyX4 tyX4_ok nmX4 1 (by decide) wl_143 rfl rfl (ty := (.object "DowryFund$Children")) (v := .ref d2) (by decide +kernel) rfl rfl (Nat.le_of_ble_eq_true rfl) dX4_init_11 (E' := (ge [.inr (4, [.ref d1, .ref d2])])) ((ge_set (Nat.le_of_ble_eq_true rfl)).trans rfl) (fun H locs B => ?_)
  exact ge_wv C B hr hlk (rfl) dX4_init_14
set_option maxHeartbeats 4000000 in
set_option maxRecDepth 100000 in
theorem c_X7_init (l : Launch) (D : va_G) (G : Nat → ClassId) (τ : Nat → Nat) (h0 sz : Nat) : Wv l D G τ yX7_init cX7_init 1 none 1 1 10 [.ref h0] (ga [h0]) (ge [.inr (7, [.long 0, .long 0, .long 0, .null])]) [0] sz (fun u => ∃ a1 : Nat, u = ((ga [h0, a1]), (ge [.inr (7, [.long 0, .long 0, .long 0, .ref a1]), .inl (G 1, 10, .inr (.inl (fun _ => 0)))]), [0, 1])) := by
  refine gM _ (by decide) rfl (Nat.le_of_ble_eq_true rfl) ?_
  intro p e s m below meth c ls C hr hlk hnm hsz B hl
  have hx := C.1
  have hb := C.2.1
  have hl : lv_has ls 1 [(0, .ref h0)] := hl
  refine lv_aload_n hx hb dX7_init_0 rfl (lv_at hl 0 rfl) ?_
  refine W.objInit hx hb C.2.2.2.1 (C.2.2.2.2 _ wl_154) (C.2.2.2.2 _ wl_49) (C.2.2.2.2 _ wl_50) rfl (by rw [C.2.2.1]; exact hl.1) rfl dX7_init_1 (Nat.le_of_ble_eq_true rfl) (Nat.le_of_ble_eq_true rfl) ?_
  refine W.eq (g2 := F0 m 4 ls []) rfl ?_
  refine lv_aload_n hx hb dX7_init_4 rfl (lv_at hl 0 rfl) ?_
  refine lv_lconst (v := 0) hx hb dX7_init_5 (by decide) ?_
  refine g_put C B 0 (by decide) (ci := 7) (fs := [.long 0, .long 0, .long 0, .null]) rfl rfl gf_7 tyX7 tyX7_ok nmX7 0 (by decide) wl_155 rfl (ty := .long) (v := .long 0) (by decide +kernel) rfl rfl (Nat.le_of_ble_eq_true rfl) dX7_init_6 (E' := (ge [.inr (7, [.long 0, .long 0, .long 0, .null])])) ((ge_set (Nat.le_of_ble_eq_true rfl)).trans rfl) (fun H locs B => ?_)
  refine lv_aload_n hx hb dX7_init_9 rfl (lv_at hl 0 rfl) ?_
  refine lv_lconst (v := 0) hx hb dX7_init_10 (by decide) ?_
  refine g_put C B 0 (by decide) (ci := 7) (fs := [.long 0, .long 0, .long 0, .null]) rfl rfl gf_7 tyX7 tyX7_ok nmX7 1 (by decide) wl_158 rfl (ty := .long) (v := .long 0) (by decide +kernel) rfl rfl (Nat.le_of_ble_eq_true rfl) dX7_init_11 (E' := (ge [.inr (7, [.long 0, .long 0, .long 0, .null])])) ((ge_set (Nat.le_of_ble_eq_true rfl)).trans rfl) (fun H locs B => ?_)
  refine lv_aload_n hx hb dX7_init_14 rfl (lv_at hl 0 rfl) ?_
  refine lv_lconst (v := 0) hx hb dX7_init_15 (by decide) ?_
  refine g_put C B 0 (by decide) (ci := 7) (fs := [.long 0, .long 0, .long 0, .null]) rfl rfl gf_7 tyX7 tyX7_ok nmX7 2 (by decide) wl_160 rfl (ty := .long) (v := .long 0) (by decide +kernel) rfl rfl (Nat.le_of_ble_eq_true rfl) dX7_init_16 (E' := (ge [.inr (7, [.long 0, .long 0, .long 0, .null])])) ((ge_set (Nat.le_of_ble_eq_true rfl)).trans rfl) (fun H locs B => ?_)
  refine lv_aload_n hx hb dX7_init_19 rfl (lv_at hl 0 rfl) ?_
  refine lv_bipush (v := 10) hx hb dX7_init_20 (by decide) ?_
  refine g_newl C B.raw wl_173 (by decide) (N' := 10) rfl (by decide) (Nat.le_of_ble_eq_true rfl) (Nat.le_of_ble_eq_true rfl) dX7_init_22 (fun q1 H X => ?_)
  have B : gB D G τ (gA (ga [h0]) [0] sz) s H locs (ga [h0, q1]) (ge [.inr (7, [.long 0, .long 0, .long 0, .null]), .inl (G 1, 10, .inr (.inl (fun _ => 0)))]) [0, 1] := X.B rfl
  refine g_putF C B hnm 0 (by decide) (ci := 7) (fs := [.long 0, .long 0, .long 0, .null]) rfl rfl gf_7 tyX7 tyX7_ok nmX7 3 (by decide) wl_162 rfl rfl (ty := (.array .long)) (v := .ref q1) (by decide +kernel) rfl rfl (Nat.le_of_ble_eq_true rfl) dX7_init_24 (E' := (ge [.inr (7, [.long 0, .long 0, .long 0, .ref q1]), .inl (G 1, 10, .inr (.inl (fun _ => 0)))])) ((ge_set (Nat.le_of_ble_eq_true rfl)).trans rfl) (fun H locs B => ?_)
  exact ge_wv C B hr hlk (⟨q1, rfl⟩) dX7_init_27
set_option maxHeartbeats 4000000 in
set_option maxRecDepth 100000 in
theorem c_X8_init (l : Launch) (D : va_G) (G : Nat → ClassId) (τ : Nat → Nat) (h0 sz : Nat) (d1 d2 : Nat) : Wv l D G τ yX8_init cX8_init 3 none 1 0 0 [.ref h0, .ref d1, .ref d2] (ga [h0]) (ge [.inr (8, [.null, .null, .long 0, .int 0])]) [0] sz (fun u => u = ((ga [h0]), (ge [.inr (8, [.ref d1, .ref d2, .long 0, .int 0])]), [0])) := by
  refine gM _ (by decide) rfl (Nat.le_of_ble_eq_true rfl) ?_
  intro p e s m below meth c ls C hr hlk hnm hsz B hl
  have hx := C.1
  have hb := C.2.1
  have hl : lv_has ls 3 [(0, .ref h0), (1, .ref d1), (2, .ref d2)] := hl
  refine lv_aload_n hx hb dX8_init_0 rfl (lv_at hl 0 rfl) ?_
  refine W.objInit hx hb C.2.2.2.1 (C.2.2.2.2 _ wl_179) (C.2.2.2.2 _ wl_49) (C.2.2.2.2 _ wl_50) rfl (by rw [C.2.2.1]; exact hl.1) rfl dX8_init_1 (Nat.le_of_ble_eq_true rfl) (Nat.le_of_ble_eq_true rfl) ?_
  refine W.eq (g2 := F0 m 4 ls []) rfl ?_
  refine lv_aload_n hx hb dX8_init_4 rfl (lv_at hl 0 rfl) ?_
  refine lv_lconst (v := 0) hx hb dX8_init_5 (by decide) ?_
  refine g_put C B 0 (by decide) (ci := 8) (fs := [.null, .null, .long 0, .int 0]) rfl rfl gf_8 tyX8 tyX8_ok nmX8 2 (by decide) wl_182 rfl (ty := .long) (v := .long 0) (by decide +kernel) rfl rfl (Nat.le_of_ble_eq_true rfl) dX8_init_6 (E' := (ge [.inr (8, [.null, .null, .long 0, .int 0])])) ((ge_set (Nat.le_of_ble_eq_true rfl)).trans rfl) (fun H locs B => ?_)
  refine lv_aload_n hx hb dX8_init_9 rfl (lv_at hl 0 rfl) ?_
  refine lv_iconst (v := 0) hx hb dX8_init_10 (by decide) ?_
  refine g_put C B 0 (by decide) (ci := 8) (fs := [.null, .null, .long 0, .int 0]) rfl rfl gf_8 tyX8 tyX8_ok nmX8 3 (by decide) wl_184 rfl (ty := .int) (v := .int 0) (by decide +kernel) rfl rfl (Nat.le_of_ble_eq_true rfl) dX8_init_11 (E' := (ge [.inr (8, [.null, .null, .long 0, .int 0])])) ((ge_set (Nat.le_of_ble_eq_true rfl)).trans rfl) (fun H locs B => ?_)
  refine lv_aload_n hx hb dX8_init_14 rfl (lv_at hl 0 rfl) ?_
  refine lv_aload_n hx hb dX8_init_15 rfl (lv_at hl 1 rfl) ?_
  refine g_putF C B hnm 0 (by decide) (ci := 8) (fs := [.null, .null, .long 0, .int 0]) rfl rfl gf_8 tyX8 tyX8_ok nmX8 0 (by decide) wl_180 rfl rfl (ty := (.object "DowryFund$Deposits")) (v := .ref d1) (by decide +kernel) rfl rfl (Nat.le_of_ble_eq_true rfl) dX8_init_16 (E' := (ge [.inr (8, [.ref d1, .null, .long 0, .int 0])])) ((ge_set (Nat.le_of_ble_eq_true rfl)).trans rfl) (fun H locs B => ?_)
  refine lv_aload_n hx hb dX8_init_19 rfl (lv_at hl 0 rfl) ?_
  refine lv_aload_n hx hb dX8_init_20 rfl (lv_at hl 2 rfl) ?_
  refine g_putF C B hnm 0 (by decide) (ci := 8) (fs := [.ref d1, .null, .long 0, .int 0]) rfl rfl gf_8 tyX8 tyX8_ok nmX8 1 (by decide) wl_181 rfl rfl (ty := (.object "DowryFund$Purse")) (v := .ref d2) (by decide +kernel) rfl rfl (Nat.le_of_ble_eq_true rfl) dX8_init_21 (E' := (ge [.inr (8, [.ref d1, .ref d2, .long 0, .int 0])])) ((ge_set (Nat.le_of_ble_eq_true rfl)).trans rfl) (fun H locs B => ?_)
  exact ge_wv C B hr hlk (rfl) dX8_init_24
set_option maxHeartbeats 4000000 in
set_option maxRecDepth 100000 in
theorem c_X6_init (l : Launch) (D : va_G) (G : Nat → ClassId) (τ : Nat → Nat) (h0 sz : Nat) : Wv l D G τ yX6_init cX6_init 1 none 1 3 63 [.ref h0] (ga [h0]) (ge [.inr (6, [.null, .null, .null])]) [0] sz (fun u => ∃ a1 a2 a3 : Nat, u = ((ga [h0, a1, a2, a3]), (ge [.inr (6, [.ref a1, .ref a2, .ref a3]), .inl (G 0, 21, .inl (fun _ => 0)), .inl (G 0, 21, .inl (fun _ => 0)), .inl (G 0, 21, .inl (fun _ => 0))]), [0, 1, 2, 3])) := by
  refine gM _ (by decide) rfl (Nat.le_of_ble_eq_true rfl) ?_
  intro p e s m below meth c ls C hr hlk hnm hsz B hl
  have hx := C.1
  have hb := C.2.1
  have hl : lv_has ls 1 [(0, .ref h0)] := hl
  refine lv_aload_n hx hb dX6_init_0 rfl (lv_at hl 0 rfl) ?_
  refine W.objInit hx hb C.2.2.2.1 (C.2.2.2.2 _ wl_200) (C.2.2.2.2 _ wl_49) (C.2.2.2.2 _ wl_50) rfl (by rw [C.2.2.1]; exact hl.1) rfl dX6_init_1 (Nat.le_of_ble_eq_true rfl) (Nat.le_of_ble_eq_true rfl) ?_
  refine W.eq (g2 := F0 m 4 ls []) rfl ?_
  refine lv_aload_n hx hb dX6_init_4 rfl (lv_at hl 0 rfl) ?_
  refine lv_bipush (v := 21) hx hb dX6_init_5 (by decide) ?_
  refine g_newi C B.raw wl_62 (by decide) (N' := 21) rfl (by decide) (Nat.le_of_ble_eq_true rfl) (Nat.le_of_ble_eq_true rfl) dX6_init_7 (fun q1 H X => ?_)
  have B : gB D G τ (gA (ga [h0]) [0] sz) s H [] (ga [h0, q1]) (ge [.inr (6, [.null, .null, .null]), .inl (G 0, 21, .inl (fun _ => 0))]) [0, 1] := X.B rfl
  refine g_putF C B hnm 0 (by decide) (ci := 6) (fs := [.null, .null, .null]) rfl rfl gf_6 tyX6 tyX6_ok nmX6 0 (by decide) wl_201 rfl rfl (ty := (.array .int)) (v := .ref q1) (by decide +kernel) rfl rfl (Nat.le_of_ble_eq_true rfl) dX6_init_9 (E' := (ge [.inr (6, [.ref q1, .null, .null]), .inl (G 0, 21, .inl (fun _ => 0))])) ((ge_set (Nat.le_of_ble_eq_true rfl)).trans rfl) (fun H locs B => ?_)
  refine lv_aload_n hx hb dX6_init_12 rfl (lv_at hl 0 rfl) ?_
  refine lv_bipush (v := 21) hx hb dX6_init_13 (by decide) ?_
  refine g_newi C B.raw wl_62 (by decide) (N' := 21) rfl (by decide) (Nat.le_of_ble_eq_true rfl) (Nat.le_of_ble_eq_true rfl) dX6_init_15 (fun q2 H X => ?_)
  have B : gB D G τ (gA (ga [h0]) [0] sz) s H locs (ga [h0, q1, q2]) (ge [.inr (6, [.ref q1, .null, .null]), .inl (G 0, 21, .inl (fun _ => 0)), .inl (G 0, 21, .inl (fun _ => 0))]) [0, 1, 2] := X.B rfl
  refine g_putF C B hnm 0 (by decide) (ci := 6) (fs := [.ref q1, .null, .null]) rfl rfl gf_6 tyX6 tyX6_ok nmX6 1 (by decide) wl_202 rfl rfl (ty := (.array .int)) (v := .ref q2) (by decide +kernel) rfl rfl (Nat.le_of_ble_eq_true rfl) dX6_init_17 (E' := (ge [.inr (6, [.ref q1, .ref q2, .null]), .inl (G 0, 21, .inl (fun _ => 0)), .inl (G 0, 21, .inl (fun _ => 0))])) ((ge_set (Nat.le_of_ble_eq_true rfl)).trans rfl) (fun H locs B => ?_)
  refine lv_aload_n hx hb dX6_init_20 rfl (lv_at hl 0 rfl) ?_
  refine lv_bipush (v := 21) hx hb dX6_init_21 (by decide) ?_
  refine g_newi C B.raw wl_62 (by decide) (N' := 21) rfl (by decide) (Nat.le_of_ble_eq_true rfl) (Nat.le_of_ble_eq_true rfl) dX6_init_23 (fun q3 H X => ?_)
  have B : gB D G τ (gA (ga [h0]) [0] sz) s H locs (ga [h0, q1, q2, q3]) (ge [.inr (6, [.ref q1, .ref q2, .null]), .inl (G 0, 21, .inl (fun _ => 0)), .inl (G 0, 21, .inl (fun _ => 0)), .inl (G 0, 21, .inl (fun _ => 0))]) [0, 1, 2, 3] := X.B rfl
  refine g_putF C B hnm 0 (by decide) (ci := 6) (fs := [.ref q1, .ref q2, .null]) rfl rfl gf_6 tyX6 tyX6_ok nmX6 2 (by decide) wl_203 rfl rfl (ty := (.array .int)) (v := .ref q3) (by decide +kernel) rfl rfl (Nat.le_of_ble_eq_true rfl) dX6_init_25 (E' := (ge [.inr (6, [.ref q1, .ref q2, .ref q3]), .inl (G 0, 21, .inl (fun _ => 0)), .inl (G 0, 21, .inl (fun _ => 0)), .inl (G 0, 21, .inl (fun _ => 0))])) ((ge_set (Nat.le_of_ble_eq_true rfl)).trans rfl) (fun H locs B => ?_)
  exact ge_wv C B hr hlk (⟨q1, q2, q3, rfl⟩) dX6_init_28
set_option maxHeartbeats 4000000 in
set_option maxRecDepth 100000 in
theorem c_X9_init (l : Launch) (D : va_G) (G : Nat → ClassId) (τ : Nat → Nat) (h0 sz : Nat) : Wv l D G τ yX9_init cX9_init 1 none 1 1 30 [.ref h0] (ga [h0]) (ge [.inr (9, [.null, .int 0])]) [0] sz (fun u => ∃ a1 : Nat, u = ((ga [h0, a1]), (ge [.inr (9, [.ref a1, .int 0]), .inl (G 0, 30, .inl (fun _ => 0))]), [0, 1])) := by
  refine gM _ (by decide) rfl (Nat.le_of_ble_eq_true rfl) ?_
  intro p e s m below meth c ls C hr hlk hnm hsz B hl
  have hx := C.1
  have hb := C.2.1
  have hl : lv_has ls 1 [(0, .ref h0)] := hl
  refine lv_aload_n hx hb dX9_init_0 rfl (lv_at hl 0 rfl) ?_
  refine W.objInit hx hb C.2.2.2.1 (C.2.2.2.2 _ wl_216) (C.2.2.2.2 _ wl_49) (C.2.2.2.2 _ wl_50) rfl (by rw [C.2.2.1]; exact hl.1) rfl dX9_init_1 (Nat.le_of_ble_eq_true rfl) (Nat.le_of_ble_eq_true rfl) ?_
  refine W.eq (g2 := F0 m 4 ls []) rfl ?_
  refine lv_aload_n hx hb dX9_init_4 rfl (lv_at hl 0 rfl) ?_
  refine lv_bipush (v := 30) hx hb dX9_init_5 (by decide) ?_
  refine g_newi C B.raw wl_62 (by decide) (N' := 30) rfl (by decide) (Nat.le_of_ble_eq_true rfl) (Nat.le_of_ble_eq_true rfl) dX9_init_7 (fun q1 H X => ?_)
  have B : gB D G τ (gA (ga [h0]) [0] sz) s H [] (ga [h0, q1]) (ge [.inr (9, [.null, .int 0]), .inl (G 0, 30, .inl (fun _ => 0))]) [0, 1] := X.B rfl
  refine g_putF C B hnm 0 (by decide) (ci := 9) (fs := [.null, .int 0]) rfl rfl gf_9 tyX9 tyX9_ok nmX9 0 (by decide) wl_217 rfl rfl (ty := (.array .int)) (v := .ref q1) (by decide +kernel) rfl rfl (Nat.le_of_ble_eq_true rfl) dX9_init_9 (E' := (ge [.inr (9, [.ref q1, .int 0]), .inl (G 0, 30, .inl (fun _ => 0))])) ((ge_set (Nat.le_of_ble_eq_true rfl)).trans rfl) (fun H locs B => ?_)
  refine lv_aload_n hx hb dX9_init_12 rfl (lv_at hl 0 rfl) ?_
  refine lv_iconst (v := 0) hx hb dX9_init_13 (by decide) ?_
  refine g_put C B 0 (by decide) (ci := 9) (fs := [.ref q1, .int 0]) rfl rfl gf_9 tyX9 tyX9_ok nmX9 1 (by decide) wl_219 rfl (ty := .int) (v := .int 0) (by decide +kernel) rfl rfl (Nat.le_of_ble_eq_true rfl) dX9_init_14 (E' := (ge [.inr (9, [.ref q1, .int 0]), .inl (G 0, 30, .inl (fun _ => 0))])) ((ge_set (Nat.le_of_ble_eq_true rfl)).trans rfl) (fun H locs B => ?_)
  exact ge_wv C B hr hlk (⟨q1, rfl⟩) dX9_init_17
set_option maxHeartbeats 4000000 in
set_option maxRecDepth 100000 in
theorem c_X2_init (l : Launch) (D : va_G) (G : Nat → ClassId) (τ : Nat → Nat) (h0 sz : Nat) (kind ch o nw ho : Int32) : Wv l D G τ yX2_init cX2_init 6 none 1 2 14 [.ref h0, .int kind, .int ch, .int o, .int nw, .int ho] (ga [h0]) (ge [.inr (2, [.int 0, .int 0, .int 0, .int 0, .int 0, .long 0, .int 0, .null, .null, .int 0, .long 0, .int 0, .int 0, .long 0, .int 0, .long 0])]) [0] sz (fun u => ∃ a1 a2 : Nat, u = ((ga [h0, a1, a2]), (ge [.inr (2, [.int kind, .int ch, .int o, .int nw, .int 0, .long 0, .int 0, .ref a1, .ref a2, .int 0, .long 0, .int 0, .int 1000000, .long 0, .int 0, .long 0]), .inl (G 0, 7, .inl (upd (fun _ => 0) 0 ho)), .inl (G 0, 7, .inl (upd (fun _ => 0) 0 nw))]), [0, 1, 2])) := by
  refine gM _ (by decide) rfl (Nat.le_of_ble_eq_true rfl) ?_
  intro p e s m below meth c ls C hr hlk hnm hsz B hl
  have hx := C.1
  have hb := C.2.1
  have hl : lv_has ls 6 [(0, .ref h0), (1, .int kind), (2, .int ch), (3, .int o), (4, .int nw), (5, .int ho)] := hl
  refine lv_aload_n hx hb dX2_init_0 rfl (lv_at hl 0 rfl) ?_
  refine W.objInit hx hb C.2.2.2.1 (C.2.2.2.2 _ wl_489) (C.2.2.2.2 _ wl_49) (C.2.2.2.2 _ wl_50) rfl (by rw [C.2.2.1]; exact hl.1) rfl dX2_init_1 (Nat.le_of_ble_eq_true rfl) (Nat.le_of_ble_eq_true rfl) ?_
  refine W.eq (g2 := F0 m 4 ls []) rfl ?_
  refine lv_aload_n hx hb dX2_init_4 rfl (lv_at hl 0 rfl) ?_
  refine lv_bipush (v := 7) hx hb dX2_init_5 (by decide) ?_
  refine g_newi C B.raw wl_62 (by decide) (N' := 7) rfl (by decide) (Nat.le_of_ble_eq_true rfl) (Nat.le_of_ble_eq_true rfl) dX2_init_7 (fun q1 H X => ?_)
  have B : gB D G τ (gA (ga [h0]) [0] sz) s H [] (ga [h0, q1]) (ge [.inr (2, [.int 0, .int 0, .int 0, .int 0, .int 0, .long 0, .int 0, .null, .null, .int 0, .long 0, .int 0, .int 0, .long 0, .int 0, .long 0]), .inl (G 0, 7, .inl (fun _ => 0))]) [0, 1] := X.B rfl
  refine g_putF C B hnm 0 (by decide) (ci := 2) (fs := [.int 0, .int 0, .int 0, .int 0, .int 0, .long 0, .int 0, .null, .null, .int 0, .long 0, .int 0, .int 0, .long 0, .int 0, .long 0]) rfl rfl gf_2 tyX2 tyX2_ok nmX2 7 (by decide) wl_508 rfl rfl (ty := (.array .int)) (v := .ref q1) (by decide +kernel) rfl rfl (Nat.le_of_ble_eq_true rfl) dX2_init_9 (E' := (ge [.inr (2, [.int 0, .int 0, .int 0, .int 0, .int 0, .long 0, .int 0, .ref q1, .null, .int 0, .long 0, .int 0, .int 0, .long 0, .int 0, .long 0]), .inl (G 0, 7, .inl (fun _ => 0))])) ((ge_set (Nat.le_of_ble_eq_true rfl)).trans rfl) (fun H locs B => ?_)
  refine lv_aload_n hx hb dX2_init_12 rfl (lv_at hl 0 rfl) ?_
  refine lv_bipush (v := 7) hx hb dX2_init_13 (by decide) ?_
  refine g_newi C B.raw wl_62 (by decide) (N' := 7) rfl (by decide) (Nat.le_of_ble_eq_true rfl) (Nat.le_of_ble_eq_true rfl) dX2_init_15 (fun q2 H X => ?_)
  have B : gB D G τ (gA (ga [h0]) [0] sz) s H locs (ga [h0, q1, q2]) (ge [.inr (2, [.int 0, .int 0, .int 0, .int 0, .int 0, .long 0, .int 0, .ref q1, .null, .int 0, .long 0, .int 0, .int 0, .long 0, .int 0, .long 0]), .inl (G 0, 7, .inl (fun _ => 0)), .inl (G 0, 7, .inl (fun _ => 0))]) [0, 1, 2] := X.B rfl
  refine g_putF C B hnm 0 (by decide) (ci := 2) (fs := [.int 0, .int 0, .int 0, .int 0, .int 0, .long 0, .int 0, .ref q1, .null, .int 0, .long 0, .int 0, .int 0, .long 0, .int 0, .long 0]) rfl rfl gf_2 tyX2 tyX2_ok nmX2 8 (by decide) wl_509 rfl rfl (ty := (.array .int)) (v := .ref q2) (by decide +kernel) rfl rfl (Nat.le_of_ble_eq_true rfl) dX2_init_17 (E' := (ge [.inr (2, [.int 0, .int 0, .int 0, .int 0, .int 0, .long 0, .int 0, .ref q1, .ref q2, .int 0, .long 0, .int 0, .int 0, .long 0, .int 0, .long 0]), .inl (G 0, 7, .inl (fun _ => 0)), .inl (G 0, 7, .inl (fun _ => 0))])) ((ge_set (Nat.le_of_ble_eq_true rfl)).trans rfl) (fun H locs B => ?_)
  refine lv_aload_n hx hb dX2_init_20 rfl (lv_at hl 0 rfl) ?_
  refine lv_iconst (v := 0) hx hb dX2_init_21 (by decide) ?_
  refine g_put C B 0 (by decide) (ci := 2) (fs := [.int 0, .int 0, .int 0, .int 0, .int 0, .long 0, .int 0, .ref q1, .ref q2, .int 0, .long 0, .int 0, .int 0, .long 0, .int 0, .long 0]) rfl rfl gf_2 tyX2 tyX2_ok nmX2 9 (by decide) wl_510 rfl (ty := .int) (v := .int 0) (by decide +kernel) rfl rfl (Nat.le_of_ble_eq_true rfl) dX2_init_22 (E' := (ge [.inr (2, [.int 0, .int 0, .int 0, .int 0, .int 0, .long 0, .int 0, .ref q1, .ref q2, .int 0, .long 0, .int 0, .int 0, .long 0, .int 0, .long 0]), .inl (G 0, 7, .inl (fun _ => 0)), .inl (G 0, 7, .inl (fun _ => 0))])) ((ge_set (Nat.le_of_ble_eq_true rfl)).trans rfl) (fun H locs B => ?_)
  refine lv_aload_n hx hb dX2_init_25 rfl (lv_at hl 0 rfl) ?_
  refine lv_lconst (v := 0) hx hb dX2_init_26 (by decide) ?_
  refine g_put C B 0 (by decide) (ci := 2) (fs := [.int 0, .int 0, .int 0, .int 0, .int 0, .long 0, .int 0, .ref q1, .ref q2, .int 0, .long 0, .int 0, .int 0, .long 0, .int 0, .long 0]) rfl rfl gf_2 tyX2 tyX2_ok nmX2 10 (by decide) wl_511 rfl (ty := .long) (v := .long 0) (by decide +kernel) rfl rfl (Nat.le_of_ble_eq_true rfl) dX2_init_27 (E' := (ge [.inr (2, [.int 0, .int 0, .int 0, .int 0, .int 0, .long 0, .int 0, .ref q1, .ref q2, .int 0, .long 0, .int 0, .int 0, .long 0, .int 0, .long 0]), .inl (G 0, 7, .inl (fun _ => 0)), .inl (G 0, 7, .inl (fun _ => 0))])) ((ge_set (Nat.le_of_ble_eq_true rfl)).trans rfl) (fun H locs B => ?_)
  refine lv_aload_n hx hb dX2_init_30 rfl (lv_at hl 0 rfl) ?_
  refine lv_iconst (v := 0) hx hb dX2_init_31 (by decide) ?_
  refine g_put C B 0 (by decide) (ci := 2) (fs := [.int 0, .int 0, .int 0, .int 0, .int 0, .long 0, .int 0, .ref q1, .ref q2, .int 0, .long 0, .int 0, .int 0, .long 0, .int 0, .long 0]) rfl rfl gf_2 tyX2 tyX2_ok nmX2 11 (by decide) wl_513 rfl (ty := .boolean) (v := .int 0) (by decide +kernel) rfl rfl (Nat.le_of_ble_eq_true rfl) dX2_init_32 (E' := (ge [.inr (2, [.int 0, .int 0, .int 0, .int 0, .int 0, .long 0, .int 0, .ref q1, .ref q2, .int 0, .long 0, .int 0, .int 0, .long 0, .int 0, .long 0]), .inl (G 0, 7, .inl (fun _ => 0)), .inl (G 0, 7, .inl (fun _ => 0))])) ((ge_set (Nat.le_of_ble_eq_true rfl)).trans rfl) (fun H locs B => ?_)
  refine lv_aload_n hx hb dX2_init_35 rfl (lv_at hl 0 rfl) ?_
  refine g_ldc C wl_490 dX2_init_36 ?_
  refine g_put C B 0 (by decide) (ci := 2) (fs := [.int 0, .int 0, .int 0, .int 0, .int 0, .long 0, .int 0, .ref q1, .ref q2, .int 0, .long 0, .int 0, .int 0, .long 0, .int 0, .long 0]) rfl rfl gf_2 tyX2 tyX2_ok nmX2 12 (by decide) wl_517 rfl (ty := .int) (v := .int 1000000) (by decide +kernel) rfl rfl (Nat.le_of_ble_eq_true rfl) dX2_init_38 (E' := (ge [.inr (2, [.int 0, .int 0, .int 0, .int 0, .int 0, .long 0, .int 0, .ref q1, .ref q2, .int 0, .long 0, .int 0, .int 1000000, .long 0, .int 0, .long 0]), .inl (G 0, 7, .inl (fun _ => 0)), .inl (G 0, 7, .inl (fun _ => 0))])) ((ge_set (Nat.le_of_ble_eq_true rfl)).trans rfl) (fun H locs B => ?_)
  refine lv_aload_n hx hb dX2_init_41 rfl (lv_at hl 0 rfl) ?_
  refine lv_lconst (v := 0) hx hb dX2_init_42 (by decide) ?_
  refine g_put C B 0 (by decide) (ci := 2) (fs := [.int 0, .int 0, .int 0, .int 0, .int 0, .long 0, .int 0, .ref q1, .ref q2, .int 0, .long 0, .int 0, .int 1000000, .long 0, .int 0, .long 0]) rfl rfl gf_2 tyX2 tyX2_ok nmX2 13 (by decide) wl_519 rfl (ty := .long) (v := .long 0) (by decide +kernel) rfl rfl (Nat.le_of_ble_eq_true rfl) dX2_init_43 (E' := (ge [.inr (2, [.int 0, .int 0, .int 0, .int 0, .int 0, .long 0, .int 0, .ref q1, .ref q2, .int 0, .long 0, .int 0, .int 1000000, .long 0, .int 0, .long 0]), .inl (G 0, 7, .inl (fun _ => 0)), .inl (G 0, 7, .inl (fun _ => 0))])) ((ge_set (Nat.le_of_ble_eq_true rfl)).trans rfl) (fun H locs B => ?_)
  refine lv_aload_n hx hb dX2_init_46 rfl (lv_at hl 0 rfl) ?_
  refine lv_iconst (v := 0) hx hb dX2_init_47 (by decide) ?_
  refine g_put C B 0 (by decide) (ci := 2) (fs := [.int 0, .int 0, .int 0, .int 0, .int 0, .long 0, .int 0, .ref q1, .ref q2, .int 0, .long 0, .int 0, .int 1000000, .long 0, .int 0, .long 0]) rfl rfl gf_2 tyX2 tyX2_ok nmX2 14 (by decide) wl_521 rfl (ty := .boolean) (v := .int 0) (by decide +kernel) rfl rfl (Nat.le_of_ble_eq_true rfl) dX2_init_48 (E' := (ge [.inr (2, [.int 0, .int 0, .int 0, .int 0, .int 0, .long 0, .int 0, .ref q1, .ref q2, .int 0, .long 0, .int 0, .int 1000000, .long 0, .int 0, .long 0]), .inl (G 0, 7, .inl (fun _ => 0)), .inl (G 0, 7, .inl (fun _ => 0))])) ((ge_set (Nat.le_of_ble_eq_true rfl)).trans rfl) (fun H locs B => ?_)
  refine lv_aload_n hx hb dX2_init_51 rfl (lv_at hl 0 rfl) ?_
  refine lv_lconst (v := 0) hx hb dX2_init_52 (by decide) ?_
  refine g_put C B 0 (by decide) (ci := 2) (fs := [.int 0, .int 0, .int 0, .int 0, .int 0, .long 0, .int 0, .ref q1, .ref q2, .int 0, .long 0, .int 0, .int 1000000, .long 0, .int 0, .long 0]) rfl rfl gf_2 tyX2 tyX2_ok nmX2 15 (by decide) wl_523 rfl (ty := .long) (v := .long 0) (by decide +kernel) rfl rfl (Nat.le_of_ble_eq_true rfl) dX2_init_53 (E' := (ge [.inr (2, [.int 0, .int 0, .int 0, .int 0, .int 0, .long 0, .int 0, .ref q1, .ref q2, .int 0, .long 0, .int 0, .int 1000000, .long 0, .int 0, .long 0]), .inl (G 0, 7, .inl (fun _ => 0)), .inl (G 0, 7, .inl (fun _ => 0))])) ((ge_set (Nat.le_of_ble_eq_true rfl)).trans rfl) (fun H locs B => ?_)
  refine lv_aload_n hx hb dX2_init_56 rfl (lv_at hl 0 rfl) ?_
  refine lv_iload_n hx hb dX2_init_57 rfl (lv_at hl 1 rfl) ?_
  refine g_putF C B hnm 0 (by decide) (ci := 2) (fs := [.int 0, .int 0, .int 0, .int 0, .int 0, .long 0, .int 0, .ref q1, .ref q2, .int 0, .long 0, .int 0, .int 1000000, .long 0, .int 0, .long 0]) rfl rfl gf_2 tyX2 tyX2_ok nmX2 0 (by decide) wl_491 rfl rfl (ty := .int) (v := .int kind) (by decide +kernel) rfl rfl (Nat.le_of_ble_eq_true rfl) dX2_init_58 (E' := (ge [.inr (2, [.int kind, .int 0, .int 0, .int 0, .int 0, .long 0, .int 0, .ref q1, .ref q2, .int 0, .long 0, .int 0, .int 1000000, .long 0, .int 0, .long 0]), .inl (G 0, 7, .inl (fun _ => 0)), .inl (G 0, 7, .inl (fun _ => 0))])) ((ge_set (Nat.le_of_ble_eq_true rfl)).trans rfl) (fun H locs B => ?_)
  refine lv_aload_n hx hb dX2_init_61 rfl (lv_at hl 0 rfl) ?_
  refine lv_iload_n hx hb dX2_init_62 rfl (lv_at hl 2 rfl) ?_
  refine g_putF C B hnm 0 (by decide) (ci := 2) (fs := [.int kind, .int 0, .int 0, .int 0, .int 0, .long 0, .int 0, .ref q1, .ref q2, .int 0, .long 0, .int 0, .int 1000000, .long 0, .int 0, .long 0]) rfl rfl gf_2 tyX2 tyX2_ok nmX2 1 (by decide) wl_494 rfl rfl (ty := .int) (v := .int ch) (by decide +kernel) rfl rfl (Nat.le_of_ble_eq_true rfl) dX2_init_63 (E' := (ge [.inr (2, [.int kind, .int ch, .int 0, .int 0, .int 0, .long 0, .int 0, .ref q1, .ref q2, .int 0, .long 0, .int 0, .int 1000000, .long 0, .int 0, .long 0]), .inl (G 0, 7, .inl (fun _ => 0)), .inl (G 0, 7, .inl (fun _ => 0))])) ((ge_set (Nat.le_of_ble_eq_true rfl)).trans rfl) (fun H locs B => ?_)
  refine lv_aload_n hx hb dX2_init_66 rfl (lv_at hl 0 rfl) ?_
  refine lv_iload_n hx hb dX2_init_67 rfl (lv_at hl 3 rfl) ?_
  refine g_putF C B hnm 0 (by decide) (ci := 2) (fs := [.int kind, .int ch, .int 0, .int 0, .int 0, .long 0, .int 0, .ref q1, .ref q2, .int 0, .long 0, .int 0, .int 1000000, .long 0, .int 0, .long 0]) rfl rfl gf_2 tyX2 tyX2_ok nmX2 2 (by decide) wl_496 rfl rfl (ty := .int) (v := .int o) (by decide +kernel) rfl rfl (Nat.le_of_ble_eq_true rfl) dX2_init_68 (E' := (ge [.inr (2, [.int kind, .int ch, .int o, .int 0, .int 0, .long 0, .int 0, .ref q1, .ref q2, .int 0, .long 0, .int 0, .int 1000000, .long 0, .int 0, .long 0]), .inl (G 0, 7, .inl (fun _ => 0)), .inl (G 0, 7, .inl (fun _ => 0))])) ((ge_set (Nat.le_of_ble_eq_true rfl)).trans rfl) (fun H locs B => ?_)
  refine lv_aload_n hx hb dX2_init_71 rfl (lv_at hl 0 rfl) ?_
  refine lv_iload hx hb dX2_init_72 (lv_at hl 4 rfl) ?_
  refine g_putF C B hnm 0 (by decide) (ci := 2) (fs := [.int kind, .int ch, .int o, .int 0, .int 0, .long 0, .int 0, .ref q1, .ref q2, .int 0, .long 0, .int 0, .int 1000000, .long 0, .int 0, .long 0]) rfl rfl gf_2 tyX2 tyX2_ok nmX2 3 (by decide) wl_498 rfl rfl (ty := .int) (v := .int nw) (by decide +kernel) rfl rfl (Nat.le_of_ble_eq_true rfl) dX2_init_74 (E' := (ge [.inr (2, [.int kind, .int ch, .int o, .int nw, .int 0, .long 0, .int 0, .ref q1, .ref q2, .int 0, .long 0, .int 0, .int 1000000, .long 0, .int 0, .long 0]), .inl (G 0, 7, .inl (fun _ => 0)), .inl (G 0, 7, .inl (fun _ => 0))])) ((ge_set (Nat.le_of_ble_eq_true rfl)).trans rfl) (fun H locs B => ?_)
  refine lv_aload_n hx hb dX2_init_77 rfl (lv_at hl 0 rfl) ?_
  refine g_get C B 0 (by decide) (ci := 2) (fs := [.int kind, .int ch, .int o, .int nw, .int 0, .long 0, .int 0, .ref q1, .ref q2, .int 0, .long 0, .int 0, .int 1000000, .long 0, .int 0, .long 0]) rfl rfl gf_2 7 (by decide) wl_508 (v := .ref q1) rfl dX2_init_78 ?_
  refine lv_iconst (v := 0) hx hb dX2_init_81 (by decide) ?_
  refine lv_iload hx hb dX2_init_82 (lv_at hl 5 rfl) ?_
  refine g_iast C B 1 (by decide) (n := 7) (f := (fun _ => 0)) rfl (vp_d (by decide)) (j := 0) rfl dX2_init_84 (E' := (ge [.inr (2, [.int kind, .int ch, .int o, .int nw, .int 0, .long 0, .int 0, .ref q1, .ref q2, .int 0, .long 0, .int 0, .int 1000000, .long 0, .int 0, .long 0]), .inl (G 0, 7, .inl (upd (fun _ => 0) 0 ho)), .inl (G 0, 7, .inl (fun _ => 0))])) ((ge_set (Nat.le_of_ble_eq_true rfl)).trans rfl) (fun H locs B => ?_)
  refine lv_aload_n hx hb dX2_init_85 rfl (lv_at hl 0 rfl) ?_
  refine g_get C B 0 (by decide) (ci := 2) (fs := [.int kind, .int ch, .int o, .int nw, .int 0, .long 0, .int 0, .ref q1, .ref q2, .int 0, .long 0, .int 0, .int 1000000, .long 0, .int 0, .long 0]) rfl rfl gf_2 8 (by decide) wl_509 (v := .ref q2) rfl dX2_init_86 ?_
  refine lv_iconst (v := 0) hx hb dX2_init_89 (by decide) ?_
  refine lv_iload hx hb dX2_init_90 (lv_at hl 4 rfl) ?_
  refine g_iast C B 2 (by decide) (n := 7) (f := (fun _ => 0)) rfl (vp_d (by decide)) (j := 0) rfl dX2_init_92 (E' := (ge [.inr (2, [.int kind, .int ch, .int o, .int nw, .int 0, .long 0, .int 0, .ref q1, .ref q2, .int 0, .long 0, .int 0, .int 1000000, .long 0, .int 0, .long 0]), .inl (G 0, 7, .inl (upd (fun _ => 0) 0 ho)), .inl (G 0, 7, .inl (upd (fun _ => 0) 0 nw))])) ((ge_set (Nat.le_of_ble_eq_true rfl)).trans rfl) (fun H locs B => ?_)
  exact ge_wv C B hr hlk (⟨q1, q2, rfl⟩) dX2_init_93
