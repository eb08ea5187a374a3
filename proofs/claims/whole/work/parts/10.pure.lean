theorem bI_t {P : Prop} [Decidable P] (h : P) : (1 : Int32) = bI P := by rw [bI, if_pos h]
theorem bI_f {P : Prop} [Decidable P] (h : ¬ P) : (0 : Int32) = bI P := by rw [bI, if_neg h]
theorem bI_1 {P : Prop} [Decidable P] : narrow .boolean (.int (bI P)) = .int (bI P) := by
  by_cases h : P
  · rw [bI, if_pos h]; rfl
  · rw [bI, if_neg h]; rfl
set_option maxHeartbeats 4000000 in
set_option maxRecDepth 100000 in
theorem c_X11_in (l : Launch) (D : va_G) (G : Nat → ClassId) (τ α : Nat → Nat) (E : Nat → va_E) (L : List Nat) (sz : Nat) (v a b : Int32) : Ri l D G τ yX11_in cX11_in 3 (some .boolean) 0 [.int v, .int a, .int b] α E L sz (fun r => r = bI (inR v a b)) := by
  refine gM _ (by decide) rfl (Nat.le_of_ble_eq_true rfl) ?_
  intro p e s m below meth c ls C hr hlk hnm hsz B hl
  have hx := C.1
  have hb := C.2.1
  have hl : lv_has ls 3 [(0, .int v), (1, .int a), (2, .int b)] := hl
  refine lv_iload_n hx hb dX11_in_0 rfl (lv_at hl 0 rfl) ?_
  refine lv_iload_n hx hb dX11_in_1 rfl (lv_at hl 1 rfl) ?_
  refine lv_icmp_lt (tgt := 14) hx hb dX11_in_2 (by decide) (fun c1 => ?_) (fun c1 => ?_)
  · refine lv_iconst (v := 0) hx hb dX11_in_14 (by decide) ?_
    exact ge_i C hr rfl hlk (bI_f (by simp only [i3l, i3e, i3q, inR, isC, isD, zi_0, zi_1, zi_2, zi_3, zi_4, zi_5, zi_6, zi_7, zi_8, zi_9, zi_10, zi_12, zi_20, zi_21, zi_30, zi_60, zi_90, zi_99, zi_100, zi_180, zi_240, zi_400, zi_500, zi_1000, zi_1199, zi_10000, zi_100000, zi_1000000, i3m1] at c1 ⊢; omega)) dX11_in_15
  · refine lv_iload_n hx hb dX11_in_5 rfl (lv_at hl 0 rfl) ?_
    refine lv_iload_n hx hb dX11_in_6 rfl (lv_at hl 2 rfl) ?_
    refine lv_icmp_gt (tgt := 14) hx hb dX11_in_7 (by decide) (fun c2 => ?_) (fun c2 => ?_)
    · refine lv_iconst (v := 0) hx hb dX11_in_14 (by decide) ?_
      exact ge_i C hr rfl hlk (bI_f (by simp only [i3l, i3e, i3q, inR, isC, isD, zi_0, zi_1, zi_2, zi_3, zi_4, zi_5, zi_6, zi_7, zi_8, zi_9, zi_10, zi_12, zi_20, zi_21, zi_30, zi_60, zi_90, zi_99, zi_100, zi_180, zi_240, zi_400, zi_500, zi_1000, zi_1199, zi_10000, zi_100000, zi_1000000, i3m1] at c1 c2 ⊢; omega)) dX11_in_15
    · refine lv_iconst (v := 1) hx hb dX11_in_10 (by decide) ?_
      refine lv_goto (tgt := 15) hx hb dX11_in_11 (by decide) ?_
      exact ge_i C hr rfl hlk (bI_t (by simp only [i3l, i3e, i3q, inR, isC, isD, zi_0, zi_1, zi_2, zi_3, zi_4, zi_5, zi_6, zi_7, zi_8, zi_9, zi_10, zi_12, zi_20, zi_21, zi_30, zi_60, zi_90, zi_99, zi_100, zi_180, zi_240, zi_400, zi_500, zi_1000, zi_1199, zi_10000, zi_100000, zi_1000000, i3m1] at c1 c2 ⊢; omega)) dX11_in_15
set_option maxHeartbeats 4000000 in
set_option maxRecDepth 100000 in
theorem c_X10_isWithin (l : Launch) (D : va_G) (G : Nat → ClassId) (τ α : Nat → Nat) (E : Nat → va_E) (L : List Nat) (sz : Nat) (v a b : Int32) : Ri l D G τ yX10_isWithin cX10_isWithin 3 (some .boolean) 0 [.int v, .int a, .int b] α E L sz (fun r => r = bI (inR v a b)) := by
  refine gM _ (by decide) rfl (Nat.le_of_ble_eq_true rfl) ?_
  intro p e s m below meth c ls C hr hlk hnm hsz B hl
  have hx := C.1
  have hb := C.2.1
  have hl : lv_has ls 3 [(0, .int v), (1, .int a), (2, .int b)] := hl
  refine lv_iload_n hx hb dX10_isWithin_0 rfl (lv_at hl 0 rfl) ?_
  refine lv_iload_n hx hb dX10_isWithin_1 rfl (lv_at hl 1 rfl) ?_
  refine lv_icmp_lt (tgt := 14) hx hb dX10_isWithin_2 (by decide) (fun c1 => ?_) (fun c1 => ?_)
  · refine lv_iconst (v := 0) hx hb dX10_isWithin_14 (by decide) ?_
    exact ge_i C hr rfl hlk (bI_f (by simp only [i3l, i3e, i3q, inR, isC, isD, zi_0, zi_1, zi_2, zi_3, zi_4, zi_5, zi_6, zi_7, zi_8, zi_9, zi_10, zi_12, zi_20, zi_21, zi_30, zi_60, zi_90, zi_99, zi_100, zi_180, zi_240, zi_400, zi_500, zi_1000, zi_1199, zi_10000, zi_100000, zi_1000000, i3m1] at c1 ⊢; omega)) dX10_isWithin_15
  · refine lv_iload_n hx hb dX10_isWithin_5 rfl (lv_at hl 0 rfl) ?_
    refine lv_iload_n hx hb dX10_isWithin_6 rfl (lv_at hl 2 rfl) ?_
    refine lv_icmp_gt (tgt := 14) hx hb dX10_isWithin_7 (by decide) (fun c2 => ?_) (fun c2 => ?_)
    · refine lv_iconst (v := 0) hx hb dX10_isWithin_14 (by decide) ?_
      exact ge_i C hr rfl hlk (bI_f (by simp only [i3l, i3e, i3q, inR, isC, isD, zi_0, zi_1, zi_2, zi_3, zi_4, zi_5, zi_6, zi_7, zi_8, zi_9, zi_10, zi_12, zi_20, zi_21, zi_30, zi_60, zi_90, zi_99, zi_100, zi_180, zi_240, zi_400, zi_500, zi_1000, zi_1199, zi_10000, zi_100000, zi_1000000, i3m1] at c1 c2 ⊢; omega)) dX10_isWithin_15
    · refine lv_iconst (v := 1) hx hb dX10_isWithin_10 (by decide) ?_
      refine lv_goto (tgt := 15) hx hb dX10_isWithin_11 (by decide) ?_
      exact ge_i C hr rfl hlk (bI_t (by simp only [i3l, i3e, i3q, inR, isC, isD, zi_0, zi_1, zi_2, zi_3, zi_4, zi_5, zi_6, zi_7, zi_8, zi_9, zi_10, zi_12, zi_20, zi_21, zi_30, zi_60, zi_90, zi_99, zi_100, zi_180, zi_240, zi_400, zi_500, zi_1000, zi_1199, zi_10000, zi_100000, zi_1000000, i3m1] at c1 c2 ⊢; omega)) dX10_isWithin_15
set_option maxHeartbeats 4000000 in
set_option maxRecDepth 100000 in
theorem c_X11_isMonth (l : Launch) (D : va_G) (G : Nat → ClassId) (τ α : Nat → Nat) (E : Nat → va_E) (L : List Nat) (sz : Nat) (v : Int32) : Ri l D G τ yX11_isMonth cX11_isMonth 1 (some .boolean) 1 [.int v] α E L sz (fun r => r = bI (inR v 0 1199)) := by
  refine gM _ (by decide) rfl (Nat.le_of_ble_eq_true rfl) ?_
  intro p e s m below meth c ls C hr hlk hnm hsz B hl
  have hx := C.1
  have hb := C.2.1
  have hl : lv_has ls 1 [(0, .int v)] := hl
  refine lv_iload_n hx hb dX11_isMonth_0 rfl (lv_at hl 0 rfl) ?_
  refine lv_iconst (v := 0) hx hb dX11_isMonth_1 (by decide) ?_
  refine lv_sipush (v := 1199) hx hb dX11_isMonth_2 (by decide) ?_
  refine gc_b (gr_S C B (As := [.int v, .int 0, .int 1199]) (rest := []) (c_X11_in l D G τ α _ _ _ v 0 1199) wl_862 wl_863 wl_40 wl_864 (na := 3) (by decide +kernel) rfl ⟨Nat.le_of_ble_eq_true rfl, Nat.le_of_ble_eq_true rfl⟩ ⟨Nat.le_of_ble_eq_true rfl, Nat.le_of_ble_eq_true rfl⟩ hl.1 rfl (Nat.le_of_ble_eq_true rfl) dX11_isMonth_5) (fun c1 => ?_) (fun c1 => ?_)
  · exact ge_i C hr rfl hlk (bI_t c1) dX11_isMonth_8
  · exact ge_i C hr rfl hlk (bI_f c1) dX11_isMonth_8
set_option maxHeartbeats 4000000 in
set_option maxRecDepth 100000 in
theorem c_X11_isHolder (l : Launch) (D : va_G) (G : Nat → ClassId) (τ α : Nat → Nat) (E : Nat → va_E) (L : List Nat) (sz : Nat) (v : Int32) : Ri l D G τ yX11_isHolder cX11_isHolder 1 (some .boolean) 1 [.int v] α E L sz (fun r => r = bI (inR v 0 9)) := by
  refine gM _ (by decide) rfl (Nat.le_of_ble_eq_true rfl) ?_
  intro p e s m below meth c ls C hr hlk hnm hsz B hl
  have hx := C.1
  have hb := C.2.1
  have hl : lv_has ls 1 [(0, .int v)] := hl
  refine lv_iload_n hx hb dX11_isHolder_0 rfl (lv_at hl 0 rfl) ?_
  refine lv_iconst (v := 0) hx hb dX11_isHolder_1 (by decide) ?_
  refine lv_bipush (v := 9) hx hb dX11_isHolder_2 (by decide) ?_
  refine gc_b (gr_S C B (As := [.int v, .int 0, .int 9]) (rest := []) (c_X11_in l D G τ α _ _ _ v 0 9) wl_862 wl_863 wl_40 wl_864 (na := 3) (by decide +kernel) rfl ⟨Nat.le_of_ble_eq_true rfl, Nat.le_of_ble_eq_true rfl⟩ ⟨Nat.le_of_ble_eq_true rfl, Nat.le_of_ble_eq_true rfl⟩ hl.1 rfl (Nat.le_of_ble_eq_true rfl) dX11_isHolder_4) (fun c1 => ?_) (fun c1 => ?_)
  · exact ge_i C hr rfl hlk (bI_t c1) dX11_isHolder_7
  · exact ge_i C hr rfl hlk (bI_f c1) dX11_isHolder_7
set_option maxHeartbeats 4000000 in
set_option maxRecDepth 100000 in
theorem c_X10_isMonth (l : Launch) (D : va_G) (G : Nat → ClassId) (τ α : Nat → Nat) (E : Nat → va_E) (L : List Nat) (sz : Nat) (v : Int32) : Ri l D G τ yX10_isMonth cX10_isMonth 1 (some .boolean) 1 [.int v] α E L sz (fun r => r = bI (inR v 0 1199)) := by
  refine gM _ (by decide) rfl (Nat.le_of_ble_eq_true rfl) ?_
  intro p e s m below meth c ls C hr hlk hnm hsz B hl
  have hx := C.1
  have hb := C.2.1
  have hl : lv_has ls 1 [(0, .int v)] := hl
  refine lv_iload_n hx hb dX10_isMonth_0 rfl (lv_at hl 0 rfl) ?_
  refine lv_iconst (v := 0) hx hb dX10_isMonth_1 (by decide) ?_
  refine lv_sipush (v := 1199) hx hb dX10_isMonth_2 (by decide) ?_
  refine gc_b (gr_S C B (As := [.int v, .int 0, .int 1199]) (rest := []) (c_X10_isWithin l D G τ α _ _ _ v 0 1199) wl_264 wl_265 wl_29 wl_266 (na := 3) (by decide +kernel) rfl ⟨Nat.le_of_ble_eq_true rfl, Nat.le_of_ble_eq_true rfl⟩ ⟨Nat.le_of_ble_eq_true rfl, Nat.le_of_ble_eq_true rfl⟩ hl.1 rfl (Nat.le_of_ble_eq_true rfl) dX10_isMonth_5) (fun c1 => ?_) (fun c1 => ?_)
  · exact ge_i C hr rfl hlk (bI_t c1) dX10_isMonth_8
  · exact ge_i C hr rfl hlk (bI_f c1) dX10_isMonth_8
set_option maxHeartbeats 4000000 in
set_option maxRecDepth 100000 in
theorem c_X10_isHolder (l : Launch) (D : va_G) (G : Nat → ClassId) (τ α : Nat → Nat) (E : Nat → va_E) (L : List Nat) (sz : Nat) (v : Int32) : Ri l D G τ yX10_isHolder cX10_isHolder 1 (some .boolean) 1 [.int v] α E L sz (fun r => r = bI (inR v 0 9)) := by
  refine gM _ (by decide) rfl (Nat.le_of_ble_eq_true rfl) ?_
  intro p e s m below meth c ls C hr hlk hnm hsz B hl
  have hx := C.1
  have hb := C.2.1
  have hl : lv_has ls 1 [(0, .int v)] := hl
  refine lv_iload_n hx hb dX10_isHolder_0 rfl (lv_at hl 0 rfl) ?_
  refine lv_iconst (v := 0) hx hb dX10_isHolder_1 (by decide) ?_
  refine lv_bipush (v := 9) hx hb dX10_isHolder_2 (by decide) ?_
  refine gc_b (gr_S C B (As := [.int v, .int 0, .int 9]) (rest := []) (c_X10_isWithin l D G τ α _ _ _ v 0 9) wl_264 wl_265 wl_29 wl_266 (na := 3) (by decide +kernel) rfl ⟨Nat.le_of_ble_eq_true rfl, Nat.le_of_ble_eq_true rfl⟩ ⟨Nat.le_of_ble_eq_true rfl, Nat.le_of_ble_eq_true rfl⟩ hl.1 rfl (Nat.le_of_ble_eq_true rfl) dX10_isHolder_4) (fun c1 => ?_) (fun c1 => ?_)
  · exact ge_i C hr rfl hlk (bI_t c1) dX10_isHolder_7
  · exact ge_i C hr rfl hlk (bI_f c1) dX10_isHolder_7
set_option maxHeartbeats 4000000 in
set_option maxRecDepth 100000 in
theorem c_X10_isDepositKind (l : Launch) (D : va_G) (G : Nat → ClassId) (τ α : Nat → Nat) (E : Nat → va_E) (L : List Nat) (sz : Nat) (v : Int32) : Ri l D G τ yX10_isDepositKind cX10_isDepositKind 1 (some .boolean) 1 [.int v] α E L sz (fun r => r = bI (inR v 0 2)) := by
  refine gM _ (by decide) rfl (Nat.le_of_ble_eq_true rfl) ?_
  intro p e s m below meth c ls C hr hlk hnm hsz B hl
  have hx := C.1
  have hb := C.2.1
  have hl : lv_has ls 1 [(0, .int v)] := hl
  refine lv_iload_n hx hb dX10_isDepositKind_0 rfl (lv_at hl 0 rfl) ?_
  refine lv_iconst (v := 0) hx hb dX10_isDepositKind_1 (by decide) ?_
  refine lv_iconst (v := 2) hx hb dX10_isDepositKind_2 (by decide) ?_
  refine gc_b (gr_S C B (As := [.int v, .int 0, .int 2]) (rest := []) (c_X10_isWithin l D G τ α _ _ _ v 0 2) wl_264 wl_265 wl_29 wl_266 (na := 3) (by decide +kernel) rfl ⟨Nat.le_of_ble_eq_true rfl, Nat.le_of_ble_eq_true rfl⟩ ⟨Nat.le_of_ble_eq_true rfl, Nat.le_of_ble_eq_true rfl⟩ hl.1 rfl (Nat.le_of_ble_eq_true rfl) dX10_isDepositKind_3) (fun c1 => ?_) (fun c1 => ?_)
  · exact ge_i C hr rfl hlk (bI_t c1) dX10_isDepositKind_6
  · exact ge_i C hr rfl hlk (bI_f c1) dX10_isDepositKind_6
set_option maxHeartbeats 4000000 in
set_option maxRecDepth 100000 in
theorem c_X1_isKind (l : Launch) (D : va_G) (G : Nat → ClassId) (τ α : Nat → Nat) (E : Nat → va_E) (L : List Nat) (sz : Nat) (v : Int32) : Ri l D G τ yX1_isKind cX1_isKind 1 (some .boolean) 1 [.int v] α E L sz (fun r => r = bI (inR v 0 5)) := by
  refine gM _ (by decide) rfl (Nat.le_of_ble_eq_true rfl) ?_
  intro p e s m below meth c ls C hr hlk hnm hsz B hl
  have hx := C.1
  have hb := C.2.1
  have hl : lv_has ls 1 [(0, .int v)] := hl
  refine lv_iload_n hx hb dX1_isKind_0 rfl (lv_at hl 0 rfl) ?_
  refine lv_iconst (v := 0) hx hb dX1_isKind_1 (by decide) ?_
  refine lv_iconst (v := 5) hx hb dX1_isKind_2 (by decide) ?_
  refine gc_b (gr_SN C B (As := [.int v, .int 0, .int 5]) (rest := []) (c_X10_isWithin l D G τ α _ _ _ v 0 5) (by decide +kernel : Cond.methodLinkNest RX1 28 yX10_isWithin RX10 ∈ gNs) wl_265 wl_29 wl_266 (na := 3) (by decide +kernel) rfl ⟨Nat.le_of_ble_eq_true rfl, Nat.le_of_ble_eq_true rfl⟩ ⟨Nat.le_of_ble_eq_true rfl, Nat.le_of_ble_eq_true rfl⟩ hl.1 rfl (Nat.le_of_ble_eq_true rfl) dX1_isKind_3) (fun c1 => ?_) (fun c1 => ?_)
  · exact ge_i C hr rfl hlk (bI_t c1) dX1_isKind_6
  · exact ge_i C hr rfl hlk (bI_f c1) dX1_isKind_6
set_option maxHeartbeats 4000000 in
set_option maxRecDepth 100000 in
theorem c_X6_isAge (l : Launch) (D : va_G) (G : Nat → ClassId) (τ α : Nat → Nat) (E : Nat → va_E) (L : List Nat) (sz : Nat) (v : Int32) : Ri l D G τ yX6_isAge cX6_isAge 1 (some .boolean) 1 [.int v] α E L sz (fun r => r = bI (inR v 0 20)) := by
  refine gM _ (by decide) rfl (Nat.le_of_ble_eq_true rfl) ?_
  intro p e s m below meth c ls C hr hlk hnm hsz B hl
  have hx := C.1
  have hb := C.2.1
  have hl : lv_has ls 1 [(0, .int v)] := hl
  refine lv_iload_n hx hb dX6_isAge_0 rfl (lv_at hl 0 rfl) ?_
  refine lv_iconst (v := 0) hx hb dX6_isAge_1 (by decide) ?_
  refine lv_bipush (v := 20) hx hb dX6_isAge_2 (by decide) ?_
  refine gc_b (gr_SN C B (As := [.int v, .int 0, .int 20]) (rest := []) (c_X10_isWithin l D G τ α _ _ _ v 0 20) (by decide +kernel : Cond.methodLinkNest RX6 19 yX10_isWithin RX10 ∈ gNs) wl_265 wl_29 wl_266 (na := 3) (by decide +kernel) rfl ⟨Nat.le_of_ble_eq_true rfl, Nat.le_of_ble_eq_true rfl⟩ ⟨Nat.le_of_ble_eq_true rfl, Nat.le_of_ble_eq_true rfl⟩ hl.1 rfl (Nat.le_of_ble_eq_true rfl) dX6_isAge_4) (fun c1 => ?_) (fun c1 => ?_)
  · exact ge_i C hr rfl hlk (bI_t c1) dX6_isAge_7
  · exact ge_i C hr rfl hlk (bI_f c1) dX6_isAge_7
set_option maxHeartbeats 4000000 in
set_option maxRecDepth 100000 in
theorem c_X11_areAges (l : Launch) (D : va_G) (G : Nat → ClassId) (τ α : Nat → Nat) (E : Nat → va_E) (L : List Nat) (sz : Nat) (a b : Int32) : Ri l D G τ yX11_areAges cX11_areAges 2 (some .boolean) 1 [.int a, .int b] α E L sz (fun r => r = bI (inR a 0 20 ∧ inR b a 21)) := by
  refine gM _ (by decide) rfl (Nat.le_of_ble_eq_true rfl) ?_
  intro p e s m below meth c ls C hr hlk hnm hsz B hl
  have hx := C.1
  have hb := C.2.1
  have hl : lv_has ls 2 [(0, .int a), (1, .int b)] := hl
  refine lv_iload_n hx hb dX11_areAges_0 rfl (lv_at hl 0 rfl) ?_
  refine lv_iconst (v := 0) hx hb dX11_areAges_1 (by decide) ?_
  refine lv_bipush (v := 20) hx hb dX11_areAges_2 (by decide) ?_
  refine gc_b (gr_S C B (As := [.int a, .int 0, .int 20]) (rest := []) (c_X11_in l D G τ α _ _ _ a 0 20) wl_862 wl_863 wl_40 wl_864 (na := 3) (by decide +kernel) rfl ⟨Nat.le_of_ble_eq_true rfl, Nat.le_of_ble_eq_true rfl⟩ ⟨Nat.le_of_ble_eq_true rfl, Nat.le_of_ble_eq_true rfl⟩ hl.1 rfl (Nat.le_of_ble_eq_true rfl) dX11_areAges_4) (fun c1 => ?_) (fun c1 => ?_)
  · refine lv_if_eq (tgt := 24) hx hb dX11_areAges_7 (by decide) (fun hc => absurd hc (by decide)) (fun _ => ?_)
    refine lv_iload_n hx hb dX11_areAges_10 rfl (lv_at hl 1 rfl) ?_
    refine lv_iload_n hx hb dX11_areAges_11 rfl (lv_at hl 0 rfl) ?_
    refine lv_bipush (v := 21) hx hb dX11_areAges_12 (by decide) ?_
    refine gc_b (gr_S C B (As := [.int b, .int a, .int 21]) (rest := []) (c_X11_in l D G τ α _ _ _ b a 21) wl_862 wl_863 wl_40 wl_864 (na := 3) (by decide +kernel) rfl ⟨Nat.le_of_ble_eq_true rfl, Nat.le_of_ble_eq_true rfl⟩ ⟨Nat.le_of_ble_eq_true rfl, Nat.le_of_ble_eq_true rfl⟩ hl.1 rfl (Nat.le_of_ble_eq_true rfl) dX11_areAges_14) (fun c2 => ?_) (fun c2 => ?_)
    · refine lv_if_eq (tgt := 24) hx hb dX11_areAges_17 (by decide) (fun hc => absurd hc (by decide)) (fun _ => ?_)
      refine lv_iconst (v := 1) hx hb dX11_areAges_20 (by decide) ?_
      refine lv_goto (tgt := 25) hx hb dX11_areAges_21 (by decide) ?_
      exact ge_i C hr rfl hlk (bI_t (by simp only [i3l, i3e, i3q, inR, isC, isD, zi_0, zi_1, zi_2, zi_3, zi_4, zi_5, zi_6, zi_7, zi_8, zi_9, zi_10, zi_12, zi_20, zi_21, zi_30, zi_60, zi_90, zi_99, zi_100, zi_180, zi_240, zi_400, zi_500, zi_1000, zi_1199, zi_10000, zi_100000, zi_1000000, i3m1] at c1 c2 ⊢; omega)) dX11_areAges_25
    · refine lv_if_eq (tgt := 24) hx hb dX11_areAges_17 (by decide) (fun _ => ?_) (fun hc => absurd (by decide) hc)
      refine lv_iconst (v := 0) hx hb dX11_areAges_24 (by decide) ?_
      exact ge_i C hr rfl hlk (bI_f (by simp only [i3l, i3e, i3q, inR, isC, isD, zi_0, zi_1, zi_2, zi_3, zi_4, zi_5, zi_6, zi_7, zi_8, zi_9, zi_10, zi_12, zi_20, zi_21, zi_30, zi_60, zi_90, zi_99, zi_100, zi_180, zi_240, zi_400, zi_500, zi_1000, zi_1199, zi_10000, zi_100000, zi_1000000, i3m1] at c1 c2 ⊢; omega)) dX11_areAges_25
  · refine lv_if_eq (tgt := 24) hx hb dX11_areAges_7 (by decide) (fun _ => ?_) (fun hc => absurd (by decide) hc)
    refine lv_iconst (v := 0) hx hb dX11_areAges_24 (by decide) ?_
    exact ge_i C hr rfl hlk (bI_f (by simp only [i3l, i3e, i3q, inR, isC, isD, zi_0, zi_1, zi_2, zi_3, zi_4, zi_5, zi_6, zi_7, zi_8, zi_9, zi_10, zi_12, zi_20, zi_21, zi_30, zi_60, zi_90, zi_99, zi_100, zi_180, zi_240, zi_400, zi_500, zi_1000, zi_1199, zi_10000, zi_100000, zi_1000000, i3m1] at c1 ⊢; omega)) dX11_areAges_25
set_option maxHeartbeats 4000000 in
set_option maxRecDepth 100000 in
theorem c_X6_isSpan (l : Launch) (D : va_G) (G : Nat → ClassId) (τ α : Nat → Nat) (E : Nat → va_E) (L : List Nat) (sz : Nat) (a b : Int32) : Ri l D G τ yX6_isSpan cX6_isSpan 2 (some .boolean) 2 [.int a, .int b] α E L sz (fun r => r = bI (inR a 0 20 ∧ inR b a 21)) := by
  refine gM _ (by decide) rfl (Nat.le_of_ble_eq_true rfl) ?_
  intro p e s m below meth c ls C hr hlk hnm hsz B hl
  have hx := C.1
  have hb := C.2.1
  have hl : lv_has ls 2 [(0, .int a), (1, .int b)] := hl
  refine lv_iload_n hx hb dX6_isSpan_0 rfl (lv_at hl 0 rfl) ?_
  refine gc_b (gr_S C B (As := [.int a]) (rest := []) (c_X6_isAge l D G τ α _ _ _ a) wl_659 wl_648 wl_38 wl_649 (na := 1) (by decide +kernel) rfl ⟨Nat.le_of_ble_eq_true rfl, Nat.le_of_ble_eq_true rfl⟩ ⟨Nat.le_of_ble_eq_true rfl, Nat.le_of_ble_eq_true rfl⟩ hl.1 rfl (Nat.le_of_ble_eq_true rfl) dX6_isSpan_1) (fun c1 => ?_) (fun c1 => ?_)
  · refine lv_if_eq (tgt := 21) hx hb dX6_isSpan_4 (by decide) (fun hc => absurd hc (by decide)) (fun _ => ?_)
    refine lv_iload_n hx hb dX6_isSpan_7 rfl (lv_at hl 1 rfl) ?_
    refine lv_iload_n hx hb dX6_isSpan_8 rfl (lv_at hl 0 rfl) ?_
    refine lv_bipush (v := 21) hx hb dX6_isSpan_9 (by decide) ?_
    refine gc_b (gr_SN C B (As := [.int b, .int a, .int 21]) (rest := []) (c_X10_isWithin l D G τ α _ _ _ b a 21) (by decide +kernel : Cond.methodLinkNest RX6 19 yX10_isWithin RX10 ∈ gNs) wl_265 wl_29 wl_266 (na := 3) (by decide +kernel) rfl ⟨Nat.le_of_ble_eq_true rfl, Nat.le_of_ble_eq_true rfl⟩ ⟨Nat.le_of_ble_eq_true rfl, Nat.le_of_ble_eq_true rfl⟩ hl.1 rfl (Nat.le_of_ble_eq_true rfl) dX6_isSpan_11) (fun c2 => ?_) (fun c2 => ?_)
    · refine lv_if_eq (tgt := 21) hx hb dX6_isSpan_14 (by decide) (fun hc => absurd hc (by decide)) (fun _ => ?_)
      refine lv_iconst (v := 1) hx hb dX6_isSpan_17 (by decide) ?_
      refine lv_goto (tgt := 22) hx hb dX6_isSpan_18 (by decide) ?_
      exact ge_i C hr rfl hlk (bI_t (by simp only [i3l, i3e, i3q, inR, isC, isD, zi_0, zi_1, zi_2, zi_3, zi_4, zi_5, zi_6, zi_7, zi_8, zi_9, zi_10, zi_12, zi_20, zi_21, zi_30, zi_60, zi_90, zi_99, zi_100, zi_180, zi_240, zi_400, zi_500, zi_1000, zi_1199, zi_10000, zi_100000, zi_1000000, i3m1] at c1 c2 ⊢; omega)) dX6_isSpan_22
    · refine lv_if_eq (tgt := 21) hx hb dX6_isSpan_14 (by decide) (fun _ => ?_) (fun hc => absurd (by decide) hc)
      refine lv_iconst (v := 0) hx hb dX6_isSpan_21 (by decide) ?_
      exact ge_i C hr rfl hlk (bI_f (by simp only [i3l, i3e, i3q, inR, isC, isD, zi_0, zi_1, zi_2, zi_3, zi_4, zi_5, zi_6, zi_7, zi_8, zi_9, zi_10, zi_12, zi_20, zi_21, zi_30, zi_60, zi_90, zi_99, zi_100, zi_180, zi_240, zi_400, zi_500, zi_1000, zi_1199, zi_10000, zi_100000, zi_1000000, i3m1] at c1 c2 ⊢; omega)) dX6_isSpan_22
  · refine lv_if_eq (tgt := 21) hx hb dX6_isSpan_4 (by decide) (fun _ => ?_) (fun hc => absurd (by decide) hc)
    refine lv_iconst (v := 0) hx hb dX6_isSpan_21 (by decide) ?_
    exact ge_i C hr rfl hlk (bI_f (by simp only [i3l, i3e, i3q, inR, isC, isD, zi_0, zi_1, zi_2, zi_3, zi_4, zi_5, zi_6, zi_7, zi_8, zi_9, zi_10, zi_12, zi_20, zi_21, zi_30, zi_60, zi_90, zi_99, zi_100, zi_180, zi_240, zi_400, zi_500, zi_1000, zi_1199, zi_10000, zi_100000, zi_1000000, i3m1] at c1 ⊢; omega)) dX6_isSpan_22
abbrev isVal (kind v : Int32) : Prop := inR v (if kind = 5 then 12 else 0) (if kind = 0 then 60 else if kind = 5 then 240 else 1000)
set_option maxHeartbeats 4000000 in
set_option maxRecDepth 100000 in
theorem c_X11_isValue (l : Launch) (D : va_G) (G : Nat → ClassId) (τ α : Nat → Nat) (E : Nat → va_E) (L : List Nat) (sz : Nat) (kind v : Int32) : Ri l D G τ yX11_isValue cX11_isValue 2 (some .boolean) 1 [.int kind, .int v] α E L sz (fun r => r = bI (isVal kind v)) := by
  refine gM _ (by decide) rfl (Nat.le_of_ble_eq_true rfl) ?_
  intro p e s m below meth c ls C hr hlk hnm hsz B hl
  have hx := C.1
  have hb := C.2.1
  have hl : lv_has ls 2 [(0, .int kind), (1, .int v)] := hl
  refine lv_iload_n hx hb dX11_isValue_0 rfl (lv_at hl 1 rfl) ?_
  refine lv_iload_n hx hb dX11_isValue_1 rfl (lv_at hl 0 rfl) ?_
  refine lv_iconst (v := 5) hx hb dX11_isValue_2 (by decide) ?_
  refine lv_icmp_ne (tgt := 11) hx hb dX11_isValue_3 (by decide) (fun c1 => ?_) (fun c1 => ?_)
  · refine lv_iconst (v := 0) hx hb dX11_isValue_11 (by decide) ?_
    refine lv_iload_n hx hb dX11_isValue_12 rfl (lv_at hl 0 rfl) ?_
    refine lv_if_ne (tgt := 21) hx hb dX11_isValue_13 (by decide) (fun c2 => ?_) (fun c2 => ?_)
    · refine lv_iload_n hx hb dX11_isValue_21 rfl (lv_at hl 0 rfl) ?_
      refine lv_iconst (v := 5) hx hb dX11_isValue_22 (by decide) ?_
      refine lv_icmp_ne (tgt := 32) hx hb dX11_isValue_23 (by decide) (fun c3 => ?_) (fun c3 => ?_)
      · refine lv_sipush (v := 1000) hx hb dX11_isValue_32 (by decide) ?_
        refine gc_b (gr_S C B (As := [.int v, .int 0, .int 1000]) (rest := []) (c_X11_in l D G τ α _ _ _ v 0 1000) wl_862 wl_863 wl_40 wl_864 (na := 3) (by decide +kernel) rfl ⟨Nat.le_of_ble_eq_true rfl, Nat.le_of_ble_eq_true rfl⟩ ⟨Nat.le_of_ble_eq_true rfl, Nat.le_of_ble_eq_true rfl⟩ hl.1 rfl (Nat.le_of_ble_eq_true rfl) dX11_isValue_35) (fun c4 => ?_) (fun c4 => ?_)
        · exact ge_i C hr rfl hlk (bI_t (by simp only [isVal]; (repeat' split) <;> first | exact c4 | contradiction | (subst_vars; contradiction) | (exfalso; simp_all; done))) dX11_isValue_38
        · exact ge_i C hr rfl hlk (bI_f (by simp only [isVal]; (repeat' split) <;> first | exact c4 | contradiction | (subst_vars; contradiction) | (exfalso; simp_all; done))) dX11_isValue_38
      · refine lv_sipush (v := 240) hx hb dX11_isValue_26 (by decide) ?_
        refine lv_goto (tgt := 35) hx hb dX11_isValue_29 (by decide) ?_
        refine gc_b (gr_S C B (As := [.int v, .int 0, .int 240]) (rest := []) (c_X11_in l D G τ α _ _ _ v 0 240) wl_862 wl_863 wl_40 wl_864 (na := 3) (by decide +kernel) rfl ⟨Nat.le_of_ble_eq_true rfl, Nat.le_of_ble_eq_true rfl⟩ ⟨Nat.le_of_ble_eq_true rfl, Nat.le_of_ble_eq_true rfl⟩ hl.1 rfl (Nat.le_of_ble_eq_true rfl) dX11_isValue_35) (fun c5 => ?_) (fun c5 => ?_)
        · exact ge_i C hr rfl hlk (bI_t (by simp only [isVal]; (repeat' split) <;> first | exact c5 | contradiction | (subst_vars; contradiction) | (exfalso; simp_all; done))) dX11_isValue_38
        · exact ge_i C hr rfl hlk (bI_f (by simp only [isVal]; (repeat' split) <;> first | exact c5 | contradiction | (subst_vars; contradiction) | (exfalso; simp_all; done))) dX11_isValue_38
    · refine lv_bipush (v := 60) hx hb dX11_isValue_16 (by decide) ?_
      refine lv_goto (tgt := 35) hx hb dX11_isValue_18 (by decide) ?_
      refine gc_b (gr_S C B (As := [.int v, .int 0, .int 60]) (rest := []) (c_X11_in l D G τ α _ _ _ v 0 60) wl_862 wl_863 wl_40 wl_864 (na := 3) (by decide +kernel) rfl ⟨Nat.le_of_ble_eq_true rfl, Nat.le_of_ble_eq_true rfl⟩ ⟨Nat.le_of_ble_eq_true rfl, Nat.le_of_ble_eq_true rfl⟩ hl.1 rfl (Nat.le_of_ble_eq_true rfl) dX11_isValue_35) (fun c6 => ?_) (fun c6 => ?_)
      · exact ge_i C hr rfl hlk (bI_t (by simp only [isVal]; (repeat' split) <;> first | exact c6 | contradiction | (subst_vars; contradiction) | (exfalso; simp_all; done))) dX11_isValue_38
      · exact ge_i C hr rfl hlk (bI_f (by simp only [isVal]; (repeat' split) <;> first | exact c6 | contradiction | (subst_vars; contradiction) | (exfalso; simp_all; done))) dX11_isValue_38
  · refine lv_bipush (v := 12) hx hb dX11_isValue_6 (by decide) ?_
    refine lv_goto (tgt := 12) hx hb dX11_isValue_8 (by decide) ?_
    refine lv_iload_n hx hb dX11_isValue_12 rfl (lv_at hl 0 rfl) ?_
    refine lv_if_ne (tgt := 21) hx hb dX11_isValue_13 (by decide) (fun c7 => ?_) (fun c7 => ?_)
    · refine lv_iload_n hx hb dX11_isValue_21 rfl (lv_at hl 0 rfl) ?_
      refine lv_iconst (v := 5) hx hb dX11_isValue_22 (by decide) ?_
      refine lv_icmp_ne (tgt := 32) hx hb dX11_isValue_23 (by decide) (fun c8 => ?_) (fun c8 => ?_)
      · refine lv_sipush (v := 1000) hx hb dX11_isValue_32 (by decide) ?_
        refine gc_b (gr_S C B (As := [.int v, .int 12, .int 1000]) (rest := []) (c_X11_in l D G τ α _ _ _ v 12 1000) wl_862 wl_863 wl_40 wl_864 (na := 3) (by decide +kernel) rfl ⟨Nat.le_of_ble_eq_true rfl, Nat.le_of_ble_eq_true rfl⟩ ⟨Nat.le_of_ble_eq_true rfl, Nat.le_of_ble_eq_true rfl⟩ hl.1 rfl (Nat.le_of_ble_eq_true rfl) dX11_isValue_35) (fun c9 => ?_) (fun c9 => ?_)
        · exact ge_i C hr rfl hlk (bI_t (by simp only [isVal]; (repeat' split) <;> first | exact c9 | contradiction | (subst_vars; contradiction) | (exfalso; simp_all; done))) dX11_isValue_38
        · exact ge_i C hr rfl hlk (bI_f (by simp only [isVal]; (repeat' split) <;> first | exact c9 | contradiction | (subst_vars; contradiction) | (exfalso; simp_all; done))) dX11_isValue_38
      · refine lv_sipush (v := 240) hx hb dX11_isValue_26 (by decide) ?_
        refine lv_goto (tgt := 35) hx hb dX11_isValue_29 (by decide) ?_
        refine gc_b (gr_S C B (As := [.int v, .int 12, .int 240]) (rest := []) (c_X11_in l D G τ α _ _ _ v 12 240) wl_862 wl_863 wl_40 wl_864 (na := 3) (by decide +kernel) rfl ⟨Nat.le_of_ble_eq_true rfl, Nat.le_of_ble_eq_true rfl⟩ ⟨Nat.le_of_ble_eq_true rfl, Nat.le_of_ble_eq_true rfl⟩ hl.1 rfl (Nat.le_of_ble_eq_true rfl) dX11_isValue_35) (fun c10 => ?_) (fun c10 => ?_)
        · exact ge_i C hr rfl hlk (bI_t (by simp only [isVal]; (repeat' split) <;> first | exact c10 | contradiction | (subst_vars; contradiction) | (exfalso; simp_all; done))) dX11_isValue_38
        · exact ge_i C hr rfl hlk (bI_f (by simp only [isVal]; (repeat' split) <;> first | exact c10 | contradiction | (subst_vars; contradiction) | (exfalso; simp_all; done))) dX11_isValue_38
    · refine lv_bipush (v := 60) hx hb dX11_isValue_16 (by decide) ?_
      refine lv_goto (tgt := 35) hx hb dX11_isValue_18 (by decide) ?_
      refine gc_b (gr_S C B (As := [.int v, .int 12, .int 60]) (rest := []) (c_X11_in l D G τ α _ _ _ v 12 60) wl_862 wl_863 wl_40 wl_864 (na := 3) (by decide +kernel) rfl ⟨Nat.le_of_ble_eq_true rfl, Nat.le_of_ble_eq_true rfl⟩ ⟨Nat.le_of_ble_eq_true rfl, Nat.le_of_ble_eq_true rfl⟩ hl.1 rfl (Nat.le_of_ble_eq_true rfl) dX11_isValue_35) (fun c11 => ?_) (fun c11 => ?_)
      · exact ge_i C hr rfl hlk (bI_t (by simp only [isVal]; (repeat' split) <;> first | exact c11 | contradiction | (subst_vars; contradiction) | (exfalso; simp_all; done))) dX11_isValue_38
      · exact ge_i C hr rfl hlk (bI_f (by simp only [isVal]; (repeat' split) <;> first | exact c11 | contradiction | (subst_vars; contradiction) | (exfalso; simp_all; done))) dX11_isValue_38
