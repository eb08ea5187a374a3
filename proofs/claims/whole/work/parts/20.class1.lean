section GCL
variable {p : Program} {l : Launch} {e : Env} {R : Room} {s : State} {m : MethodId} {args : Array Value} {below : List Frame} {meth : Method} {c : Code} {H : Heap} {locs : List Loc} {cells slots : Nat} {Q : State → Prop}
variable {cc : ByteArray} {nL : Nat} {own : String} {pc : Nat} {ls : Array Slot} {rest : List Value}
theorem ge_q (C : CallFix p m c cc nL s args gL own) {r : Option Nat} {C0 : String} {post : Option Nat → Prop} (hr : meth.sig.returnType = some (.object C0)) (hlk : meth.locks = false) (hp : post r) (hdg : decode cc pc = .ok (.areturn, 1)) : W p l e R s m args below meth c s.heap [] cells slots (MQ below (va_Sq post) args s cells slots (fun _ => False)) (F0 m pc ls [va_rf r]) :=
  W.aret C.1 C.2.1 hr (Or.inl ⟨_, rfl⟩) (va_rf_or r) (fun t ht _ => ⟨r, rfl, hp, ht⟩) (fun q h => by cases h) hdg hlk
theorem gc_r {k : Nat} {a : Array Value} {st0 : List Value} (hr : va_Run p l e R s m args below meth c H locs cells slots 0 0 (F0 m pc ls st0) rest (va_Sq (fun r => r = some k) a) (fun _ => False)) (kk : W p l e R s m args below meth c H locs cells slots Q (F0 m (pc + 3) ls (.ref k :: rest))) : W p l e R s m args below meth c H locs cells slots Q (F0 m pc ls st0) := by
  refine gc_q hr (fun r h => ?_)
  subst h
  exact kk
end GCL
theorem nI_sub1 {k : Nat} : nI (k + 1) + (-1) = nI k := pk_m1 k
theorem i_m1 {x : Int32} (h : 0 ≤ x) (h2 : ¬ x < 0) : True := trivial
theorem inR_d {x a b : Int32} (h : a ≤ x ∧ x ≤ b) : inR x a b := h
set_option maxHeartbeats 4000000 in
set_option maxRecDepth 100000 in
theorem c_X5_answer (l : Launch) (D : va_G) (G : Nat → ClassId) (τ α : Nat → Nat) (S J : St) (n sz : Nat) (k : Int32) (hk : inR k 1 5) : Wl l D G τ yX5_answer cX5_answer 2 (some .long) 1 0 0 [.ref (α 1), .int k] α (cE G α S J n) (Lc n) sz (fun r u => r = (sNo S k).1 ∧ u = (α, cE G α (sNo S k).2 J n, Lc n)) := by
  refine gM _ (by decide) rfl (Nat.le_of_ble_eq_true rfl) ?_
  intro p e s m below meth c ls C hr hlk hnm hsz B hl
  have hx := C.1
  have hb := C.2.1
  have hl : lv_has ls 2 [(0, .ref (α 1)), (1, .int k)] := hl
  refine lv_iload_n hx hb dX5_answer_0 rfl (lv_at hl 1 rfl) ?_
  refine lv_iconst (v := 1) hx hb dX5_answer_1 (by decide) ?_
  refine lv_iconst (v := 5) hx hb dX5_answer_2 (by decide) ?_
  refine gc_b (gr_SN C B (As := [.int k, .int 1, .int 5]) (rest := []) (c_X10_isWithin l D G τ α _ _ _ k 1 5) (by decide +kernel : Cond.methodLinkNest RX5 15 yX10_isWithin RX10 ∈ gNs) wl_265 wl_29 wl_266 (na := 3) (by decide +kernel) rfl ⟨Nat.le_of_ble_eq_true rfl, Nat.le_of_ble_eq_true rfl⟩ ⟨Nat.le_of_ble_eq_true rfl, Nat.le_of_ble_eq_true rfl⟩ hl.1 rfl (Nat.le_of_ble_eq_true rfl) dX5_answer_3) (fun _ => ?_) (fun hc => absurd hk hc)
  refine lv_if_eq (tgt := 19) hx hb dX5_answer_6 (by decide) (fun hc => absurd hc (by decide)) (fun _ => ?_)
  refine lv_aload_n hx hb dX5_answer_9 rfl (lv_at hl 0 rfl) ?_
  refine g_get C B (1) (Lc_in (by decide)) cE_1 rfl gf_5 0 (by decide) wl_57 (v := .ref (α 2)) cF_1_0 dX5_answer_10 ?_
  refine lv_iload_n hx hb dX5_answer_13 rfl (lv_at hl 1 rfl) ?_
  refine lv_dup2_11 hx hb dX5_answer_14 rfl rfl ?_
  refine g_iald C B (2) (Lc_in (by decide)) (f := S.2.2.1 1) cE_2 (vp_rng hk (by decide) (by decide)) (j := k.toNatClampNeg) rfl dX5_answer_15 ?_
  refine lv_iconst (v := 1) hx hb dX5_answer_16 (by decide) ?_
  refine lv_iadd hx hb dX5_answer_17 ?_
  refine g_iast C B (2) (Lc_in (by decide)) (f := S.2.2.1 1) cE_2 (vp_rng hk (by decide) (by decide)) (j := k.toNatClampNeg) rfl dX5_answer_18 cU_2 (fun H locs B => ?_)
  refine g_ldc2 C wl_272 dX5_answer_19 ?_
  refine lv_iload_n hx hb dX5_answer_22 rfl (lv_at hl 1 rfl) ?_
  refine lv_i2l (v := k.toInt64) hx hb dX5_answer_23 rfl ?_
  refine lv_lsub hx hb dX5_answer_24 ?_
  exact ge_wl C B hr hlk (⟨rfl, rfl⟩) dX5_answer_25
set_option maxHeartbeats 4000000 in
set_option maxRecDepth 100000 in
theorem c_X10_thousandths (l : Launch) (D : va_G) (G : Nat → ClassId) (τ α : Nat → Nat) (E : Nat → va_E) (L : List Nat) (sz : Nat) (x : Int64) (h : Int32) : Rl l D G τ yX10_thousandths cX10_thousandths 3 (some .long) 0 [.long x, .int h] α E L sz (fun r => r = th x h) := by
  refine gM _ (by decide) rfl (Nat.le_of_ble_eq_true rfl) ?_
  intro p e s m below meth c ls C hr hlk hnm hsz B hl
  have hx := C.1
  have hb := C.2.1
  have hl : lv_has ls 3 [(0, .long x), (2, .int h)] := hl
  refine lv_lload_n hx hb dX10_thousandths_0 rfl (lv_at hl 0 rfl) ?_
  refine lv_iload_n hx hb dX10_thousandths_1 rfl (lv_at hl 1 rfl) ?_
  refine lv_i2l (v := h.toInt64) hx hb dX10_thousandths_2 rfl ?_
  refine lv_lmul hx hb dX10_thousandths_3 ?_
  refine g_ldc2 C wl_335 dX10_thousandths_4 ?_
  refine lv_ldiv hx hb dX10_thousandths_7 (by decide) ?_
  exact ge_l C hr hlk (rfl) dX10_thousandths_8
set_option maxHeartbeats 4000000 in
set_option maxRecDepth 100000 in
theorem c_X0_isFull (l : Launch) (D : va_G) (G : Nat → ClassId) (τ α : Nat → Nat) (S J : St) (n sz : Nat) : Ri l D G τ yX0_isFull cX0_isFull 1 (some .boolean) 0 [.ref (α 9)] α (cE G α S J n) (Lc n) sz (fun r => r = bI (30 ≤ S.1 8)) := by
  refine gM _ (by decide) rfl (Nat.le_of_ble_eq_true rfl) ?_
  intro p e s m below meth c ls C hr hlk hnm hsz B hl
  have hx := C.1
  have hb := C.2.1
  have hl : lv_has ls 1 [(0, .ref (α 9))] := hl
  refine lv_aload_n hx hb dX0_isFull_0 rfl (lv_at hl 0 rfl) ?_
  refine g_get C B (9) (Lc_in (by decide)) cE_9 rfl gf_0 1 (by decide) wl_96 (v := .int (S.1 8)) cF_9_1 dX0_isFull_1 ?_
  refine lv_bipush (v := 30) hx hb dX0_isFull_4 (by decide) ?_
  refine lv_icmp_lt (tgt := 13) hx hb dX0_isFull_6 (by decide) (fun c1 => ?_) (fun c1 => ?_)
  · refine lv_iconst (v := 0) hx hb dX0_isFull_13 (by decide) ?_
    exact ge_i C hr rfl hlk (bI_f (by simp only [i3l, i3e, i3q, inR, isC, isD, zi_0, zi_1, zi_2, zi_3, zi_4, zi_5, zi_6, zi_7, zi_8, zi_9, zi_10, zi_12, zi_20, zi_21, zi_30, zi_60, zi_90, zi_99, zi_100, zi_180, zi_240, zi_400, zi_500, zi_1000, zi_1199, zi_10000, zi_100000, zi_1000000, i3m1] at c1 ⊢; omega)) dX0_isFull_14
  · refine lv_iconst (v := 1) hx hb dX0_isFull_9 (by decide) ?_
    refine lv_goto (tgt := 14) hx hb dX0_isFull_10 (by decide) ?_
    exact ge_i C hr rfl hlk (bI_t (by simp only [i3l, i3e, i3q, inR, isC, isD, zi_0, zi_1, zi_2, zi_3, zi_4, zi_5, zi_6, zi_7, zi_8, zi_9, zi_10, zi_12, zi_20, zi_21, zi_30, zi_60, zi_90, zi_99, zi_100, zi_180, zi_240, zi_400, zi_500, zi_1000, zi_1199, zi_10000, zi_100000, zi_1000000, i3m1] at c1 ⊢; omega)) dX0_isFull_14
set_option maxHeartbeats 4000000 in
set_option maxRecDepth 100000 in
theorem c_X0_areFatesFull (l : Launch) (D : va_G) (G : Nat → ClassId) (τ α : Nat → Nat) (S J : St) (n sz : Nat) : Ri l D G τ yX0_areFatesFull cX0_areFatesFull 1 (some .boolean) 0 [.ref (α 9)] α (cE G α S J n) (Lc n) sz (fun r => r = bI (90 ≤ S.1 10)) := by
  refine gM _ (by decide) rfl (Nat.le_of_ble_eq_true rfl) ?_
  intro p e s m below meth c ls C hr hlk hnm hsz B hl
  have hx := C.1
  have hb := C.2.1
  have hl : lv_has ls 1 [(0, .ref (α 9))] := hl
  refine lv_aload_n hx hb dX0_areFatesFull_0 rfl (lv_at hl 0 rfl) ?_
  refine g_get C B (9) (Lc_in (by decide)) cE_9 rfl gf_0 6 (by decide) wl_102 (v := .int (S.1 10)) cF_9_6 dX0_areFatesFull_1 ?_
  refine lv_bipush (v := 90) hx hb dX0_areFatesFull_4 (by decide) ?_
  refine lv_icmp_lt (tgt := 13) hx hb dX0_areFatesFull_6 (by decide) (fun c1 => ?_) (fun c1 => ?_)
  · refine lv_iconst (v := 0) hx hb dX0_areFatesFull_13 (by decide) ?_
    exact ge_i C hr rfl hlk (bI_f (by simp only [i3l, i3e, i3q, inR, isC, isD, zi_0, zi_1, zi_2, zi_3, zi_4, zi_5, zi_6, zi_7, zi_8, zi_9, zi_10, zi_12, zi_20, zi_21, zi_30, zi_60, zi_90, zi_99, zi_100, zi_180, zi_240, zi_400, zi_500, zi_1000, zi_1199, zi_10000, zi_100000, zi_1000000, i3m1] at c1 ⊢; omega)) dX0_areFatesFull_14
  · refine lv_iconst (v := 1) hx hb dX0_areFatesFull_9 (by decide) ?_
    refine lv_goto (tgt := 14) hx hb dX0_areFatesFull_10 (by decide) ?_
    exact ge_i C hr rfl hlk (bI_t (by simp only [i3l, i3e, i3q, inR, isC, isD, zi_0, zi_1, zi_2, zi_3, zi_4, zi_5, zi_6, zi_7, zi_8, zi_9, zi_10, zi_12, zi_20, zi_21, zi_30, zi_60, zi_90, zi_99, zi_100, zi_180, zi_240, zi_400, zi_500, zi_1000, zi_1199, zi_10000, zi_100000, zi_1000000, i3m1] at c1 ⊢; omega)) dX0_areFatesFull_14
set_option maxHeartbeats 4000000 in
set_option maxRecDepth 100000 in
theorem c_X1_isFull (l : Launch) (D : va_G) (G : Nat → ClassId) (τ α : Nat → Nat) (S J : St) (n sz : Nat) : Ri l D G τ yX1_isFull cX1_isFull 1 (some .boolean) 0 [.ref (α 3)] α (cE G α S J n) (Lc n) sz (fun r => r = bI (60 ≤ S.1 2)) := by
  refine gM _ (by decide) rfl (Nat.le_of_ble_eq_true rfl) ?_
  intro p e s m below meth c ls C hr hlk hnm hsz B hl
  have hx := C.1
  have hb := C.2.1
  have hl : lv_has ls 1 [(0, .ref (α 3))] := hl
  refine lv_aload_n hx hb dX1_isFull_0 rfl (lv_at hl 0 rfl) ?_
  refine g_get C B (3) (Lc_in (by decide)) cE_3 rfl gf_1 4 (by decide) wl_73 (v := .int (S.1 2)) cF_3_4 dX1_isFull_1 ?_
  refine lv_bipush (v := 60) hx hb dX1_isFull_4 (by decide) ?_
  refine lv_icmp_lt (tgt := 13) hx hb dX1_isFull_6 (by decide) (fun c1 => ?_) (fun c1 => ?_)
  · refine lv_iconst (v := 0) hx hb dX1_isFull_13 (by decide) ?_
    exact ge_i C hr rfl hlk (bI_f (by simp only [i3l, i3e, i3q, inR, isC, isD, zi_0, zi_1, zi_2, zi_3, zi_4, zi_5, zi_6, zi_7, zi_8, zi_9, zi_10, zi_12, zi_20, zi_21, zi_30, zi_60, zi_90, zi_99, zi_100, zi_180, zi_240, zi_400, zi_500, zi_1000, zi_1199, zi_10000, zi_100000, zi_1000000, i3m1] at c1 ⊢; omega)) dX1_isFull_14
  · refine lv_iconst (v := 1) hx hb dX1_isFull_9 (by decide) ?_
    refine lv_goto (tgt := 14) hx hb dX1_isFull_10 (by decide) ?_
    exact ge_i C hr rfl hlk (bI_t (by simp only [i3l, i3e, i3q, inR, isC, isD, zi_0, zi_1, zi_2, zi_3, zi_4, zi_5, zi_6, zi_7, zi_8, zi_9, zi_10, zi_12, zi_20, zi_21, zi_30, zi_60, zi_90, zi_99, zi_100, zi_180, zi_240, zi_400, zi_500, zi_1000, zi_1199, zi_10000, zi_100000, zi_1000000, i3m1] at c1 ⊢; omega)) dX1_isFull_14
set_option maxHeartbeats 4000000 in
set_option maxRecDepth 100000 in
theorem c_X3_isFull (l : Launch) (D : va_G) (G : Nat → ClassId) (τ α : Nat → Nat) (S J : St) (n sz : Nat) : Ri l D G τ yX3_isFull cX3_isFull 1 (some .boolean) 0 [.ref (α 15)] α (cE G α S J n) (Lc n) sz (fun r => r = bI (30 ≤ S.1 15)) := by
  refine gM _ (by decide) rfl (Nat.le_of_ble_eq_true rfl) ?_
  intro p e s m below meth c ls C hr hlk hnm hsz B hl
  have hx := C.1
  have hb := C.2.1
  have hl : lv_has ls 1 [(0, .ref (α 15))] := hl
  refine lv_aload_n hx hb dX3_isFull_0 rfl (lv_at hl 0 rfl) ?_
  refine g_get C B (15) (Lc_in (by decide)) cE_15 rfl gf_3 1 (by decide) wl_128 (v := .int (S.1 15)) cF_15_1 dX3_isFull_1 ?_
  refine lv_bipush (v := 30) hx hb dX3_isFull_4 (by decide) ?_
  refine lv_icmp_lt (tgt := 13) hx hb dX3_isFull_6 (by decide) (fun c1 => ?_) (fun c1 => ?_)
  · refine lv_iconst (v := 0) hx hb dX3_isFull_13 (by decide) ?_
    exact ge_i C hr rfl hlk (bI_f (by simp only [i3l, i3e, i3q, inR, isC, isD, zi_0, zi_1, zi_2, zi_3, zi_4, zi_5, zi_6, zi_7, zi_8, zi_9, zi_10, zi_12, zi_20, zi_21, zi_30, zi_60, zi_90, zi_99, zi_100, zi_180, zi_240, zi_400, zi_500, zi_1000, zi_1199, zi_10000, zi_100000, zi_1000000, i3m1] at c1 ⊢; omega)) dX3_isFull_14
  · refine lv_iconst (v := 1) hx hb dX3_isFull_9 (by decide) ?_
    refine lv_goto (tgt := 14) hx hb dX3_isFull_10 (by decide) ?_
    exact ge_i C hr rfl hlk (bI_t (by simp only [i3l, i3e, i3q, inR, isC, isD, zi_0, zi_1, zi_2, zi_3, zi_4, zi_5, zi_6, zi_7, zi_8, zi_9, zi_10, zi_12, zi_20, zi_21, zi_30, zi_60, zi_90, zi_99, zi_100, zi_180, zi_240, zi_400, zi_500, zi_1000, zi_1199, zi_10000, zi_100000, zi_1000000, i3m1] at c1 ⊢; omega)) dX3_isFull_14
set_option maxHeartbeats 4000000 in
set_option maxRecDepth 100000 in
theorem c_X9_isFull (l : Launch) (D : va_G) (G : Nat → ClassId) (τ α : Nat → Nat) (S J : St) (n sz : Nat) : Ri l D G τ yX9_isFull cX9_isFull 1 (some .boolean) 0 [.ref (α 25)] α (cE G α S J n) (Lc n) sz (fun r => r = bI (30 ≤ S.1 37)) := by
  refine gM _ (by decide) rfl (Nat.le_of_ble_eq_true rfl) ?_
  intro p e s m below meth c ls C hr hlk hnm hsz B hl
  have hx := C.1
  have hb := C.2.1
  have hl : lv_has ls 1 [(0, .ref (α 25))] := hl
  refine lv_aload_n hx hb dX9_isFull_0 rfl (lv_at hl 0 rfl) ?_
  refine g_get C B (25) (Lc_in (by decide)) cE_25 rfl gf_9 1 (by decide) wl_219 (v := .int (S.1 37)) cF_25_1 dX9_isFull_1 ?_
  refine lv_bipush (v := 30) hx hb dX9_isFull_4 (by decide) ?_
  refine lv_icmp_lt (tgt := 13) hx hb dX9_isFull_6 (by decide) (fun c1 => ?_) (fun c1 => ?_)
  · refine lv_iconst (v := 0) hx hb dX9_isFull_13 (by decide) ?_
    exact ge_i C hr rfl hlk (bI_f (by simp only [i3l, i3e, i3q, inR, isC, isD, zi_0, zi_1, zi_2, zi_3, zi_4, zi_5, zi_6, zi_7, zi_8, zi_9, zi_10, zi_12, zi_20, zi_21, zi_30, zi_60, zi_90, zi_99, zi_100, zi_180, zi_240, zi_400, zi_500, zi_1000, zi_1199, zi_10000, zi_100000, zi_1000000, i3m1] at c1 ⊢; omega)) dX9_isFull_14
  · refine lv_iconst (v := 1) hx hb dX9_isFull_9 (by decide) ?_
    refine lv_goto (tgt := 14) hx hb dX9_isFull_10 (by decide) ?_
    exact ge_i C hr rfl hlk (bI_t (by simp only [i3l, i3e, i3q, inR, isC, isD, zi_0, zi_1, zi_2, zi_3, zi_4, zi_5, zi_6, zi_7, zi_8, zi_9, zi_10, zi_12, zi_20, zi_21, zi_30, zi_60, zi_90, zi_99, zi_100, zi_180, zi_240, zi_400, zi_500, zi_1000, zi_1199, zi_10000, zi_100000, zi_1000000, i3m1] at c1 ⊢; omega)) dX9_isFull_14
set_option maxHeartbeats 4000000 in
set_option maxRecDepth 100000 in
theorem c_X0_has (l : Launch) (D : va_G) (G : Nat → ClassId) (τ α : Nat → Nat) (S J : St) (n sz : Nat) (v : Int32) : Ri l D G τ yX0_has cX0_has 2 (some .boolean) 0 [.ref (α 9), .int v] α (cE G α S J n) (Lc n) sz (fun r => r = bI (isC S v)) := by
  refine gM _ (by decide) rfl (Nat.le_of_ble_eq_true rfl) ?_
  intro p e s m below meth c ls C hr hlk hnm hsz B hl
  have hx := C.1
  have hb := C.2.1
  have hl : lv_has ls 2 [(0, .ref (α 9)), (1, .int v)] := hl
  refine lv_iload_n hx hb dX0_has_0 rfl (lv_at hl 1 rfl) ?_
  refine lv_if_lt (tgt := 16) hx hb dX0_has_1 (by decide) (fun c1 => ?_) (fun c1 => ?_)
  · refine lv_iconst (v := 0) hx hb dX0_has_16 (by decide) ?_
    exact ge_i C hr rfl hlk (bI_f (by simp only [i3l, i3e, i3q, inR, isC, isD, zi_0, zi_1, zi_2, zi_3, zi_4, zi_5, zi_6, zi_7, zi_8, zi_9, zi_10, zi_12, zi_20, zi_21, zi_30, zi_60, zi_90, zi_99, zi_100, zi_180, zi_240, zi_400, zi_500, zi_1000, zi_1199, zi_10000, zi_100000, zi_1000000, i3m1] at c1 ⊢; omega)) dX0_has_17
  · refine lv_iload_n hx hb dX0_has_4 rfl (lv_at hl 1 rfl) ?_
    refine lv_aload_n hx hb dX0_has_5 rfl (lv_at hl 0 rfl) ?_
    refine g_get C B (9) (Lc_in (by decide)) cE_9 rfl gf_0 1 (by decide) wl_96 (v := .int (S.1 8)) cF_9_1 dX0_has_6 ?_
    refine lv_icmp_ge (tgt := 16) hx hb dX0_has_9 (by decide) (fun c2 => ?_) (fun c2 => ?_)
    · refine lv_iconst (v := 0) hx hb dX0_has_16 (by decide) ?_
      exact ge_i C hr rfl hlk (bI_f (by simp only [i3l, i3e, i3q, inR, isC, isD, zi_0, zi_1, zi_2, zi_3, zi_4, zi_5, zi_6, zi_7, zi_8, zi_9, zi_10, zi_12, zi_20, zi_21, zi_30, zi_60, zi_90, zi_99, zi_100, zi_180, zi_240, zi_400, zi_500, zi_1000, zi_1199, zi_10000, zi_100000, zi_1000000, i3m1] at c1 c2 ⊢; omega)) dX0_has_17
    · refine lv_iconst (v := 1) hx hb dX0_has_12 (by decide) ?_
      refine lv_goto (tgt := 17) hx hb dX0_has_13 (by decide) ?_
      exact ge_i C hr rfl hlk (bI_t (by simp only [i3l, i3e, i3q, inR, isC, isD, zi_0, zi_1, zi_2, zi_3, zi_4, zi_5, zi_6, zi_7, zi_8, zi_9, zi_10, zi_12, zi_20, zi_21, zi_30, zi_60, zi_90, zi_99, zi_100, zi_180, zi_240, zi_400, zi_500, zi_1000, zi_1199, zi_10000, zi_100000, zi_1000000, i3m1] at c1 c2 ⊢; omega)) dX0_has_17
set_option maxHeartbeats 4000000 in
set_option maxRecDepth 100000 in
theorem c_X0_fateOf (l : Launch) (D : va_G) (G : Nat → ClassId) (τ α : Nat → Nat) (S J : St) (n sz : Nat) (f : Nat) (hf : f < 90) : Ri l D G τ yX0_fateOf cX0_fateOf 2 (some .int) 1 [.ref (α 9), .int (nI f)] α (cE G α S J n) (Lc n) sz (fun r => r = S.2.2.1 12 f) := by
  refine gM _ (by decide) rfl (Nat.le_of_ble_eq_true rfl) ?_
  intro p e s m below meth c ls C hr hlk hnm hsz B hl
  have hx := C.1
  have hb := C.2.1
  have hl : lv_has ls 2 [(0, .ref (α 9)), (1, .int (nI f))] := hl
  refine lv_iload_n hx hb dX0_fateOf_0 rfl (lv_at hl 1 rfl) ?_
  refine lv_iconst (v := 0) hx hb dX0_fateOf_1 (by decide) ?_
  refine lv_bipush (v := 89) hx hb dX0_fateOf_2 (by decide) ?_
  refine gc_b (gr_SN C B (As := [.int (nI f), .int 0, .int 89]) (rest := []) (c_X10_isWithin l D G τ α _ _ _ (nI f) 0 89) (by decide +kernel : Cond.methodLinkNest RX0 38 yX10_isWithin RX10 ∈ gNs) wl_265 wl_29 wl_266 (na := 3) (by decide +kernel) rfl ⟨Nat.le_of_ble_eq_true rfl, Nat.le_of_ble_eq_true rfl⟩ ⟨Nat.le_of_ble_eq_true rfl, Nat.le_of_ble_eq_true rfl⟩ hl.1 rfl (Nat.le_of_ble_eq_true rfl) dX0_fateOf_4) (fun _ => ?_) (fun hc => absurd (⟨nI_pos' (by omega), nI_le (b := 89) (by omega) (by decide)⟩ : inR (nI f) 0 89) hc)
  refine lv_if_eq (tgt := 19) hx hb dX0_fateOf_7 (by decide) (fun hc => absurd hc (by decide)) (fun _ => ?_)
  refine lv_aload_n hx hb dX0_fateOf_10 rfl (lv_at hl 0 rfl) ?_
  refine g_get C B (9) (Lc_in (by decide)) cE_9 rfl gf_0 3 (by decide) wl_99 (v := .ref (α 12)) cF_9_3 dX0_fateOf_11 ?_
  refine lv_iload_n hx hb dX0_fateOf_14 rfl (lv_at hl 1 rfl) ?_
  refine g_iald C B (12) (Lc_in (by decide)) (f := S.2.2.1 12) cE_12 (vp_in_nI (by omega) (by omega)) (j := f) (nI_clamp (by omega)) dX0_fateOf_15 ?_
  refine lv_goto (tgt := 20) hx hb dX0_fateOf_16 (by decide) ?_
  exact ge_i C hr rfl hlk (rfl) dX0_fateOf_20
set_option maxHeartbeats 4000000 in
set_option maxRecDepth 100000 in
theorem c_X0_monthOf (l : Launch) (D : va_G) (G : Nat → ClassId) (τ α : Nat → Nat) (S J : St) (n sz : Nat) (f : Nat) (hf : f < 90) : Ri l D G τ yX0_monthOf cX0_monthOf 2 (some .int) 1 [.ref (α 9), .int (nI f)] α (cE G α S J n) (Lc n) sz (fun r => r = S.2.2.1 13 f) := by
  refine gM _ (by decide) rfl (Nat.le_of_ble_eq_true rfl) ?_
  intro p e s m below meth c ls C hr hlk hnm hsz B hl
  have hx := C.1
  have hb := C.2.1
  have hl : lv_has ls 2 [(0, .ref (α 9)), (1, .int (nI f))] := hl
  refine lv_iload_n hx hb dX0_monthOf_0 rfl (lv_at hl 1 rfl) ?_
  refine lv_iconst (v := 0) hx hb dX0_monthOf_1 (by decide) ?_
  refine lv_bipush (v := 89) hx hb dX0_monthOf_2 (by decide) ?_
  refine gc_b (gr_SN C B (As := [.int (nI f), .int 0, .int 89]) (rest := []) (c_X10_isWithin l D G τ α _ _ _ (nI f) 0 89) (by decide +kernel : Cond.methodLinkNest RX0 38 yX10_isWithin RX10 ∈ gNs) wl_265 wl_29 wl_266 (na := 3) (by decide +kernel) rfl ⟨Nat.le_of_ble_eq_true rfl, Nat.le_of_ble_eq_true rfl⟩ ⟨Nat.le_of_ble_eq_true rfl, Nat.le_of_ble_eq_true rfl⟩ hl.1 rfl (Nat.le_of_ble_eq_true rfl) dX0_monthOf_4) (fun _ => ?_) (fun hc => absurd (⟨nI_pos' (by omega), nI_le (b := 89) (by omega) (by decide)⟩ : inR (nI f) 0 89) hc)
  refine lv_if_eq (tgt := 19) hx hb dX0_monthOf_7 (by decide) (fun hc => absurd hc (by decide)) (fun _ => ?_)
  refine lv_aload_n hx hb dX0_monthOf_10 rfl (lv_at hl 0 rfl) ?_
  refine g_get C B (9) (Lc_in (by decide)) cE_9 rfl gf_0 4 (by decide) wl_100 (v := .ref (α 13)) cF_9_4 dX0_monthOf_11 ?_
  refine lv_iload_n hx hb dX0_monthOf_14 rfl (lv_at hl 1 rfl) ?_
  refine g_iald C B (13) (Lc_in (by decide)) (f := S.2.2.1 13) cE_13 (vp_in_nI (by omega) (by omega)) (j := f) (nI_clamp (by omega)) dX0_monthOf_15 ?_
  refine lv_goto (tgt := 20) hx hb dX0_monthOf_16 (by decide) ?_
  exact ge_i C hr rfl hlk (rfl) dX0_monthOf_20
set_option maxHeartbeats 4000000 in
set_option maxRecDepth 100000 in
theorem c_X0_birthOf (l : Launch) (D : va_G) (G : Nat → ClassId) (τ α : Nat → Nat) (S J : St) (n sz : Nat) (v : Int32) (hc9 : isC S v) (hN : okN S) : Ri l D G τ yX0_birthOf cX0_birthOf 2 (some .int) 1 [.ref (α 9), .int v] α (cE G α S J n) (Lc n) sz (fun r => r = S.2.2.1 9 v.toNatClampNeg) := by
  refine gM _ (by decide) rfl (Nat.le_of_ble_eq_true rfl) ?_
  intro p e s m below meth c ls C hr hlk hnm hsz B hl
  have hx := C.1
  have hb := C.2.1
  have hl : lv_has ls 2 [(0, .ref (α 9)), (1, .int v)] := hl
  refine lv_iload_n hx hb dX0_birthOf_0 rfl (lv_at hl 1 rfl) ?_
  refine lv_iconst (v := 0) hx hb dX0_birthOf_1 (by decide) ?_
  refine lv_bipush (v := 29) hx hb dX0_birthOf_2 (by decide) ?_
  refine gc_b (gr_SN C B (As := [.int v, .int 0, .int 29]) (rest := []) (c_X10_isWithin l D G τ α _ _ _ v 0 29) (by decide +kernel : Cond.methodLinkNest RX0 38 yX10_isWithin RX10 ∈ gNs) wl_265 wl_29 wl_266 (na := 3) (by decide +kernel) rfl ⟨Nat.le_of_ble_eq_true rfl, Nat.le_of_ble_eq_true rfl⟩ ⟨Nat.le_of_ble_eq_true rfl, Nat.le_of_ble_eq_true rfl⟩ hl.1 rfl (Nat.le_of_ble_eq_true rfl) dX0_birthOf_4) (fun _ => ?_) (fun hc => absurd (⟨hc9.1, by have h8 := hN.2.2.1.2; simp only [i3l, i3e, i3q, inR, isC, isD, zi_0, zi_1, zi_2, zi_3, zi_4, zi_5, zi_6, zi_7, zi_8, zi_9, zi_10, zi_12, zi_20, zi_21, zi_30, zi_60, zi_90, zi_99, zi_100, zi_180, zi_240, zi_400, zi_500, zi_1000, zi_1199, zi_10000, zi_100000, zi_1000000, i3m1, show Int32.toInt 29 = 29 from rfl] at hc9 h8 ⊢; omega⟩ : inR v 0 29) hc)
  refine lv_if_eq (tgt := 19) hx hb dX0_birthOf_7 (by decide) (fun hc => absurd hc (by decide)) (fun _ => ?_)
  refine lv_aload_n hx hb dX0_birthOf_10 rfl (lv_at hl 0 rfl) ?_
  refine g_get C B (9) (Lc_in (by decide)) cE_9 rfl gf_0 0 (by decide) wl_95 (v := .ref (α 10)) cF_9_0 dX0_birthOf_11 ?_
  refine lv_iload_n hx hb dX0_birthOf_14 rfl (lv_at hl 1 rfl) ?_
  refine g_iald C B (10) (Lc_in (by decide)) (f := S.2.2.1 9) cE_10 (vp_cnt hc9 hN.2.2.1.2 (by decide)) (j := v.toNatClampNeg) rfl dX0_birthOf_15 ?_
  refine lv_goto (tgt := 20) hx hb dX0_birthOf_16 (by decide) ?_
  exact ge_i C hr rfl hlk (rfl) dX0_birthOf_20
set_option maxHeartbeats 4000000 in
set_option maxRecDepth 100000 in
theorem c_X0_add (l : Launch) (D : va_G) (G : Nat → ClassId) (τ α : Nat → Nat) (S J : St) (n sz : Nat) (mo : Int32) (hf : ¬ 30 ≤ S.1 8) (h0 : 0 ≤ S.1 8) : Wv l D G τ yX0_add cX0_add 2 none 1 0 0 [.ref (α 9), .int mo] α (cE G α S J n) (Lc n) sz (fun u => u = (α, cE G α (uI (uA S 9 (upd (S.2.2.1 9) (nOf S 8) mo)) 8 (S.1 8 + 1)) J n, Lc n)) := by
  refine gM _ (by decide) rfl (Nat.le_of_ble_eq_true rfl) ?_
  intro p e s m below meth c ls C hr hlk hnm hsz B hl
  have hx := C.1
  have hb := C.2.1
  have hl : lv_has ls 2 [(0, .ref (α 9)), (1, .int mo)] := hl
  have hi9 : vp_in (S.1 8) 30 := vp_le (M := 29) h0 (by simp only [i3l, i3e, i3q, inR, isC, isD, zi_0, zi_1, zi_2, zi_3, zi_4, zi_5, zi_6, zi_7, zi_8, zi_9, zi_10, zi_12, zi_20, zi_21, zi_30, zi_60, zi_90, zi_99, zi_100, zi_180, zi_240, zi_400, zi_500, zi_1000, zi_1199, zi_10000, zi_100000, zi_1000000, i3m1, show Int32.toInt 29 = 29 from rfl] at hf ⊢; omega) (by decide)
  refine lv_aload_n hx hb dX0_add_0 rfl (lv_at hl 0 rfl) ?_
  refine gc_b (gr_V C B (k := 9) (As := []) (rest := []) (c_X0_isFull l D G τ α S J n _) (Lc_in (by decide)) cE_9 rfl wl_439 wl_432 wl_433 wl_33 wl_434 (na := 0) (by decide +kernel) rfl ⟨Nat.le_of_ble_eq_true rfl, Nat.le_of_ble_eq_true rfl⟩ ⟨Nat.le_of_ble_eq_true rfl, Nat.le_of_ble_eq_true rfl⟩ hl.1 rfl (Nat.le_of_ble_eq_true rfl) dX0_add_1) (fun hc => absurd hc hf) (fun _ => ?_)
  refine lv_if_eq (tgt := 8) hx hb dX0_add_4 (by decide) (fun _ => ?_) (fun hc => absurd (by decide) hc)
  refine lv_aload_n hx hb dX0_add_8 rfl (lv_at hl 0 rfl) ?_
  refine g_get C B (9) (Lc_in (by decide)) cE_9 rfl gf_0 0 (by decide) wl_95 (v := .ref (α 10)) cF_9_0 dX0_add_9 ?_
  refine lv_aload_n hx hb dX0_add_12 rfl (lv_at hl 0 rfl) ?_
  refine g_get C B (9) (Lc_in (by decide)) cE_9 rfl gf_0 1 (by decide) wl_96 (v := .int (S.1 8)) cF_9_1 dX0_add_13 ?_
  refine lv_iload_n hx hb dX0_add_16 rfl (lv_at hl 1 rfl) ?_
  refine g_iast C B (10) (Lc_in (by decide)) (f := S.2.2.1 9) cE_10 (by assumption) (j := (S.1 8).toNatClampNeg) rfl dX0_add_17 cU_10 (fun H locs B => ?_)
  refine lv_aload_n hx hb dX0_add_18 rfl (lv_at hl 0 rfl) ?_
  refine lv_dup hx hb dX0_add_19 rfl ?_
  refine g_get C B (9) (Lc_in (by decide)) cE_9 rfl gf_0 1 (by decide) wl_96 (v := .int (S.1 8)) cF_9_1 dX0_add_20 ?_
  refine lv_iconst (v := 1) hx hb dX0_add_23 (by decide) ?_
  refine lv_iadd hx hb dX0_add_24 ?_
  refine g_put C B (9) (Lc_in (by decide)) cE_9 rfl gf_0 tyX0 tyX0_ok nmX0 1 (by decide) wl_96 rfl (ty := .int) (v := .int (S.1 8 + 1)) (by decide +kernel) rfl rfl (Nat.le_of_ble_eq_true rfl) dX0_add_25 cO_9_1 (fun H locs B => ?_)
  exact ge_wv C B hr hlk (rfl) dX0_add_28
set_option maxHeartbeats 4000000 in
set_option maxRecDepth 100000 in
theorem c_X0_addFate (l : Launch) (D : va_G) (G : Nat → ClassId) (τ α : Nat → Nat) (S J : St) (n sz : Nat) (ch f mo nw : Int32) (hf : ¬ 90 ≤ S.1 10) (h0 : 0 ≤ S.1 10) : Wv l D G τ yX0_addFate cX0_addFate 5 none 1 0 0 [.ref (α 9), .int ch, .int f, .int mo, .int nw] α (cE G α S J n) (Lc n) sz (fun u => u = (α, cE G α (uI (uA (uA (uA (uA S 11 (upd (S.2.2.1 11) (nOf S 10) ch)) 12 (upd (S.2.2.1 12) (nOf S 10) f)) 13 (upd (S.2.2.1 13) (nOf S 10) mo)) 14 (upd (S.2.2.1 14) (nOf S 10) nw)) 10 (S.1 10 + 1)) J n, Lc n)) := by
  refine gM _ (by decide) rfl (Nat.le_of_ble_eq_true rfl) ?_
  intro p e s m below meth c ls C hr hlk hnm hsz B hl
  have hx := C.1
  have hb := C.2.1
  have hl : lv_has ls 5 [(0, .ref (α 9)), (1, .int ch), (2, .int f), (3, .int mo), (4, .int nw)] := hl
  have hi9 : vp_in (S.1 10) 90 := vp_le (M := 89) h0 (by simp only [i3l, i3e, i3q, inR, isC, isD, zi_0, zi_1, zi_2, zi_3, zi_4, zi_5, zi_6, zi_7, zi_8, zi_9, zi_10, zi_12, zi_20, zi_21, zi_30, zi_60, zi_90, zi_99, zi_100, zi_180, zi_240, zi_400, zi_500, zi_1000, zi_1199, zi_10000, zi_100000, zi_1000000, i3m1, show Int32.toInt 89 = 89 from rfl] at hf ⊢; omega) (by decide)
  refine lv_aload_n hx hb dX0_addFate_0 rfl (lv_at hl 0 rfl) ?_
  refine gc_b (gr_V C B (k := 9) (As := []) (rest := []) (c_X0_areFatesFull l D G τ α S J n _) (Lc_in (by decide)) cE_9 rfl wl_460 wl_453 wl_454 wl_33 wl_455 (na := 0) (by decide +kernel) rfl ⟨Nat.le_of_ble_eq_true rfl, Nat.le_of_ble_eq_true rfl⟩ ⟨Nat.le_of_ble_eq_true rfl, Nat.le_of_ble_eq_true rfl⟩ hl.1 rfl (Nat.le_of_ble_eq_true rfl) dX0_addFate_1) (fun hc => absurd hc hf) (fun _ => ?_)
  refine lv_if_eq (tgt := 8) hx hb dX0_addFate_4 (by decide) (fun _ => ?_) (fun hc => absurd (by decide) hc)
  refine lv_aload_n hx hb dX0_addFate_8 rfl (lv_at hl 0 rfl) ?_
  refine g_get C B (9) (Lc_in (by decide)) cE_9 rfl gf_0 2 (by decide) wl_98 (v := .ref (α 11)) cF_9_2 dX0_addFate_9 ?_
  refine lv_aload_n hx hb dX0_addFate_12 rfl (lv_at hl 0 rfl) ?_
  refine g_get C B (9) (Lc_in (by decide)) cE_9 rfl gf_0 6 (by decide) wl_102 (v := .int (S.1 10)) cF_9_6 dX0_addFate_13 ?_
  refine lv_iload_n hx hb dX0_addFate_16 rfl (lv_at hl 1 rfl) ?_
  refine g_iast C B (11) (Lc_in (by decide)) (f := S.2.2.1 11) cE_11 (by assumption) (j := (S.1 10).toNatClampNeg) rfl dX0_addFate_17 cU_11 (fun H locs B => ?_)
  refine lv_aload_n hx hb dX0_addFate_18 rfl (lv_at hl 0 rfl) ?_
  refine g_get C B (9) (Lc_in (by decide)) cE_9 rfl gf_0 3 (by decide) wl_99 (v := .ref (α 12)) cF_9_3 dX0_addFate_19 ?_
  refine lv_aload_n hx hb dX0_addFate_22 rfl (lv_at hl 0 rfl) ?_
  refine g_get C B (9) (Lc_in (by decide)) cE_9 rfl gf_0 6 (by decide) wl_102 (v := .int (S.1 10)) cF_9_6 dX0_addFate_23 ?_
  refine lv_iload_n hx hb dX0_addFate_26 rfl (lv_at hl 2 rfl) ?_
  refine g_iast C B (12) (Lc_in (by decide)) (f := S.2.2.1 12) cE_12 (by assumption) (j := (S.1 10).toNatClampNeg) rfl dX0_addFate_27 cU_12 (fun H locs B => ?_)
  refine lv_aload_n hx hb dX0_addFate_28 rfl (lv_at hl 0 rfl) ?_
  refine g_get C B (9) (Lc_in (by decide)) cE_9 rfl gf_0 4 (by decide) wl_100 (v := .ref (α 13)) cF_9_4 dX0_addFate_29 ?_
  refine lv_aload_n hx hb dX0_addFate_32 rfl (lv_at hl 0 rfl) ?_
  refine g_get C B (9) (Lc_in (by decide)) cE_9 rfl gf_0 6 (by decide) wl_102 (v := .int (S.1 10)) cF_9_6 dX0_addFate_33 ?_
  refine lv_iload_n hx hb dX0_addFate_36 rfl (lv_at hl 3 rfl) ?_
  refine g_iast C B (13) (Lc_in (by decide)) (f := S.2.2.1 13) cE_13 (by assumption) (j := (S.1 10).toNatClampNeg) rfl dX0_addFate_37 cU_13 (fun H locs B => ?_)
  refine lv_aload_n hx hb dX0_addFate_38 rfl (lv_at hl 0 rfl) ?_
  refine g_get C B (9) (Lc_in (by decide)) cE_9 rfl gf_0 5 (by decide) wl_101 (v := .ref (α 14)) cF_9_5 dX0_addFate_39 ?_
  refine lv_aload_n hx hb dX0_addFate_42 rfl (lv_at hl 0 rfl) ?_
  refine g_get C B (9) (Lc_in (by decide)) cE_9 rfl gf_0 6 (by decide) wl_102 (v := .int (S.1 10)) cF_9_6 dX0_addFate_43 ?_
  refine lv_iload hx hb dX0_addFate_46 (lv_at hl 4 rfl) ?_
  refine g_iast C B (14) (Lc_in (by decide)) (f := S.2.2.1 14) cE_14 (by assumption) (j := (S.1 10).toNatClampNeg) rfl dX0_addFate_48 cU_14 (fun H locs B => ?_)
  refine lv_aload_n hx hb dX0_addFate_49 rfl (lv_at hl 0 rfl) ?_
  refine lv_dup hx hb dX0_addFate_50 rfl ?_
  refine g_get C B (9) (Lc_in (by decide)) cE_9 rfl gf_0 6 (by decide) wl_102 (v := .int (S.1 10)) cF_9_6 dX0_addFate_51 ?_
  refine lv_iconst (v := 1) hx hb dX0_addFate_54 (by decide) ?_
  refine lv_iadd hx hb dX0_addFate_55 ?_
  refine g_put C B (9) (Lc_in (by decide)) cE_9 rfl gf_0 tyX0 tyX0_ok nmX0 6 (by decide) wl_102 rfl (ty := .int) (v := .int (S.1 10 + 1)) (by decide +kernel) rfl rfl (Nat.le_of_ble_eq_true rfl) dX0_addFate_56 cO_9_6 (fun H locs B => ?_)
  exact ge_wv C B hr hlk (rfl) dX0_addFate_59
set_option maxHeartbeats 4000000 in
set_option maxRecDepth 100000 in
theorem c_X1_add (l : Launch) (D : va_G) (G : Nat → ClassId) (τ α : Nat → Nat) (S J : St) (n sz : Nat) (kind fr v nw : Int32) (hf : ¬ 60 ≤ S.1 2) (h0 : 0 ≤ S.1 2) : Wv l D G τ yX1_add cX1_add 5 none 1 0 0 [.ref (α 3), .int kind, .int fr, .int v, .int nw] α (cE G α S J n) (Lc n) sz (fun u => u = (α, cE G α (uI (uA (uA (uA (uA S 3 (upd (S.2.2.1 3) (nOf S 2) kind)) 4 (upd (S.2.2.1 4) (nOf S 2) fr)) 5 (upd (S.2.2.1 5) (nOf S 2) v)) 6 (upd (S.2.2.1 6) (nOf S 2) nw)) 2 (S.1 2 + 1)) J n, Lc n)) := by
  refine gM _ (by decide) rfl (Nat.le_of_ble_eq_true rfl) ?_
  intro p e s m below meth c ls C hr hlk hnm hsz B hl
  have hx := C.1
  have hb := C.2.1
  have hl : lv_has ls 5 [(0, .ref (α 3)), (1, .int kind), (2, .int fr), (3, .int v), (4, .int nw)] := hl
  have hi9 : vp_in (S.1 2) 60 := vp_le (M := 59) h0 (by simp only [i3l, i3e, i3q, inR, isC, isD, zi_0, zi_1, zi_2, zi_3, zi_4, zi_5, zi_6, zi_7, zi_8, zi_9, zi_10, zi_12, zi_20, zi_21, zi_30, zi_60, zi_90, zi_99, zi_100, zi_180, zi_240, zi_400, zi_500, zi_1000, zi_1199, zi_10000, zi_100000, zi_1000000, i3m1, show Int32.toInt 59 = 59 from rfl] at hf ⊢; omega) (by decide)
  refine lv_aload_n hx hb dX1_add_0 rfl (lv_at hl 0 rfl) ?_
  refine gc_b (gr_V C B (k := 3) (As := []) (rest := []) (c_X1_isFull l D G τ α S J n _) (Lc_in (by decide)) cE_3 rfl wl_417 wl_410 wl_411 wl_31 wl_412 (na := 0) (by decide +kernel) rfl ⟨Nat.le_of_ble_eq_true rfl, Nat.le_of_ble_eq_true rfl⟩ ⟨Nat.le_of_ble_eq_true rfl, Nat.le_of_ble_eq_true rfl⟩ hl.1 rfl (Nat.le_of_ble_eq_true rfl) dX1_add_1) (fun hc => absurd hc hf) (fun _ => ?_)
  refine lv_if_eq (tgt := 8) hx hb dX1_add_4 (by decide) (fun _ => ?_) (fun hc => absurd (by decide) hc)
  refine lv_aload_n hx hb dX1_add_8 rfl (lv_at hl 0 rfl) ?_
  refine g_get C B (3) (Lc_in (by decide)) cE_3 rfl gf_1 0 (by decide) wl_69 (v := .ref (α 4)) cF_3_0 dX1_add_9 ?_
  refine lv_aload_n hx hb dX1_add_12 rfl (lv_at hl 0 rfl) ?_
  refine g_get C B (3) (Lc_in (by decide)) cE_3 rfl gf_1 4 (by decide) wl_73 (v := .int (S.1 2)) cF_3_4 dX1_add_13 ?_
  refine lv_iload_n hx hb dX1_add_16 rfl (lv_at hl 1 rfl) ?_
  refine g_iast C B (4) (Lc_in (by decide)) (f := S.2.2.1 3) cE_4 (by assumption) (j := (S.1 2).toNatClampNeg) rfl dX1_add_17 cU_4 (fun H locs B => ?_)
  refine lv_aload_n hx hb dX1_add_18 rfl (lv_at hl 0 rfl) ?_
  refine g_get C B (3) (Lc_in (by decide)) cE_3 rfl gf_1 1 (by decide) wl_70 (v := .ref (α 5)) cF_3_1 dX1_add_19 ?_
  refine lv_aload_n hx hb dX1_add_22 rfl (lv_at hl 0 rfl) ?_
  refine g_get C B (3) (Lc_in (by decide)) cE_3 rfl gf_1 4 (by decide) wl_73 (v := .int (S.1 2)) cF_3_4 dX1_add_23 ?_
  refine lv_iload_n hx hb dX1_add_26 rfl (lv_at hl 2 rfl) ?_
  refine g_iast C B (5) (Lc_in (by decide)) (f := S.2.2.1 4) cE_5 (by assumption) (j := (S.1 2).toNatClampNeg) rfl dX1_add_27 cU_5 (fun H locs B => ?_)
  refine lv_aload_n hx hb dX1_add_28 rfl (lv_at hl 0 rfl) ?_
  refine g_get C B (3) (Lc_in (by decide)) cE_3 rfl gf_1 2 (by decide) wl_71 (v := .ref (α 6)) cF_3_2 dX1_add_29 ?_
  refine lv_aload_n hx hb dX1_add_32 rfl (lv_at hl 0 rfl) ?_
  refine g_get C B (3) (Lc_in (by decide)) cE_3 rfl gf_1 4 (by decide) wl_73 (v := .int (S.1 2)) cF_3_4 dX1_add_33 ?_
  refine lv_iload_n hx hb dX1_add_36 rfl (lv_at hl 3 rfl) ?_
  refine g_iast C B (6) (Lc_in (by decide)) (f := S.2.2.1 5) cE_6 (by assumption) (j := (S.1 2).toNatClampNeg) rfl dX1_add_37 cU_6 (fun H locs B => ?_)
  refine lv_aload_n hx hb dX1_add_38 rfl (lv_at hl 0 rfl) ?_
  refine g_get C B (3) (Lc_in (by decide)) cE_3 rfl gf_1 3 (by decide) wl_72 (v := .ref (α 7)) cF_3_3 dX1_add_39 ?_
  refine lv_aload_n hx hb dX1_add_42 rfl (lv_at hl 0 rfl) ?_
  refine g_get C B (3) (Lc_in (by decide)) cE_3 rfl gf_1 4 (by decide) wl_73 (v := .int (S.1 2)) cF_3_4 dX1_add_43 ?_
  refine lv_iload hx hb dX1_add_46 (lv_at hl 4 rfl) ?_
  refine g_iast C B (7) (Lc_in (by decide)) (f := S.2.2.1 6) cE_7 (by assumption) (j := (S.1 2).toNatClampNeg) rfl dX1_add_48 cU_7 (fun H locs B => ?_)
  refine lv_aload_n hx hb dX1_add_49 rfl (lv_at hl 0 rfl) ?_
  refine lv_dup hx hb dX1_add_50 rfl ?_
  refine g_get C B (3) (Lc_in (by decide)) cE_3 rfl gf_1 4 (by decide) wl_73 (v := .int (S.1 2)) cF_3_4 dX1_add_51 ?_
  refine lv_iconst (v := 1) hx hb dX1_add_54 (by decide) ?_
  refine lv_iadd hx hb dX1_add_55 ?_
  refine g_put C B (3) (Lc_in (by decide)) cE_3 rfl gf_1 tyX1 tyX1_ok nmX1 4 (by decide) wl_73 rfl (ty := .int) (v := .int (S.1 2 + 1)) (by decide +kernel) rfl rfl (Nat.le_of_ble_eq_true rfl) dX1_add_56 cO_3_4 (fun H locs B => ?_)
  exact ge_wv C B hr hlk (rfl) dX1_add_59
set_option maxHeartbeats 4000000 in
set_option maxRecDepth 100000 in
theorem c_X9_add (l : Launch) (D : va_G) (G : Nat → ClassId) (τ α : Nat → Nat) (S J : St) (n sz : Nat) (v : Int32) (hf : ¬ 30 ≤ S.1 37) (h0 : 0 ≤ S.1 37) : Wv l D G τ yX9_add cX9_add 2 none 1 0 0 [.ref (α 25), .int v] α (cE G α S J n) (Lc n) sz (fun u => u = (α, cE G α (uI (uA S 38 (upd (S.2.2.1 38) (nOf S 37) v)) 37 (S.1 37 + 1)) J n, Lc n)) := by
  refine gM _ (by decide) rfl (Nat.le_of_ble_eq_true rfl) ?_
  intro p e s m below meth c ls C hr hlk hnm hsz B hl
  have hx := C.1
  have hb := C.2.1
  have hl : lv_has ls 2 [(0, .ref (α 25)), (1, .int v)] := hl
  have hi9 : vp_in (S.1 37) 30 := vp_le (M := 29) h0 (by simp only [i3l, i3e, i3q, inR, isC, isD, zi_0, zi_1, zi_2, zi_3, zi_4, zi_5, zi_6, zi_7, zi_8, zi_9, zi_10, zi_12, zi_20, zi_21, zi_30, zi_60, zi_90, zi_99, zi_100, zi_180, zi_240, zi_400, zi_500, zi_1000, zi_1199, zi_10000, zi_100000, zi_1000000, i3m1, show Int32.toInt 29 = 29 from rfl] at hf ⊢; omega) (by decide)
  refine lv_aload_n hx hb dX9_add_0 rfl (lv_at hl 0 rfl) ?_
  refine gc_b (gr_V C B (k := 25) (As := []) (rest := []) (c_X9_isFull l D G τ α S J n _) (Lc_in (by decide)) cE_25 rfl wl_700 wl_693 wl_694 wl_39 wl_695 (na := 0) (by decide +kernel) rfl ⟨Nat.le_of_ble_eq_true rfl, Nat.le_of_ble_eq_true rfl⟩ ⟨Nat.le_of_ble_eq_true rfl, Nat.le_of_ble_eq_true rfl⟩ hl.1 rfl (Nat.le_of_ble_eq_true rfl) dX9_add_1) (fun hc => absurd hc hf) (fun _ => ?_)
  refine lv_if_eq (tgt := 8) hx hb dX9_add_4 (by decide) (fun _ => ?_) (fun hc => absurd (by decide) hc)
  refine lv_aload_n hx hb dX9_add_8 rfl (lv_at hl 0 rfl) ?_
  refine g_get C B (25) (Lc_in (by decide)) cE_25 rfl gf_9 0 (by decide) wl_217 (v := .ref (α 26)) cF_25_0 dX9_add_9 ?_
  refine lv_aload_n hx hb dX9_add_12 rfl (lv_at hl 0 rfl) ?_
  refine g_get C B (25) (Lc_in (by decide)) cE_25 rfl gf_9 1 (by decide) wl_219 (v := .int (S.1 37)) cF_25_1 dX9_add_13 ?_
  refine lv_iload_n hx hb dX9_add_16 rfl (lv_at hl 1 rfl) ?_
  refine g_iast C B (26) (Lc_in (by decide)) (f := S.2.2.1 38) cE_26 (by assumption) (j := (S.1 37).toNatClampNeg) rfl dX9_add_17 cU_26 (fun H locs B => ?_)
  refine lv_aload_n hx hb dX9_add_18 rfl (lv_at hl 0 rfl) ?_
  refine lv_dup hx hb dX9_add_19 rfl ?_
  refine g_get C B (25) (Lc_in (by decide)) cE_25 rfl gf_9 1 (by decide) wl_219 (v := .int (S.1 37)) cF_25_1 dX9_add_20 ?_
  refine lv_iconst (v := 1) hx hb dX9_add_23 (by decide) ?_
  refine lv_iadd hx hb dX9_add_24 ?_
  refine g_put C B (25) (Lc_in (by decide)) cE_25 rfl gf_9 tyX9 tyX9_ok nmX9 1 (by decide) wl_219 rfl (ty := .int) (v := .int (S.1 37 + 1)) (by decide +kernel) rfl rfl (Nat.le_of_ble_eq_true rfl) dX9_add_25 cO_25_1 (fun H locs B => ?_)
  exact ge_wv C B hr hlk (rfl) dX9_add_28
theorem gf_val {kind v : Int32} (h : inR kind 0 5) : inR v (gf0 kind.toNatClampNeg) (gf1 kind.toNatClampNeg) ↔ isVal kind v := by
  obtain ⟨h1, h2, h3, h4⟩ := inR_nat h (by decide)
  simp only [zi_0, zi_5] at h3 h4
  have e0 : (kind = 0) ↔ kind.toNatClampNeg = 0 := by simp only [i3q, zi_0]; omega
  have e5 : (kind = 5) ↔ kind.toNatClampNeg = 5 := by simp only [i3q, zi_5]; omega
  simp only [isVal, gf0, gf1, e0, e5]
set_option maxHeartbeats 4000000 in
set_option maxRecDepth 100000 in
theorem c_X1_mayBe (l : Launch) (D : va_G) (G : Nat → ClassId) (τ α : Nat → Nat) (E : Nat → va_E) (L : List Nat) (sz : Nat) (kind v : Int32) : Ri l D G τ yX1_mayBe cX1_mayBe 2 (some .boolean) 2 [.int kind, .int v] α E L sz (fun r => r = bI (inR kind 0 5 ∧ isVal kind v)) := by
  refine gM _ (by decide) rfl (Nat.le_of_ble_eq_true rfl) ?_
  intro p e s m below meth c ls C hr hlk hnm hsz B hl
  have hx := C.1
  have hb := C.2.1
  have hl : lv_has ls 2 [(0, .int kind), (1, .int v)] := hl
  refine lv_iload_n hx hb dX1_mayBe_0 rfl (lv_at hl 0 rfl) ?_
  refine gc_b (gr_S C B (As := [.int kind]) (rest := []) (c_X1_isKind l D G τ α _ _ _ kind) wl_318 wl_319 wl_31 wl_320 (na := 1) (by decide +kernel) rfl ⟨Nat.le_of_ble_eq_true rfl, Nat.le_of_ble_eq_true rfl⟩ ⟨Nat.le_of_ble_eq_true rfl, Nat.le_of_ble_eq_true rfl⟩ hl.1 rfl (Nat.le_of_ble_eq_true rfl) dX1_mayBe_1) (fun c1 => ?_) (fun c1 => ?_)
  · refine lv_if_eq (tgt := 28) hx hb dX1_mayBe_4 (by decide) (fun hc => absurd hc (by decide)) (fun _ => ?_)
    refine lv_iload_n hx hb dX1_mayBe_7 rfl (lv_at hl 1 rfl) ?_
    refine g_sget C B B.1.2.2.2.1.1 wl_405 dX1_mayBe_8 ?_
    refine lv_iload_n hx hb dX1_mayBe_11 rfl (lv_at hl 0 rfl) ?_
    refine g_sald C B B.1.2.2.2.1.2 (vp_rng c1 (by decide) (by decide)) (j := kind.toNatClampNeg) rfl dX1_mayBe_12 ?_
    refine g_sget C B B.1.2.2.2.2.1.1 wl_407 dX1_mayBe_13 ?_
    refine lv_iload_n hx hb dX1_mayBe_16 rfl (lv_at hl 0 rfl) ?_
    refine g_sald C B B.1.2.2.2.2.1.2 (vp_rng c1 (by decide) (by decide)) (j := kind.toNatClampNeg) rfl dX1_mayBe_17 ?_
    refine gc_b (gr_SN C B (As := [.int v, .int (gf0 kind.toNatClampNeg), .int (gf1 kind.toNatClampNeg)]) (rest := []) (c_X10_isWithin l D G τ α _ _ _ v (gf0 kind.toNatClampNeg) (gf1 kind.toNatClampNeg)) (by decide +kernel : Cond.methodLinkNest RX1 28 yX10_isWithin RX10 ∈ gNs) wl_265 wl_29 wl_266 (na := 3) (by decide +kernel) rfl ⟨Nat.le_of_ble_eq_true rfl, Nat.le_of_ble_eq_true rfl⟩ ⟨Nat.le_of_ble_eq_true rfl, Nat.le_of_ble_eq_true rfl⟩ hl.1 rfl (Nat.le_of_ble_eq_true rfl) dX1_mayBe_18) (fun c2 => ?_) (fun c2 => ?_)
    · refine lv_if_eq (tgt := 28) hx hb dX1_mayBe_21 (by decide) (fun hc => absurd hc (by decide)) (fun _ => ?_)
      refine lv_iconst (v := 1) hx hb dX1_mayBe_24 (by decide) ?_
      refine lv_goto (tgt := 29) hx hb dX1_mayBe_25 (by decide) ?_
      exact ge_i C hr rfl hlk (bI_t ⟨c1, (gf_val c1).mp c2⟩) dX1_mayBe_29
    · refine lv_if_eq (tgt := 28) hx hb dX1_mayBe_21 (by decide) (fun _ => ?_) (fun hc => absurd (by decide) hc)
      refine lv_iconst (v := 0) hx hb dX1_mayBe_28 (by decide) ?_
      exact ge_i C hr rfl hlk (bI_f (fun h9 => c2 ((gf_val c1).mpr h9.2))) dX1_mayBe_29
  · refine lv_if_eq (tgt := 28) hx hb dX1_mayBe_4 (by decide) (fun _ => ?_) (fun hc => absurd (by decide) hc)
    refine lv_iconst (v := 0) hx hb dX1_mayBe_28 (by decide) ?_
    exact ge_i C hr rfl hlk (bI_f (fun h9 => c1 h9.1)) dX1_mayBe_29
theorem dflt_in {kind : Int32} (h : inR kind 0 5) : gf2 kind.toNatClampNeg = dflt kind := by
  obtain ⟨h1, h2, h3, h4⟩ := inR_nat h (by decide)
  simp only [zi_0, zi_5] at h3 h4
  have e1 : (kind = 1) ↔ kind.toNatClampNeg = 1 := by simp only [i3q, zi_1]; omega
  have e2 : (kind = 2) ↔ kind.toNatClampNeg = 2 := by simp only [i3q, zi_2]; omega
  have e5 : (kind = 5) ↔ kind.toNatClampNeg = 5 := by simp only [i3q, zi_5]; omega
  simp only [dflt, gf2, e1, e2, e5]
theorem dflt_out {kind : Int32} (h : ¬ inR kind 0 5) : dflt kind = 0 := by
  rw [dflt, if_neg (fun e => h (by rw [e]; decide)), if_neg (fun e => h (by rw [e]; decide)), if_neg (fun e => h (by rw [e]; decide))]
set_option maxHeartbeats 4000000 in
set_option maxRecDepth 100000 in
theorem c_X1_inForce (l : Launch) (D : va_G) (G : Nat → ClassId) (τ α : Nat → Nat) (S J : St) (n sz : Nat) (kind month known : Int32) (hN : okN S) : Ri l D G τ yX1_inForce cX1_inForce 8 (some .int) 2 [.ref (α 3), .int kind, .int month, .int known] α (cE G α S J n) (Lc n) sz (fun r => r = sInf S kind month known) := by
  refine gM _ (by decide) rfl (Nat.le_of_ble_eq_true rfl) ?_
  intro p e s m below meth c ls C hr hlk hnm hsz B hl
  have hx := C.1
  have hb := C.2.1
  have hl : lv_has ls 8 [(0, .ref (α 3)), (1, .int kind), (2, .int month), (3, .int known)] := hl
  have hNe := nOf_eq hN.2.1.1
  have hNl : nOf S 2 ≤ 60 := nOf_le hN.2.1.1 hN.2.1.2 (by decide)
  have loop : ∀ (nn kk : Nat) (fd9 : Int32) (lt9 : Int32) (ls : Array Slot), nn + kk = nOf S 2 → (infL S kind month known kk = (fd9, lt9)) → lv_has ls 8 [(6, .int (nI kk)), (5, .int lt9), (4, .int fd9), (0, .ref (α 3)), (1, .int kind), (2, .int month), (3, .int known)] → W p l e (rmd 2 0 0) s m [.ref (α 3), .int kind, .int month, .int known].toArray below meth c s.heap [] 0 0 (MQ below (vp_Si (fun r => r = sInf S kind month known)) [.ref (α 3), .int kind, .int month, .int known].toArray s 0 0 (fun _ => False)) (F0 m 24 ls []) := by
    intro nn
    induction nn with
    | zero =>
      intro kk fd9 lt9 ls hk hI hl
      refine lv_iload hx hb dX1_inForce_24 (lv_at hl 0 rfl) ?_
      refine lv_aload_n hx hb dX1_inForce_26 rfl (lv_at hl 3 rfl) ?_
      refine g_get C B (3) (Lc_in (by decide)) cE_3 rfl gf_1 4 (by decide) wl_73 (v := .int (S.1 2)) cF_3_4 dX1_inForce_27 ?_
      refine lv_icmp_ge (tgt := 121) hx hb dX1_inForce_30 (by decide) (fun _ => ?_) (fun hc => absurd (by rw [hNe]; exact nI_le (by omega) (by omega)) hc)
      refine lv_iload hx hb dX1_inForce_121 (lv_at hl 2 rfl) ?_
      exact ge_i C hr rfl hlk (by rw [sInf, show nOf S 2 = kk by omega, hI]) dX1_inForce_123
    | succ nn ih =>
      intro kk fd9 lt9 ls hk hI hl
      refine lv_iload hx hb dX1_inForce_24 (lv_at hl 0 rfl) ?_
      refine lv_aload_n hx hb dX1_inForce_26 rfl (lv_at hl 3 rfl) ?_
      refine g_get C B (3) (Lc_in (by decide)) cE_3 rfl gf_1 4 (by decide) wl_73 (v := .int (S.1 2)) cF_3_4 dX1_inForce_27 ?_
      refine lv_icmp_ge (tgt := 121) hx hb dX1_inForce_30 (by decide) (fun hc => absurd hc (by rw [hNe]; exact nI_ge (by omega) (by omega))) (fun _ => ?_)
      refine lv_iload hx hb dX1_inForce_33 (lv_at hl 0 rfl) ?_
      refine lv_bipush (v := 60) hx hb dX1_inForce_35 (by decide) ?_
      refine lv_icmp_ge (tgt := 121) hx hb dX1_inForce_37 (by decide) (fun hc => absurd hc (nI_ge (b := 60) (by omega) (by decide))) (fun _ => ?_)
      refine lv_aload_n hx hb dX1_inForce_40 rfl (lv_at hl 3 rfl) ?_
      refine g_get C B (3) (Lc_in (by decide)) cE_3 rfl gf_1 0 (by decide) wl_69 (v := .ref (α 4)) cF_3_0 dX1_inForce_41 ?_
      refine lv_iload hx hb dX1_inForce_44 (lv_at hl 0 rfl) ?_
      refine g_iald C B (4) (Lc_in (by decide)) (f := S.2.2.1 3) cE_4 (vp_in_nI (by omega) (by omega)) (j := kk) (nI_clamp (by omega)) dX1_inForce_46 ?_
      refine lv_iload_n hx hb dX1_inForce_47 rfl (lv_at hl 4 rfl) ?_
      refine lv_icmp_ne (tgt := 77) hx hb dX1_inForce_48 (by decide) (fun c1 => ?_) (fun c1 => ?_)
      · refine lv_iconst (v := 0) hx hb dX1_inForce_77 (by decide) ?_
        refine lv_istore (lv' := [(7, .int 0), (6, .int (nI kk)), (5, .int lt9), (4, .int fd9), (0, .ref (α 3)), (1, .int kind), (2, .int month), (3, .int known)]) hx hb dX1_inForce_78 hl (by decide) rfl (fun ls hl => ?_)
        refine lv_iload hx hb dX1_inForce_80 (lv_at hl 0 rfl) ?_
        refine lv_if_eq (tgt := 115) hx hb dX1_inForce_82 (by decide) (fun _ => ?_) (fun hc => absurd (by decide) hc)
        refine lv_iinc (v := ((nI kk) + 1)) (lv' := [(6, .int ((nI kk) + 1)), (7, .int 0), (5, .int lt9), (4, .int fd9), (0, .ref (α 3)), (1, .int kind), (2, .int month), (3, .int known)]) hx hb dX1_inForce_115 hl (k := 1) rfl rfl (by decide) rfl (fun ls hl => ?_)
        refine lv_goto (tgt := 24) hx hb dX1_inForce_118 (by decide) ?_
        exact ih (kk + 1) fd9 lt9 ls (by omega) (by rw [infL, hI, if_neg (by simp only [i3l, i3e, i3q, inR, isC, isD, zi_0, zi_1, zi_2, zi_3, zi_4, zi_5, zi_6, zi_7, zi_8, zi_9, zi_10, zi_12, zi_20, zi_21, zi_30, zi_60, zi_90, zi_99, zi_100, zi_180, zi_240, zi_400, zi_500, zi_1000, zi_1199, zi_10000, zi_100000, zi_1000000, i3m1] at c1 ⊢; omega)]) (by have h9 := lv_sub (l' := [(6, .int ((nI kk) + 1)), (5, .int lt9), (4, .int fd9), (0, .ref (α 3)), (1, .int kind), (2, .int month), (3, .int known)]) hl [0, 2, 3, 4, 5, 6, 7] rfl; rw [nI_1] at h9; exact h9)
      · refine lv_aload_n hx hb dX1_inForce_51 rfl (lv_at hl 3 rfl) ?_
        refine g_get C B (3) (Lc_in (by decide)) cE_3 rfl gf_1 3 (by decide) wl_72 (v := .ref (α 7)) cF_3_3 dX1_inForce_52 ?_
        refine lv_iload hx hb dX1_inForce_55 (lv_at hl 0 rfl) ?_
        refine g_iald C B (7) (Lc_in (by decide)) (f := S.2.2.1 6) cE_7 (vp_in_nI (by omega) (by omega)) (j := kk) (nI_clamp (by omega)) dX1_inForce_57 ?_
        refine lv_iload_n hx hb dX1_inForce_58 rfl (lv_at hl 6 rfl) ?_
        refine lv_icmp_gt (tgt := 77) hx hb dX1_inForce_59 (by decide) (fun c2 => ?_) (fun c2 => ?_)
        · refine lv_iconst (v := 0) hx hb dX1_inForce_77 (by decide) ?_
          refine lv_istore (lv' := [(7, .int 0), (6, .int (nI kk)), (5, .int lt9), (4, .int fd9), (0, .ref (α 3)), (1, .int kind), (2, .int month), (3, .int known)]) hx hb dX1_inForce_78 hl (by decide) rfl (fun ls hl => ?_)
          refine lv_iload hx hb dX1_inForce_80 (lv_at hl 0 rfl) ?_
          refine lv_if_eq (tgt := 115) hx hb dX1_inForce_82 (by decide) (fun _ => ?_) (fun hc => absurd (by decide) hc)
          refine lv_iinc (v := ((nI kk) + 1)) (lv' := [(6, .int ((nI kk) + 1)), (7, .int 0), (5, .int lt9), (4, .int fd9), (0, .ref (α 3)), (1, .int kind), (2, .int month), (3, .int known)]) hx hb dX1_inForce_115 hl (k := 1) rfl rfl (by decide) rfl (fun ls hl => ?_)
          refine lv_goto (tgt := 24) hx hb dX1_inForce_118 (by decide) ?_
          exact ih (kk + 1) fd9 lt9 ls (by omega) (by rw [infL, hI, if_neg (by simp only [i3l, i3e, i3q, inR, isC, isD, zi_0, zi_1, zi_2, zi_3, zi_4, zi_5, zi_6, zi_7, zi_8, zi_9, zi_10, zi_12, zi_20, zi_21, zi_30, zi_60, zi_90, zi_99, zi_100, zi_180, zi_240, zi_400, zi_500, zi_1000, zi_1199, zi_10000, zi_100000, zi_1000000, i3m1] at c1 c2 ⊢; omega)]) (by have h9 := lv_sub (l' := [(6, .int ((nI kk) + 1)), (5, .int lt9), (4, .int fd9), (0, .ref (α 3)), (1, .int kind), (2, .int month), (3, .int known)]) hl [0, 2, 3, 4, 5, 6, 7] rfl; rw [nI_1] at h9; exact h9)
        · refine lv_aload_n hx hb dX1_inForce_62 rfl (lv_at hl 3 rfl) ?_
          refine g_get C B (3) (Lc_in (by decide)) cE_3 rfl gf_1 1 (by decide) wl_70 (v := .ref (α 5)) cF_3_1 dX1_inForce_63 ?_
          refine lv_iload hx hb dX1_inForce_66 (lv_at hl 0 rfl) ?_
          refine g_iald C B (5) (Lc_in (by decide)) (f := S.2.2.1 4) cE_5 (vp_in_nI (by omega) (by omega)) (j := kk) (nI_clamp (by omega)) dX1_inForce_68 ?_
          refine lv_iload_n hx hb dX1_inForce_69 rfl (lv_at hl 5 rfl) ?_
          refine lv_icmp_gt (tgt := 77) hx hb dX1_inForce_70 (by decide) (fun c3 => ?_) (fun c3 => ?_)
          · refine lv_iconst (v := 0) hx hb dX1_inForce_77 (by decide) ?_
            refine lv_istore (lv' := [(7, .int 0), (6, .int (nI kk)), (5, .int lt9), (4, .int fd9), (0, .ref (α 3)), (1, .int kind), (2, .int month), (3, .int known)]) hx hb dX1_inForce_78 hl (by decide) rfl (fun ls hl => ?_)
            refine lv_iload hx hb dX1_inForce_80 (lv_at hl 0 rfl) ?_
            refine lv_if_eq (tgt := 115) hx hb dX1_inForce_82 (by decide) (fun _ => ?_) (fun hc => absurd (by decide) hc)
            refine lv_iinc (v := ((nI kk) + 1)) (lv' := [(6, .int ((nI kk) + 1)), (7, .int 0), (5, .int lt9), (4, .int fd9), (0, .ref (α 3)), (1, .int kind), (2, .int month), (3, .int known)]) hx hb dX1_inForce_115 hl (k := 1) rfl rfl (by decide) rfl (fun ls hl => ?_)
            refine lv_goto (tgt := 24) hx hb dX1_inForce_118 (by decide) ?_
            exact ih (kk + 1) fd9 lt9 ls (by omega) (by rw [infL, hI, if_neg (by simp only [i3l, i3e, i3q, inR, isC, isD, zi_0, zi_1, zi_2, zi_3, zi_4, zi_5, zi_6, zi_7, zi_8, zi_9, zi_10, zi_12, zi_20, zi_21, zi_30, zi_60, zi_90, zi_99, zi_100, zi_180, zi_240, zi_400, zi_500, zi_1000, zi_1199, zi_10000, zi_100000, zi_1000000, i3m1] at c1 c2 c3 ⊢; omega)]) (by have h9 := lv_sub (l' := [(6, .int ((nI kk) + 1)), (5, .int lt9), (4, .int fd9), (0, .ref (α 3)), (1, .int kind), (2, .int month), (3, .int known)]) hl [0, 2, 3, 4, 5, 6, 7] rfl; rw [nI_1] at h9; exact h9)
          · refine lv_iconst (v := 1) hx hb dX1_inForce_73 (by decide) ?_
            refine lv_goto (tgt := 78) hx hb dX1_inForce_74 (by decide) ?_
            refine lv_istore (lv' := [(7, .int 1), (6, .int (nI kk)), (5, .int lt9), (4, .int fd9), (0, .ref (α 3)), (1, .int kind), (2, .int month), (3, .int known)]) hx hb dX1_inForce_78 hl (by decide) rfl (fun ls hl => ?_)
            refine lv_iload hx hb dX1_inForce_80 (lv_at hl 0 rfl) ?_
            refine lv_if_eq (tgt := 115) hx hb dX1_inForce_82 (by decide) (fun hc => absurd hc (by decide)) (fun _ => ?_)
            refine lv_aload_n hx hb dX1_inForce_85 rfl (lv_at hl 4 rfl) ?_
            refine g_get C B (3) (Lc_in (by decide)) cE_3 rfl gf_1 1 (by decide) wl_70 (v := .ref (α 5)) cF_3_1 dX1_inForce_86 ?_
            refine lv_iload hx hb dX1_inForce_89 (lv_at hl 1 rfl) ?_
            refine g_iald C B (5) (Lc_in (by decide)) (f := S.2.2.1 4) cE_5 (vp_in_nI (by omega) (by omega)) (j := kk) (nI_clamp (by omega)) dX1_inForce_91 ?_
            refine lv_iload hx hb dX1_inForce_92 (lv_at hl 2 rfl) ?_
            refine lv_icmp_lt (tgt := 115) hx hb dX1_inForce_94 (by decide) (fun c4 => ?_) (fun c4 => ?_)
            · refine lv_iinc (v := ((nI kk) + 1)) (lv' := [(6, .int ((nI kk) + 1)), (7, .int 1), (5, .int lt9), (4, .int fd9), (0, .ref (α 3)), (1, .int kind), (2, .int month), (3, .int known)]) hx hb dX1_inForce_115 hl (k := 1) rfl rfl (by decide) rfl (fun ls hl => ?_)
              refine lv_goto (tgt := 24) hx hb dX1_inForce_118 (by decide) ?_
              exact ih (kk + 1) fd9 lt9 ls (by omega) (by rw [infL, hI, if_neg (by simp only [i3l, i3e, i3q, inR, isC, isD, zi_0, zi_1, zi_2, zi_3, zi_4, zi_5, zi_6, zi_7, zi_8, zi_9, zi_10, zi_12, zi_20, zi_21, zi_30, zi_60, zi_90, zi_99, zi_100, zi_180, zi_240, zi_400, zi_500, zi_1000, zi_1199, zi_10000, zi_100000, zi_1000000, i3m1] at c1 c2 c3 c4 ⊢; omega)]) (by have h9 := lv_sub (l' := [(6, .int ((nI kk) + 1)), (5, .int lt9), (4, .int fd9), (0, .ref (α 3)), (1, .int kind), (2, .int month), (3, .int known)]) hl [0, 2, 3, 4, 5, 6, 7] rfl; rw [nI_1] at h9; exact h9)
            · refine lv_aload_n hx hb dX1_inForce_97 rfl (lv_at hl 4 rfl) ?_
              refine g_get C B (3) (Lc_in (by decide)) cE_3 rfl gf_1 2 (by decide) wl_71 (v := .ref (α 6)) cF_3_2 dX1_inForce_98 ?_
              refine lv_iload hx hb dX1_inForce_101 (lv_at hl 1 rfl) ?_
              refine g_iald C B (6) (Lc_in (by decide)) (f := S.2.2.1 5) cE_6 (vp_in_nI (by omega) (by omega)) (j := kk) (nI_clamp (by omega)) dX1_inForce_103 ?_
              refine lv_istore (lv' := [(4, .int (S.2.2.1 5 kk)), (7, .int 1), (6, .int (nI kk)), (5, .int lt9), (0, .ref (α 3)), (1, .int kind), (2, .int month), (3, .int known)]) hx hb dX1_inForce_104 hl (by decide) rfl (fun ls hl => ?_)
              refine lv_aload_n hx hb dX1_inForce_106 rfl (lv_at hl 4 rfl) ?_
              refine g_get C B (3) (Lc_in (by decide)) cE_3 rfl gf_1 1 (by decide) wl_70 (v := .ref (α 5)) cF_3_1 dX1_inForce_107 ?_
              refine lv_iload hx hb dX1_inForce_110 (lv_at hl 2 rfl) ?_
              refine g_iald C B (5) (Lc_in (by decide)) (f := S.2.2.1 4) cE_5 (vp_in_nI (by omega) (by omega)) (j := kk) (nI_clamp (by omega)) dX1_inForce_112 ?_
              refine lv_istore (lv' := [(5, .int (S.2.2.1 4 kk)), (4, .int (S.2.2.1 5 kk)), (7, .int 1), (6, .int (nI kk)), (0, .ref (α 3)), (1, .int kind), (2, .int month), (3, .int known)]) hx hb dX1_inForce_113 hl (by decide) rfl (fun ls hl => ?_)
              refine lv_iinc (v := ((nI kk) + 1)) (lv' := [(6, .int ((nI kk) + 1)), (5, .int (S.2.2.1 4 kk)), (4, .int (S.2.2.1 5 kk)), (7, .int 1), (0, .ref (α 3)), (1, .int kind), (2, .int month), (3, .int known)]) hx hb dX1_inForce_115 hl (k := 3) rfl rfl (by decide) rfl (fun ls hl => ?_)
              refine lv_goto (tgt := 24) hx hb dX1_inForce_118 (by decide) ?_
              exact ih (kk + 1) (S.2.2.1 5 kk) (S.2.2.1 4 kk) ls (by omega) (by rw [infL, hI, if_pos (by simp only [i3l, i3e, i3q, inR, isC, isD, zi_0, zi_1, zi_2, zi_3, zi_4, zi_5, zi_6, zi_7, zi_8, zi_9, zi_10, zi_12, zi_20, zi_21, zi_30, zi_60, zi_90, zi_99, zi_100, zi_180, zi_240, zi_400, zi_500, zi_1000, zi_1199, zi_10000, zi_100000, zi_1000000, i3m1] at c1 c2 c3 c4 ⊢; omega)]) (by have h9 := lv_sub (l' := [(6, .int ((nI kk) + 1)), (5, .int (S.2.2.1 4 kk)), (4, .int (S.2.2.1 5 kk)), (0, .ref (α 3)), (1, .int kind), (2, .int month), (3, .int known)]) hl [0, 1, 2, 4, 5, 6, 7] rfl; rw [nI_1] at h9; exact h9)
  refine lv_iload_n hx hb dX1_inForce_0 rfl (lv_at hl 1 rfl) ?_
  refine gc_b (gr_S C B (As := [.int kind]) (rest := []) (c_X1_isKind l D G τ α _ _ _ kind) wl_318 wl_319 wl_31 wl_320 (na := 1) (by decide +kernel) rfl ⟨Nat.le_of_ble_eq_true rfl, Nat.le_of_ble_eq_true rfl⟩ ⟨Nat.le_of_ble_eq_true rfl, Nat.le_of_ble_eq_true rfl⟩ hl.1 rfl (Nat.le_of_ble_eq_true rfl) dX1_inForce_1) (fun c5 => ?_) (fun c5 => ?_)
  · refine lv_if_eq (tgt := 15) hx hb dX1_inForce_4 (by decide) (fun hc => absurd hc (by decide)) (fun _ => ?_)
    refine g_sget C B B.1.2.2.2.2.2.1 wl_322 dX1_inForce_7 ?_
    refine lv_iload_n hx hb dX1_inForce_10 rfl (lv_at hl 1 rfl) ?_
    refine g_sald C B B.1.2.2.2.2.2.2 (vp_rng c5 (by decide) (by decide)) (j := kind.toNatClampNeg) rfl dX1_inForce_11 ?_
    refine lv_goto (tgt := 16) hx hb dX1_inForce_12 (by decide) ?_
    refine lv_istore (lv' := [(4, .int (gf2 kind.toNatClampNeg)), (0, .ref (α 3)), (1, .int kind), (2, .int month), (3, .int known)]) hx hb dX1_inForce_16 hl (by decide) rfl (fun ls hl => ?_)
    refine lv_iconst (v := 0) hx hb dX1_inForce_18 (by decide) ?_
    refine lv_istore (lv' := [(5, .int 0), (4, .int (gf2 kind.toNatClampNeg)), (0, .ref (α 3)), (1, .int kind), (2, .int month), (3, .int known)]) hx hb dX1_inForce_19 hl (by decide) rfl (fun ls hl => ?_)
    refine lv_iconst (v := 0) hx hb dX1_inForce_21 (by decide) ?_
    refine lv_istore (lv' := [(6, .int 0), (5, .int 0), (4, .int (gf2 kind.toNatClampNeg)), (0, .ref (α 3)), (1, .int kind), (2, .int month), (3, .int known)]) hx hb dX1_inForce_22 hl (by decide) rfl (fun ls hl => ?_)
    exact loop (nOf S 2) 0 _ _ ls (by omega) (by rw [infL, ← dflt_in c5]) (lv_sub hl [0, 1, 2, 3, 4, 5, 6] rfl)
  · refine lv_if_eq (tgt := 15) hx hb dX1_inForce_4 (by decide) (fun _ => ?_) (fun hc => absurd (by decide) hc)
    refine lv_iconst (v := 0) hx hb dX1_inForce_15 (by decide) ?_
    refine lv_istore (lv' := [(4, .int 0), (0, .ref (α 3)), (1, .int kind), (2, .int month), (3, .int known)]) hx hb dX1_inForce_16 hl (by decide) rfl (fun ls hl => ?_)
    refine lv_iconst (v := 0) hx hb dX1_inForce_18 (by decide) ?_
    refine lv_istore (lv' := [(5, .int 0), (4, .int 0), (0, .ref (α 3)), (1, .int kind), (2, .int month), (3, .int known)]) hx hb dX1_inForce_19 hl (by decide) rfl (fun ls hl => ?_)
    refine lv_iconst (v := 0) hx hb dX1_inForce_21 (by decide) ?_
    refine lv_istore (lv' := [(6, .int 0), (5, .int 0), (4, .int 0), (0, .ref (α 3)), (1, .int kind), (2, .int month), (3, .int known)]) hx hb dX1_inForce_22 hl (by decide) rfl (fun ls hl => ?_)
    exact loop (nOf S 2) 0 _ _ ls (by omega) (by rw [infL, dflt_out c5]) (lv_sub hl [0, 1, 2, 3, 4, 5, 6] rfl)
