/-! ===== the roll and the purse of the class ===== -/
def cV (J : St) (i : Nat) (most : Int64) : Int64 := if J.2.2.2 1 i < most then J.2.2.2 1 i else most
def ptS (S J : St) (i : Nat) (most : Int64) : St := if J.2.2.1 2 i = 0 then S else uJ (sPay S i (cV J i most)) 31 (S.2.1 31 - cV J i most)
def ptJ (J : St) (i : Nat) (most : Int64) : St := if J.2.2.1 2 i = 0 then J else uB J 1 (vp_updL (J.2.2.2 1) i (J.2.2.2 1 i - cV J i most))
def pw (S J : St) : Nat → St × St
  | 0 => (S, J)
  | k + 1 => (ptS (pw S J k).1 (pw S J k).2 k ((pw S J k).2.2.2.2 1 k), ptJ (pw S J k).2 k ((pw S J k).2.2.2.2 1 k))
def psh (S J : St) (has al : Int64) : Nat → St × St
  | 0 => (S, J)
  | k + 1 => (ptS (psh S J has al k).1 (psh S J has al k).2 k ((psh S J has al k).2.2.2.2 1 k * has / al), ptJ (psh S J has al k).2 k ((psh S J has al k).2.2.2.2 1 k * has / al))
def plo (S J : St) : Nat → St × St
  | 0 => (S, J)
  | k + 1 => if (plo S J k).1.2.1 28 ≤ 0 then plo S J k else (ptS (plo S J k).1 (plo S J k).2 k 1, ptJ (plo S J k).2 k 1)
theorem plo_stop {S J : St} {k : Nat} (h : (plo S J k).1.2.1 28 ≤ 0) : ∀ j, plo S J (k + j) = plo S J k
  | 0 => rfl
  | j + 1 => by
    rw [← Nat.add_assoc, plo, plo_stop h j, if_pos h]
def cls (S J : St) : Nat → St
  | 0 => S
  | k + 1 => if J.2.2.1 2 k = 0 then cls S J k else if J.2.2.2 1 k = 0 then uA (cls S J k) 24 (upd ((cls S J k).2.2.1 24) k 1) else cls S J k
def cl1 (S J : St) (mo : Int32) : Nat → St × St
  | 0 => (uI (uJ S 31 0) 32 0, J)
  | k + 1 => (uI (uJ (cl1 S J mo k).1 31 ((cl1 S J mo k).1.2.1 31 + (cJ2 (cl1 S J mo k).1 (cl1 S J mo k).2 k mo).2.2.2 1 k)) 32 ((cl1 S J mo k).1.1 32 + (if (cJ2 (cl1 S J mo k).1 (cl1 S J mo k).2 k mo).2.2.1 2 k = 0 then 0 else 1)), cJ2 (cl1 S J mo k).1 (cl1 S J mo k).2 k mo)
/-- what is learnt of the deposits: when each is due, how much -/
def lrn (S J : St) (known : Int32) : Nat → St
  | 0 => J
  | k + 1 => uB (uA (lrn S J known k) 1 (upd ((lrn S J known k).2.2.1 1) k (match sFall S k known with
    | none => 1000000
    | some f => sDueM S f known))) 0 (vp_updL ((lrn S J known k).2.2.2 0) k (match sFall S k known with
    | none => 0
    | some f => sDue S k f known))
set_option maxHeartbeats 4000000 in
set_option maxRecDepth 100000 in
theorem c_X7_pay (l : Launch) (D : va_G) (G : Nat → ClassId) (τ α : Nat → Nat) (S J : St) (n sz : Nat) (i : Nat) (v : Int64) (hi : i < n) (hs : okS S i) : Wv l D G τ yX7_pay cX7_pay 5 none 3 0 0 [.ref (α 18), .ref (α (27 + 3 * i)), .long v] α (cE G α S J n) (Lc n) sz (fun u => u = (α, cE G α (sPay S i v) (uB J 1 (vp_updL (J.2.2.2 1) i (J.2.2.2 1 i - v))) n, Lc n)) := by
  refine gM _ (by decide) rfl (Nat.le_of_ble_eq_true rfl) ?_
  intro p e s m below meth c ls C hr hlk hnm hsz B hl
  have hx := C.1
  have hb := C.2.1
  have hl : lv_has ls 5 [(0, .ref (α 18)), (1, .ref (α (27 + 3 * i))), (2, .long v)] := hl
  have hh9 := sHold_last hs
  have hs1 := hs.1
  refine lv_aload_n hx hb dX7_pay_0 rfl (lv_at hl 0 rfl) ?_
  refine lv_dup hx hb dX7_pay_1 rfl ?_
  refine g_get C B (18) (Lc_in (by decide)) cE_18 rfl gf_7 0 (by decide) wl_155 (v := .long (S.2.1 28)) cF_18_0 dX7_pay_2 ?_
  refine lv_lload_n hx hb dX7_pay_5 rfl (lv_at hl 2 rfl) ?_
  refine lv_lsub hx hb dX7_pay_6 ?_
  refine g_put C B (18) (Lc_in (by decide)) cE_18 rfl gf_7 tyX7 tyX7_ok nmX7 0 (by decide) wl_155 rfl (ty := .long) (v := .long (S.2.1 28 - v)) (by decide +kernel) rfl rfl (Nat.le_of_ble_eq_true rfl) dX7_pay_7 cO_18_0 (fun H locs B => ?_)
  refine lv_aload_n hx hb dX7_pay_10 rfl (lv_at hl 0 rfl) ?_
  refine lv_dup hx hb dX7_pay_11 rfl ?_
  refine g_get C B (18) (Lc_in (by decide)) cE_18 rfl gf_7 2 (by decide) wl_160 (v := .long (S.2.1 30)) cF_18_2 dX7_pay_12 ?_
  refine lv_lload_n hx hb dX7_pay_15 rfl (lv_at hl 2 rfl) ?_
  refine lv_ladd hx hb dX7_pay_16 ?_
  refine g_put C B (18) (Lc_in (by decide)) cE_18 rfl gf_7 tyX7 tyX7_ok nmX7 2 (by decide) wl_160 rfl (ty := .long) (v := .long (S.2.1 30 + v)) (by decide +kernel) rfl rfl (Nat.le_of_ble_eq_true rfl) dX7_pay_17 cO_18_2 (fun H locs B => ?_)
  refine lv_aload_n hx hb dX7_pay_20 rfl (lv_at hl 1 rfl) ?_
  refine lv_dup hx hb dX7_pay_21 rfl ?_
  refine g_get C B (27 + 3 * i) (Lc_d (i := i) (by omega) (by omega) (by omega)) cE_d rfl gf_2 10 (by decide) wl_512 (v := .long ((S.2.2.2 23) i)) cD_10 dX7_pay_22 ?_
  refine lv_lload_n hx hb dX7_pay_25 rfl (lv_at hl 2 rfl) ?_
  refine lv_ladd hx hb dX7_pay_26 ?_
  refine g_put C B (27 + 3 * i) (Lc_d (i := i) (by omega) (by omega) (by omega)) cE_d rfl gf_2 tyX2 tyX2_ok nmX2 10 (by decide) wl_512 rfl (ty := .long) (v := .long ((S.2.2.2 23) i + v)) (by decide +kernel) rfl rfl (Nat.le_of_ble_eq_true rfl) dX7_pay_27 cV_received (fun H locs B => ?_)
  refine lv_aload_n hx hb dX7_pay_30 rfl (lv_at hl 1 rfl) ?_
  refine lv_dup hx hb dX7_pay_31 rfl ?_
  refine g_get C B (27 + 3 * i) (Lc_d (i := i) (by omega) (by omega) (by omega)) cE_d rfl gf_2 15 (by decide) wl_524 (v := .long ((J.2.2.2 1) i)) cD_15 dX7_pay_32 ?_
  refine lv_lload_n hx hb dX7_pay_35 rfl (lv_at hl 2 rfl) ?_
  refine lv_lsub hx hb dX7_pay_36 ?_
  refine g_put C B (27 + 3 * i) (Lc_d (i := i) (by omega) (by omega) (by omega)) cE_d rfl gf_2 tyX2 tyX2_ok nmX2 15 (by decide) wl_524 rfl (ty := .long) (v := .long ((J.2.2.2 1) i - v)) (by decide +kernel) rfl rfl (Nat.le_of_ble_eq_true rfl) dX7_pay_37 cV_owed (fun H locs B => ?_)
  refine lv_aload_n hx hb dX7_pay_40 rfl (lv_at hl 1 rfl) ?_
  refine gc_i (gr_V C B (k := 27 + 3 * i) (As := []) (rest := []) (c_X2_latestHolder l D G τ α (uB (uJ (uJ S 28 (S.2.1 28 - v)) 30 (S.2.1 30 + v)) 23 (vp_updL (S.2.2.2 23) i ((S.2.2.2 23) i + v))) (uB J 1 (vp_updL (J.2.2.2 1) i ((J.2.2.2 1) i - v))) n _ i (by omega) hs1) (Lc_d (i := i) (by omega) (by omega) (by omega)) cE_d rfl wl_367 wl_368 wl_369 wl_42 wl_370 (na := 0) (by decide +kernel) rfl ⟨Nat.le_of_ble_eq_true rfl, Nat.le_of_ble_eq_true rfl⟩ ⟨Nat.le_of_ble_eq_true rfl, Nat.le_of_ble_eq_true rfl⟩ hl.1 rfl (Nat.le_of_ble_eq_true rfl) dX7_pay_41) (fun r h => ?_)
  subst h
  refine lv_istore (lv' := [(4, .int ((S.2.2.1 27) (sLast (uB (uJ (uJ S 28 (S.2.1 28 - v)) 30 (S.2.1 30 + v)) 23 (vp_updL (S.2.2.2 23) i ((S.2.2.2 23) i + v))) i))), (0, .ref (α 18)), (1, .ref (α (27 + 3 * i))), (2, .long v)]) hx hb dX7_pay_44 hl (by decide) rfl (fun ls hl => ?_)
  refine lv_iload hx hb dX7_pay_46 (lv_at hl 0 rfl) ?_
  refine gc_b (gr_SN C B (As := [.int ((S.2.2.1 27) (sLast (uB (uJ (uJ S 28 (S.2.1 28 - v)) 30 (S.2.1 30 + v)) 23 (vp_updL (S.2.2.2 23) i ((S.2.2.2 23) i + v))) i))]) (rest := []) (c_X10_isHolder l D G τ α _ _ _ ((S.2.2.1 27) (sLast (uB (uJ (uJ S 28 (S.2.1 28 - v)) 30 (S.2.1 30 + v)) 23 (vp_updL (S.2.2.2 23) i ((S.2.2.2 23) i + v))) i))) (by decide +kernel : Cond.methodLinkNest RX7 37 yX10_isHolder RX10 ∈ gNs) wl_380 wl_29 wl_381 (na := 1) (by decide +kernel) rfl ⟨Nat.le_of_ble_eq_true rfl, Nat.le_of_ble_eq_true rfl⟩ ⟨Nat.le_of_ble_eq_true rfl, Nat.le_of_ble_eq_true rfl⟩ hl.1 rfl (Nat.le_of_ble_eq_true rfl) dX7_pay_48) (fun _ => ?_) (fun hc => absurd (show inR ((S.2.2.1 27) (sLast (uB (uJ (uJ S 28 (S.2.1 28 - v)) 30 (S.2.1 30 + v)) 23 (vp_updL (S.2.2.2 23) i ((S.2.2.2 23) i + v))) i)) 0 9 from hh9.2) hc)
  refine lv_if_eq (tgt := 65) hx hb dX7_pay_51 (by decide) (fun hc => absurd hc (by decide)) (fun _ => ?_)
  refine lv_aload_n hx hb dX7_pay_54 rfl (lv_at hl 1 rfl) ?_
  refine g_get C B (18) (Lc_in (by decide)) cE_18 rfl gf_7 3 (by decide) wl_162 (v := .ref (α 19)) cF_18_3 dX7_pay_55 ?_
  refine lv_iload hx hb dX7_pay_58 (lv_at hl 0 rfl) ?_
  refine lv_dup2_11 hx hb dX7_pay_60 rfl rfl ?_
  refine g_lald C B (19) (Lc_in (by decide)) (f := S.2.2.2 33) cE_19 (vp_rng (show inR _ 0 9 from hh9.2) (by decide) (by decide)) (j := ((S.2.2.1 27) (sLast (uB (uJ (uJ S 28 (S.2.1 28 - v)) 30 (S.2.1 30 + v)) 23 (vp_updL (S.2.2.2 23) i ((S.2.2.2 23) i + v))) i)).toNatClampNeg) rfl dX7_pay_61 ?_
  refine lv_lload_n hx hb dX7_pay_62 rfl (lv_at hl 3 rfl) ?_
  refine lv_ladd hx hb dX7_pay_63 ?_
  refine g_last C B (19) (Lc_in (by decide)) (f := S.2.2.2 33) cE_19 (vp_rng (show inR _ 0 9 from hh9.2) (by decide) (by decide)) (j := ((S.2.2.1 27) (sLast (uB (uJ (uJ S 28 (S.2.1 28 - v)) 30 (S.2.1 30 + v)) 23 (vp_updL (S.2.2.2 23) i ((S.2.2.2 23) i + v))) i)).toNatClampNeg) rfl dX7_pay_64 cU_19 (fun H locs B => ?_)
  exact ge_wv C B hr hlk (by rw [sPay, hh9.1]; rfl) dX7_pay_65
set_option maxHeartbeats 4000000 in
set_option maxRecDepth 100000 in
theorem c_X8_payTo (l : Launch) (D : va_G) (G : Nat → ClassId) (τ α : Nat → Nat) (S J : St) (n sz : Nat) (i : Nat) (most : Int64) (hi : i < n) (hs : okS S i) : Wv l D G τ yX8_payTo cX8_payTo 6 none 4 0 0 [.ref (α 20), .ref (α (27 + 3 * i)), .long most] α (cE G α S J n) (Lc n) sz (fun u => u = (α, cE G α (ptS S J i most) (ptJ J i most) n, Lc n)) := by
  refine gM _ (by decide) rfl (Nat.le_of_ble_eq_true rfl) ?_
  intro p e s m below meth c ls C hr hlk hnm hsz B hl
  have hx := C.1
  have hb := C.2.1
  have hl : lv_has ls 6 [(0, .ref (α 20)), (1, .ref (α (27 + 3 * i))), (2, .long most)] := hl
  refine lv_aload_n hx hb dX8_payTo_0 rfl (lv_at hl 1 rfl) ?_
  refine lv_ifnull hx hb dX8_payTo_1 ?_
  refine lv_aload_n hx hb dX8_payTo_4 rfl (lv_at hl 1 rfl) ?_
  refine g_get C B (27 + 3 * i) (Lc_d (i := i) (by omega) (by omega) (by omega)) cE_d rfl gf_2 14 (by decide) wl_522 (v := .int ((J.2.2.1 2) i)) cD_14 dX8_payTo_5 ?_
  refine lv_if_ne (tgt := 12) hx hb dX8_payTo_8 (by decide) (fun c1 => ?_) (fun c1 => ?_)
  · refine lv_lload_n hx hb dX8_payTo_12 rfl (lv_at hl 2 rfl) ?_
    refine lv_aload_n hx hb dX8_payTo_13 rfl (lv_at hl 1 rfl) ?_
    refine g_get C B (27 + 3 * i) (Lc_d (i := i) (by omega) (by omega) (by omega)) cE_d rfl gf_2 15 (by decide) wl_525 (v := .long ((J.2.2.2 1) i)) cD_15 dX8_payTo_14 ?_
    refine va_mmin_long hx hb (C.2.2.1.trans hl.1.symm) C.2.2.2.1 (C.2.2.2.2 _ wl_360) (C.2.2.2.2 _ wl_361) (C.2.2.2.2 _ wl_41) (C.2.2.2.2 _ wl_362) (Nat.le_of_ble_eq_true rfl) (Nat.le_of_ble_eq_true rfl) (Nat.le_of_ble_eq_true rfl) (Nat.le_of_ble_eq_true rfl) dX8_payTo_17 ?_
    refine lv_lstore (lv' := [(4, .long (if (J.2.2.2 1) i < most then (J.2.2.2 1) i else most)), (0, .ref (α 20)), (1, .ref (α (27 + 3 * i))), (2, .long most)]) hx hb dX8_payTo_20 hl (by decide) rfl (fun ls hl => ?_)
    refine lv_aload_n hx hb dX8_payTo_22 rfl (lv_at hl 1 rfl) ?_
    refine g_get C B (20) (Lc_in (by decide)) cE_20 rfl gf_8 1 (by decide) wl_181 (v := .ref (α 18)) cF_20_1 dX8_payTo_23 ?_
    refine lv_aload_n hx hb dX8_payTo_26 rfl (lv_at hl 2 rfl) ?_
    refine lv_lload hx hb dX8_payTo_27 (lv_at hl 0 rfl) ?_
    refine gc_wv B (gr_V C B (k := 18) (As := [.ref (α (27 + 3 * i)), .long (if (J.2.2.2 1) i < most then (J.2.2.2 1) i else most)]) (rest := []) (c_X7_pay l D G τ α S J n _ i (if (J.2.2.2 1) i < most then (J.2.2.2 1) i else most) (by omega) hs) (Lc_in (by decide)) cE_18 rfl wl_363 wl_364 wl_365 wl_36 wl_366 (na := 2) (by decide +kernel) rfl ⟨Nat.le_of_ble_eq_true rfl, Nat.le_of_ble_eq_true rfl⟩ ⟨Nat.le_of_ble_eq_true rfl, Nat.le_of_ble_eq_true rfl⟩ hl.1 rfl (Nat.le_of_ble_eq_true rfl) dX8_payTo_29) (fun u h H locs B => ?_)
    subst h
    have B : gB D G τ (gA α (Lc n) sz) s H locs α (cE G α (sPay S i (if (J.2.2.2 1) i < most then (J.2.2.2 1) i else most)) (uB J 1 (vp_updL (J.2.2.2 1) i ((J.2.2.2 1) i - (if (J.2.2.2 1) i < most then (J.2.2.2 1) i else most)))) n) (Lc n) := B
    refine lv_aload_n hx hb dX8_payTo_32 rfl (lv_at hl 1 rfl) ?_
    refine lv_dup hx hb dX8_payTo_33 rfl ?_
    refine g_get C B (20) (Lc_in (by decide)) cE_20 rfl gf_8 2 (by decide) wl_182 (v := .long ((sPay S i (if (J.2.2.2 1) i < most then (J.2.2.2 1) i else most)).2.1 31)) cF_20_2 dX8_payTo_34 ?_
    refine lv_lload hx hb dX8_payTo_37 (lv_at hl 0 rfl) ?_
    refine lv_lsub hx hb dX8_payTo_39 ?_
    refine g_put C B (20) (Lc_in (by decide)) cE_20 rfl gf_8 tyX8 tyX8_ok nmX8 2 (by decide) wl_182 rfl (ty := .long) (v := .long ((sPay S i (if (J.2.2.2 1) i < most then (J.2.2.2 1) i else most)).2.1 31 - (if (J.2.2.2 1) i < most then (J.2.2.2 1) i else most))) (by decide +kernel) rfl rfl (Nat.le_of_ble_eq_true rfl) dX8_payTo_40 cO_20_2 (fun H locs B => ?_)
    exact ge_wv C B hr hlk (by rw [ptS, ptJ, if_neg c1, if_neg c1, cV]; rfl) dX8_payTo_43
  · exact ge_wv C B hr hlk (by rw [ptS, ptJ, if_pos c1, if_pos c1]) dX8_payTo_11
theorem ptS_c (S J : St) (i : Nat) (m : Int64) : (ptS S J i m).1 = S.1 ∧ (ptS S J i m).2.2.1 = S.2.2.1 := by
  rw [ptS]
  split
  · exact ⟨rfl, rfl⟩
  · exact ⟨rfl, rfl⟩
theorem pw_c (S J : St) : ∀ k, (pw S J k).1.1 = S.1 ∧ (pw S J k).1.2.2.1 = S.2.2.1
  | 0 => ⟨rfl, rfl⟩
  | k + 1 => by
    have h := pw_c S J k
    have h2 := ptS_c (pw S J k).1 (pw S J k).2 k ((pw S J k).2.2.2.2 1 k)
    exact ⟨h2.1.trans h.1, h2.2.trans h.2⟩
theorem psh_c (S J : St) (has al : Int64) : ∀ k, (psh S J has al k).1.1 = S.1 ∧ (psh S J has al k).1.2.2.1 = S.2.2.1
  | 0 => ⟨rfl, rfl⟩
  | k + 1 => by
    have h := psh_c S J has al k
    have h2 := ptS_c (psh S J has al k).1 (psh S J has al k).2 k ((psh S J has al k).2.2.2.2 1 k * has / al)
    exact ⟨h2.1.trans h.1, h2.2.trans h.2⟩
theorem plo_c (S J : St) : ∀ k, (plo S J k).1.1 = S.1 ∧ (plo S J k).1.2.2.1 = S.2.2.1
  | 0 => ⟨rfl, rfl⟩
  | k + 1 => by
    have h := plo_c S J k
    rw [plo]
    split
    · exact h
    · have h2 := ptS_c (plo S J k).1 (plo S J k).2 k 1
      exact ⟨h2.1.trans h.1, h2.2.trans h.2⟩
theorem cls_c (S J : St) : ∀ k, (cls S J k).1 = S.1
  | 0 => rfl
  | k + 1 => by
    have h := cls_c S J k
    rw [cls]
    split
    · exact h
    · split
      · exact h
      · exact h
theorem cl1_c (S J : St) (mo : Int32) : ∀ k, (∀ j, j ≠ 32 → (cl1 S J mo k).1.1 j = S.1 j) ∧ (cl1 S J mo k).1.2.2.1 = S.2.2.1 ∧ (cl1 S J mo k).1.2.2.2 = S.2.2.2
  | 0 => ⟨fun j h => by simp [cl1, uI, uJ, va_up, h], rfl, rfl⟩
  | k + 1 => by
    obtain ⟨h1, h2, h3⟩ := cl1_c S J mo k
    refine ⟨fun j h => ?_, h2, h3⟩
    rw [← h1 j h]
    simp [cl1, uI, uJ, va_up, h]
set_option maxHeartbeats 4000000 in
set_option maxRecDepth 100000 in
theorem c_X8_payWhole (l : Launch) (D : va_G) (G : Nat → ClassId) (τ α : Nat → Nat) (S J : St) (n sz : Nat) (hn : S.1 15 = nI n) (hn30 : n ≤ 30) (hg : ∀ d, d < n → okS S d) : Wv l D G τ yX8_payWhole cX8_payWhole 3 none 5 0 0 [.ref (α 20)] α (cE G α S J n) (Lc n) sz (fun u => u = (α, cE G α (pw S J n).1 (pw S J n).2 n, Lc n)) := by
  refine gM _ (by decide) rfl (Nat.le_of_ble_eq_true rfl) ?_
  intro p e s m below meth c ls C hr hlk hnm hsz B hl
  have hx := C.1
  have hb := C.2.1
  have hl : lv_has ls 3 [(0, .ref (α 20))] := hl
  have loop : ∀ (nn kk : Nat) (Q : St) (K : St) (H : Heap) (locs : List Loc) (ls : Array Slot), nn + kk = n → (pw S J kk = (Q, K)) → gB D G τ (gA α (Lc n) sz) s H locs α (cE G α Q K n) (Lc n) → lv_has ls 3 [(1, .int (nI kk)), (0, .ref (α 20))] → W p l e (rmd 5 0 0) s m [.ref (α 20)].toArray below meth c H locs 0 0 (MQ below (va_Qv (fun u => u = (α, cE G α (pw S J n).1 (pw S J n).2 n, Lc n)) (gAt D (gA α (Lc n) sz)) (gA α (Lc n) sz)) [.ref (α 20)].toArray s 0 0 (gA α (Lc n) sz)) (F0 m 2 ls []) := by
    intro nn
    induction nn with
    | zero =>
      intro kk Q K H locs ls hk hI B hl
      have hq8 := pw_c S J kk
      rw [hI] at hq8
      have hqn : Q.1 15 = nI n := by rw [hq8.1]; exact hn
      refine lv_iload_n hx hb dX8_payWhole_2 rfl (lv_at hl 0 rfl) ?_
      refine lv_aload_n hx hb dX8_payWhole_3 rfl (lv_at hl 1 rfl) ?_
      refine g_get C B (20) (Lc_in (by decide)) cE_20 rfl gf_8 0 (by decide) wl_180 (v := .ref (α 15)) cF_20_0 dX8_payWhole_4 ?_
      refine g_get C B (15) (Lc_in (by decide)) cE_15 rfl gf_3 1 (by decide) wl_129 (v := .int (Q.1 15)) cF_15_1 dX8_payWhole_7 ?_
      refine lv_icmp_ge (tgt := 41) hx hb dX8_payWhole_10 (by decide) (fun _ => ?_) (fun hc => absurd (by rw [hqn]; exact nI_le (by omega) (by omega)) hc)
      exact ge_wv C B hr hlk (by rw [show n = kk by omega, hI]) dX8_payWhole_41
    | succ nn ih =>
      intro kk Q K H locs ls hk hI B hl
      have hq8 := pw_c S J kk
      rw [hI] at hq8
      have hqn : Q.1 15 = nI n := by rw [hq8.1]; exact hn
      refine lv_iload_n hx hb dX8_payWhole_2 rfl (lv_at hl 0 rfl) ?_
      refine lv_aload_n hx hb dX8_payWhole_3 rfl (lv_at hl 1 rfl) ?_
      refine g_get C B (20) (Lc_in (by decide)) cE_20 rfl gf_8 0 (by decide) wl_180 (v := .ref (α 15)) cF_20_0 dX8_payWhole_4 ?_
      refine g_get C B (15) (Lc_in (by decide)) cE_15 rfl gf_3 1 (by decide) wl_129 (v := .int (Q.1 15)) cF_15_1 dX8_payWhole_7 ?_
      refine lv_icmp_ge (tgt := 41) hx hb dX8_payWhole_10 (by decide) (fun hc => absurd hc (by rw [hqn]; exact nI_ge (by omega) (by omega))) (fun _ => ?_)
      refine lv_aload_n hx hb dX8_payWhole_13 rfl (lv_at hl 1 rfl) ?_
      refine g_get C B (20) (Lc_in (by decide)) cE_20 rfl gf_8 0 (by decide) wl_180 (v := .ref (α 15)) cF_20_0 dX8_payWhole_14 ?_
      refine lv_iload_n hx hb dX8_payWhole_17 rfl (lv_at hl 0 rfl) ?_
      refine gc_r (gr_V C B (k := 15) (As := [.int (nI kk)]) (rest := []) (c_X3_findN l D G τ α Q K n _ kk (by omega) hqn hn30) (Lc_in (by decide)) cE_15 rfl wl_277 wl_278 wl_279 wl_34 wl_280 (na := 1) (by decide +kernel) rfl ⟨Nat.le_of_ble_eq_true rfl, Nat.le_of_ble_eq_true rfl⟩ ⟨Nat.le_of_ble_eq_true rfl, Nat.le_of_ble_eq_true rfl⟩ hl.1 rfl (Nat.le_of_ble_eq_true rfl) dX8_payWhole_18) ?_
      refine lv_astore_n (lv' := [(2, .ref (α (27 + 3 * kk))), (1, .int (nI kk)), (0, .ref (α 20))]) hx hb dX8_payWhole_21 rfl hl (by decide) rfl (fun ls hl => ?_)
      refine lv_aload_n hx hb dX8_payWhole_22 rfl (lv_at hl 0 rfl) ?_
      refine lv_ifnull hx hb dX8_payWhole_23 ?_
      refine lv_aload_n hx hb dX8_payWhole_26 rfl (lv_at hl 2 rfl) ?_
      refine lv_aload_n hx hb dX8_payWhole_27 rfl (lv_at hl 0 rfl) ?_
      refine lv_aload_n hx hb dX8_payWhole_28 rfl (lv_at hl 0 rfl) ?_
      refine g_get C B (27 + 3 * kk) (Lc_d (i := kk) (by omega) (by omega) (by omega)) cE_d rfl gf_2 15 (by decide) wl_525 (v := .long ((K.2.2.2 1) kk)) cD_15 dX8_payWhole_29 ?_
      refine gc_wv B (gr_V C B (k := 20) (As := [.ref (α (27 + 3 * kk)), .long ((K.2.2.2 1) kk)]) (rest := []) (c_X8_payTo l D G τ α Q K n _ kk ((K.2.2.2 1) kk) (by omega) (okS_c (by rw [hq8.1]) (by rw [hq8.2]) (by rw [hq8.2]) (by rw [hq8.2]) (by rw [hq8.2]) (hg kk (by omega)))) (Lc_in (by decide)) cE_20 rfl wl_356 wl_358 wl_5 wl_37 wl_359 (na := 2) (by decide +kernel) rfl ⟨Nat.le_of_ble_eq_true rfl, Nat.le_of_ble_eq_true rfl⟩ ⟨Nat.le_of_ble_eq_true rfl, Nat.le_of_ble_eq_true rfl⟩ hl.1 rfl (Nat.le_of_ble_eq_true rfl) dX8_payWhole_32) (fun u h H locs B => ?_)
      subst h
      have B : gB D G τ (gA α (Lc n) sz) s H locs α (cE G α (ptS Q K kk ((K.2.2.2 1) kk)) (ptJ K kk ((K.2.2.2 1) kk)) n) (Lc n) := B
      refine lv_iinc (v := ((nI kk) + 1)) (lv' := [(1, .int ((nI kk) + 1)), (2, .ref (α (27 + 3 * kk))), (0, .ref (α 20))]) hx hb dX8_payWhole_35 hl (k := 1) rfl rfl (by decide) rfl (fun ls hl => ?_)
      refine lv_goto (tgt := 2) hx hb dX8_payWhole_38 (by decide) ?_
      exact ih (kk + 1) (ptS Q K kk ((K.2.2.2 1) kk)) (ptJ K kk ((K.2.2.2 1) kk)) H locs ls (by omega) (by rw [pw, hI]) B (by have h9 := lv_sub (l' := [(1, .int ((nI kk) + 1)), (0, .ref (α 20))]) hl [0, 2] rfl; rw [nI_1] at h9; exact h9)
  refine lv_iconst (v := 0) hx hb dX8_payWhole_0 (by decide) ?_
  refine lv_istore_n (lv' := [(1, .int 0), (0, .ref (α 20))]) hx hb dX8_payWhole_1 rfl hl (by decide) rfl (fun ls hl => ?_)
  exact loop n 0 S J _ _ ls (by omega) rfl B (lv_sub hl [0, 1] rfl)
set_option maxHeartbeats 4000000 in
set_option maxRecDepth 100000 in
theorem c_X8_payShares (l : Launch) (D : va_G) (G : Nat → ClassId) (τ α : Nat → Nat) (S J : St) (n sz : Nat) (has al : Int64) (hn : S.1 15 = nI n) (hn30 : n ≤ 30) (hg : ∀ d, d < n → okS S d) (hal : 0 < al) : Wv l D G τ yX8_payShares cX8_payShares 7 none 5 0 0 [.ref (α 20), .long has, .long al] α (cE G α S J n) (Lc n) sz (fun u => u = (α, cE G α (psh S J has al n).1 (psh S J has al n).2 n, Lc n)) := by
  refine gM _ (by decide) rfl (Nat.le_of_ble_eq_true rfl) ?_
  intro p e s m below meth c ls C hr hlk hnm hsz B hl
  have hx := C.1
  have hb := C.2.1
  have hl : lv_has ls 7 [(0, .ref (α 20)), (1, .long has), (3, .long al)] := hl
  have loop : ∀ (nn kk : Nat) (Q : St) (K : St) (H : Heap) (locs : List Loc) (ls : Array Slot), nn + kk = n → (psh S J has al kk = (Q, K)) → gB D G τ (gA α (Lc n) sz) s H locs α (cE G α Q K n) (Lc n) → lv_has ls 7 [(5, .int (nI kk)), (0, .ref (α 20)), (1, .long has), (3, .long al)] → W p l e (rmd 5 0 0) s m [.ref (α 20), .long has, .long al].toArray below meth c H locs 0 0 (MQ below (va_Qv (fun u => u = (α, cE G α (psh S J has al n).1 (psh S J has al n).2 n, Lc n)) (gAt D (gA α (Lc n) sz)) (gA α (Lc n) sz)) [.ref (α 20), .long has, .long al].toArray s 0 0 (gA α (Lc n) sz)) (F0 m 3 ls []) := by
    intro nn
    induction nn with
    | zero =>
      intro kk Q K H locs ls hk hI B hl
      have hq8 := psh_c S J has al kk
      rw [hI] at hq8
      have hqn : Q.1 15 = nI n := by rw [hq8.1]; exact hn
      refine lv_iload hx hb dX8_payShares_3 (lv_at hl 0 rfl) ?_
      refine lv_aload_n hx hb dX8_payShares_5 rfl (lv_at hl 1 rfl) ?_
      refine g_get C B (20) (Lc_in (by decide)) cE_20 rfl gf_8 0 (by decide) wl_180 (v := .ref (α 15)) cF_20_0 dX8_payShares_6 ?_
      refine g_get C B (15) (Lc_in (by decide)) cE_15 rfl gf_3 1 (by decide) wl_129 (v := .int (Q.1 15)) cF_15_1 dX8_payShares_9 ?_
      refine lv_icmp_ge (tgt := 58) hx hb dX8_payShares_12 (by decide) (fun _ => ?_) (fun hc => absurd (by rw [hqn]; exact nI_le (by omega) (by omega)) hc)
      exact ge_wv C B hr hlk (by rw [show n = kk by omega, hI]) dX8_payShares_58
    | succ nn ih =>
      intro kk Q K H locs ls hk hI B hl
      have hq8 := psh_c S J has al kk
      rw [hI] at hq8
      have hqn : Q.1 15 = nI n := by rw [hq8.1]; exact hn
      refine lv_iload hx hb dX8_payShares_3 (lv_at hl 0 rfl) ?_
      refine lv_aload_n hx hb dX8_payShares_5 rfl (lv_at hl 1 rfl) ?_
      refine g_get C B (20) (Lc_in (by decide)) cE_20 rfl gf_8 0 (by decide) wl_180 (v := .ref (α 15)) cF_20_0 dX8_payShares_6 ?_
      refine g_get C B (15) (Lc_in (by decide)) cE_15 rfl gf_3 1 (by decide) wl_129 (v := .int (Q.1 15)) cF_15_1 dX8_payShares_9 ?_
      refine lv_icmp_ge (tgt := 58) hx hb dX8_payShares_12 (by decide) (fun hc => absurd hc (by rw [hqn]; exact nI_ge (by omega) (by omega))) (fun _ => ?_)
      refine lv_aload_n hx hb dX8_payShares_15 rfl (lv_at hl 1 rfl) ?_
      refine g_get C B (20) (Lc_in (by decide)) cE_20 rfl gf_8 0 (by decide) wl_180 (v := .ref (α 15)) cF_20_0 dX8_payShares_16 ?_
      refine lv_iload hx hb dX8_payShares_19 (lv_at hl 0 rfl) ?_
      refine gc_r (gr_V C B (k := 15) (As := [.int (nI kk)]) (rest := []) (c_X3_findN l D G τ α Q K n _ kk (by omega) hqn hn30) (Lc_in (by decide)) cE_15 rfl wl_277 wl_278 wl_279 wl_34 wl_280 (na := 1) (by decide +kernel) rfl ⟨Nat.le_of_ble_eq_true rfl, Nat.le_of_ble_eq_true rfl⟩ ⟨Nat.le_of_ble_eq_true rfl, Nat.le_of_ble_eq_true rfl⟩ hl.1 rfl (Nat.le_of_ble_eq_true rfl) dX8_payShares_21) ?_
      refine lv_astore (lv' := [(6, .ref (α (27 + 3 * kk))), (5, .int (nI kk)), (0, .ref (α 20)), (1, .long has), (3, .long al)]) hx hb dX8_payShares_24 hl (by decide) rfl (fun ls hl => ?_)
      refine lv_aload hx hb dX8_payShares_26 (lv_at hl 0 rfl) ?_
      refine lv_ifnull hx hb dX8_payShares_28 ?_
      refine lv_lload_n hx hb dX8_payShares_31 rfl (lv_at hl 4 rfl) ?_
      refine lv_lconst (v := 0) hx hb dX8_payShares_32 (by decide) ?_
      refine gl_le (tgt := 52) hx hb dX8_payShares_33 dX8_payShares_34 (by decide) (fun hc => absurd hc (show ¬ al ≤ 0 by simp only [i6l, i6e] at hal ⊢; omega)) (fun _ => ?_)
      refine lv_aload_n hx hb dX8_payShares_37 rfl (lv_at hl 2 rfl) ?_
      refine lv_aload hx hb dX8_payShares_38 (lv_at hl 0 rfl) ?_
      refine lv_aload hx hb dX8_payShares_40 (lv_at hl 0 rfl) ?_
      refine g_get C B (27 + 3 * kk) (Lc_d (i := kk) (by omega) (by omega) (by omega)) cE_d rfl gf_2 15 (by decide) wl_525 (v := .long ((K.2.2.2 1) kk)) cD_15 dX8_payShares_42 ?_
      refine lv_lload_n hx hb dX8_payShares_45 rfl (lv_at hl 3 rfl) ?_
      refine lv_lmul hx hb dX8_payShares_46 ?_
      refine lv_lload_n hx hb dX8_payShares_47 rfl (lv_at hl 4 rfl) ?_
      refine lv_ldiv hx hb dX8_payShares_48 (show ¬ al = 0 by simp only [i6l, i6q] at hal ⊢; omega) ?_
      refine gc_wv B (gr_V C B (k := 20) (As := [.ref (α (27 + 3 * kk)), .long (((K.2.2.2 1) kk * has) / al)]) (rest := []) (c_X8_payTo l D G τ α Q K n _ kk (((K.2.2.2 1) kk * has) / al) (by omega) (okS_c (by rw [hq8.1]) (by rw [hq8.2]) (by rw [hq8.2]) (by rw [hq8.2]) (by rw [hq8.2]) (hg kk (by omega)))) (Lc_in (by decide)) cE_20 rfl wl_356 wl_358 wl_5 wl_37 wl_359 (na := 2) (by decide +kernel) rfl ⟨Nat.le_of_ble_eq_true rfl, Nat.le_of_ble_eq_true rfl⟩ ⟨Nat.le_of_ble_eq_true rfl, Nat.le_of_ble_eq_true rfl⟩ hl.1 rfl (Nat.le_of_ble_eq_true rfl) dX8_payShares_49) (fun u h H locs B => ?_)
      subst h
      have B : gB D G τ (gA α (Lc n) sz) s H locs α (cE G α (ptS Q K kk (((K.2.2.2 1) kk * has) / al)) (ptJ K kk (((K.2.2.2 1) kk * has) / al)) n) (Lc n) := B
      refine lv_iinc (v := ((nI kk) + 1)) (lv' := [(5, .int ((nI kk) + 1)), (6, .ref (α (27 + 3 * kk))), (0, .ref (α 20)), (1, .long has), (3, .long al)]) hx hb dX8_payShares_52 hl (k := 1) rfl rfl (by decide) rfl (fun ls hl => ?_)
      refine lv_goto (tgt := 3) hx hb dX8_payShares_55 (by decide) ?_
      exact ih (kk + 1) (ptS Q K kk (((K.2.2.2 1) kk * has) / al)) (ptJ K kk (((K.2.2.2 1) kk * has) / al)) H locs ls (by omega) (by rw [psh, hI]) B (by have h9 := lv_sub (l' := [(5, .int ((nI kk) + 1)), (0, .ref (α 20)), (1, .long has), (3, .long al)]) hl [0, 2, 3, 4] rfl; rw [nI_1] at h9; exact h9)
  refine lv_iconst (v := 0) hx hb dX8_payShares_0 (by decide) ?_
  refine lv_istore (lv' := [(5, .int 0), (0, .ref (α 20)), (1, .long has), (3, .long al)]) hx hb dX8_payShares_1 hl (by decide) rfl (fun ls hl => ?_)
  exact loop n 0 S J _ _ ls (by omega) rfl B (lv_sub hl [0, 1, 2, 3] rfl)
set_option maxHeartbeats 4000000 in
set_option maxRecDepth 100000 in
theorem c_X8_payLeftOver (l : Launch) (D : va_G) (G : Nat → ClassId) (τ α : Nat → Nat) (S J : St) (n sz : Nat) (hn : S.1 15 = nI n) (hn30 : n ≤ 30) (hg : ∀ d, d < n → okS S d) : Wv l D G τ yX8_payLeftOver cX8_payLeftOver 2 none 5 0 0 [.ref (α 20)] α (cE G α S J n) (Lc n) sz (fun u => u = (α, cE G α (plo S J n).1 (plo S J n).2 n, Lc n)) := by
  refine gM _ (by decide) rfl (Nat.le_of_ble_eq_true rfl) ?_
  intro p e s m below meth c ls C hr hlk hnm hsz B hl
  have hx := C.1
  have hb := C.2.1
  have hl : lv_has ls 2 [(0, .ref (α 20))] := hl
  have loop : ∀ (nn kk : Nat) (Q : St) (K : St) (H : Heap) (locs : List Loc) (ls : Array Slot), nn + kk = n → (plo S J kk = (Q, K)) → gB D G τ (gA α (Lc n) sz) s H locs α (cE G α Q K n) (Lc n) → lv_has ls 2 [(1, .int (nI kk)), (0, .ref (α 20))] → W p l e (rmd 5 0 0) s m [.ref (α 20)].toArray below meth c H locs 0 0 (MQ below (va_Qv (fun u => u = (α, cE G α (plo S J n).1 (plo S J n).2 n, Lc n)) (gAt D (gA α (Lc n) sz)) (gA α (Lc n) sz)) [.ref (α 20)].toArray s 0 0 (gA α (Lc n) sz)) (F0 m 2 ls []) := by
    intro nn
    induction nn with
    | zero =>
      intro kk Q K H locs ls hk hI B hl
      have hq8 := plo_c S J kk
      rw [hI] at hq8
      have hqn : Q.1 15 = nI n := by rw [hq8.1]; exact hn
      refine lv_iload_n hx hb dX8_payLeftOver_2 rfl (lv_at hl 0 rfl) ?_
      refine lv_aload_n hx hb dX8_payLeftOver_3 rfl (lv_at hl 1 rfl) ?_
      refine g_get C B (20) (Lc_in (by decide)) cE_20 rfl gf_8 0 (by decide) wl_180 (v := .ref (α 15)) cF_20_0 dX8_payLeftOver_4 ?_
      refine g_get C B (15) (Lc_in (by decide)) cE_15 rfl gf_3 1 (by decide) wl_129 (v := .int (Q.1 15)) cF_15_1 dX8_payLeftOver_7 ?_
      refine lv_icmp_ge (tgt := 44) hx hb dX8_payLeftOver_10 (by decide) (fun _ => ?_) (fun hc => absurd (by rw [hqn]; exact nI_le (by omega) (by omega)) hc)
      exact ge_wv C B hr hlk (by rw [show n = kk by omega, hI]) dX8_payLeftOver_44
    | succ nn ih =>
      intro kk Q K H locs ls hk hI B hl
      have hq8 := plo_c S J kk
      rw [hI] at hq8
      have hqn : Q.1 15 = nI n := by rw [hq8.1]; exact hn
      refine lv_iload_n hx hb dX8_payLeftOver_2 rfl (lv_at hl 0 rfl) ?_
      refine lv_aload_n hx hb dX8_payLeftOver_3 rfl (lv_at hl 1 rfl) ?_
      refine g_get C B (20) (Lc_in (by decide)) cE_20 rfl gf_8 0 (by decide) wl_180 (v := .ref (α 15)) cF_20_0 dX8_payLeftOver_4 ?_
      refine g_get C B (15) (Lc_in (by decide)) cE_15 rfl gf_3 1 (by decide) wl_129 (v := .int (Q.1 15)) cF_15_1 dX8_payLeftOver_7 ?_
      refine lv_icmp_ge (tgt := 44) hx hb dX8_payLeftOver_10 (by decide) (fun hc => absurd hc (by rw [hqn]; exact nI_ge (by omega) (by omega))) (fun _ => ?_)
      refine lv_aload_n hx hb dX8_payLeftOver_13 rfl (lv_at hl 1 rfl) ?_
      refine g_get C B (20) (Lc_in (by decide)) cE_20 rfl gf_8 1 (by decide) wl_181 (v := .ref (α 18)) cF_20_1 dX8_payLeftOver_14 ?_
      refine g_get C B (18) (Lc_in (by decide)) cE_18 rfl gf_7 0 (by decide) wl_156 (v := .long (Q.2.1 28)) cF_18_0 dX8_payLeftOver_17 ?_
      refine lv_lconst (v := 0) hx hb dX8_payLeftOver_20 (by decide) ?_
      refine gl_le (tgt := 44) hx hb dX8_payLeftOver_21 dX8_payLeftOver_22 (by decide) (fun c1 => ?_) (fun c1 => ?_)
      · exact ge_wv C B hr hlk (by rw [show n = kk + (n - kk) by omega, plo_stop (by rw [hI]; exact c1), hI]) dX8_payLeftOver_44
      · refine lv_aload_n hx hb dX8_payLeftOver_25 rfl (lv_at hl 1 rfl) ?_
        refine lv_aload_n hx hb dX8_payLeftOver_26 rfl (lv_at hl 1 rfl) ?_
        refine g_get C B (20) (Lc_in (by decide)) cE_20 rfl gf_8 0 (by decide) wl_180 (v := .ref (α 15)) cF_20_0 dX8_payLeftOver_27 ?_
        refine lv_iload_n hx hb dX8_payLeftOver_30 rfl (lv_at hl 0 rfl) ?_
        refine gc_r (gr_V C B (k := 15) (As := [.int (nI kk)]) (rest := [.ref (α 20)]) (c_X3_findN l D G τ α Q K n _ kk (by omega) hqn hn30) (Lc_in (by decide)) cE_15 rfl wl_277 wl_278 wl_279 wl_34 wl_280 (na := 1) (by decide +kernel) rfl ⟨Nat.le_of_ble_eq_true rfl, Nat.le_of_ble_eq_true rfl⟩ ⟨Nat.le_of_ble_eq_true rfl, Nat.le_of_ble_eq_true rfl⟩ hl.1 rfl (Nat.le_of_ble_eq_true rfl) dX8_payLeftOver_31) ?_
        refine lv_lconst (v := 1) hx hb dX8_payLeftOver_34 (by decide) ?_
        refine gc_wv B (gr_V C B (k := 20) (As := [.ref (α (27 + 3 * kk)), .long 1]) (rest := []) (c_X8_payTo l D G τ α Q K n _ kk 1 (by omega) (okS_c (by rw [hq8.1]) (by rw [hq8.2]) (by rw [hq8.2]) (by rw [hq8.2]) (by rw [hq8.2]) (hg kk (by omega)))) (Lc_in (by decide)) cE_20 rfl wl_356 wl_358 wl_5 wl_37 wl_359 (na := 2) (by decide +kernel) rfl ⟨Nat.le_of_ble_eq_true rfl, Nat.le_of_ble_eq_true rfl⟩ ⟨Nat.le_of_ble_eq_true rfl, Nat.le_of_ble_eq_true rfl⟩ hl.1 rfl (Nat.le_of_ble_eq_true rfl) dX8_payLeftOver_35) (fun u h H locs B => ?_)
        subst h
        have B : gB D G τ (gA α (Lc n) sz) s H locs α (cE G α (ptS Q K kk 1) (ptJ K kk 1) n) (Lc n) := B
        refine lv_iinc (v := ((nI kk) + 1)) (lv' := [(1, .int ((nI kk) + 1)), (0, .ref (α 20))]) hx hb dX8_payLeftOver_38 hl (k := 0) rfl rfl (by decide) rfl (fun ls hl => ?_)
        refine lv_goto (tgt := 2) hx hb dX8_payLeftOver_41 (by decide) ?_
        exact ih (kk + 1) (ptS Q K kk 1) (ptJ K kk 1) H locs ls (by omega) (by rw [plo, hI, if_neg c1]) B (by have h9 := lv_sub (l' := [(1, .int ((nI kk) + 1)), (0, .ref (α 20))]) hl [0, 1] rfl; rw [nI_1] at h9; exact h9)
  refine lv_iconst (v := 0) hx hb dX8_payLeftOver_0 (by decide) ?_
  refine lv_istore_n (lv' := [(1, .int 0), (0, .ref (α 20))]) hx hb dX8_payLeftOver_1 rfl hl (by decide) rfl (fun ls hl => ?_)
  exact loop n 0 S J _ _ ls (by omega) rfl B (lv_sub hl [0, 1] rfl)
set_option maxHeartbeats 4000000 in
set_option maxRecDepth 100000 in
theorem c_X8_close (l : Launch) (D : va_G) (G : Nat → ClassId) (τ α : Nat → Nat) (S J : St) (n sz : Nat) (hn : S.1 15 = nI n) (hn30 : n ≤ 30) : Wv l D G τ yX8_close cX8_close 3 none 1 0 0 [.ref (α 20)] α (cE G α S J n) (Lc n) sz (fun u => u = (α, cE G α (cls S J n) J n, Lc n)) := by
  refine gM _ (by decide) rfl (Nat.le_of_ble_eq_true rfl) ?_
  intro p e s m below meth c ls C hr hlk hnm hsz B hl
  have hx := C.1
  have hb := C.2.1
  have hl : lv_has ls 3 [(0, .ref (α 20))] := hl
  have loop : ∀ (nn kk : Nat) (Q : St) (H : Heap) (locs : List Loc) (ls : Array Slot), nn + kk = n → (cls S J kk = Q) → gB D G τ (gA α (Lc n) sz) s H locs α (cE G α Q J n) (Lc n) → lv_has ls 3 [(1, .int (nI kk)), (0, .ref (α 20))] → W p l e (rmd 1 0 0) s m [.ref (α 20)].toArray below meth c H locs 0 0 (MQ below (va_Qv (fun u => u = (α, cE G α (cls S J n) J n, Lc n)) (gAt D (gA α (Lc n) sz)) (gA α (Lc n) sz)) [.ref (α 20)].toArray s 0 0 (gA α (Lc n) sz)) (F0 m 2 ls []) := by
    intro nn
    induction nn with
    | zero =>
      intro kk Q H locs ls hk hI B hl
      have hqn : Q.1 15 = nI n := by rw [← hI, cls_c]; exact hn
      refine lv_iload_n hx hb dX8_close_2 rfl (lv_at hl 0 rfl) ?_
      refine lv_aload_n hx hb dX8_close_3 rfl (lv_at hl 1 rfl) ?_
      refine g_get C B (20) (Lc_in (by decide)) cE_20 rfl gf_8 0 (by decide) wl_180 (v := .ref (α 15)) cF_20_0 dX8_close_4 ?_
      refine g_get C B (15) (Lc_in (by decide)) cE_15 rfl gf_3 1 (by decide) wl_129 (v := .int (Q.1 15)) cF_15_1 dX8_close_7 ?_
      refine lv_icmp_ge (tgt := 53) hx hb dX8_close_10 (by decide) (fun _ => ?_) (fun hc => absurd (by rw [hqn]; exact nI_le (by omega) (by omega)) hc)
      exact ge_wv C B hr hlk (by rw [show n = kk by omega, hI]) dX8_close_53
    | succ nn ih =>
      intro kk Q H locs ls hk hI B hl
      have hqn : Q.1 15 = nI n := by rw [← hI, cls_c]; exact hn
      refine lv_iload_n hx hb dX8_close_2 rfl (lv_at hl 0 rfl) ?_
      refine lv_aload_n hx hb dX8_close_3 rfl (lv_at hl 1 rfl) ?_
      refine g_get C B (20) (Lc_in (by decide)) cE_20 rfl gf_8 0 (by decide) wl_180 (v := .ref (α 15)) cF_20_0 dX8_close_4 ?_
      refine g_get C B (15) (Lc_in (by decide)) cE_15 rfl gf_3 1 (by decide) wl_129 (v := .int (Q.1 15)) cF_15_1 dX8_close_7 ?_
      refine lv_icmp_ge (tgt := 53) hx hb dX8_close_10 (by decide) (fun hc => absurd hc (by rw [hqn]; exact nI_ge (by omega) (by omega))) (fun _ => ?_)
      refine lv_aload_n hx hb dX8_close_13 rfl (lv_at hl 1 rfl) ?_
      refine g_get C B (20) (Lc_in (by decide)) cE_20 rfl gf_8 0 (by decide) wl_180 (v := .ref (α 15)) cF_20_0 dX8_close_14 ?_
      refine lv_iload_n hx hb dX8_close_17 rfl (lv_at hl 0 rfl) ?_
      refine gc_r (gr_V C B (k := 15) (As := [.int (nI kk)]) (rest := []) (c_X3_findN l D G τ α Q J n _ kk (by omega) hqn hn30) (Lc_in (by decide)) cE_15 rfl wl_277 wl_278 wl_279 wl_34 wl_280 (na := 1) (by decide +kernel) rfl ⟨Nat.le_of_ble_eq_true rfl, Nat.le_of_ble_eq_true rfl⟩ ⟨Nat.le_of_ble_eq_true rfl, Nat.le_of_ble_eq_true rfl⟩ hl.1 rfl (Nat.le_of_ble_eq_true rfl) dX8_close_18) ?_
      refine lv_astore_n (lv' := [(2, .ref (α (27 + 3 * kk))), (1, .int (nI kk)), (0, .ref (α 20))]) hx hb dX8_close_21 rfl hl (by decide) rfl (fun ls hl => ?_)
      refine lv_aload_n hx hb dX8_close_22 rfl (lv_at hl 0 rfl) ?_
      refine lv_ifnull hx hb dX8_close_23 ?_
      refine lv_aload_n hx hb dX8_close_26 rfl (lv_at hl 0 rfl) ?_
      refine g_get C B (27 + 3 * kk) (Lc_d (i := kk) (by omega) (by omega) (by omega)) cE_d rfl gf_2 14 (by decide) wl_522 (v := .int ((J.2.2.1 2) kk)) cD_14 dX8_close_27 ?_
      refine lv_if_eq (tgt := 47) hx hb dX8_close_30 (by decide) (fun c1 => ?_) (fun c1 => ?_)
      · refine lv_iinc (v := ((nI kk) + 1)) (lv' := [(1, .int ((nI kk) + 1)), (2, .ref (α (27 + 3 * kk))), (0, .ref (α 20))]) hx hb dX8_close_47 hl (k := 1) rfl rfl (by decide) rfl (fun ls hl => ?_)
        refine lv_goto (tgt := 2) hx hb dX8_close_50 (by decide) ?_
        exact ih (kk + 1) Q H locs ls (by omega) (by rw [cls, hI]; (first | rw [if_pos c1] | rw [if_neg c1])) B (by have h9 := lv_sub (l' := [(1, .int ((nI kk) + 1)), (0, .ref (α 20))]) hl [0, 2] rfl; rw [nI_1] at h9; exact h9)
      · refine lv_aload_n hx hb dX8_close_33 rfl (lv_at hl 0 rfl) ?_
        refine g_get C B (27 + 3 * kk) (Lc_d (i := kk) (by omega) (by omega) (by omega)) cE_d rfl gf_2 15 (by decide) wl_525 (v := .long ((J.2.2.2 1) kk)) cD_15 dX8_close_34 ?_
        refine lv_lconst (v := 0) hx hb dX8_close_37 (by decide) ?_
        refine gl_ne (tgt := 47) hx hb dX8_close_38 dX8_close_39 (by decide) (fun c2 => ?_) (fun c2 => ?_)
        · refine lv_iinc (v := ((nI kk) + 1)) (lv' := [(1, .int ((nI kk) + 1)), (2, .ref (α (27 + 3 * kk))), (0, .ref (α 20))]) hx hb dX8_close_47 hl (k := 1) rfl rfl (by decide) rfl (fun ls hl => ?_)
          refine lv_goto (tgt := 2) hx hb dX8_close_50 (by decide) ?_
          exact ih (kk + 1) Q H locs ls (by omega) (by rw [cls, hI]; (first | rw [if_pos c1] | rw [if_neg c1]); (first | rw [if_pos c2] | rw [if_neg c2])) B (by have h9 := lv_sub (l' := [(1, .int ((nI kk) + 1)), (0, .ref (α 20))]) hl [0, 2] rfl; rw [nI_1] at h9; exact h9)
        · refine lv_aload_n hx hb dX8_close_42 rfl (lv_at hl 0 rfl) ?_
          refine lv_iconst (v := 1) hx hb dX8_close_43 (by decide) ?_
          refine g_put C B (27 + 3 * kk) (Lc_d (i := kk) (by omega) (by omega) (by omega)) cE_d rfl gf_2 tyX2 tyX2_ok nmX2 11 (by decide) wl_515 rfl (ty := .boolean) (v := .int 1) (by decide +kernel) rfl rfl (Nat.le_of_ble_eq_true rfl) dX8_close_44 cV_paidOut (fun H locs B => ?_)
          refine lv_iinc (v := ((nI kk) + 1)) (lv' := [(1, .int ((nI kk) + 1)), (2, .ref (α (27 + 3 * kk))), (0, .ref (α 20))]) hx hb dX8_close_47 hl (k := 1) rfl rfl (by decide) rfl (fun ls hl => ?_)
          refine lv_goto (tgt := 2) hx hb dX8_close_50 (by decide) ?_
          exact ih (kk + 1) (uA Q 24 (upd (Q.2.2.1 24) kk 1)) H locs ls (by omega) (by rw [cls, hI]; (first | rw [if_pos c1] | rw [if_neg c1]); (first | rw [if_pos c2] | rw [if_neg c2])) B (by have h9 := lv_sub (l' := [(1, .int ((nI kk) + 1)), (0, .ref (α 20))]) hl [0, 2] rfl; rw [nI_1] at h9; exact h9)
  refine lv_iconst (v := 0) hx hb dX8_close_0 (by decide) ?_
  refine lv_istore_n (lv' := [(1, .int 0), (0, .ref (α 20))]) hx hb dX8_close_1 rfl hl (by decide) rfl (fun ls hl => ?_)
  exact loop n 0 S _ _ ls (by omega) rfl B (lv_sub hl [0, 1] rfl)
set_option maxHeartbeats 4000000 in
set_option maxRecDepth 100000 in
theorem c_X8_call (l : Launch) (D : va_G) (G : Nat → ClassId) (τ α : Nat → Nat) (S J : St) (n sz : Nat) (mo : Int32) (hn : S.1 15 = nI n) (hn30 : n ≤ 30) : Wv l D G τ yX8_call cX8_call 4 none 2 0 0 [.ref (α 20), .int mo] α (cE G α S J n) (Lc n) sz (fun u => u = (α, cE G α (cl1 S J mo n).1 (cl1 S J mo n).2 n, Lc n)) := by
  refine gM _ (by decide) rfl (Nat.le_of_ble_eq_true rfl) ?_
  intro p e s m below meth c ls C hr hlk hnm hsz B hl
  have hx := C.1
  have hb := C.2.1
  have hl : lv_has ls 4 [(0, .ref (α 20)), (1, .int mo)] := hl
  have loop : ∀ (nn kk : Nat) (Q : St) (K : St) (H : Heap) (locs : List Loc) (ls : Array Slot), nn + kk = n → (cl1 S J mo kk = (Q, K)) → gB D G τ (gA α (Lc n) sz) s H locs α (cE G α Q K n) (Lc n) → lv_has ls 4 [(2, .int (nI kk)), (0, .ref (α 20)), (1, .int mo)] → W p l e (rmd 2 0 0) s m [.ref (α 20), .int mo].toArray below meth c H locs 0 0 (MQ below (va_Qv (fun u => u = (α, cE G α (cl1 S J mo n).1 (cl1 S J mo n).2 n, Lc n)) (gAt D (gA α (Lc n) sz)) (gA α (Lc n) sz)) [.ref (α 20), .int mo].toArray s 0 0 (gA α (Lc n) sz)) (F0 m 12 ls []) := by
    intro nn
    induction nn with
    | zero =>
      intro kk Q K H locs ls hk hI B hl
      have hq8 := (cl1_c S J mo kk).1 15 (by decide)
      rw [hI] at hq8
      have hqn : Q.1 15 = nI n := by rw [hq8]; exact hn
      refine lv_iload_n hx hb dX8_call_12 rfl (lv_at hl 0 rfl) ?_
      refine lv_aload_n hx hb dX8_call_13 rfl (lv_at hl 1 rfl) ?_
      refine g_get C B (20) (Lc_in (by decide)) cE_20 rfl gf_8 0 (by decide) wl_180 (v := .ref (α 15)) cF_20_0 dX8_call_14 ?_
      refine g_get C B (15) (Lc_in (by decide)) cE_15 rfl gf_3 1 (by decide) wl_129 (v := .int (Q.1 15)) cF_15_1 dX8_call_17 ?_
      refine lv_icmp_ge (tgt := 84) hx hb dX8_call_20 (by decide) (fun _ => ?_) (fun hc => absurd (by rw [hqn]; exact nI_le (by omega) (by omega)) hc)
      exact ge_wv C B hr hlk (by rw [show n = kk by omega, hI]) dX8_call_84
    | succ nn ih =>
      intro kk Q K H locs ls hk hI B hl
      have hq8 := (cl1_c S J mo kk).1 15 (by decide)
      rw [hI] at hq8
      have hqn : Q.1 15 = nI n := by rw [hq8]; exact hn
      refine lv_iload_n hx hb dX8_call_12 rfl (lv_at hl 0 rfl) ?_
      refine lv_aload_n hx hb dX8_call_13 rfl (lv_at hl 1 rfl) ?_
      refine g_get C B (20) (Lc_in (by decide)) cE_20 rfl gf_8 0 (by decide) wl_180 (v := .ref (α 15)) cF_20_0 dX8_call_14 ?_
      refine g_get C B (15) (Lc_in (by decide)) cE_15 rfl gf_3 1 (by decide) wl_129 (v := .int (Q.1 15)) cF_15_1 dX8_call_17 ?_
      refine lv_icmp_ge (tgt := 84) hx hb dX8_call_20 (by decide) (fun hc => absurd hc (by rw [hqn]; exact nI_ge (by omega) (by omega))) (fun _ => ?_)
      refine lv_aload_n hx hb dX8_call_23 rfl (lv_at hl 1 rfl) ?_
      refine g_get C B (20) (Lc_in (by decide)) cE_20 rfl gf_8 0 (by decide) wl_180 (v := .ref (α 15)) cF_20_0 dX8_call_24 ?_
      refine lv_iload_n hx hb dX8_call_27 rfl (lv_at hl 0 rfl) ?_
      refine gc_r (gr_V C B (k := 15) (As := [.int (nI kk)]) (rest := []) (c_X3_findN l D G τ α Q K n _ kk (by omega) hqn hn30) (Lc_in (by decide)) cE_15 rfl wl_277 wl_278 wl_279 wl_34 wl_280 (na := 1) (by decide +kernel) rfl ⟨Nat.le_of_ble_eq_true rfl, Nat.le_of_ble_eq_true rfl⟩ ⟨Nat.le_of_ble_eq_true rfl, Nat.le_of_ble_eq_true rfl⟩ hl.1 rfl (Nat.le_of_ble_eq_true rfl) dX8_call_28) ?_
      refine lv_astore_n (lv' := [(3, .ref (α (27 + 3 * kk))), (2, .int (nI kk)), (0, .ref (α 20)), (1, .int mo)]) hx hb dX8_call_31 rfl hl (by decide) rfl (fun ls hl => ?_)
      refine lv_aload_n hx hb dX8_call_32 rfl (lv_at hl 0 rfl) ?_
      refine lv_ifnonnull (tgt := 39) hx hb dX8_call_33 (by decide) ?_
      refine lv_aload_n hx hb dX8_call_39 rfl (lv_at hl 0 rfl) ?_
      refine lv_iload_n hx hb dX8_call_40 rfl (lv_at hl 3 rfl) ?_
      refine gc_wv B (gr_V C B (k := 27 + 3 * kk) (As := [.int mo]) (rest := []) (c_X2_comeToRoll l D G τ α Q K n _ kk mo (by omega)) (Lc_d (i := kk) (by omega) (by omega) (by omega)) cE_d rfl wl_345 wl_346 wl_347 wl_42 wl_348 (na := 1) (by decide +kernel) rfl ⟨Nat.le_of_ble_eq_true rfl, Nat.le_of_ble_eq_true rfl⟩ ⟨Nat.le_of_ble_eq_true rfl, Nat.le_of_ble_eq_true rfl⟩ hl.1 rfl (Nat.le_of_ble_eq_true rfl) dX8_call_41) (fun u h H locs B => ?_)
      subst h
      have B : gB D G τ (gA α (Lc n) sz) s H locs α (cE G α Q (cJ2 Q K kk mo) n) (Lc n) := B
      refine lv_aload_n hx hb dX8_call_44 rfl (lv_at hl 2 rfl) ?_
      refine lv_dup hx hb dX8_call_45 rfl ?_
      refine g_get C B (20) (Lc_in (by decide)) cE_20 rfl gf_8 2 (by decide) wl_182 (v := .long (Q.2.1 31)) cF_20_2 dX8_call_46 ?_
      refine lv_aload_n hx hb dX8_call_49 rfl (lv_at hl 0 rfl) ?_
      refine g_get C B (27 + 3 * kk) (Lc_d (i := kk) (by omega) (by omega) (by omega)) cE_d rfl gf_2 15 (by decide) wl_525 (v := .long (((cJ2 Q K kk mo).2.2.2 1) kk)) cD_15 dX8_call_50 ?_
      refine lv_ladd hx hb dX8_call_53 ?_
      refine g_put C B (20) (Lc_in (by decide)) cE_20 rfl gf_8 tyX8 tyX8_ok nmX8 2 (by decide) wl_182 rfl (ty := .long) (v := .long (Q.2.1 31 + ((cJ2 Q K kk mo).2.2.2 1) kk)) (by decide +kernel) rfl rfl (Nat.le_of_ble_eq_true rfl) dX8_call_54 cO_20_2 (fun H locs B => ?_)
      refine lv_aload_n hx hb dX8_call_57 rfl (lv_at hl 2 rfl) ?_
      refine lv_dup hx hb dX8_call_58 rfl ?_
      refine g_get C B (20) (Lc_in (by decide)) cE_20 rfl gf_8 3 (by decide) wl_184 (v := .int (Q.1 32)) cF_20_3 dX8_call_59 ?_
      refine lv_aload_n hx hb dX8_call_62 rfl (lv_at hl 0 rfl) ?_
      refine g_get C B (27 + 3 * kk) (Lc_d (i := kk) (by omega) (by omega) (by omega)) cE_d rfl gf_2 14 (by decide) wl_522 (v := .int (((cJ2 Q K kk mo).2.2.1 2) kk)) cD_14 dX8_call_63 ?_
      refine lv_if_eq (tgt := 73) hx hb dX8_call_66 (by decide) (fun c1 => ?_) (fun c1 => ?_)
      · refine lv_iconst (v := 0) hx hb dX8_call_73 (by decide) ?_
        refine lv_iadd hx hb dX8_call_74 ?_
        refine g_put C B (20) (Lc_in (by decide)) cE_20 rfl gf_8 tyX8 tyX8_ok nmX8 3 (by decide) wl_184 rfl (ty := .int) (v := .int (Q.1 32 + 0)) (by decide +kernel) rfl rfl (Nat.le_of_ble_eq_true rfl) dX8_call_75 cO_20_3 (fun H locs B => ?_)
        refine lv_iinc (v := ((nI kk) + 1)) (lv' := [(2, .int ((nI kk) + 1)), (3, .ref (α (27 + 3 * kk))), (0, .ref (α 20)), (1, .int mo)]) hx hb dX8_call_78 hl (k := 1) rfl rfl (by decide) rfl (fun ls hl => ?_)
        refine lv_goto (tgt := 12) hx hb dX8_call_81 (by decide) ?_
        exact ih (kk + 1) (uI (uJ Q 31 (Q.2.1 31 + ((cJ2 Q K kk mo).2.2.2 1) kk)) 32 (Q.1 32 + 0)) (cJ2 Q K kk mo) H locs ls (by omega) (by rw [cl1, hI]; dsimp only; (first | rw [if_pos c1] | rw [if_neg c1])) B (by have h9 := lv_sub (l' := [(2, .int ((nI kk) + 1)), (0, .ref (α 20)), (1, .int mo)]) hl [0, 2, 3] rfl; rw [nI_1] at h9; exact h9)
      · refine lv_iconst (v := 1) hx hb dX8_call_69 (by decide) ?_
        refine lv_goto (tgt := 74) hx hb dX8_call_70 (by decide) ?_
        refine lv_iadd hx hb dX8_call_74 ?_
        refine g_put C B (20) (Lc_in (by decide)) cE_20 rfl gf_8 tyX8 tyX8_ok nmX8 3 (by decide) wl_184 rfl (ty := .int) (v := .int (Q.1 32 + 1)) (by decide +kernel) rfl rfl (Nat.le_of_ble_eq_true rfl) dX8_call_75 cO_20_3 (fun H locs B => ?_)
        refine lv_iinc (v := ((nI kk) + 1)) (lv' := [(2, .int ((nI kk) + 1)), (3, .ref (α (27 + 3 * kk))), (0, .ref (α 20)), (1, .int mo)]) hx hb dX8_call_78 hl (k := 1) rfl rfl (by decide) rfl (fun ls hl => ?_)
        refine lv_goto (tgt := 12) hx hb dX8_call_81 (by decide) ?_
        exact ih (kk + 1) (uI (uJ Q 31 (Q.2.1 31 + ((cJ2 Q K kk mo).2.2.2 1) kk)) 32 (Q.1 32 + 1)) (cJ2 Q K kk mo) H locs ls (by omega) (by rw [cl1, hI]; dsimp only; (first | rw [if_pos c1] | rw [if_neg c1])) B (by have h9 := lv_sub (l' := [(2, .int ((nI kk) + 1)), (0, .ref (α 20)), (1, .int mo)]) hl [0, 2, 3] rfl; rw [nI_1] at h9; exact h9)
  refine lv_aload_n hx hb dX8_call_0 rfl (lv_at hl 0 rfl) ?_
  refine lv_lconst (v := 0) hx hb dX8_call_1 (by decide) ?_
  refine g_put C B (20) (Lc_in (by decide)) cE_20 rfl gf_8 tyX8 tyX8_ok nmX8 2 (by decide) wl_182 rfl (ty := .long) (v := .long 0) (by decide +kernel) rfl rfl (Nat.le_of_ble_eq_true rfl) dX8_call_2 cO_20_2 (fun H locs B => ?_)
  refine lv_aload_n hx hb dX8_call_5 rfl (lv_at hl 0 rfl) ?_
  refine lv_iconst (v := 0) hx hb dX8_call_6 (by decide) ?_
  refine g_put C B (20) (Lc_in (by decide)) cE_20 rfl gf_8 tyX8 tyX8_ok nmX8 3 (by decide) wl_184 rfl (ty := .int) (v := .int 0) (by decide +kernel) rfl rfl (Nat.le_of_ble_eq_true rfl) dX8_call_7 cO_20_3 (fun H locs B => ?_)
  refine lv_iconst (v := 0) hx hb dX8_call_10 (by decide) ?_
  refine lv_istore_n (lv' := [(2, .int 0), (0, .ref (α 20)), (1, .int mo)]) hx hb dX8_call_11 rfl hl (by decide) rfl (fun ls hl => ?_)
  exact loop n 0 _ J _ _ ls (by omega) rfl B (lv_sub hl [0, 1, 2] rfl)
theorem lrn_0 (S J : St) (known : Int32) : ∀ k, (lrn S J known k).2.2.1 0 = J.2.2.1 0
  | 0 => rfl
  | k + 1 => (lrn_0 S J known k)
set_option maxHeartbeats 4000000 in
set_option maxRecDepth 100000 in
theorem c_X8_learn (l : Launch) (D : va_G) (G : Nat → ClassId) (τ α : Nat → Nat) (S J : St) (n sz : Nat) (known : Int32) (hn : S.1 15 = nI n) (hn30 : n ≤ 30) (hN : okN S) (hF : okF S) (hJ9 : ∀ i, i < n → S.2.2.1 16 i = 1 → J.2.2.1 0 i = S.2.2.1 18 i) : Wv l D G τ yX8_learn cX8_learn 6 none 5 0 0 [.ref (α 20), .ref (α 17), .int known] α (cE G α S J n) (Lc n) sz (fun u => u = (α, cE G α S (lrn S J known n) n, Lc n)) := by
  refine gM _ (by decide) rfl (Nat.le_of_ble_eq_true rfl) ?_
  intro p e s m below meth c ls C hr hlk hnm hsz B hl
  have hx := C.1
  have hb := C.2.1
  have hl : lv_has ls 6 [(0, .ref (α 20)), (1, .ref (α 17)), (2, .int known)] := hl
  have loop : ∀ (nn kk : Nat) (K : St) (H : Heap) (locs : List Loc) (ls : Array Slot), nn + kk = n → (lrn S J known kk = K) → gB D G τ (gA α (Lc n) sz) s H locs α (cE G α S K n) (Lc n) → lv_has ls 6 [(3, .int (nI kk)), (0, .ref (α 20)), (1, .ref (α 17)), (2, .int known)] → W p l e (rmd 5 0 0) s m [.ref (α 20), .ref (α 17), .int known].toArray below meth c H locs 0 0 (MQ below (va_Qv (fun u => u = (α, cE G α S (lrn S J known n) n, Lc n)) (gAt D (gA α (Lc n) sz)) (gA α (Lc n) sz)) [.ref (α 20), .ref (α 17), .int known].toArray s 0 0 (gA α (Lc n) sz)) (F0 m 2 ls []) := by
    intro nn
    induction nn with
    | zero =>
      intro kk K H locs ls hk hI B hl
      have hk0 := lrn_0 S J known kk
      rw [hI] at hk0
      refine lv_iload_n hx hb dX8_learn_2 rfl (lv_at hl 0 rfl) ?_
      refine lv_aload_n hx hb dX8_learn_3 rfl (lv_at hl 1 rfl) ?_
      refine g_get C B (20) (Lc_in (by decide)) cE_20 rfl gf_8 0 (by decide) wl_180 (v := .ref (α 15)) cF_20_0 dX8_learn_4 ?_
      refine g_get C B (15) (Lc_in (by decide)) cE_15 rfl gf_3 1 (by decide) wl_129 (v := .int (S.1 15)) cF_15_1 dX8_learn_7 ?_
      refine lv_icmp_ge (tgt := 93) hx hb dX8_learn_10 (by decide) (fun _ => ?_) (fun hc => absurd (by rw [hn]; exact nI_le (by omega) (by omega)) hc)
      exact ge_wv C B hr hlk (by rw [show n = kk by omega, hI]) dX8_learn_93
    | succ nn ih =>
      intro kk K H locs ls hk hI B hl
      have hk0 := lrn_0 S J known kk
      rw [hI] at hk0
      refine lv_iload_n hx hb dX8_learn_2 rfl (lv_at hl 0 rfl) ?_
      refine lv_aload_n hx hb dX8_learn_3 rfl (lv_at hl 1 rfl) ?_
      refine g_get C B (20) (Lc_in (by decide)) cE_20 rfl gf_8 0 (by decide) wl_180 (v := .ref (α 15)) cF_20_0 dX8_learn_4 ?_
      refine g_get C B (15) (Lc_in (by decide)) cE_15 rfl gf_3 1 (by decide) wl_129 (v := .int (S.1 15)) cF_15_1 dX8_learn_7 ?_
      refine lv_icmp_ge (tgt := 93) hx hb dX8_learn_10 (by decide) (fun hc => absurd hc (by rw [hn]; exact nI_ge (by omega) (by omega))) (fun _ => ?_)
      refine lv_aload_n hx hb dX8_learn_13 rfl (lv_at hl 1 rfl) ?_
      refine g_get C B (20) (Lc_in (by decide)) cE_20 rfl gf_8 0 (by decide) wl_180 (v := .ref (α 15)) cF_20_0 dX8_learn_14 ?_
      refine lv_iload_n hx hb dX8_learn_17 rfl (lv_at hl 0 rfl) ?_
      refine gc_r (gr_V C B (k := 15) (As := [.int (nI kk)]) (rest := []) (c_X3_findN l D G τ α S K n _ kk (by omega) hn hn30) (Lc_in (by decide)) cE_15 rfl wl_277 wl_278 wl_279 wl_34 wl_280 (na := 1) (by decide +kernel) rfl ⟨Nat.le_of_ble_eq_true rfl, Nat.le_of_ble_eq_true rfl⟩ ⟨Nat.le_of_ble_eq_true rfl, Nat.le_of_ble_eq_true rfl⟩ hl.1 rfl (Nat.le_of_ble_eq_true rfl) dX8_learn_18) ?_
      refine lv_astore (lv' := [(4, .ref (α (27 + 3 * kk))), (3, .int (nI kk)), (0, .ref (α 20)), (1, .ref (α 17)), (2, .int known)]) hx hb dX8_learn_21 hl (by decide) rfl (fun ls hl => ?_)
      refine lv_aload hx hb dX8_learn_23 (lv_at hl 0 rfl) ?_
      refine lv_ifnonnull (tgt := 31) hx hb dX8_learn_25 (by decide) ?_
      refine lv_aload_n hx hb dX8_learn_31 rfl (lv_at hl 3 rfl) ?_
      refine lv_aload hx hb dX8_learn_32 (lv_at hl 0 rfl) ?_
      refine lv_iload_n hx hb dX8_learn_34 rfl (lv_at hl 4 rfl) ?_
      refine gc_o (oI := oI) (gr_V C B (k := 17) (As := [.ref (α (27 + 3 * kk)), .int known]) (rest := []) (c_X4_fallRow l D G τ α S K n _ kk known (by omega) hN hF (by rw [hk0]; exact hJ9 kk (by omega))) (Lc_in (by decide)) cE_17 rfl wl_281 wl_282 wl_283 wl_35 wl_284 (na := 2) (by decide +kernel) rfl ⟨Nat.le_of_ble_eq_true rfl, Nat.le_of_ble_eq_true rfl⟩ ⟨Nat.le_of_ble_eq_true rfl, Nat.le_of_ble_eq_true rfl⟩ hl.1 rfl (Nat.le_of_ble_eq_true rfl) dX8_learn_35) (fun o1 => ?_) (fun f2 o1 => ?_)
      · refine lv_istore (lv' := [(5, .int (-1)), (4, .ref (α (27 + 3 * kk))), (3, .int (nI kk)), (0, .ref (α 20)), (1, .ref (α 17)), (2, .int known)]) hx hb dX8_learn_38 hl (by decide) rfl (fun ls hl => ?_)
        refine lv_aload hx hb dX8_learn_40 (lv_at hl 1 rfl) ?_
        refine lv_iload hx hb dX8_learn_42 (lv_at hl 0 rfl) ?_
        refine lv_iconst (v := (-1)) hx hb dX8_learn_44 (by decide) ?_
        refine lv_icmp_ne (tgt := 53) hx hb dX8_learn_45 (by decide) (fun hc => absurd (by decide) hc) (fun _ => ?_)
        refine g_ldc C wl_309 dX8_learn_48 ?_
        refine lv_goto (tgt := 60) hx hb dX8_learn_50 (by decide) ?_
        refine g_put C B (27 + 3 * kk) (Lc_d (i := kk) (by omega) (by omega) (by omega)) cE_d rfl gf_2 tyX2 tyX2_ok nmX2 12 (by decide) wl_518 rfl (ty := .int) (v := .int 1000000) (by decide +kernel) rfl rfl (Nat.le_of_ble_eq_true rfl) dX8_learn_60 cV_dueMonth (fun H locs B => ?_)
        refine lv_aload hx hb dX8_learn_63 (lv_at hl 1 rfl) ?_
        refine lv_iload hx hb dX8_learn_65 (lv_at hl 0 rfl) ?_
        refine lv_iconst (v := (-1)) hx hb dX8_learn_67 (by decide) ?_
        refine lv_icmp_ne (tgt := 75) hx hb dX8_learn_68 (by decide) (fun hc => absurd (by decide) hc) (fun _ => ?_)
        refine lv_lconst (v := 0) hx hb dX8_learn_71 (by decide) ?_
        refine lv_goto (tgt := 84) hx hb dX8_learn_72 (by decide) ?_
        refine g_put C B (27 + 3 * kk) (Lc_d (i := kk) (by omega) (by omega) (by omega)) cE_d rfl gf_2 tyX2 tyX2_ok nmX2 13 (by decide) wl_520 rfl (ty := .long) (v := .long 0) (by decide +kernel) rfl rfl (Nat.le_of_ble_eq_true rfl) dX8_learn_84 cV_dueSum (fun H locs B => ?_)
        refine lv_iinc (v := ((nI kk) + 1)) (lv' := [(3, .int ((nI kk) + 1)), (5, .int (-1)), (4, .ref (α (27 + 3 * kk))), (0, .ref (α 20)), (1, .ref (α 17)), (2, .int known)]) hx hb dX8_learn_87 hl (k := 2) rfl rfl (by decide) rfl (fun ls hl => ?_)
        refine lv_goto (tgt := 2) hx hb dX8_learn_90 (by decide) ?_
        exact ih (kk + 1) (uB (uA K 1 (upd (K.2.2.1 1) kk 1000000)) 0 (vp_updL (K.2.2.2 0) kk 0)) H locs ls (by omega) (by rw [lrn, hI, o1]) B (by have h9 := lv_sub (l' := [(3, .int ((nI kk) + 1)), (0, .ref (α 20)), (1, .ref (α 17)), (2, .int known)]) hl [0, 3, 4, 5] rfl; rw [nI_1] at h9; exact h9)
      · have f2_b : f2 < 90 := Nat.lt_of_lt_of_le (sFall_lt o1).1 (nOf_le hN.2.2.2.1.1 hN.2.2.2.1.2 (by decide))
        refine lv_istore (lv' := [(5, .int (nI f2)), (4, .ref (α (27 + 3 * kk))), (3, .int (nI kk)), (0, .ref (α 20)), (1, .ref (α 17)), (2, .int known)]) hx hb dX8_learn_38 hl (by decide) rfl (fun ls hl => ?_)
        refine lv_aload hx hb dX8_learn_40 (lv_at hl 1 rfl) ?_
        refine lv_iload hx hb dX8_learn_42 (lv_at hl 0 rfl) ?_
        refine lv_iconst (v := (-1)) hx hb dX8_learn_44 (by decide) ?_
        refine lv_icmp_ne (tgt := 53) hx hb dX8_learn_45 (by decide) (fun _ => ?_) (fun hc => absurd hc (nI_m1 (by omega)))
        refine lv_aload_n hx hb dX8_learn_53 rfl (lv_at hl 4 rfl) ?_
        refine lv_iload hx hb dX8_learn_54 (lv_at hl 0 rfl) ?_
        refine lv_iload_n hx hb dX8_learn_56 rfl (lv_at hl 5 rfl) ?_
        refine gc_i (gr_V C B (k := 17) (As := [.int (nI f2), .int known]) (rest := [.ref (α (27 + 3 * kk))]) (c_X4_dueMonth l D G τ α S K n _ f2 known (by omega) hN) (Lc_in (by decide)) cE_17 rfl wl_310 wl_311 wl_312 wl_35 wl_313 (na := 2) (by decide +kernel) rfl ⟨Nat.le_of_ble_eq_true rfl, Nat.le_of_ble_eq_true rfl⟩ ⟨Nat.le_of_ble_eq_true rfl, Nat.le_of_ble_eq_true rfl⟩ hl.1 rfl (Nat.le_of_ble_eq_true rfl) dX8_learn_57) (fun r h => ?_)
        subst h
        refine g_put C B (27 + 3 * kk) (Lc_d (i := kk) (by omega) (by omega) (by omega)) cE_d rfl gf_2 tyX2 tyX2_ok nmX2 12 (by decide) wl_518 rfl (ty := .int) (v := .int (sDueM S f2 known)) (by decide +kernel) rfl rfl (Nat.le_of_ble_eq_true rfl) dX8_learn_60 cV_dueMonth (fun H locs B => ?_)
        refine lv_aload hx hb dX8_learn_63 (lv_at hl 1 rfl) ?_
        refine lv_iload hx hb dX8_learn_65 (lv_at hl 0 rfl) ?_
        refine lv_iconst (v := (-1)) hx hb dX8_learn_67 (by decide) ?_
        refine lv_icmp_ne (tgt := 75) hx hb dX8_learn_68 (by decide) (fun _ => ?_) (fun hc => absurd hc (nI_m1 (by omega)))
        refine lv_aload_n hx hb dX8_learn_75 rfl (lv_at hl 4 rfl) ?_
        refine lv_aload hx hb dX8_learn_76 (lv_at hl 1 rfl) ?_
        refine lv_iload hx hb dX8_learn_78 (lv_at hl 0 rfl) ?_
        refine lv_iload_n hx hb dX8_learn_80 rfl (lv_at hl 5 rfl) ?_
        refine gc_l (gr_V C B (k := 17) (As := [.ref (α (27 + 3 * kk)), .int (nI f2), .int known]) (rest := [.ref (α (27 + 3 * kk))]) (c_X4_dueSum l D G τ α S (uA K 1 (upd (K.2.2.1 1) kk (sDueM S f2 known))) n _ kk f2 known (by omega) (by omega) hN) (Lc_in (by decide)) cE_17 rfl wl_324 wl_325 wl_326 wl_35 wl_327 (na := 3) (by decide +kernel) rfl ⟨Nat.le_of_ble_eq_true rfl, Nat.le_of_ble_eq_true rfl⟩ ⟨Nat.le_of_ble_eq_true rfl, Nat.le_of_ble_eq_true rfl⟩ hl.1 rfl (Nat.le_of_ble_eq_true rfl) dX8_learn_81) (fun r h => ?_)
        subst h
        refine g_put C B (27 + 3 * kk) (Lc_d (i := kk) (by omega) (by omega) (by omega)) cE_d rfl gf_2 tyX2 tyX2_ok nmX2 13 (by decide) wl_520 rfl (ty := .long) (v := .long (sDue S kk f2 known)) (by decide +kernel) rfl rfl (Nat.le_of_ble_eq_true rfl) dX8_learn_84 cV_dueSum (fun H locs B => ?_)
        refine lv_iinc (v := ((nI kk) + 1)) (lv' := [(3, .int ((nI kk) + 1)), (5, .int (nI f2)), (4, .ref (α (27 + 3 * kk))), (0, .ref (α 20)), (1, .ref (α 17)), (2, .int known)]) hx hb dX8_learn_87 hl (k := 2) rfl rfl (by decide) rfl (fun ls hl => ?_)
        refine lv_goto (tgt := 2) hx hb dX8_learn_90 (by decide) ?_
        exact ih (kk + 1) (uB (uA K 1 (upd (K.2.2.1 1) kk (sDueM S f2 known))) 0 (vp_updL (K.2.2.2 0) kk (sDue S kk f2 known))) H locs ls (by omega) (by rw [lrn, hI, o1]) B (by have h9 := lv_sub (l' := [(3, .int ((nI kk) + 1)), (0, .ref (α 20)), (1, .ref (α 17)), (2, .int known)]) hl [0, 3, 4, 5] rfl; rw [nI_1] at h9; exact h9)
  refine lv_iconst (v := 0) hx hb dX8_learn_0 (by decide) ?_
  refine lv_istore_n (lv' := [(3, .int 0), (0, .ref (α 20)), (1, .ref (α 17)), (2, .int known)]) hx hb dX8_learn_1 rfl hl (by decide) rfl (fun ls hl => ?_)
  exact loop n 0 J _ _ ls (by omega) rfl B (lv_sub hl [0, 1, 2, 3] rfl)
theorem cl1_28 (S J : St) (mo : Int32) : ∀ k, ∀ j, j ≠ 31 → (cl1 S J mo k).1.2.1 j = S.2.1 j
  | 0, j, h => by simp [cl1, uI, uJ, va_up, h]
  | k + 1, j, h => by
    rw [← cl1_28 S J mo k j h]
    simp [cl1, uI, uJ, va_up, h]
/-- a month of the class, but for the month's own number -/
def cGo (S J : St) (mo : Int32) (n : Nat) : St × St := if (cl1 S J mo n).1.2.1 31 ≤ (cl1 S J mo n).1.2.1 28 then (cls (pw (cl1 S J mo n).1 (cl1 S J mo n).2 n).1 (pw (cl1 S J mo n).1 (cl1 S J mo n).2 n).2 n, (pw (cl1 S J mo n).1 (cl1 S J mo n).2 n).2)
  else (cls (plo (psh (cl1 S J mo n).1 (cl1 S J mo n).2 ((cl1 S J mo n).1.2.1 28) ((cl1 S J mo n).1.2.1 31) n).1 (psh (cl1 S J mo n).1 (cl1 S J mo n).2 ((cl1 S J mo n).1.2.1 28) ((cl1 S J mo n).1.2.1 31) n).2 n).1 (plo (psh (cl1 S J mo n).1 (cl1 S J mo n).2 ((cl1 S J mo n).1.2.1 28) ((cl1 S J mo n).1.2.1 31) n).1 (psh (cl1 S J mo n).1 (cl1 S J mo n).2 ((cl1 S J mo n).1.2.1 28) ((cl1 S J mo n).1.2.1 31) n).2 n).2 n, (plo (psh (cl1 S J mo n).1 (cl1 S J mo n).2 ((cl1 S J mo n).1.2.1 28) ((cl1 S J mo n).1.2.1 31) n).1 (psh (cl1 S J mo n).1 (cl1 S J mo n).2 ((cl1 S J mo n).1.2.1 28) ((cl1 S J mo n).1.2.1 31) n).2 n).2)
set_option maxHeartbeats 4000000 in
set_option maxRecDepth 100000 in
theorem c_X8_payFor (l : Launch) (D : va_G) (G : Nat → ClassId) (τ α : Nat → Nat) (S J : St) (n sz : Nat) (mo : Int32) (hn : S.1 15 = nI n) (hn30 : n ≤ 30) (hg : ∀ d, d < n → okS S d) (hM : 0 ≤ S.2.1 28) : Wv l D G τ yX8_payFor cX8_payFor 2 none 6 0 0 [.ref (α 20), .int mo] α (cE G α S J n) (Lc n) sz (fun u => u = (α, cE G α (cGo S J mo n).1 (cGo S J mo n).2 n, Lc n)) := by
  refine gM _ (by decide) rfl (Nat.le_of_ble_eq_true rfl) ?_
  intro p e s m below meth c ls C hr hlk hnm hsz B hl
  have hx := C.1
  have hb := C.2.1
  have hl : lv_has ls 2 [(0, .ref (α 20)), (1, .int mo)] := hl
  refine lv_aload_n hx hb dX8_payFor_0 rfl (lv_at hl 0 rfl) ?_
  refine lv_iload_n hx hb dX8_payFor_1 rfl (lv_at hl 1 rfl) ?_
  refine gc_wv B (gr_V C B (k := 20) (As := [.int mo]) (rest := []) (c_X8_call l D G τ α S J n _ mo hn hn30) (Lc_in (by decide)) cE_20 rfl wl_341 wl_343 wl_3 wl_37 wl_344 (na := 1) (by decide +kernel) rfl ⟨Nat.le_of_ble_eq_true rfl, Nat.le_of_ble_eq_true rfl⟩ ⟨Nat.le_of_ble_eq_true rfl, Nat.le_of_ble_eq_true rfl⟩ hl.1 rfl (Nat.le_of_ble_eq_true rfl) dX8_payFor_2) (fun u h H locs B => ?_)
  subst h
  have B : gB D G τ (gA α (Lc n) sz) s H locs α (cE G α (cl1 S J mo n).1 (cl1 S J mo n).2 n) (Lc n) := B
  obtain ⟨⟨S1, J1⟩, e1⟩ : ∃ q, q = cl1 S J mo n := ⟨_, rfl⟩
  rw [← e1] at B
  have B : gB D G τ (gA α (Lc n) sz) s H locs α (cE G α S1 J1 n) (Lc n) := B
  have c1c := cl1_c S J mo n
  rw [← e1] at c1c
  have hn1 : S1.1 15 = nI n := by rw [c1c.1 15 (by decide)]; exact hn
  have hg1 : ∀ d, d < n → okS S1 d := fun d hd => okS_c (c1c.1 0 (by decide)) (by rw [c1c.2.1]) (by rw [c1c.2.1]) (by rw [c1c.2.1]) (by rw [c1c.2.1]) (hg d hd)
  have hm1 : 0 ≤ S1.2.1 28 := by have h9 := cl1_28 S J mo n 28 (by decide); rw [← e1] at h9; rw [h9]; exact hM
  refine lv_aload_n hx hb dX8_payFor_5 rfl (lv_at hl 0 rfl) ?_
  refine g_get C B (20) (Lc_in (by decide)) cE_20 rfl gf_8 1 (by decide) wl_181 (v := .ref (α 18)) cF_20_1 dX8_payFor_6 ?_
  refine g_get C B (18) (Lc_in (by decide)) cE_18 rfl gf_7 0 (by decide) wl_156 (v := .long (S1.2.1 28)) cF_18_0 dX8_payFor_9 ?_
  refine lv_aload_n hx hb dX8_payFor_12 rfl (lv_at hl 0 rfl) ?_
  refine g_get C B (20) (Lc_in (by decide)) cE_20 rfl gf_8 2 (by decide) wl_182 (v := .long (S1.2.1 31)) cF_20_2 dX8_payFor_13 ?_
  refine gl_lt (tgt := 27) hx hb dX8_payFor_16 dX8_payFor_17 (by decide) (fun c1 => ?_) (fun c1 => ?_)
  · refine lv_aload_n hx hb dX8_payFor_27 rfl (lv_at hl 0 rfl) ?_
    refine lv_aload_n hx hb dX8_payFor_28 rfl (lv_at hl 0 rfl) ?_
    refine g_get C B (20) (Lc_in (by decide)) cE_20 rfl gf_8 1 (by decide) wl_181 (v := .ref (α 18)) cF_20_1 dX8_payFor_29 ?_
    refine g_get C B (18) (Lc_in (by decide)) cE_18 rfl gf_7 0 (by decide) wl_156 (v := .long (S1.2.1 28)) cF_18_0 dX8_payFor_32 ?_
    refine lv_aload_n hx hb dX8_payFor_35 rfl (lv_at hl 0 rfl) ?_
    refine g_get C B (20) (Lc_in (by decide)) cE_20 rfl gf_8 2 (by decide) wl_182 (v := .long (S1.2.1 31)) cF_20_2 dX8_payFor_36 ?_
    refine gc_wv B (gr_V C B (k := 20) (As := [.long (S1.2.1 28), .long (S1.2.1 31)]) (rest := []) (c_X8_payShares l D G τ α S1 J1 n _ (S1.2.1 28) (S1.2.1 31) hn1 hn30 hg1 (show 0 < S1.2.1 31 by simp only [i6l, i6e, zj_0] at hm1 c1 ⊢; omega)) (Lc_in (by decide)) cE_20 rfl wl_382 wl_384 wl_6 wl_37 wl_385 (na := 2) (by decide +kernel) rfl ⟨Nat.le_of_ble_eq_true rfl, Nat.le_of_ble_eq_true rfl⟩ ⟨Nat.le_of_ble_eq_true rfl, Nat.le_of_ble_eq_true rfl⟩ hl.1 rfl (Nat.le_of_ble_eq_true rfl) dX8_payFor_39) (fun u h H locs B => ?_)
    subst h
    have B : gB D G τ (gA α (Lc n) sz) s H locs α (cE G α (psh S1 J1 (S1.2.1 28) (S1.2.1 31) n).1 (psh S1 J1 (S1.2.1 28) (S1.2.1 31) n).2 n) (Lc n) := B
    obtain ⟨⟨S2, J2⟩, e2⟩ : ∃ q, q = psh S1 J1 (S1.2.1 28) (S1.2.1 31) n := ⟨_, rfl⟩
    rw [← e2] at B
    have B : gB D G τ (gA α (Lc n) sz) s H locs α (cE G α S2 J2 n) (Lc n) := B
    have c2c := psh_c S1 J1 (S1.2.1 28) (S1.2.1 31) n
    rw [← e2] at c2c
    have hn1 : S2.1 15 = nI n := by rw [c2c.1]; exact hn1
    have hg1 : ∀ d, d < n → okS S2 d := fun d hd => okS_c (by rw [c2c.1]) (by rw [c2c.2]) (by rw [c2c.2]) (by rw [c2c.2]) (by rw [c2c.2]) (hg1 d hd)
    refine lv_aload_n hx hb dX8_payFor_42 rfl (lv_at hl 0 rfl) ?_
    refine gc_wv B (gr_V C B (k := 20) (As := []) (rest := []) (c_X8_payLeftOver l D G τ α S2 J2 n _ hn1 hn30 hg1) (Lc_in (by decide)) cE_20 rfl wl_386 wl_388 wl_7 wl_37 wl_389 (na := 0) (by decide +kernel) rfl ⟨Nat.le_of_ble_eq_true rfl, Nat.le_of_ble_eq_true rfl⟩ ⟨Nat.le_of_ble_eq_true rfl, Nat.le_of_ble_eq_true rfl⟩ hl.1 rfl (Nat.le_of_ble_eq_true rfl) dX8_payFor_43) (fun u h H locs B => ?_)
    subst h
    have B : gB D G τ (gA α (Lc n) sz) s H locs α (cE G α (plo S2 J2 n).1 (plo S2 J2 n).2 n) (Lc n) := B
    obtain ⟨⟨S3, J3⟩, e3⟩ : ∃ q, q = plo S2 J2 n := ⟨_, rfl⟩
    rw [← e3] at B
    have B : gB D G τ (gA α (Lc n) sz) s H locs α (cE G α S3 J3 n) (Lc n) := B
    have c3c := plo_c S2 J2 n
    rw [← e3] at c3c
    have hn1 : S3.1 15 = nI n := by rw [c3c.1]; exact hn1
    refine lv_aload_n hx hb dX8_payFor_46 rfl (lv_at hl 0 rfl) ?_
    refine gc_wv B (gr_V C B (k := 20) (As := []) (rest := []) (c_X8_close l D G τ α S3 J3 n _ hn1 hn30) (Lc_in (by decide)) cE_20 rfl wl_390 wl_392 wl_8 wl_37 wl_393 (na := 0) (by decide +kernel) rfl ⟨Nat.le_of_ble_eq_true rfl, Nat.le_of_ble_eq_true rfl⟩ ⟨Nat.le_of_ble_eq_true rfl, Nat.le_of_ble_eq_true rfl⟩ hl.1 rfl (Nat.le_of_ble_eq_true rfl) dX8_payFor_47) (fun u h H locs B => ?_)
    subst h
    have B : gB D G τ (gA α (Lc n) sz) s H locs α (cE G α (cls S3 J3 n) J3 n) (Lc n) := B
    exact ge_wv C B hr hlk (by rw [cGo, ← e1]; dsimp only; rw [if_neg (by simp only [i6l, i6e] at c1 ⊢; omega), ← e2, ← e3]) dX8_payFor_50
  · refine lv_aload_n hx hb dX8_payFor_20 rfl (lv_at hl 0 rfl) ?_
    refine gc_wv B (gr_V C B (k := 20) (As := []) (rest := []) (c_X8_payWhole l D G τ α S1 J1 n _ hn1 hn30 hg1) (Lc_in (by decide)) cE_20 rfl wl_352 wl_354 wl_4 wl_37 wl_355 (na := 0) (by decide +kernel) rfl ⟨Nat.le_of_ble_eq_true rfl, Nat.le_of_ble_eq_true rfl⟩ ⟨Nat.le_of_ble_eq_true rfl, Nat.le_of_ble_eq_true rfl⟩ hl.1 rfl (Nat.le_of_ble_eq_true rfl) dX8_payFor_21) (fun u h H locs B => ?_)
    subst h
    have B : gB D G τ (gA α (Lc n) sz) s H locs α (cE G α (pw S1 J1 n).1 (pw S1 J1 n).2 n) (Lc n) := B
    refine lv_goto (tgt := 46) hx hb dX8_payFor_24 (by decide) ?_
    obtain ⟨⟨S3, J3⟩, e3⟩ : ∃ q, q = pw S1 J1 n := ⟨_, rfl⟩
    rw [← e3] at B
    have B : gB D G τ (gA α (Lc n) sz) s H locs α (cE G α S3 J3 n) (Lc n) := B
    have c3c := pw_c S1 J1 n
    rw [← e3] at c3c
    have hn1 : S3.1 15 = nI n := by rw [c3c.1]; exact hn1
    refine lv_aload_n hx hb dX8_payFor_46 rfl (lv_at hl 0 rfl) ?_
    refine gc_wv B (gr_V C B (k := 20) (As := []) (rest := []) (c_X8_close l D G τ α S3 J3 n _ hn1 hn30) (Lc_in (by decide)) cE_20 rfl wl_390 wl_392 wl_8 wl_37 wl_393 (na := 0) (by decide +kernel) rfl ⟨Nat.le_of_ble_eq_true rfl, Nat.le_of_ble_eq_true rfl⟩ ⟨Nat.le_of_ble_eq_true rfl, Nat.le_of_ble_eq_true rfl⟩ hl.1 rfl (Nat.le_of_ble_eq_true rfl) dX8_payFor_47) (fun u h H locs B => ?_)
    subst h
    have B : gB D G τ (gA α (Lc n) sz) s H locs α (cE G α (cls S3 J3 n) J3 n) (Lc n) := B
    exact ge_wv C B hr hlk (by rw [cGo, ← e1]; dsimp only; rw [if_pos (by simp only [i6l, i6e] at c1 ⊢; omega), ← e3]) dX8_payFor_50
