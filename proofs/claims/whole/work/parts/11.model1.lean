set_option maxHeartbeats 4000000 in
set_option maxRecDepth 100000 in
theorem c_X11_isChild (l : Launch) (D : va_G) (G : Nat → ClassId) (τ α : Nat → Nat) (S : St) (sz : Nat) (v : Int32) (hN : okN S) : Ri l D G τ yX11_isChild cX11_isChild 2 (some .boolean) 1 [.ref (α 0), .int v] α (mE G α S) Lm sz (fun r => r = bI (isC S v)) := by
  refine gM _ (by decide) rfl (Nat.le_of_ble_eq_true rfl) ?_
  intro p e s m below meth c ls C hr hlk hnm hsz B hl
  have hx := C.1
  have hb := C.2.1
  have hl : lv_has ls 2 [(0, .ref (α 0)), (1, .int v)] := hl
  refine lv_iload_n hx hb dX11_isChild_0 rfl (lv_at hl 1 rfl) ?_
  refine lv_iconst (v := 0) hx hb dX11_isChild_1 (by decide) ?_
  refine lv_aload_n hx hb dX11_isChild_2 rfl (lv_at hl 0 rfl) ?_
  refine g_get C B (0) (by decide) mE_0 rfl gf_11 8 (by decide) wl_735 (v := .int (S.1 8)) mF_8 dX11_isChild_3 ?_
  refine lv_iconst (v := 1) hx hb dX11_isChild_6 (by decide) ?_
  refine lv_isub hx hb dX11_isChild_7 ?_
  refine gc_b (gr_S C B (As := [.int v, .int 0, .int (S.1 8 - 1)]) (rest := []) (c_X11_in l D G τ α _ _ _ v 0 (S.1 8 - 1)) wl_862 wl_863 wl_40 wl_864 (na := 3) (by decide +kernel) rfl ⟨Nat.le_of_ble_eq_true rfl, Nat.le_of_ble_eq_true rfl⟩ ⟨Nat.le_of_ble_eq_true rfl, Nat.le_of_ble_eq_true rfl⟩ hl.1 rfl (Nat.le_of_ble_eq_true rfl) dX11_isChild_8) (fun c1 => ?_) (fun c1 => ?_)
  · exact ge_i C hr rfl hlk (bI_t (by have h8 := hN.2.2.1; have h9 := c1; have h7 := sub1 h8.1; simp only [i3l, i3e, i3q, inR, isC, isD, zi_0, zi_1, zi_2, zi_3, zi_4, zi_5, zi_6, zi_7, zi_8, zi_9, zi_10, zi_12, zi_20, zi_21, zi_30, zi_60, zi_90, zi_99, zi_100, zi_180, zi_240, zi_400, zi_500, zi_1000, zi_1199, zi_10000, zi_100000, zi_1000000, i3m1] at h8 h9 ⊢; omega)) dX11_isChild_11
  · exact ge_i C hr rfl hlk (bI_f (by have h8 := hN.2.2.1; have h9 := c1; have h7 := sub1 h8.1; simp only [i3l, i3e, i3q, inR, isC, isD, zi_0, zi_1, zi_2, zi_3, zi_4, zi_5, zi_6, zi_7, zi_8, zi_9, zi_10, zi_12, zi_20, zi_21, zi_30, zi_60, zi_90, zi_99, zi_100, zi_180, zi_240, zi_400, zi_500, zi_1000, zi_1199, zi_10000, zi_100000, zi_1000000, i3m1] at h8 h9 ⊢; omega)) dX11_isChild_11
set_option maxHeartbeats 4000000 in
set_option maxRecDepth 100000 in
theorem c_X11_isDeposit (l : Launch) (D : va_G) (G : Nat → ClassId) (τ α : Nat → Nat) (S : St) (sz : Nat) (v : Int32) (hN : okN S) : Ri l D G τ yX11_isDeposit cX11_isDeposit 2 (some .boolean) 1 [.ref (α 0), .int v] α (mE G α S) Lm sz (fun r => r = bI (isD S v)) := by
  refine gM _ (by decide) rfl (Nat.le_of_ble_eq_true rfl) ?_
  intro p e s m below meth c ls C hr hlk hnm hsz B hl
  have hx := C.1
  have hb := C.2.1
  have hl : lv_has ls 2 [(0, .ref (α 0)), (1, .int v)] := hl
  refine lv_iload_n hx hb dX11_isDeposit_0 rfl (lv_at hl 1 rfl) ?_
  refine lv_iconst (v := 0) hx hb dX11_isDeposit_1 (by decide) ?_
  refine lv_aload_n hx hb dX11_isDeposit_2 rfl (lv_at hl 0 rfl) ?_
  refine g_get C B (0) (by decide) mE_0 rfl gf_11 15 (by decide) wl_742 (v := .int (S.1 15)) mF_15 dX11_isDeposit_3 ?_
  refine lv_iconst (v := 1) hx hb dX11_isDeposit_6 (by decide) ?_
  refine lv_isub hx hb dX11_isDeposit_7 ?_
  refine gc_b (gr_S C B (As := [.int v, .int 0, .int (S.1 15 - 1)]) (rest := []) (c_X11_in l D G τ α _ _ _ v 0 (S.1 15 - 1)) wl_862 wl_863 wl_40 wl_864 (na := 3) (by decide +kernel) rfl ⟨Nat.le_of_ble_eq_true rfl, Nat.le_of_ble_eq_true rfl⟩ ⟨Nat.le_of_ble_eq_true rfl, Nat.le_of_ble_eq_true rfl⟩ hl.1 rfl (Nat.le_of_ble_eq_true rfl) dX11_isDeposit_8) (fun c1 => ?_) (fun c1 => ?_)
  · exact ge_i C hr rfl hlk (bI_t (by have h8 := hN.2.2.2.2.1; have h9 := c1; have h7 := sub1 h8.1; simp only [i3l, i3e, i3q, inR, isC, isD, zi_0, zi_1, zi_2, zi_3, zi_4, zi_5, zi_6, zi_7, zi_8, zi_9, zi_10, zi_12, zi_20, zi_21, zi_30, zi_60, zi_90, zi_99, zi_100, zi_180, zi_240, zi_400, zi_500, zi_1000, zi_1199, zi_10000, zi_100000, zi_1000000, i3m1] at h8 h9 ⊢; omega)) dX11_isDeposit_11
  · exact ge_i C hr rfl hlk (bI_f (by have h8 := hN.2.2.2.2.1; have h9 := c1; have h7 := sub1 h8.1; simp only [i3l, i3e, i3q, inR, isC, isD, zi_0, zi_1, zi_2, zi_3, zi_4, zi_5, zi_6, zi_7, zi_8, zi_9, zi_10, zi_12, zi_20, zi_21, zi_30, zi_60, zi_90, zi_99, zi_100, zi_180, zi_240, zi_400, zi_500, zi_1000, zi_1199, zi_10000, zi_100000, zi_1000000, i3m1] at h8 h9 ⊢; omega)) dX11_isDeposit_11
set_option maxHeartbeats 4000000 in
set_option maxRecDepth 100000 in
theorem c_X11_no (l : Launch) (D : va_G) (G : Nat → ClassId) (τ α : Nat → Nat) (S : St) (sz : Nat) (k : Int32) (hk : vp_in k 6) : Wl l D G τ yX11_no cX11_no 2 (some .long) 0 0 0 [.ref (α 0), .int k] α (mE G α S) Lm sz (fun r u => r = (sNo S k).1 ∧ u = (α, mE G α (sNo S k).2, Lm)) := by
  refine gM _ (by decide) rfl (Nat.le_of_ble_eq_true rfl) ?_
  intro p e s m below meth c ls C hr hlk hnm hsz B hl
  have hx := C.1
  have hb := C.2.1
  have hl : lv_has ls 2 [(0, .ref (α 0)), (1, .int k)] := hl
  refine lv_aload_n hx hb dX11_no_0 rfl (lv_at hl 0 rfl) ?_
  refine g_get C B (0) (by decide) mE_0 rfl gf_11 1 (by decide) wl_728 (v := .ref (α 1)) mF_1 dX11_no_1 ?_
  refine lv_iload_n hx hb dX11_no_4 rfl (lv_at hl 1 rfl) ?_
  refine lv_dup2_11 hx hb dX11_no_5 rfl rfl ?_
  refine g_iald C B (1) (by decide) (f := S.2.2.1 1) mE_1 (by assumption) (j := k.toNatClampNeg) rfl dX11_no_6 ?_
  refine lv_iconst (v := 1) hx hb dX11_no_7 (by decide) ?_
  refine lv_iadd hx hb dX11_no_8 ?_
  refine g_iast C B (1) (by decide) (f := S.2.2.1 1) mE_1 (by assumption) (j := k.toNatClampNeg) rfl dX11_no_9 mU_1 (fun H locs B => ?_)
  refine g_ldc2 C wl_869 dX11_no_10 ?_
  refine lv_iload_n hx hb dX11_no_13 rfl (lv_at hl 1 rfl) ?_
  refine lv_i2l (v := k.toInt64) hx hb dX11_no_14 rfl ?_
  refine lv_lsub hx hb dX11_no_15 ?_
  exact ge_wl C B hr hlk (⟨rfl, rfl⟩) dX11_no_16
set_option maxHeartbeats 4000000 in
set_option maxRecDepth 100000 in
theorem c_X11_inForce (l : Launch) (D : va_G) (G : Nat → ClassId) (τ α : Nat → Nat) (S : St) (sz : Nat) (kind month known : Int32) (hN : okN S) (hD : okD S) : Ri l D G τ yX11_inForce cX11_inForce 7 (some .int) 0 [.ref (α 0), .int kind, .int month, .int known] α (mE G α S) Lm sz (fun r => r = sInf S kind month known) := by
  refine gM _ (by decide) rfl (Nat.le_of_ble_eq_true rfl) ?_
  intro p e s m below meth c ls C hr hlk hnm hsz B hl
  have hx := C.1
  have hb := C.2.1
  have hl : lv_has ls 7 [(0, .ref (α 0)), (1, .int kind), (2, .int month), (3, .int known)] := hl
  have hNe := nOf_eq hN.2.1.1
  have hNl : nOf S 2 ≤ 60 := nOf_le hN.2.1.1 hN.2.1.2 (by decide)
  have loop : ∀ (nn kk : Nat) (best : Option Nat) (ls : Array Slot), nn + kk = nOf S 2 → (match best with | none => infL S kind month known kk = (dflt kind, 0) | some b => b < kk ∧ infL S kind month known kk = (S.2.2.1 5 b, S.2.2.1 4 b)) → lv_has ls 7 [(5, .int (nI kk)), (4, .int (oI best)), (0, .ref (α 0)), (1, .int kind), (2, .int month), (3, .int known)] → W p l e (rmd 0 0 0) s m [.ref (α 0), .int kind, .int month, .int known].toArray below meth c s.heap [] 0 0 (MQ below (vp_Si (fun r => r = sInf S kind month known)) [.ref (α 0), .int kind, .int month, .int known].toArray s 0 0 (fun _ => False)) (F0 m 6 ls []) := by
    intro nn
    induction nn with
    | zero =>
      intro kk best ls hk hI hl
      cases best with
      | none =>
        have hl : lv_has ls 7 [(5, .int (nI kk)), (4, .int (-1)), (0, .ref (α 0)), (1, .int kind), (2, .int month), (3, .int known)] := hl
        refine lv_iload hx hb dX11_inForce_6 (lv_at hl 0 rfl) ?_
        refine lv_aload_n hx hb dX11_inForce_8 rfl (lv_at hl 2 rfl) ?_
        refine g_get C B (0) (by decide) mE_0 rfl gf_11 2 (by decide) wl_729 (v := .int (S.1 2)) mF_2 dX11_inForce_9 ?_
        refine lv_icmp_ge (tgt := 97) hx hb dX11_inForce_12 (by decide) (fun _ => ?_) (fun hc => absurd (by rw [hNe]; exact nI_le (by omega) (by omega)) hc)
        refine lv_iload hx hb dX11_inForce_97 (lv_at hl 1 rfl) ?_
        refine lv_if_lt (tgt := 110) hx hb dX11_inForce_99 (by decide) (fun _ => ?_) (fun hc => absurd (by decide) hc)
        refine lv_iload_n hx hb dX11_inForce_110 rfl (lv_at hl 3 rfl) ?_
        refine lv_iconst (v := 1) hx hb dX11_inForce_111 (by decide) ?_
        refine lv_icmp_ne (tgt := 121) hx hb dX11_inForce_112 (by decide) (fun c1 => ?_) (fun c1 => ?_)
        · refine lv_iload_n hx hb dX11_inForce_121 rfl (lv_at hl 3 rfl) ?_
          refine lv_iconst (v := 2) hx hb dX11_inForce_122 (by decide) ?_
          refine lv_icmp_ne (tgt := 132) hx hb dX11_inForce_123 (by decide) (fun c2 => ?_) (fun c2 => ?_)
          · refine lv_iload_n hx hb dX11_inForce_132 rfl (lv_at hl 3 rfl) ?_
            refine lv_iconst (v := 5) hx hb dX11_inForce_133 (by decide) ?_
            refine lv_icmp_ne (tgt := 143) hx hb dX11_inForce_134 (by decide) (fun c3 => ?_) (fun c3 => ?_)
            · refine lv_iconst (v := 0) hx hb dX11_inForce_143 (by decide) ?_
              exact ge_i C hr rfl hlk (by rw [sInf, show nOf S 2 = kk by omega, hI]; simp [dflt, c1, c2, c3]) dX11_inForce_144
            · refine lv_sipush (v := 180) hx hb dX11_inForce_137 (by decide) ?_
              refine lv_goto (tgt := 144) hx hb dX11_inForce_140 (by decide) ?_
              exact ge_i C hr rfl hlk (by rw [sInf, show nOf S 2 = kk by omega, hI]; simp [dflt, c1, c2, c3]) dX11_inForce_144
          · refine lv_sipush (v := 400) hx hb dX11_inForce_126 (by decide) ?_
            refine lv_goto (tgt := 144) hx hb dX11_inForce_129 (by decide) ?_
            exact ge_i C hr rfl hlk (by rw [sInf, show nOf S 2 = kk by omega, hI]; simp [dflt, c1, c2]) dX11_inForce_144
        · refine lv_sipush (v := 500) hx hb dX11_inForce_115 (by decide) ?_
          refine lv_goto (tgt := 144) hx hb dX11_inForce_118 (by decide) ?_
          exact ge_i C hr rfl hlk (by rw [sInf, show nOf S 2 = kk by omega, hI]; simp [dflt, c1]) dX11_inForce_144
      | some b =>
        have hl : lv_has ls 7 [(5, .int (nI kk)), (4, .int (nI b)), (0, .ref (α 0)), (1, .int kind), (2, .int month), (3, .int known)] := hl
        have hb9 := hI.1
        refine lv_iload hx hb dX11_inForce_6 (lv_at hl 0 rfl) ?_
        refine lv_aload_n hx hb dX11_inForce_8 rfl (lv_at hl 2 rfl) ?_
        refine g_get C B (0) (by decide) mE_0 rfl gf_11 2 (by decide) wl_729 (v := .int (S.1 2)) mF_2 dX11_inForce_9 ?_
        refine lv_icmp_ge (tgt := 97) hx hb dX11_inForce_12 (by decide) (fun _ => ?_) (fun hc => absurd (by rw [hNe]; exact nI_le (by omega) (by omega)) hc)
        refine lv_iload hx hb dX11_inForce_97 (lv_at hl 1 rfl) ?_
        refine lv_if_lt (tgt := 110) hx hb dX11_inForce_99 (by decide) (fun hc => absurd hc (nI_pos (by omega))) (fun _ => ?_)
        refine lv_aload_n hx hb dX11_inForce_102 rfl (lv_at hl 2 rfl) ?_
        refine g_get C B (0) (by decide) mE_0 rfl gf_11 5 (by decide) wl_732 (v := .ref (α 5)) mF_5 dX11_inForce_103 ?_
        refine lv_iload hx hb dX11_inForce_106 (lv_at hl 1 rfl) ?_
        refine g_iald C B (5) (by decide) (f := S.2.2.1 5) mE_5 (vp_in_nI (by omega) (by omega)) (j := b) (nI_clamp (by omega)) dX11_inForce_108 ?_
        exact ge_i C hr rfl hlk (by rw [sInf, show nOf S 2 = kk by omega, hI.2]) dX11_inForce_109
    | succ nn ih =>
      intro kk best ls hk hI hl
      cases best with
      | none =>
        have hl : lv_has ls 7 [(5, .int (nI kk)), (4, .int (-1)), (0, .ref (α 0)), (1, .int kind), (2, .int month), (3, .int known)] := hl
        refine lv_iload hx hb dX11_inForce_6 (lv_at hl 0 rfl) ?_
        refine lv_aload_n hx hb dX11_inForce_8 rfl (lv_at hl 2 rfl) ?_
        refine g_get C B (0) (by decide) mE_0 rfl gf_11 2 (by decide) wl_729 (v := .int (S.1 2)) mF_2 dX11_inForce_9 ?_
        refine lv_icmp_ge (tgt := 97) hx hb dX11_inForce_12 (by decide) (fun hc => absurd hc (by rw [hNe]; exact nI_ge (by omega) (by omega))) (fun _ => ?_)
        refine lv_aload_n hx hb dX11_inForce_15 rfl (lv_at hl 2 rfl) ?_
        refine g_get C B (0) (by decide) mE_0 rfl gf_11 3 (by decide) wl_730 (v := .ref (α 3)) mF_3 dX11_inForce_16 ?_
        refine lv_iload hx hb dX11_inForce_19 (lv_at hl 0 rfl) ?_
        refine g_iald C B (3) (by decide) (f := S.2.2.1 3) mE_3 (vp_in_nI (by omega) (by omega)) (j := kk) (nI_clamp (by omega)) dX11_inForce_21 ?_
        refine lv_iload_n hx hb dX11_inForce_22 rfl (lv_at hl 3 rfl) ?_
        refine lv_icmp_ne (tgt := 52) hx hb dX11_inForce_23 (by decide) (fun c4 => ?_) (fun c4 => ?_)
        · refine lv_iconst (v := 0) hx hb dX11_inForce_52 (by decide) ?_
          refine lv_istore (lv' := [(6, .int 0), (5, .int (nI kk)), (4, .int (-1)), (0, .ref (α 0)), (1, .int kind), (2, .int month), (3, .int known)]) hx hb dX11_inForce_53 hl (by decide) rfl (fun ls hl => ?_)
          refine lv_iload hx hb dX11_inForce_55 (lv_at hl 0 rfl) ?_
          refine lv_if_eq (tgt := 87) hx hb dX11_inForce_57 (by decide) (fun _ => ?_) (fun hc => absurd (by decide) hc)
          refine lv_iload hx hb dX11_inForce_87 (lv_at hl 2 rfl) ?_
          refine lv_istore (lv' := [(4, .int (-1)), (6, .int 0), (5, .int (nI kk)), (0, .ref (α 0)), (1, .int kind), (2, .int month), (3, .int known)]) hx hb dX11_inForce_89 hl (by decide) rfl (fun ls hl => ?_)
          refine lv_iinc (v := ((nI kk) + 1)) (lv' := [(5, .int ((nI kk) + 1)), (4, .int (-1)), (6, .int 0), (0, .ref (α 0)), (1, .int kind), (2, .int month), (3, .int known)]) hx hb dX11_inForce_91 hl (k := 2) rfl rfl (by decide) rfl (fun ls hl => ?_)
          refine lv_goto (tgt := 6) hx hb dX11_inForce_94 (by decide) ?_
          exact ih (kk + 1) none ls (by omega) (by rw [infL, hI, if_neg (by simp only [i3l, i3e, i3q, inR, isC, isD, zi_0, zi_1, zi_2, zi_3, zi_4, zi_5, zi_6, zi_7, zi_8, zi_9, zi_10, zi_12, zi_20, zi_21, zi_30, zi_60, zi_90, zi_99, zi_100, zi_180, zi_240, zi_400, zi_500, zi_1000, zi_1199, zi_10000, zi_100000, zi_1000000, i3m1] at c4 ⊢; omega)]) (by have h9 := lv_sub (l' := [(5, .int ((nI kk) + 1)), (4, .int (-1)), (0, .ref (α 0)), (1, .int kind), (2, .int month), (3, .int known)]) hl [0, 1, 3, 4, 5, 6] rfl; rw [nI_1] at h9; exact h9)
        · refine lv_aload_n hx hb dX11_inForce_26 rfl (lv_at hl 2 rfl) ?_
          refine g_get C B (0) (by decide) mE_0 rfl gf_11 6 (by decide) wl_733 (v := .ref (α 6)) mF_6 dX11_inForce_27 ?_
          refine lv_iload hx hb dX11_inForce_30 (lv_at hl 0 rfl) ?_
          refine g_iald C B (6) (by decide) (f := S.2.2.1 6) mE_6 (vp_in_nI (by omega) (by omega)) (j := kk) (nI_clamp (by omega)) dX11_inForce_32 ?_
          refine lv_iload_n hx hb dX11_inForce_33 rfl (lv_at hl 5 rfl) ?_
          refine lv_icmp_gt (tgt := 52) hx hb dX11_inForce_34 (by decide) (fun c5 => ?_) (fun c5 => ?_)
          · refine lv_iconst (v := 0) hx hb dX11_inForce_52 (by decide) ?_
            refine lv_istore (lv' := [(6, .int 0), (5, .int (nI kk)), (4, .int (-1)), (0, .ref (α 0)), (1, .int kind), (2, .int month), (3, .int known)]) hx hb dX11_inForce_53 hl (by decide) rfl (fun ls hl => ?_)
            refine lv_iload hx hb dX11_inForce_55 (lv_at hl 0 rfl) ?_
            refine lv_if_eq (tgt := 87) hx hb dX11_inForce_57 (by decide) (fun _ => ?_) (fun hc => absurd (by decide) hc)
            refine lv_iload hx hb dX11_inForce_87 (lv_at hl 2 rfl) ?_
            refine lv_istore (lv' := [(4, .int (-1)), (6, .int 0), (5, .int (nI kk)), (0, .ref (α 0)), (1, .int kind), (2, .int month), (3, .int known)]) hx hb dX11_inForce_89 hl (by decide) rfl (fun ls hl => ?_)
            refine lv_iinc (v := ((nI kk) + 1)) (lv' := [(5, .int ((nI kk) + 1)), (4, .int (-1)), (6, .int 0), (0, .ref (α 0)), (1, .int kind), (2, .int month), (3, .int known)]) hx hb dX11_inForce_91 hl (k := 2) rfl rfl (by decide) rfl (fun ls hl => ?_)
            refine lv_goto (tgt := 6) hx hb dX11_inForce_94 (by decide) ?_
            exact ih (kk + 1) none ls (by omega) (by rw [infL, hI, if_neg (by simp only [i3l, i3e, i3q, inR, isC, isD, zi_0, zi_1, zi_2, zi_3, zi_4, zi_5, zi_6, zi_7, zi_8, zi_9, zi_10, zi_12, zi_20, zi_21, zi_30, zi_60, zi_90, zi_99, zi_100, zi_180, zi_240, zi_400, zi_500, zi_1000, zi_1199, zi_10000, zi_100000, zi_1000000, i3m1] at c4 c5 ⊢; omega)]) (by have h9 := lv_sub (l' := [(5, .int ((nI kk) + 1)), (4, .int (-1)), (0, .ref (α 0)), (1, .int kind), (2, .int month), (3, .int known)]) hl [0, 1, 3, 4, 5, 6] rfl; rw [nI_1] at h9; exact h9)
          · refine lv_aload_n hx hb dX11_inForce_37 rfl (lv_at hl 2 rfl) ?_
            refine g_get C B (0) (by decide) mE_0 rfl gf_11 4 (by decide) wl_731 (v := .ref (α 4)) mF_4 dX11_inForce_38 ?_
            refine lv_iload hx hb dX11_inForce_41 (lv_at hl 0 rfl) ?_
            refine g_iald C B (4) (by decide) (f := S.2.2.1 4) mE_4 (vp_in_nI (by omega) (by omega)) (j := kk) (nI_clamp (by omega)) dX11_inForce_43 ?_
            refine lv_iload_n hx hb dX11_inForce_44 rfl (lv_at hl 4 rfl) ?_
            refine lv_icmp_gt (tgt := 52) hx hb dX11_inForce_45 (by decide) (fun c6 => ?_) (fun c6 => ?_)
            · refine lv_iconst (v := 0) hx hb dX11_inForce_52 (by decide) ?_
              refine lv_istore (lv' := [(6, .int 0), (5, .int (nI kk)), (4, .int (-1)), (0, .ref (α 0)), (1, .int kind), (2, .int month), (3, .int known)]) hx hb dX11_inForce_53 hl (by decide) rfl (fun ls hl => ?_)
              refine lv_iload hx hb dX11_inForce_55 (lv_at hl 0 rfl) ?_
              refine lv_if_eq (tgt := 87) hx hb dX11_inForce_57 (by decide) (fun _ => ?_) (fun hc => absurd (by decide) hc)
              refine lv_iload hx hb dX11_inForce_87 (lv_at hl 2 rfl) ?_
              refine lv_istore (lv' := [(4, .int (-1)), (6, .int 0), (5, .int (nI kk)), (0, .ref (α 0)), (1, .int kind), (2, .int month), (3, .int known)]) hx hb dX11_inForce_89 hl (by decide) rfl (fun ls hl => ?_)
              refine lv_iinc (v := ((nI kk) + 1)) (lv' := [(5, .int ((nI kk) + 1)), (4, .int (-1)), (6, .int 0), (0, .ref (α 0)), (1, .int kind), (2, .int month), (3, .int known)]) hx hb dX11_inForce_91 hl (k := 2) rfl rfl (by decide) rfl (fun ls hl => ?_)
              refine lv_goto (tgt := 6) hx hb dX11_inForce_94 (by decide) ?_
              exact ih (kk + 1) none ls (by omega) (by rw [infL, hI, if_neg (by simp only [i3l, i3e, i3q, inR, isC, isD, zi_0, zi_1, zi_2, zi_3, zi_4, zi_5, zi_6, zi_7, zi_8, zi_9, zi_10, zi_12, zi_20, zi_21, zi_30, zi_60, zi_90, zi_99, zi_100, zi_180, zi_240, zi_400, zi_500, zi_1000, zi_1199, zi_10000, zi_100000, zi_1000000, i3m1] at c4 c5 c6 ⊢; omega)]) (by have h9 := lv_sub (l' := [(5, .int ((nI kk) + 1)), (4, .int (-1)), (0, .ref (α 0)), (1, .int kind), (2, .int month), (3, .int known)]) hl [0, 1, 3, 4, 5, 6] rfl; rw [nI_1] at h9; exact h9)
            · refine lv_iconst (v := 1) hx hb dX11_inForce_48 (by decide) ?_
              refine lv_goto (tgt := 53) hx hb dX11_inForce_49 (by decide) ?_
              refine lv_istore (lv' := [(6, .int 1), (5, .int (nI kk)), (4, .int (-1)), (0, .ref (α 0)), (1, .int kind), (2, .int month), (3, .int known)]) hx hb dX11_inForce_53 hl (by decide) rfl (fun ls hl => ?_)
              refine lv_iload hx hb dX11_inForce_55 (lv_at hl 0 rfl) ?_
              refine lv_if_eq (tgt := 87) hx hb dX11_inForce_57 (by decide) (fun hc => absurd hc (by decide)) (fun _ => ?_)
              refine lv_iload hx hb dX11_inForce_60 (lv_at hl 2 rfl) ?_
              refine lv_if_lt (tgt := 82) hx hb dX11_inForce_62 (by decide) (fun _ => ?_) (fun hc => absurd (by decide) hc)
              refine lv_iload hx hb dX11_inForce_82 (lv_at hl 1 rfl) ?_
              refine lv_goto (tgt := 89) hx hb dX11_inForce_84 (by decide) ?_
              refine lv_istore (lv' := [(4, .int (nI kk)), (6, .int 1), (5, .int (nI kk)), (0, .ref (α 0)), (1, .int kind), (2, .int month), (3, .int known)]) hx hb dX11_inForce_89 hl (by decide) rfl (fun ls hl => ?_)
              refine lv_iinc (v := ((nI kk) + 1)) (lv' := [(5, .int ((nI kk) + 1)), (4, .int (nI kk)), (6, .int 1), (0, .ref (α 0)), (1, .int kind), (2, .int month), (3, .int known)]) hx hb dX11_inForce_91 hl (k := 2) rfl rfl (by decide) rfl (fun ls hl => ?_)
              refine lv_goto (tgt := 6) hx hb dX11_inForce_94 (by decide) ?_
              exact ih (kk + 1) (some kk) ls (by omega) (by refine ⟨by omega, ?_⟩; rw [infL, hI, if_pos (by have h9 := (hD kk (by omega)).2.1.1; simp only [i3l, i3e, i3q, inR, isC, isD, zi_0, zi_1, zi_2, zi_3, zi_4, zi_5, zi_6, zi_7, zi_8, zi_9, zi_10, zi_12, zi_20, zi_21, zi_30, zi_60, zi_90, zi_99, zi_100, zi_180, zi_240, zi_400, zi_500, zi_1000, zi_1199, zi_10000, zi_100000, zi_1000000, i3m1] at c4 c5 c6 h9 ⊢; omega)]) (by have h9 := lv_sub (l' := [(5, .int ((nI kk) + 1)), (4, .int (nI kk)), (0, .ref (α 0)), (1, .int kind), (2, .int month), (3, .int known)]) hl [0, 1, 3, 4, 5, 6] rfl; rw [nI_1] at h9; exact h9)
      | some b =>
        have hl : lv_has ls 7 [(5, .int (nI kk)), (4, .int (nI b)), (0, .ref (α 0)), (1, .int kind), (2, .int month), (3, .int known)] := hl
        have hb9 := hI.1
        refine lv_iload hx hb dX11_inForce_6 (lv_at hl 0 rfl) ?_
        refine lv_aload_n hx hb dX11_inForce_8 rfl (lv_at hl 2 rfl) ?_
        refine g_get C B (0) (by decide) mE_0 rfl gf_11 2 (by decide) wl_729 (v := .int (S.1 2)) mF_2 dX11_inForce_9 ?_
        refine lv_icmp_ge (tgt := 97) hx hb dX11_inForce_12 (by decide) (fun hc => absurd hc (by rw [hNe]; exact nI_ge (by omega) (by omega))) (fun _ => ?_)
        refine lv_aload_n hx hb dX11_inForce_15 rfl (lv_at hl 2 rfl) ?_
        refine g_get C B (0) (by decide) mE_0 rfl gf_11 3 (by decide) wl_730 (v := .ref (α 3)) mF_3 dX11_inForce_16 ?_
        refine lv_iload hx hb dX11_inForce_19 (lv_at hl 0 rfl) ?_
        refine g_iald C B (3) (by decide) (f := S.2.2.1 3) mE_3 (vp_in_nI (by omega) (by omega)) (j := kk) (nI_clamp (by omega)) dX11_inForce_21 ?_
        refine lv_iload_n hx hb dX11_inForce_22 rfl (lv_at hl 3 rfl) ?_
        refine lv_icmp_ne (tgt := 52) hx hb dX11_inForce_23 (by decide) (fun c7 => ?_) (fun c7 => ?_)
        · refine lv_iconst (v := 0) hx hb dX11_inForce_52 (by decide) ?_
          refine lv_istore (lv' := [(6, .int 0), (5, .int (nI kk)), (4, .int (nI b)), (0, .ref (α 0)), (1, .int kind), (2, .int month), (3, .int known)]) hx hb dX11_inForce_53 hl (by decide) rfl (fun ls hl => ?_)
          refine lv_iload hx hb dX11_inForce_55 (lv_at hl 0 rfl) ?_
          refine lv_if_eq (tgt := 87) hx hb dX11_inForce_57 (by decide) (fun _ => ?_) (fun hc => absurd (by decide) hc)
          refine lv_iload hx hb dX11_inForce_87 (lv_at hl 2 rfl) ?_
          refine lv_istore (lv' := [(4, .int (nI b)), (6, .int 0), (5, .int (nI kk)), (0, .ref (α 0)), (1, .int kind), (2, .int month), (3, .int known)]) hx hb dX11_inForce_89 hl (by decide) rfl (fun ls hl => ?_)
          refine lv_iinc (v := ((nI kk) + 1)) (lv' := [(5, .int ((nI kk) + 1)), (4, .int (nI b)), (6, .int 0), (0, .ref (α 0)), (1, .int kind), (2, .int month), (3, .int known)]) hx hb dX11_inForce_91 hl (k := 2) rfl rfl (by decide) rfl (fun ls hl => ?_)
          refine lv_goto (tgt := 6) hx hb dX11_inForce_94 (by decide) ?_
          exact ih (kk + 1) (some b) ls (by omega) (by refine ⟨by have := hI.1; omega, ?_⟩; rw [infL, hI.2, if_neg (by simp only [i3l, i3e, i3q, inR, isC, isD, zi_0, zi_1, zi_2, zi_3, zi_4, zi_5, zi_6, zi_7, zi_8, zi_9, zi_10, zi_12, zi_20, zi_21, zi_30, zi_60, zi_90, zi_99, zi_100, zi_180, zi_240, zi_400, zi_500, zi_1000, zi_1199, zi_10000, zi_100000, zi_1000000, i3m1] at c7 ⊢; omega)]) (by have h9 := lv_sub (l' := [(5, .int ((nI kk) + 1)), (4, .int (nI b)), (0, .ref (α 0)), (1, .int kind), (2, .int month), (3, .int known)]) hl [0, 1, 3, 4, 5, 6] rfl; rw [nI_1] at h9; exact h9)
        · refine lv_aload_n hx hb dX11_inForce_26 rfl (lv_at hl 2 rfl) ?_
          refine g_get C B (0) (by decide) mE_0 rfl gf_11 6 (by decide) wl_733 (v := .ref (α 6)) mF_6 dX11_inForce_27 ?_
          refine lv_iload hx hb dX11_inForce_30 (lv_at hl 0 rfl) ?_
          refine g_iald C B (6) (by decide) (f := S.2.2.1 6) mE_6 (vp_in_nI (by omega) (by omega)) (j := kk) (nI_clamp (by omega)) dX11_inForce_32 ?_
          refine lv_iload_n hx hb dX11_inForce_33 rfl (lv_at hl 5 rfl) ?_
          refine lv_icmp_gt (tgt := 52) hx hb dX11_inForce_34 (by decide) (fun c8 => ?_) (fun c8 => ?_)
          · refine lv_iconst (v := 0) hx hb dX11_inForce_52 (by decide) ?_
            refine lv_istore (lv' := [(6, .int 0), (5, .int (nI kk)), (4, .int (nI b)), (0, .ref (α 0)), (1, .int kind), (2, .int month), (3, .int known)]) hx hb dX11_inForce_53 hl (by decide) rfl (fun ls hl => ?_)
            refine lv_iload hx hb dX11_inForce_55 (lv_at hl 0 rfl) ?_
            refine lv_if_eq (tgt := 87) hx hb dX11_inForce_57 (by decide) (fun _ => ?_) (fun hc => absurd (by decide) hc)
            refine lv_iload hx hb dX11_inForce_87 (lv_at hl 2 rfl) ?_
            refine lv_istore (lv' := [(4, .int (nI b)), (6, .int 0), (5, .int (nI kk)), (0, .ref (α 0)), (1, .int kind), (2, .int month), (3, .int known)]) hx hb dX11_inForce_89 hl (by decide) rfl (fun ls hl => ?_)
            refine lv_iinc (v := ((nI kk) + 1)) (lv' := [(5, .int ((nI kk) + 1)), (4, .int (nI b)), (6, .int 0), (0, .ref (α 0)), (1, .int kind), (2, .int month), (3, .int known)]) hx hb dX11_inForce_91 hl (k := 2) rfl rfl (by decide) rfl (fun ls hl => ?_)
            refine lv_goto (tgt := 6) hx hb dX11_inForce_94 (by decide) ?_
            exact ih (kk + 1) (some b) ls (by omega) (by refine ⟨by have := hI.1; omega, ?_⟩; rw [infL, hI.2, if_neg (by simp only [i3l, i3e, i3q, inR, isC, isD, zi_0, zi_1, zi_2, zi_3, zi_4, zi_5, zi_6, zi_7, zi_8, zi_9, zi_10, zi_12, zi_20, zi_21, zi_30, zi_60, zi_90, zi_99, zi_100, zi_180, zi_240, zi_400, zi_500, zi_1000, zi_1199, zi_10000, zi_100000, zi_1000000, i3m1] at c7 c8 ⊢; omega)]) (by have h9 := lv_sub (l' := [(5, .int ((nI kk) + 1)), (4, .int (nI b)), (0, .ref (α 0)), (1, .int kind), (2, .int month), (3, .int known)]) hl [0, 1, 3, 4, 5, 6] rfl; rw [nI_1] at h9; exact h9)
          · refine lv_aload_n hx hb dX11_inForce_37 rfl (lv_at hl 2 rfl) ?_
            refine g_get C B (0) (by decide) mE_0 rfl gf_11 4 (by decide) wl_731 (v := .ref (α 4)) mF_4 dX11_inForce_38 ?_
            refine lv_iload hx hb dX11_inForce_41 (lv_at hl 0 rfl) ?_
            refine g_iald C B (4) (by decide) (f := S.2.2.1 4) mE_4 (vp_in_nI (by omega) (by omega)) (j := kk) (nI_clamp (by omega)) dX11_inForce_43 ?_
            refine lv_iload_n hx hb dX11_inForce_44 rfl (lv_at hl 4 rfl) ?_
            refine lv_icmp_gt (tgt := 52) hx hb dX11_inForce_45 (by decide) (fun c9 => ?_) (fun c9 => ?_)
            · refine lv_iconst (v := 0) hx hb dX11_inForce_52 (by decide) ?_
              refine lv_istore (lv' := [(6, .int 0), (5, .int (nI kk)), (4, .int (nI b)), (0, .ref (α 0)), (1, .int kind), (2, .int month), (3, .int known)]) hx hb dX11_inForce_53 hl (by decide) rfl (fun ls hl => ?_)
              refine lv_iload hx hb dX11_inForce_55 (lv_at hl 0 rfl) ?_
              refine lv_if_eq (tgt := 87) hx hb dX11_inForce_57 (by decide) (fun _ => ?_) (fun hc => absurd (by decide) hc)
              refine lv_iload hx hb dX11_inForce_87 (lv_at hl 2 rfl) ?_
              refine lv_istore (lv' := [(4, .int (nI b)), (6, .int 0), (5, .int (nI kk)), (0, .ref (α 0)), (1, .int kind), (2, .int month), (3, .int known)]) hx hb dX11_inForce_89 hl (by decide) rfl (fun ls hl => ?_)
              refine lv_iinc (v := ((nI kk) + 1)) (lv' := [(5, .int ((nI kk) + 1)), (4, .int (nI b)), (6, .int 0), (0, .ref (α 0)), (1, .int kind), (2, .int month), (3, .int known)]) hx hb dX11_inForce_91 hl (k := 2) rfl rfl (by decide) rfl (fun ls hl => ?_)
              refine lv_goto (tgt := 6) hx hb dX11_inForce_94 (by decide) ?_
              exact ih (kk + 1) (some b) ls (by omega) (by refine ⟨by have := hI.1; omega, ?_⟩; rw [infL, hI.2, if_neg (by simp only [i3l, i3e, i3q, inR, isC, isD, zi_0, zi_1, zi_2, zi_3, zi_4, zi_5, zi_6, zi_7, zi_8, zi_9, zi_10, zi_12, zi_20, zi_21, zi_30, zi_60, zi_90, zi_99, zi_100, zi_180, zi_240, zi_400, zi_500, zi_1000, zi_1199, zi_10000, zi_100000, zi_1000000, i3m1] at c7 c8 c9 ⊢; omega)]) (by have h9 := lv_sub (l' := [(5, .int ((nI kk) + 1)), (4, .int (nI b)), (0, .ref (α 0)), (1, .int kind), (2, .int month), (3, .int known)]) hl [0, 1, 3, 4, 5, 6] rfl; rw [nI_1] at h9; exact h9)
            · refine lv_iconst (v := 1) hx hb dX11_inForce_48 (by decide) ?_
              refine lv_goto (tgt := 53) hx hb dX11_inForce_49 (by decide) ?_
              refine lv_istore (lv' := [(6, .int 1), (5, .int (nI kk)), (4, .int (nI b)), (0, .ref (α 0)), (1, .int kind), (2, .int month), (3, .int known)]) hx hb dX11_inForce_53 hl (by decide) rfl (fun ls hl => ?_)
              refine lv_iload hx hb dX11_inForce_55 (lv_at hl 0 rfl) ?_
              refine lv_if_eq (tgt := 87) hx hb dX11_inForce_57 (by decide) (fun hc => absurd hc (by decide)) (fun _ => ?_)
              refine lv_iload hx hb dX11_inForce_60 (lv_at hl 2 rfl) ?_
              refine lv_if_lt (tgt := 82) hx hb dX11_inForce_62 (by decide) (fun hc => absurd hc (nI_pos (by omega))) (fun _ => ?_)
              refine lv_aload_n hx hb dX11_inForce_65 rfl (lv_at hl 3 rfl) ?_
              refine g_get C B (0) (by decide) mE_0 rfl gf_11 4 (by decide) wl_731 (v := .ref (α 4)) mF_4 dX11_inForce_66 ?_
              refine lv_iload hx hb dX11_inForce_69 (lv_at hl 1 rfl) ?_
              refine g_iald C B (4) (by decide) (f := S.2.2.1 4) mE_4 (vp_in_nI (by omega) (by omega)) (j := kk) (nI_clamp (by omega)) dX11_inForce_71 ?_
              refine lv_aload_n hx hb dX11_inForce_72 rfl (lv_at hl 3 rfl) ?_
              refine g_get C B (0) (by decide) mE_0 rfl gf_11 4 (by decide) wl_731 (v := .ref (α 4)) mF_4 dX11_inForce_73 ?_
              refine lv_iload hx hb dX11_inForce_76 (lv_at hl 2 rfl) ?_
              refine g_iald C B (4) (by decide) (f := S.2.2.1 4) mE_4 (vp_in_nI (by omega) (by omega)) (j := b) (nI_clamp (by omega)) dX11_inForce_78 ?_
              refine lv_icmp_lt (tgt := 87) hx hb dX11_inForce_79 (by decide) (fun c10 => ?_) (fun c10 => ?_)
              · refine lv_iload hx hb dX11_inForce_87 (lv_at hl 2 rfl) ?_
                refine lv_istore (lv' := [(4, .int (nI b)), (6, .int 1), (5, .int (nI kk)), (0, .ref (α 0)), (1, .int kind), (2, .int month), (3, .int known)]) hx hb dX11_inForce_89 hl (by decide) rfl (fun ls hl => ?_)
                refine lv_iinc (v := ((nI kk) + 1)) (lv' := [(5, .int ((nI kk) + 1)), (4, .int (nI b)), (6, .int 1), (0, .ref (α 0)), (1, .int kind), (2, .int month), (3, .int known)]) hx hb dX11_inForce_91 hl (k := 2) rfl rfl (by decide) rfl (fun ls hl => ?_)
                refine lv_goto (tgt := 6) hx hb dX11_inForce_94 (by decide) ?_
                exact ih (kk + 1) (some b) ls (by omega) (by refine ⟨by have := hI.1; omega, ?_⟩; rw [infL, hI.2, if_neg (by simp only [i3l, i3e, i3q, inR, isC, isD, zi_0, zi_1, zi_2, zi_3, zi_4, zi_5, zi_6, zi_7, zi_8, zi_9, zi_10, zi_12, zi_20, zi_21, zi_30, zi_60, zi_90, zi_99, zi_100, zi_180, zi_240, zi_400, zi_500, zi_1000, zi_1199, zi_10000, zi_100000, zi_1000000, i3m1] at c7 c8 c9 c10 ⊢; omega)]) (by have h9 := lv_sub (l' := [(5, .int ((nI kk) + 1)), (4, .int (nI b)), (0, .ref (α 0)), (1, .int kind), (2, .int month), (3, .int known)]) hl [0, 1, 3, 4, 5, 6] rfl; rw [nI_1] at h9; exact h9)
              · refine lv_iload hx hb dX11_inForce_82 (lv_at hl 1 rfl) ?_
                refine lv_goto (tgt := 89) hx hb dX11_inForce_84 (by decide) ?_
                refine lv_istore (lv' := [(4, .int (nI kk)), (6, .int 1), (5, .int (nI kk)), (0, .ref (α 0)), (1, .int kind), (2, .int month), (3, .int known)]) hx hb dX11_inForce_89 hl (by decide) rfl (fun ls hl => ?_)
                refine lv_iinc (v := ((nI kk) + 1)) (lv' := [(5, .int ((nI kk) + 1)), (4, .int (nI kk)), (6, .int 1), (0, .ref (α 0)), (1, .int kind), (2, .int month), (3, .int known)]) hx hb dX11_inForce_91 hl (k := 2) rfl rfl (by decide) rfl (fun ls hl => ?_)
                refine lv_goto (tgt := 6) hx hb dX11_inForce_94 (by decide) ?_
                exact ih (kk + 1) (some kk) ls (by omega) (by refine ⟨by omega, ?_⟩; rw [infL, hI.2, if_pos (by have h9 := (hD kk (by omega)).2.1.1; simp only [i3l, i3e, i3q, inR, isC, isD, zi_0, zi_1, zi_2, zi_3, zi_4, zi_5, zi_6, zi_7, zi_8, zi_9, zi_10, zi_12, zi_20, zi_21, zi_30, zi_60, zi_90, zi_99, zi_100, zi_180, zi_240, zi_400, zi_500, zi_1000, zi_1199, zi_10000, zi_100000, zi_1000000, i3m1] at c7 c8 c9 c10 h9 ⊢; omega)]) (by have h9 := lv_sub (l' := [(5, .int ((nI kk) + 1)), (4, .int (nI kk)), (0, .ref (α 0)), (1, .int kind), (2, .int month), (3, .int known)]) hl [0, 1, 3, 4, 5, 6] rfl; rw [nI_1] at h9; exact h9)
  refine lv_iconst (v := (-1)) hx hb dX11_inForce_0 (by decide) ?_
  refine lv_istore (lv' := [(4, .int (-1)), (0, .ref (α 0)), (1, .int kind), (2, .int month), (3, .int known)]) hx hb dX11_inForce_1 hl (by decide) rfl (fun ls hl => ?_)
  refine lv_iconst (v := 0) hx hb dX11_inForce_3 (by decide) ?_
  refine lv_istore (lv' := [(5, .int 0), (4, .int (-1)), (0, .ref (α 0)), (1, .int kind), (2, .int month), (3, .int known)]) hx hb dX11_inForce_4 hl (by decide) rfl (fun ls hl => ?_)
  exact loop (nOf S 2) 0 none ls (by omega) rfl (lv_sub hl [0, 1, 2, 3, 4, 5] rfl)
set_option maxHeartbeats 4000000 in
set_option maxRecDepth 100000 in
theorem c_X11_fateAt (l : Launch) (D : va_G) (G : Nat → ClassId) (τ α : Nat → Nat) (S : St) (sz : Nat) (child known : Int32) (hN : okN S) : Ri l D G τ yX11_fateAt cX11_fateAt 5 (some .int) 0 [.ref (α 0), .int child, .int known] α (mE G α S) Lm sz (fun r => r = oI (sFate S child known)) := by
  refine gM _ (by decide) rfl (Nat.le_of_ble_eq_true rfl) ?_
  intro p e s m below meth c ls C hr hlk hnm hsz B hl
  have hx := C.1
  have hb := C.2.1
  have hl : lv_has ls 5 [(0, .ref (α 0)), (1, .int child), (2, .int known)] := hl
  have hNe := nOf_eq hN.2.2.2.1.1
  have hNl : nOf S 10 ≤ 90 := nOf_le hN.2.2.2.1.1 hN.2.2.2.1.2 (by decide)
  have loop : ∀ (nn kk : Nat) (best : Option Nat) (ls : Array Slot), nn + kk = nOf S 10 → (lastF S child known kk = best ∧ ∀ b, best = some b → b < kk) → lv_has ls 5 [(4, .int (nI kk)), (3, .int (oI best)), (0, .ref (α 0)), (1, .int child), (2, .int known)] → W p l e (rmd 0 0 0) s m [.ref (α 0), .int child, .int known].toArray below meth c s.heap [] 0 0 (MQ below (vp_Si (fun r => r = oI (sFate S child known))) [.ref (α 0), .int child, .int known].toArray s 0 0 (fun _ => False)) (F0 m 5 ls []) := by
    intro nn
    induction nn with
    | zero =>
      intro kk best ls hk hI hl
      cases best with
      | none =>
        have hl : lv_has ls 5 [(4, .int (nI kk)), (3, .int (-1)), (0, .ref (α 0)), (1, .int child), (2, .int known)] := hl
        refine lv_iload hx hb dX11_fateAt_5 (lv_at hl 0 rfl) ?_
        refine lv_aload_n hx hb dX11_fateAt_7 rfl (lv_at hl 2 rfl) ?_
        refine g_get C B (0) (by decide) mE_0 rfl gf_11 10 (by decide) wl_737 (v := .int (S.1 10)) mF_10 dX11_fateAt_8 ?_
        refine lv_icmp_ge (tgt := 49) hx hb dX11_fateAt_11 (by decide) (fun _ => ?_) (fun hc => absurd (by rw [hNe]; exact nI_le (by omega) (by omega)) hc)
        refine lv_iload_n hx hb dX11_fateAt_49 rfl (lv_at hl 1 rfl) ?_
        refine lv_if_lt (tgt := 67) hx hb dX11_fateAt_50 (by decide) (fun _ => ?_) (fun hc => absurd (by decide) hc)
        refine lv_iconst (v := (-1)) hx hb dX11_fateAt_67 (by decide) ?_
        exact ge_i C hr rfl hlk (by rw [sFate, show nOf S 10 = kk by omega, hI.1]; rfl) dX11_fateAt_68
      | some b =>
        have hl : lv_has ls 5 [(4, .int (nI kk)), (3, .int (nI b)), (0, .ref (α 0)), (1, .int child), (2, .int known)] := hl
        have hb9 := hI.2 b rfl
        refine lv_iload hx hb dX11_fateAt_5 (lv_at hl 0 rfl) ?_
        refine lv_aload_n hx hb dX11_fateAt_7 rfl (lv_at hl 2 rfl) ?_
        refine g_get C B (0) (by decide) mE_0 rfl gf_11 10 (by decide) wl_737 (v := .int (S.1 10)) mF_10 dX11_fateAt_8 ?_
        refine lv_icmp_ge (tgt := 49) hx hb dX11_fateAt_11 (by decide) (fun _ => ?_) (fun hc => absurd (by rw [hNe]; exact nI_le (by omega) (by omega)) hc)
        refine lv_iload_n hx hb dX11_fateAt_49 rfl (lv_at hl 1 rfl) ?_
        refine lv_if_lt (tgt := 67) hx hb dX11_fateAt_50 (by decide) (fun hc => absurd hc (nI_pos (by omega))) (fun _ => ?_)
        refine lv_aload_n hx hb dX11_fateAt_53 rfl (lv_at hl 2 rfl) ?_
        refine g_get C B (0) (by decide) mE_0 rfl gf_11 12 (by decide) wl_739 (v := .ref (α 12)) mF_12 dX11_fateAt_54 ?_
        refine lv_iload_n hx hb dX11_fateAt_57 rfl (lv_at hl 1 rfl) ?_
        refine g_iald C B (12) (by decide) (f := S.2.2.1 12) mE_12 (vp_in_nI (by omega) (by omega)) (j := b) (nI_clamp (by omega)) dX11_fateAt_58 ?_
        refine lv_iconst (v := 3) hx hb dX11_fateAt_59 (by decide) ?_
        refine lv_icmp_ge (tgt := 67) hx hb dX11_fateAt_60 (by decide) (fun c1 => ?_) (fun c1 => ?_)
        · refine lv_iconst (v := (-1)) hx hb dX11_fateAt_67 (by decide) ?_
          exact ge_i C hr rfl hlk (by rw [sFate, show nOf S 10 = kk by omega, hI.1]; dsimp only; rw [if_neg (by simp only [i3l, i3e, i3q, inR, isC, isD, zi_0, zi_1, zi_2, zi_3, zi_4, zi_5, zi_6, zi_7, zi_8, zi_9, zi_10, zi_12, zi_20, zi_21, zi_30, zi_60, zi_90, zi_99, zi_100, zi_180, zi_240, zi_400, zi_500, zi_1000, zi_1199, zi_10000, zi_100000, zi_1000000, i3m1] at c1 ⊢; omega)]; rfl) dX11_fateAt_68
        · refine lv_iload_n hx hb dX11_fateAt_63 rfl (lv_at hl 1 rfl) ?_
          refine lv_goto (tgt := 68) hx hb dX11_fateAt_64 (by decide) ?_
          exact ge_i C hr rfl hlk (by rw [sFate, show nOf S 10 = kk by omega, hI.1]; dsimp only; rw [if_pos (by simp only [i3l, i3e, i3q, inR, isC, isD, zi_0, zi_1, zi_2, zi_3, zi_4, zi_5, zi_6, zi_7, zi_8, zi_9, zi_10, zi_12, zi_20, zi_21, zi_30, zi_60, zi_90, zi_99, zi_100, zi_180, zi_240, zi_400, zi_500, zi_1000, zi_1199, zi_10000, zi_100000, zi_1000000, i3m1] at c1 ⊢; omega)]; rfl) dX11_fateAt_68
    | succ nn ih =>
      intro kk best ls hk hI hl
      cases best with
      | none =>
        have hl : lv_has ls 5 [(4, .int (nI kk)), (3, .int (-1)), (0, .ref (α 0)), (1, .int child), (2, .int known)] := hl
        refine lv_iload hx hb dX11_fateAt_5 (lv_at hl 0 rfl) ?_
        refine lv_aload_n hx hb dX11_fateAt_7 rfl (lv_at hl 2 rfl) ?_
        refine g_get C B (0) (by decide) mE_0 rfl gf_11 10 (by decide) wl_737 (v := .int (S.1 10)) mF_10 dX11_fateAt_8 ?_
        refine lv_icmp_ge (tgt := 49) hx hb dX11_fateAt_11 (by decide) (fun hc => absurd hc (by rw [hNe]; exact nI_ge (by omega) (by omega))) (fun _ => ?_)
        refine lv_aload_n hx hb dX11_fateAt_14 rfl (lv_at hl 2 rfl) ?_
        refine g_get C B (0) (by decide) mE_0 rfl gf_11 11 (by decide) wl_738 (v := .ref (α 11)) mF_11 dX11_fateAt_15 ?_
        refine lv_iload hx hb dX11_fateAt_18 (lv_at hl 0 rfl) ?_
        refine g_iald C B (11) (by decide) (f := S.2.2.1 11) mE_11 (vp_in_nI (by omega) (by omega)) (j := kk) (nI_clamp (by omega)) dX11_fateAt_20 ?_
        refine lv_iload_n hx hb dX11_fateAt_21 rfl (lv_at hl 3 rfl) ?_
        refine lv_icmp_ne (tgt := 41) hx hb dX11_fateAt_22 (by decide) (fun c2 => ?_) (fun c2 => ?_)
        · refine lv_iload_n hx hb dX11_fateAt_41 rfl (lv_at hl 1 rfl) ?_
          refine lv_istore_n (lv' := [(3, .int (-1)), (4, .int (nI kk)), (0, .ref (α 0)), (1, .int child), (2, .int known)]) hx hb dX11_fateAt_42 rfl hl (by decide) rfl (fun ls hl => ?_)
          refine lv_iinc (v := ((nI kk) + 1)) (lv' := [(4, .int ((nI kk) + 1)), (3, .int (-1)), (0, .ref (α 0)), (1, .int child), (2, .int known)]) hx hb dX11_fateAt_43 hl (k := 1) rfl rfl (by decide) rfl (fun ls hl => ?_)
          refine lv_goto (tgt := 5) hx hb dX11_fateAt_46 (by decide) ?_
          exact ih (kk + 1) none ls (by omega) (by refine ⟨?_, fun b hb => by have := hI.2 b hb; omega⟩; rw [lastF, if_neg (by simp only [i3l, i3e, i3q, inR, isC, isD, zi_0, zi_1, zi_2, zi_3, zi_4, zi_5, zi_6, zi_7, zi_8, zi_9, zi_10, zi_12, zi_20, zi_21, zi_30, zi_60, zi_90, zi_99, zi_100, zi_180, zi_240, zi_400, zi_500, zi_1000, zi_1199, zi_10000, zi_100000, zi_1000000, i3m1] at c2 ⊢; omega), hI.1]) (by have h9 := lv_sub (l' := [(4, .int ((nI kk) + 1)), (3, .int (-1)), (0, .ref (α 0)), (1, .int child), (2, .int known)]) hl [0, 1, 2, 3, 4] rfl; rw [nI_1] at h9; exact h9)
        · refine lv_aload_n hx hb dX11_fateAt_25 rfl (lv_at hl 2 rfl) ?_
          refine g_get C B (0) (by decide) mE_0 rfl gf_11 14 (by decide) wl_741 (v := .ref (α 14)) mF_14 dX11_fateAt_26 ?_
          refine lv_iload hx hb dX11_fateAt_29 (lv_at hl 0 rfl) ?_
          refine g_iald C B (14) (by decide) (f := S.2.2.1 14) mE_14 (vp_in_nI (by omega) (by omega)) (j := kk) (nI_clamp (by omega)) dX11_fateAt_31 ?_
          refine lv_iload_n hx hb dX11_fateAt_32 rfl (lv_at hl 4 rfl) ?_
          refine lv_icmp_gt (tgt := 41) hx hb dX11_fateAt_33 (by decide) (fun c3 => ?_) (fun c3 => ?_)
          · refine lv_iload_n hx hb dX11_fateAt_41 rfl (lv_at hl 1 rfl) ?_
            refine lv_istore_n (lv' := [(3, .int (-1)), (4, .int (nI kk)), (0, .ref (α 0)), (1, .int child), (2, .int known)]) hx hb dX11_fateAt_42 rfl hl (by decide) rfl (fun ls hl => ?_)
            refine lv_iinc (v := ((nI kk) + 1)) (lv' := [(4, .int ((nI kk) + 1)), (3, .int (-1)), (0, .ref (α 0)), (1, .int child), (2, .int known)]) hx hb dX11_fateAt_43 hl (k := 1) rfl rfl (by decide) rfl (fun ls hl => ?_)
            refine lv_goto (tgt := 5) hx hb dX11_fateAt_46 (by decide) ?_
            exact ih (kk + 1) none ls (by omega) (by refine ⟨?_, fun b hb => by have := hI.2 b hb; omega⟩; rw [lastF, if_neg (by simp only [i3l, i3e, i3q, inR, isC, isD, zi_0, zi_1, zi_2, zi_3, zi_4, zi_5, zi_6, zi_7, zi_8, zi_9, zi_10, zi_12, zi_20, zi_21, zi_30, zi_60, zi_90, zi_99, zi_100, zi_180, zi_240, zi_400, zi_500, zi_1000, zi_1199, zi_10000, zi_100000, zi_1000000, i3m1] at c2 c3 ⊢; omega), hI.1]) (by have h9 := lv_sub (l' := [(4, .int ((nI kk) + 1)), (3, .int (-1)), (0, .ref (α 0)), (1, .int child), (2, .int known)]) hl [0, 1, 2, 3, 4] rfl; rw [nI_1] at h9; exact h9)
          · refine lv_iload hx hb dX11_fateAt_36 (lv_at hl 0 rfl) ?_
            refine lv_goto (tgt := 42) hx hb dX11_fateAt_38 (by decide) ?_
            refine lv_istore_n (lv' := [(3, .int (nI kk)), (4, .int (nI kk)), (0, .ref (α 0)), (1, .int child), (2, .int known)]) hx hb dX11_fateAt_42 rfl hl (by decide) rfl (fun ls hl => ?_)
            refine lv_iinc (v := ((nI kk) + 1)) (lv' := [(4, .int ((nI kk) + 1)), (3, .int (nI kk)), (0, .ref (α 0)), (1, .int child), (2, .int known)]) hx hb dX11_fateAt_43 hl (k := 1) rfl rfl (by decide) rfl (fun ls hl => ?_)
            refine lv_goto (tgt := 5) hx hb dX11_fateAt_46 (by decide) ?_
            exact ih (kk + 1) (some kk) ls (by omega) (by refine ⟨?_, fun b hb => by cases hb; omega⟩; rw [lastF, if_pos (by simp only [i3l, i3e, i3q, inR, isC, isD, zi_0, zi_1, zi_2, zi_3, zi_4, zi_5, zi_6, zi_7, zi_8, zi_9, zi_10, zi_12, zi_20, zi_21, zi_30, zi_60, zi_90, zi_99, zi_100, zi_180, zi_240, zi_400, zi_500, zi_1000, zi_1199, zi_10000, zi_100000, zi_1000000, i3m1] at c2 c3 ⊢; omega)]) (by have h9 := lv_sub (l' := [(4, .int ((nI kk) + 1)), (3, .int (nI kk)), (0, .ref (α 0)), (1, .int child), (2, .int known)]) hl [0, 1, 2, 3, 4] rfl; rw [nI_1] at h9; exact h9)
      | some b =>
        have hl : lv_has ls 5 [(4, .int (nI kk)), (3, .int (nI b)), (0, .ref (α 0)), (1, .int child), (2, .int known)] := hl
        have hb9 := hI.2 b rfl
        refine lv_iload hx hb dX11_fateAt_5 (lv_at hl 0 rfl) ?_
        refine lv_aload_n hx hb dX11_fateAt_7 rfl (lv_at hl 2 rfl) ?_
        refine g_get C B (0) (by decide) mE_0 rfl gf_11 10 (by decide) wl_737 (v := .int (S.1 10)) mF_10 dX11_fateAt_8 ?_
        refine lv_icmp_ge (tgt := 49) hx hb dX11_fateAt_11 (by decide) (fun hc => absurd hc (by rw [hNe]; exact nI_ge (by omega) (by omega))) (fun _ => ?_)
        refine lv_aload_n hx hb dX11_fateAt_14 rfl (lv_at hl 2 rfl) ?_
        refine g_get C B (0) (by decide) mE_0 rfl gf_11 11 (by decide) wl_738 (v := .ref (α 11)) mF_11 dX11_fateAt_15 ?_
        refine lv_iload hx hb dX11_fateAt_18 (lv_at hl 0 rfl) ?_
        refine g_iald C B (11) (by decide) (f := S.2.2.1 11) mE_11 (vp_in_nI (by omega) (by omega)) (j := kk) (nI_clamp (by omega)) dX11_fateAt_20 ?_
        refine lv_iload_n hx hb dX11_fateAt_21 rfl (lv_at hl 3 rfl) ?_
        refine lv_icmp_ne (tgt := 41) hx hb dX11_fateAt_22 (by decide) (fun c4 => ?_) (fun c4 => ?_)
        · refine lv_iload_n hx hb dX11_fateAt_41 rfl (lv_at hl 1 rfl) ?_
          refine lv_istore_n (lv' := [(3, .int (nI b)), (4, .int (nI kk)), (0, .ref (α 0)), (1, .int child), (2, .int known)]) hx hb dX11_fateAt_42 rfl hl (by decide) rfl (fun ls hl => ?_)
          refine lv_iinc (v := ((nI kk) + 1)) (lv' := [(4, .int ((nI kk) + 1)), (3, .int (nI b)), (0, .ref (α 0)), (1, .int child), (2, .int known)]) hx hb dX11_fateAt_43 hl (k := 1) rfl rfl (by decide) rfl (fun ls hl => ?_)
          refine lv_goto (tgt := 5) hx hb dX11_fateAt_46 (by decide) ?_
          exact ih (kk + 1) (some b) ls (by omega) (by refine ⟨?_, fun b hb => by have := hI.2 b hb; omega⟩; rw [lastF, if_neg (by simp only [i3l, i3e, i3q, inR, isC, isD, zi_0, zi_1, zi_2, zi_3, zi_4, zi_5, zi_6, zi_7, zi_8, zi_9, zi_10, zi_12, zi_20, zi_21, zi_30, zi_60, zi_90, zi_99, zi_100, zi_180, zi_240, zi_400, zi_500, zi_1000, zi_1199, zi_10000, zi_100000, zi_1000000, i3m1] at c4 ⊢; omega), hI.1]) (by have h9 := lv_sub (l' := [(4, .int ((nI kk) + 1)), (3, .int (nI b)), (0, .ref (α 0)), (1, .int child), (2, .int known)]) hl [0, 1, 2, 3, 4] rfl; rw [nI_1] at h9; exact h9)
        · refine lv_aload_n hx hb dX11_fateAt_25 rfl (lv_at hl 2 rfl) ?_
          refine g_get C B (0) (by decide) mE_0 rfl gf_11 14 (by decide) wl_741 (v := .ref (α 14)) mF_14 dX11_fateAt_26 ?_
          refine lv_iload hx hb dX11_fateAt_29 (lv_at hl 0 rfl) ?_
          refine g_iald C B (14) (by decide) (f := S.2.2.1 14) mE_14 (vp_in_nI (by omega) (by omega)) (j := kk) (nI_clamp (by omega)) dX11_fateAt_31 ?_
          refine lv_iload_n hx hb dX11_fateAt_32 rfl (lv_at hl 4 rfl) ?_
          refine lv_icmp_gt (tgt := 41) hx hb dX11_fateAt_33 (by decide) (fun c5 => ?_) (fun c5 => ?_)
          · refine lv_iload_n hx hb dX11_fateAt_41 rfl (lv_at hl 1 rfl) ?_
            refine lv_istore_n (lv' := [(3, .int (nI b)), (4, .int (nI kk)), (0, .ref (α 0)), (1, .int child), (2, .int known)]) hx hb dX11_fateAt_42 rfl hl (by decide) rfl (fun ls hl => ?_)
            refine lv_iinc (v := ((nI kk) + 1)) (lv' := [(4, .int ((nI kk) + 1)), (3, .int (nI b)), (0, .ref (α 0)), (1, .int child), (2, .int known)]) hx hb dX11_fateAt_43 hl (k := 1) rfl rfl (by decide) rfl (fun ls hl => ?_)
            refine lv_goto (tgt := 5) hx hb dX11_fateAt_46 (by decide) ?_
            exact ih (kk + 1) (some b) ls (by omega) (by refine ⟨?_, fun b hb => by have := hI.2 b hb; omega⟩; rw [lastF, if_neg (by simp only [i3l, i3e, i3q, inR, isC, isD, zi_0, zi_1, zi_2, zi_3, zi_4, zi_5, zi_6, zi_7, zi_8, zi_9, zi_10, zi_12, zi_20, zi_21, zi_30, zi_60, zi_90, zi_99, zi_100, zi_180, zi_240, zi_400, zi_500, zi_1000, zi_1199, zi_10000, zi_100000, zi_1000000, i3m1] at c4 c5 ⊢; omega), hI.1]) (by have h9 := lv_sub (l' := [(4, .int ((nI kk) + 1)), (3, .int (nI b)), (0, .ref (α 0)), (1, .int child), (2, .int known)]) hl [0, 1, 2, 3, 4] rfl; rw [nI_1] at h9; exact h9)
          · refine lv_iload hx hb dX11_fateAt_36 (lv_at hl 0 rfl) ?_
            refine lv_goto (tgt := 42) hx hb dX11_fateAt_38 (by decide) ?_
            refine lv_istore_n (lv' := [(3, .int (nI kk)), (4, .int (nI kk)), (0, .ref (α 0)), (1, .int child), (2, .int known)]) hx hb dX11_fateAt_42 rfl hl (by decide) rfl (fun ls hl => ?_)
            refine lv_iinc (v := ((nI kk) + 1)) (lv' := [(4, .int ((nI kk) + 1)), (3, .int (nI kk)), (0, .ref (α 0)), (1, .int child), (2, .int known)]) hx hb dX11_fateAt_43 hl (k := 1) rfl rfl (by decide) rfl (fun ls hl => ?_)
            refine lv_goto (tgt := 5) hx hb dX11_fateAt_46 (by decide) ?_
            exact ih (kk + 1) (some kk) ls (by omega) (by refine ⟨?_, fun b hb => by cases hb; omega⟩; rw [lastF, if_pos (by simp only [i3l, i3e, i3q, inR, isC, isD, zi_0, zi_1, zi_2, zi_3, zi_4, zi_5, zi_6, zi_7, zi_8, zi_9, zi_10, zi_12, zi_20, zi_21, zi_30, zi_60, zi_90, zi_99, zi_100, zi_180, zi_240, zi_400, zi_500, zi_1000, zi_1199, zi_10000, zi_100000, zi_1000000, i3m1] at c4 c5 ⊢; omega)]) (by have h9 := lv_sub (l' := [(4, .int ((nI kk) + 1)), (3, .int (nI kk)), (0, .ref (α 0)), (1, .int child), (2, .int known)]) hl [0, 1, 2, 3, 4] rfl; rw [nI_1] at h9; exact h9)
  refine lv_iconst (v := (-1)) hx hb dX11_fateAt_0 (by decide) ?_
  refine lv_istore_n (lv' := [(3, .int (-1)), (0, .ref (α 0)), (1, .int child), (2, .int known)]) hx hb dX11_fateAt_1 rfl hl (by decide) rfl (fun ls hl => ?_)
  refine lv_iconst (v := 0) hx hb dX11_fateAt_2 (by decide) ?_
  refine lv_istore (lv' := [(4, .int 0), (3, .int (-1)), (0, .ref (α 0)), (1, .int child), (2, .int known)]) hx hb dX11_fateAt_3 hl (by decide) rfl (fun ls hl => ?_)
  exact loop (nOf S 10) 0 none ls (by omega) ⟨rfl, fun b hb => by cases hb⟩ (lv_sub hl [0, 1, 2, 3, 4] rfl)
set_option maxHeartbeats 4000000 in
set_option maxRecDepth 100000 in
theorem c_X11_holderIn (l : Launch) (D : va_G) (G : Nat → ClassId) (τ α : Nat → Nat) (S : St) (sz : Nat) (d : Nat) (month : Int32) (hd : d < 30) (hs : 0 ≤ S.2.2.1 25 d ∧ S.2.2.1 25 d ≤ 7) : Ri l D G τ yX11_holderIn cX11_holderIn 5 (some .int) 0 [.ref (α 0), .int (nI d), .int month] α (mE G α S) Lm sz (fun r => r = sHold S d month) := by
  refine gM _ (by decide) rfl (Nat.le_of_ble_eq_true rfl) ?_
  intro p e s m below meth c ls C hr hlk hnm hsz B hl
  have hx := C.1
  have hb := C.2.1
  have hl : lv_has ls 5 [(0, .ref (α 0)), (1, .int (nI d)), (2, .int month)] := hl
  have hNe := cl_eq hs.1
  have hNl : (S.2.2.1 25 d).toNatClampNeg ≤ 7 := by have h9 := cl_int hs.1; have h8 := hs.2; simp only [i3e, zi_7] at h8; omega
  have loop : ∀ (nn kk : Nat) (h : Int32) (ls : Array Slot), nn + kk = (S.2.2.1 25 d).toNatClampNeg → (holdL S d month kk = h) → lv_has ls 5 [(4, .int (nI kk)), (3, .int h), (0, .ref (α 0)), (1, .int (nI d)), (2, .int month)] → W p l e (rmd 0 0 0) s m [.ref (α 0), .int (nI d), .int month].toArray below meth c s.heap [] 0 0 (MQ below (vp_Si (fun r => r = sHold S d month)) [.ref (α 0), .int (nI d), .int month].toArray s 0 0 (fun _ => False)) (F0 m 5 ls []) := by
    intro nn
    induction nn with
    | zero =>
      intro kk h ls hk hI hl
      refine lv_iload hx hb dX11_holderIn_5 (lv_at hl 0 rfl) ?_
      refine lv_aload_n hx hb dX11_holderIn_7 rfl (lv_at hl 2 rfl) ?_
      refine g_get C B (0) (by decide) mE_0 rfl gf_11 25 (by decide) wl_752 (v := .ref (α 25)) mF_25 dX11_holderIn_8 ?_
      refine lv_iload_n hx hb dX11_holderIn_11 rfl (lv_at hl 3 rfl) ?_
      refine g_iald C B (25) (by decide) (f := S.2.2.1 25) mE_25 (vp_in_nI (by omega) (by omega)) (j := d) (nI_clamp (by omega)) dX11_holderIn_12 ?_
      refine lv_icmp_ge (tgt := 55) hx hb dX11_holderIn_13 (by decide) (fun _ => ?_) (fun hc => absurd (by rw [hNe]; exact nI_le (by omega) (by omega)) hc)
      refine lv_iload_n hx hb dX11_holderIn_55 rfl (lv_at hl 1 rfl) ?_
      exact ge_i C hr rfl hlk (by rw [sHold, show (S.2.2.1 25 d).toNatClampNeg = kk by omega, hI]) dX11_holderIn_56
    | succ nn ih =>
      intro kk h ls hk hI hl
      refine lv_iload hx hb dX11_holderIn_5 (lv_at hl 0 rfl) ?_
      refine lv_aload_n hx hb dX11_holderIn_7 rfl (lv_at hl 2 rfl) ?_
      refine g_get C B (0) (by decide) mE_0 rfl gf_11 25 (by decide) wl_752 (v := .ref (α 25)) mF_25 dX11_holderIn_8 ?_
      refine lv_iload_n hx hb dX11_holderIn_11 rfl (lv_at hl 3 rfl) ?_
      refine g_iald C B (25) (by decide) (f := S.2.2.1 25) mE_25 (vp_in_nI (by omega) (by omega)) (j := d) (nI_clamp (by omega)) dX11_holderIn_12 ?_
      refine lv_icmp_ge (tgt := 55) hx hb dX11_holderIn_13 (by decide) (fun hc => absurd hc (by rw [hNe]; exact nI_ge (by omega) (by omega))) (fun _ => ?_)
      refine lv_aload_n hx hb dX11_holderIn_16 rfl (lv_at hl 2 rfl) ?_
      refine g_get C B (0) (by decide) mE_0 rfl gf_11 26 (by decide) wl_753 (v := .ref (α 26)) mF_26 dX11_holderIn_17 ?_
      refine lv_bipush (v := 7) hx hb dX11_holderIn_20 (by decide) ?_
      refine lv_iload_n hx hb dX11_holderIn_22 rfl (lv_at hl 3 rfl) ?_
      refine lv_imul hx hb dX11_holderIn_23 ?_
      refine lv_iload hx hb dX11_holderIn_24 (lv_at hl 0 rfl) ?_
      refine lv_iadd hx hb dX11_holderIn_26 ?_
      rw [n7]
      refine g_iald C B (26) (by decide) (f := S.2.2.1 26) mE_26 (vp_in_nI (by omega) (by omega)) (j := (7 * d + kk)) (nI_clamp (by omega)) dX11_holderIn_27 ?_
      refine lv_iload_n hx hb dX11_holderIn_28 rfl (lv_at hl 4 rfl) ?_
      refine lv_icmp_gt (tgt := 47) hx hb dX11_holderIn_29 (by decide) (fun c1 => ?_) (fun c1 => ?_)
      · refine lv_iload_n hx hb dX11_holderIn_47 rfl (lv_at hl 1 rfl) ?_
        refine lv_istore_n (lv' := [(3, .int h), (4, .int (nI kk)), (0, .ref (α 0)), (1, .int (nI d)), (2, .int month)]) hx hb dX11_holderIn_48 rfl hl (by decide) rfl (fun ls hl => ?_)
        refine lv_iinc (v := ((nI kk) + 1)) (lv' := [(4, .int ((nI kk) + 1)), (3, .int h), (0, .ref (α 0)), (1, .int (nI d)), (2, .int month)]) hx hb dX11_holderIn_49 hl (k := 1) rfl rfl (by decide) rfl (fun ls hl => ?_)
        refine lv_goto (tgt := 5) hx hb dX11_holderIn_52 (by decide) ?_
        exact ih (kk + 1) h ls (by omega) (by rw [holdL, if_neg (by simp only [i3l, i3e, i3q, inR, isC, isD, zi_0, zi_1, zi_2, zi_3, zi_4, zi_5, zi_6, zi_7, zi_8, zi_9, zi_10, zi_12, zi_20, zi_21, zi_30, zi_60, zi_90, zi_99, zi_100, zi_180, zi_240, zi_400, zi_500, zi_1000, zi_1199, zi_10000, zi_100000, zi_1000000, i3m1] at c1 ⊢; omega), hI]) (by have h9 := lv_sub (l' := [(4, .int ((nI kk) + 1)), (3, .int h), (0, .ref (α 0)), (1, .int (nI d)), (2, .int month)]) hl [0, 1, 2, 3, 4] rfl; rw [nI_1] at h9; exact h9)
      · refine lv_aload_n hx hb dX11_holderIn_32 rfl (lv_at hl 2 rfl) ?_
        refine g_get C B (0) (by decide) mE_0 rfl gf_11 27 (by decide) wl_754 (v := .ref (α 27)) mF_27 dX11_holderIn_33 ?_
        refine lv_bipush (v := 7) hx hb dX11_holderIn_36 (by decide) ?_
        refine lv_iload_n hx hb dX11_holderIn_38 rfl (lv_at hl 3 rfl) ?_
        refine lv_imul hx hb dX11_holderIn_39 ?_
        refine lv_iload hx hb dX11_holderIn_40 (lv_at hl 0 rfl) ?_
        refine lv_iadd hx hb dX11_holderIn_42 ?_
        rw [n7]
        refine g_iald C B (27) (by decide) (f := S.2.2.1 27) mE_27 (vp_in_nI (by omega) (by omega)) (j := (7 * d + kk)) (nI_clamp (by omega)) dX11_holderIn_43 ?_
        refine lv_goto (tgt := 48) hx hb dX11_holderIn_44 (by decide) ?_
        refine lv_istore_n (lv' := [(3, .int (S.2.2.1 27 (7 * d + kk))), (4, .int (nI kk)), (0, .ref (α 0)), (1, .int (nI d)), (2, .int month)]) hx hb dX11_holderIn_48 rfl hl (by decide) rfl (fun ls hl => ?_)
        refine lv_iinc (v := ((nI kk) + 1)) (lv' := [(4, .int ((nI kk) + 1)), (3, .int (S.2.2.1 27 (7 * d + kk))), (0, .ref (α 0)), (1, .int (nI d)), (2, .int month)]) hx hb dX11_holderIn_49 hl (k := 1) rfl rfl (by decide) rfl (fun ls hl => ?_)
        refine lv_goto (tgt := 5) hx hb dX11_holderIn_52 (by decide) ?_
        exact ih (kk + 1) (S.2.2.1 27 (7 * d + kk)) ls (by omega) (by rw [holdL, if_pos (by simp only [i3l, i3e, i3q, inR, isC, isD, zi_0, zi_1, zi_2, zi_3, zi_4, zi_5, zi_6, zi_7, zi_8, zi_9, zi_10, zi_12, zi_20, zi_21, zi_30, zi_60, zi_90, zi_99, zi_100, zi_180, zi_240, zi_400, zi_500, zi_1000, zi_1199, zi_10000, zi_100000, zi_1000000, i3m1] at c1 ⊢; omega)]) (by have h9 := lv_sub (l' := [(4, .int ((nI kk) + 1)), (3, .int (S.2.2.1 27 (7 * d + kk))), (0, .ref (α 0)), (1, .int (nI d)), (2, .int month)]) hl [0, 1, 2, 3, 4] rfl; rw [nI_1] at h9; exact h9)
  refine lv_iconst (v := (-1)) hx hb dX11_holderIn_0 (by decide) ?_
  refine lv_istore_n (lv' := [(3, .int (-1)), (0, .ref (α 0)), (1, .int (nI d)), (2, .int month)]) hx hb dX11_holderIn_1 rfl hl (by decide) rfl (fun ls hl => ?_)
  refine lv_iconst (v := 0) hx hb dX11_holderIn_2 (by decide) ?_
  refine lv_istore (lv' := [(4, .int 0), (3, .int (-1)), (0, .ref (α 0)), (1, .int (nI d)), (2, .int month)]) hx hb dX11_holderIn_3 hl (by decide) rfl (fun ls hl => ?_)
  exact loop (S.2.2.1 25 d).toNatClampNeg 0 (-1) ls (by omega) rfl (lv_sub hl [0, 1, 2, 3, 4] rfl)
theorem cntA {S : St} {m c known : Int32} {o : Option Nat} (h : 0 ≤ c) (e : (if c < 0 then none else sCnt S m c known) = o) : sCnt S m c known = o := by
  rwa [if_neg (by simp only [i3l, i3e] at h ⊢; omega)] at e
theorem cntB {S : St} {m k c known : Int32} {o : Option Nat} (h : k = 1 → 0 ≤ c) (h2 : ¬ k = 1 → c = -1) (e : (if c < 0 then none else sCnt S m c known) = o) : (if k = 1 then sCnt S m c known else none) = o := by
  by_cases hk : k = 1
  · rw [if_pos hk]; exact cntA (h hk) e
  · rw [if_neg hk, ← e, if_pos (by rw [h2 hk]; decide)]
theorem cntC {S : St} {m c known : Int32} {f : Nat} (e : (if c < 0 then none else sCnt S m c known) = some f) : f < nOf S 10 ∧ S.2.2.1 12 f < 3 := by
  split at e
  · cases e
  · exact sCnt_lt e
def outL (S : St) : Nat → Int32
  | 0 => 0
  | k + 1 => outL S k + (if S.2.2.1 24 k = 0 then 0 else 1)
def liveL (S : St) (a : Nat) : Nat → Int64 × Int64
  | 0 => (1000000, 0)
  | k + 1 => ((liveL S a k).1 - (th (liveL S a k).1 (S.2.2.1 35 (a + k)) + th (liveL S a k).1 (S.2.2.1 34 (a + k)) + th (liveL S a k).1 (S.2.2.1 36 (a + k))), (liveL S a k).2 + th (liveL S a k).1 (S.2.2.1 35 (a + k)))
theorem uJ_live (S : St) (x y x2 y2 : Int64) : uJ (uJ (uJ (uJ S 41 x) 42 y) 42 y2) 41 x2 = uJ (uJ S 41 x2) 42 y2 := by
  simp only [uJ]
  congr 2
  funext k
  simp only [va_up]
  by_cases h1 : k = 41
  · subst h1; simp
  · by_cases h2 : k = 42
    · subst h2; simp
    · simp [h1, h2]
set_option maxHeartbeats 4000000 in
set_option maxRecDepth 100000 in
theorem c_X11_counted (l : Launch) (D : va_G) (G : Nat → ClassId) (τ α : Nat → Nat) (S : St) (sz : Nat) (d : Nat) (child known : Int32) (hd : d < 30) (hN : okN S) : Ri l D G τ yX11_counted cX11_counted 5 (some .int) 1 [.ref (α 0), .int (nI d), .int child, .int known] α (mE G α S) Lm sz (fun r => r = oI (if child < 0 then none else sCnt S (S.2.2.1 22 d) child known)) := by
  refine gM _ (by decide) rfl (Nat.le_of_ble_eq_true rfl) ?_
  intro p e s m below meth c ls C hr hlk hnm hsz B hl
  have hx := C.1
  have hb := C.2.1
  have hl : lv_has ls 5 [(0, .ref (α 0)), (1, .int (nI d)), (2, .int child), (3, .int known)] := hl
  refine lv_iload_n hx hb dX11_counted_0 rfl (lv_at hl 2 rfl) ?_
  refine lv_if_ge (tgt := 8) hx hb dX11_counted_1 (by decide) (fun c1 => ?_) (fun c1 => ?_)
  · refine lv_aload_n hx hb dX11_counted_8 rfl (lv_at hl 0 rfl) ?_
    refine lv_iload_n hx hb dX11_counted_9 rfl (lv_at hl 2 rfl) ?_
    refine lv_iload_n hx hb dX11_counted_10 rfl (lv_at hl 3 rfl) ?_
    refine gc_o (oI := oI) (gr_V C B (k := 0) (As := [.int child, .int known]) (rest := []) (c_X11_fateAt l D G τ α S _ child known hN) (by decide) mE_0 rfl wl_882 wl_884 wl_18 wl_40 wl_885 (na := 2) (by decide +kernel) rfl ⟨Nat.le_of_ble_eq_true rfl, Nat.le_of_ble_eq_true rfl⟩ ⟨Nat.le_of_ble_eq_true rfl, Nat.le_of_ble_eq_true rfl⟩ hl.1 rfl (Nat.le_of_ble_eq_true rfl) dX11_counted_11) (fun o2 => ?_) (fun f3 o2 => ?_)
    · refine lv_istore (lv' := [(4, .int (-1)), (0, .ref (α 0)), (1, .int (nI d)), (2, .int child), (3, .int known)]) hx hb dX11_counted_14 hl (by decide) rfl (fun ls hl => ?_)
      refine lv_iload hx hb dX11_counted_16 (lv_at hl 0 rfl) ?_
      refine lv_if_lt (tgt := 42) hx hb dX11_counted_18 (by decide) (fun _ => ?_) (fun hc => absurd (by decide) hc)
      refine lv_iconst (v := (-1)) hx hb dX11_counted_42 (by decide) ?_
      exact ge_i C hr rfl hlk (by rw [if_neg (by simp only [i3l, i3e, i3q, inR, isC, isD, zi_0, zi_1, zi_2, zi_3, zi_4, zi_5, zi_6, zi_7, zi_8, zi_9, zi_10, zi_12, zi_20, zi_21, zi_30, zi_60, zi_90, zi_99, zi_100, zi_180, zi_240, zi_400, zi_500, zi_1000, zi_1199, zi_10000, zi_100000, zi_1000000, i3m1] at c1 ⊢; omega), sCnt, o2]; rfl) dX11_counted_43
    · have f3_b : f3 < 90 := Nat.lt_of_lt_of_le (sFate_lt o2).1 (nOf_le hN.2.2.2.1.1 hN.2.2.2.1.2 (by decide))
      refine lv_istore (lv' := [(4, .int (nI f3)), (0, .ref (α 0)), (1, .int (nI d)), (2, .int child), (3, .int known)]) hx hb dX11_counted_14 hl (by decide) rfl (fun ls hl => ?_)
      refine lv_iload hx hb dX11_counted_16 (lv_at hl 0 rfl) ?_
      refine lv_if_lt (tgt := 42) hx hb dX11_counted_18 (by decide) (fun hc => absurd hc (nI_pos (by omega))) (fun _ => ?_)
      refine lv_aload_n hx hb dX11_counted_21 rfl (lv_at hl 1 rfl) ?_
      refine g_get C B (0) (by decide) mE_0 rfl gf_11 13 (by decide) wl_740 (v := .ref (α 13)) mF_13 dX11_counted_22 ?_
      refine lv_iload hx hb dX11_counted_25 (lv_at hl 0 rfl) ?_
      refine g_iald C B (13) (by decide) (f := S.2.2.1 13) mE_13 (vp_in_nI (by omega) (by omega)) (j := f3) (nI_clamp (by omega)) dX11_counted_27 ?_
      refine lv_aload_n hx hb dX11_counted_28 rfl (lv_at hl 1 rfl) ?_
      refine g_get C B (0) (by decide) mE_0 rfl gf_11 22 (by decide) wl_749 (v := .ref (α 22)) mF_22 dX11_counted_29 ?_
      refine lv_iload_n hx hb dX11_counted_32 rfl (lv_at hl 2 rfl) ?_
      refine g_iald C B (22) (by decide) (f := S.2.2.1 22) mE_22 (vp_in_nI (by omega) (by omega)) (j := d) (nI_clamp (by omega)) dX11_counted_33 ?_
      refine lv_icmp_lt (tgt := 42) hx hb dX11_counted_34 (by decide) (fun c4 => ?_) (fun c4 => ?_)
      · refine lv_iconst (v := (-1)) hx hb dX11_counted_42 (by decide) ?_
        exact ge_i C hr rfl hlk (by rw [if_neg (by simp only [i3l, i3e, i3q, inR, isC, isD, zi_0, zi_1, zi_2, zi_3, zi_4, zi_5, zi_6, zi_7, zi_8, zi_9, zi_10, zi_12, zi_20, zi_21, zi_30, zi_60, zi_90, zi_99, zi_100, zi_180, zi_240, zi_400, zi_500, zi_1000, zi_1199, zi_10000, zi_100000, zi_1000000, i3m1] at c1 ⊢; omega), sCnt, o2]; dsimp only; rw [if_neg (by simp only [i3l, i3e, i3q, inR, isC, isD, zi_0, zi_1, zi_2, zi_3, zi_4, zi_5, zi_6, zi_7, zi_8, zi_9, zi_10, zi_12, zi_20, zi_21, zi_30, zi_60, zi_90, zi_99, zi_100, zi_180, zi_240, zi_400, zi_500, zi_1000, zi_1199, zi_10000, zi_100000, zi_1000000, i3m1] at c4 ⊢; omega)]; rfl) dX11_counted_43
      · refine lv_iload hx hb dX11_counted_37 (lv_at hl 0 rfl) ?_
        refine lv_goto (tgt := 43) hx hb dX11_counted_39 (by decide) ?_
        exact ge_i C hr rfl hlk (by rw [if_neg (by simp only [i3l, i3e, i3q, inR, isC, isD, zi_0, zi_1, zi_2, zi_3, zi_4, zi_5, zi_6, zi_7, zi_8, zi_9, zi_10, zi_12, zi_20, zi_21, zi_30, zi_60, zi_90, zi_99, zi_100, zi_180, zi_240, zi_400, zi_500, zi_1000, zi_1199, zi_10000, zi_100000, zi_1000000, i3m1] at c1 ⊢; omega), sCnt, o2]; dsimp only; rw [if_pos (by simp only [i3l, i3e, i3q, inR, isC, isD, zi_0, zi_1, zi_2, zi_3, zi_4, zi_5, zi_6, zi_7, zi_8, zi_9, zi_10, zi_12, zi_20, zi_21, zi_30, zi_60, zi_90, zi_99, zi_100, zi_180, zi_240, zi_400, zi_500, zi_1000, zi_1199, zi_10000, zi_100000, zi_1000000, i3m1] at c4 ⊢; omega)]; rfl) dX11_counted_43
  · refine lv_iconst (v := (-1)) hx hb dX11_counted_4 (by decide) ?_
    refine lv_goto (tgt := 14) hx hb dX11_counted_5 (by decide) ?_
    refine lv_istore (lv' := [(4, .int (-1)), (0, .ref (α 0)), (1, .int (nI d)), (2, .int child), (3, .int known)]) hx hb dX11_counted_14 hl (by decide) rfl (fun ls hl => ?_)
    refine lv_iload hx hb dX11_counted_16 (lv_at hl 0 rfl) ?_
    refine lv_if_lt (tgt := 42) hx hb dX11_counted_18 (by decide) (fun _ => ?_) (fun hc => absurd (by decide) hc)
    refine lv_iconst (v := (-1)) hx hb dX11_counted_42 (by decide) ?_
    exact ge_i C hr rfl hlk (by rw [if_pos (by simp only [i3l, i3e, i3q, inR, isC, isD, zi_0, zi_1, zi_2, zi_3, zi_4, zi_5, zi_6, zi_7, zi_8, zi_9, zi_10, zi_12, zi_20, zi_21, zi_30, zi_60, zi_90, zi_99, zi_100, zi_180, zi_240, zi_400, zi_500, zi_1000, zi_1199, zi_10000, zi_100000, zi_1000000, i3m1] at c1 ⊢; omega)]; rfl) dX11_counted_43
set_option maxHeartbeats 4000000 in
set_option maxRecDepth 100000 in
theorem c_X11_fallOf (l : Launch) (D : va_G) (G : Nat → ClassId) (τ α : Nat → Nat) (S : St) (sz : Nat) (d : Nat) (known : Int32) (hd : d < nOf S 15) (hN : okN S) (hP : okP S) : Ri l D G τ yX11_fallOf cX11_fallOf 7 (some .int) 2 [.ref (α 0), .int (nI d), .int known] α (mE G α S) Lm sz (fun r => r = oI (sFall S d known)) := by
  refine gM _ (by decide) rfl (Nat.le_of_ble_eq_true rfl) ?_
  intro p e s m below meth c ls C hr hlk hnm hsz B hl
  have hx := C.1
  have hb := C.2.1
  have hl : lv_has ls 7 [(0, .ref (α 0)), (1, .int (nI d)), (2, .int known)] := hl
  have hd9 : d < 30 := Nat.lt_of_lt_of_le hd (nOf_le hN.2.2.2.2.1.1 hN.2.2.2.2.1.2 (by decide))
  refine lv_aload_n hx hb dX11_fallOf_0 rfl (lv_at hl 0 rfl) ?_
  refine g_get C B (0) (by decide) mE_0 rfl gf_11 22 (by decide) wl_749 (v := .ref (α 22)) mF_22 dX11_fallOf_1 ?_
  refine lv_iload_n hx hb dX11_fallOf_4 rfl (lv_at hl 1 rfl) ?_
  refine g_iald C B (22) (by decide) (f := S.2.2.1 22) mE_22 (vp_in_nI (by omega) (by omega)) (j := d) (nI_clamp (by omega)) dX11_fallOf_5 ?_
  refine lv_iload_n hx hb dX11_fallOf_6 rfl (lv_at hl 2 rfl) ?_
  refine lv_icmp_le (tgt := 12) hx hb dX11_fallOf_7 (by decide) (fun c1 => ?_) (fun c1 => ?_)
  · refine lv_aload_n hx hb dX11_fallOf_12 rfl (lv_at hl 0 rfl) ?_
    refine lv_iload_n hx hb dX11_fallOf_13 rfl (lv_at hl 1 rfl) ?_
    refine lv_aload_n hx hb dX11_fallOf_14 rfl (lv_at hl 0 rfl) ?_
    refine g_get C B (0) (by decide) mE_0 rfl gf_11 17 (by decide) wl_744 (v := .ref (α 17)) mF_17 dX11_fallOf_15 ?_
    refine lv_iload_n hx hb dX11_fallOf_18 rfl (lv_at hl 1 rfl) ?_
    refine g_iald C B (17) (by decide) (f := S.2.2.1 17) mE_17 (vp_in_nI (by omega) (by omega)) (j := d) (nI_clamp (by omega)) dX11_fallOf_19 ?_
    refine lv_iload_n hx hb dX11_fallOf_20 rfl (lv_at hl 2 rfl) ?_
    refine gc_o (oI := oI) (gr_V C B (k := 0) (As := [.int (nI d), .int (S.2.2.1 17 d), .int known]) (rest := []) (c_X11_counted l D G τ α S _ d (S.2.2.1 17 d) known (by omega) hN) (by decide) mE_0 rfl wl_878 wl_880 wl_17 wl_40 wl_881 (na := 3) (by decide +kernel) rfl ⟨Nat.le_of_ble_eq_true rfl, Nat.le_of_ble_eq_true rfl⟩ ⟨Nat.le_of_ble_eq_true rfl, Nat.le_of_ble_eq_true rfl⟩ hl.1 rfl (Nat.le_of_ble_eq_true rfl) dX11_fallOf_21) (fun o2 => ?_) (fun f3 o2 => ?_)
    · refine lv_istore_n (lv' := [(3, .int (-1)), (0, .ref (α 0)), (1, .int (nI d)), (2, .int known)]) hx hb dX11_fallOf_24 rfl hl (by decide) rfl (fun ls hl => ?_)
      refine lv_aload_n hx hb dX11_fallOf_25 rfl (lv_at hl 1 rfl) ?_
      refine lv_iload_n hx hb dX11_fallOf_26 rfl (lv_at hl 2 rfl) ?_
      refine lv_aload_n hx hb dX11_fallOf_27 rfl (lv_at hl 1 rfl) ?_
      refine g_get C B (0) (by decide) mE_0 rfl gf_11 18 (by decide) wl_745 (v := .ref (α 18)) mF_18 dX11_fallOf_28 ?_
      refine lv_iload_n hx hb dX11_fallOf_31 rfl (lv_at hl 2 rfl) ?_
      refine g_iald C B (18) (by decide) (f := S.2.2.1 18) mE_18 (vp_in_nI (by omega) (by omega)) (j := d) (nI_clamp (by omega)) dX11_fallOf_32 ?_
      refine lv_iload_n hx hb dX11_fallOf_33 rfl (lv_at hl 3 rfl) ?_
      refine gc_o (oI := oI) (gr_V C B (k := 0) (As := [.int (nI d), .int (S.2.2.1 18 d), .int known]) (rest := []) (c_X11_counted l D G τ α S _ d (S.2.2.1 18 d) known (by omega) hN) (by decide) mE_0 rfl wl_878 wl_880 wl_17 wl_40 wl_881 (na := 3) (by decide +kernel) rfl ⟨Nat.le_of_ble_eq_true rfl, Nat.le_of_ble_eq_true rfl⟩ ⟨Nat.le_of_ble_eq_true rfl, Nat.le_of_ble_eq_true rfl⟩ hl.1 rfl (Nat.le_of_ble_eq_true rfl) dX11_fallOf_34) (fun o4 => ?_) (fun f5 o4 => ?_)
      · refine lv_istore (lv' := [(4, .int (-1)), (3, .int (-1)), (0, .ref (α 0)), (1, .int (nI d)), (2, .int known)]) hx hb dX11_fallOf_37 hl (by decide) rfl (fun ls hl => ?_)
        refine lv_iload_n hx hb dX11_fallOf_39 rfl (lv_at hl 1 rfl) ?_
        refine lv_if_lt (tgt := 48) hx hb dX11_fallOf_40 (by decide) (fun _ => ?_) (fun hc => absurd (by decide) hc)
        refine lv_iload_n hx hb dX11_fallOf_48 rfl (lv_at hl 1 rfl) ?_
        refine lv_if_ge (tgt := 57) hx hb dX11_fallOf_49 (by decide) (fun hc => absurd hc (by decide)) (fun _ => ?_)
        refine lv_iload hx hb dX11_fallOf_52 (lv_at hl 0 rfl) ?_
        refine lv_goto (tgt := 58) hx hb dX11_fallOf_54 (by decide) ?_
        exact ge_i C hr rfl hlk (by rw [sFall, if_neg (by simp only [i3l, i3e, i3q, inR, isC, isD, zi_0, zi_1, zi_2, zi_3, zi_4, zi_5, zi_6, zi_7, zi_8, zi_9, zi_10, zi_12, zi_20, zi_21, zi_30, zi_60, zi_90, zi_99, zi_100, zi_180, zi_240, zi_400, zi_500, zi_1000, zi_1199, zi_10000, zi_100000, zi_1000000, i3m1] at c1 ⊢; omega), cntA (hP d hd).2.1 o2, cntB (hP d hd).2.2.1 (hP d hd).2.2.2.1 o4]; rfl) dX11_fallOf_58
      · have f5_b : f5 < 90 := Nat.lt_of_lt_of_le (cntC o4).1 (nOf_le hN.2.2.2.1.1 hN.2.2.2.1.2 (by decide))
        refine lv_istore (lv' := [(4, .int (nI f5)), (3, .int (-1)), (0, .ref (α 0)), (1, .int (nI d)), (2, .int known)]) hx hb dX11_fallOf_37 hl (by decide) rfl (fun ls hl => ?_)
        refine lv_iload_n hx hb dX11_fallOf_39 rfl (lv_at hl 1 rfl) ?_
        refine lv_if_lt (tgt := 48) hx hb dX11_fallOf_40 (by decide) (fun _ => ?_) (fun hc => absurd (by decide) hc)
        refine lv_iload_n hx hb dX11_fallOf_48 rfl (lv_at hl 1 rfl) ?_
        refine lv_if_ge (tgt := 57) hx hb dX11_fallOf_49 (by decide) (fun hc => absurd hc (by decide)) (fun _ => ?_)
        refine lv_iload hx hb dX11_fallOf_52 (lv_at hl 0 rfl) ?_
        refine lv_goto (tgt := 58) hx hb dX11_fallOf_54 (by decide) ?_
        exact ge_i C hr rfl hlk (by rw [sFall, if_neg (by simp only [i3l, i3e, i3q, inR, isC, isD, zi_0, zi_1, zi_2, zi_3, zi_4, zi_5, zi_6, zi_7, zi_8, zi_9, zi_10, zi_12, zi_20, zi_21, zi_30, zi_60, zi_90, zi_99, zi_100, zi_180, zi_240, zi_400, zi_500, zi_1000, zi_1199, zi_10000, zi_100000, zi_1000000, i3m1] at c1 ⊢; omega), cntA (hP d hd).2.1 o2, cntB (hP d hd).2.2.1 (hP d hd).2.2.2.1 o4]; rfl) dX11_fallOf_58
    · have f3_b : f3 < 90 := Nat.lt_of_lt_of_le (cntC o2).1 (nOf_le hN.2.2.2.1.1 hN.2.2.2.1.2 (by decide))
      refine lv_istore_n (lv' := [(3, .int (nI f3)), (0, .ref (α 0)), (1, .int (nI d)), (2, .int known)]) hx hb dX11_fallOf_24 rfl hl (by decide) rfl (fun ls hl => ?_)
      refine lv_aload_n hx hb dX11_fallOf_25 rfl (lv_at hl 1 rfl) ?_
      refine lv_iload_n hx hb dX11_fallOf_26 rfl (lv_at hl 2 rfl) ?_
      refine lv_aload_n hx hb dX11_fallOf_27 rfl (lv_at hl 1 rfl) ?_
      refine g_get C B (0) (by decide) mE_0 rfl gf_11 18 (by decide) wl_745 (v := .ref (α 18)) mF_18 dX11_fallOf_28 ?_
      refine lv_iload_n hx hb dX11_fallOf_31 rfl (lv_at hl 2 rfl) ?_
      refine g_iald C B (18) (by decide) (f := S.2.2.1 18) mE_18 (vp_in_nI (by omega) (by omega)) (j := d) (nI_clamp (by omega)) dX11_fallOf_32 ?_
      refine lv_iload_n hx hb dX11_fallOf_33 rfl (lv_at hl 3 rfl) ?_
      refine gc_o (oI := oI) (gr_V C B (k := 0) (As := [.int (nI d), .int (S.2.2.1 18 d), .int known]) (rest := []) (c_X11_counted l D G τ α S _ d (S.2.2.1 18 d) known (by omega) hN) (by decide) mE_0 rfl wl_878 wl_880 wl_17 wl_40 wl_881 (na := 3) (by decide +kernel) rfl ⟨Nat.le_of_ble_eq_true rfl, Nat.le_of_ble_eq_true rfl⟩ ⟨Nat.le_of_ble_eq_true rfl, Nat.le_of_ble_eq_true rfl⟩ hl.1 rfl (Nat.le_of_ble_eq_true rfl) dX11_fallOf_34) (fun o6 => ?_) (fun f7 o6 => ?_)
      · refine lv_istore (lv' := [(4, .int (-1)), (3, .int (nI f3)), (0, .ref (α 0)), (1, .int (nI d)), (2, .int known)]) hx hb dX11_fallOf_37 hl (by decide) rfl (fun ls hl => ?_)
        refine lv_iload_n hx hb dX11_fallOf_39 rfl (lv_at hl 1 rfl) ?_
        refine lv_if_lt (tgt := 48) hx hb dX11_fallOf_40 (by decide) (fun hc => absurd hc (nI_pos (by omega))) (fun _ => ?_)
        refine lv_iload hx hb dX11_fallOf_43 (lv_at hl 0 rfl) ?_
        refine lv_if_ge (tgt := 59) hx hb dX11_fallOf_45 (by decide) (fun hc => absurd hc (by decide)) (fun _ => ?_)
        refine lv_iload_n hx hb dX11_fallOf_48 rfl (lv_at hl 1 rfl) ?_
        refine lv_if_ge (tgt := 57) hx hb dX11_fallOf_49 (by decide) (fun _ => ?_) (fun hc => absurd (nI_pos' (by omega)) hc)
        refine lv_iload_n hx hb dX11_fallOf_57 rfl (lv_at hl 1 rfl) ?_
        exact ge_i C hr rfl hlk (by rw [sFall, if_neg (by simp only [i3l, i3e, i3q, inR, isC, isD, zi_0, zi_1, zi_2, zi_3, zi_4, zi_5, zi_6, zi_7, zi_8, zi_9, zi_10, zi_12, zi_20, zi_21, zi_30, zi_60, zi_90, zi_99, zi_100, zi_180, zi_240, zi_400, zi_500, zi_1000, zi_1199, zi_10000, zi_100000, zi_1000000, i3m1] at c1 ⊢; omega), cntA (hP d hd).2.1 o2, cntB (hP d hd).2.2.1 (hP d hd).2.2.2.1 o6]; rfl) dX11_fallOf_58
      · have f7_b : f7 < 90 := Nat.lt_of_lt_of_le (cntC o6).1 (nOf_le hN.2.2.2.1.1 hN.2.2.2.1.2 (by decide))
        refine lv_istore (lv' := [(4, .int (nI f7)), (3, .int (nI f3)), (0, .ref (α 0)), (1, .int (nI d)), (2, .int known)]) hx hb dX11_fallOf_37 hl (by decide) rfl (fun ls hl => ?_)
        refine lv_iload_n hx hb dX11_fallOf_39 rfl (lv_at hl 1 rfl) ?_
        refine lv_if_lt (tgt := 48) hx hb dX11_fallOf_40 (by decide) (fun hc => absurd hc (nI_pos (by omega))) (fun _ => ?_)
        refine lv_iload hx hb dX11_fallOf_43 (lv_at hl 0 rfl) ?_
        refine lv_if_ge (tgt := 59) hx hb dX11_fallOf_45 (by decide) (fun _ => ?_) (fun hc => absurd (nI_pos' (by omega)) hc)
        refine lv_aload_n hx hb dX11_fallOf_59 rfl (lv_at hl 2 rfl) ?_
        refine g_get C B (0) (by decide) mE_0 rfl gf_11 12 (by decide) wl_739 (v := .ref (α 12)) mF_12 dX11_fallOf_60 ?_
        refine lv_iload_n hx hb dX11_fallOf_63 rfl (lv_at hl 1 rfl) ?_
        refine g_iald C B (12) (by decide) (f := S.2.2.1 12) mE_12 (vp_in_nI (by omega) (by omega)) (j := f3) (nI_clamp (by omega)) dX11_fallOf_64 ?_
        refine lv_if_ne (tgt := 72) hx hb dX11_fallOf_65 (by decide) (fun c8 => ?_) (fun c8 => ?_)
        · refine lv_iconst (v := 0) hx hb dX11_fallOf_72 (by decide) ?_
          refine lv_istore (lv' := [(5, .int 0), (4, .int (nI f7)), (3, .int (nI f3)), (0, .ref (α 0)), (1, .int (nI d)), (2, .int known)]) hx hb dX11_fallOf_73 hl (by decide) rfl (fun ls hl => ?_)
          refine lv_aload_n hx hb dX11_fallOf_75 rfl (lv_at hl 3 rfl) ?_
          refine g_get C B (0) (by decide) mE_0 rfl gf_11 12 (by decide) wl_739 (v := .ref (α 12)) mF_12 dX11_fallOf_76 ?_
          refine lv_iload hx hb dX11_fallOf_79 (lv_at hl 1 rfl) ?_
          refine g_iald C B (12) (by decide) (f := S.2.2.1 12) mE_12 (vp_in_nI (by omega) (by omega)) (j := f7) (nI_clamp (by omega)) dX11_fallOf_81 ?_
          refine lv_if_ne (tgt := 89) hx hb dX11_fallOf_82 (by decide) (fun c9 => ?_) (fun c9 => ?_)
          · refine lv_iconst (v := 0) hx hb dX11_fallOf_89 (by decide) ?_
            refine lv_istore (lv' := [(6, .int 0), (5, .int 0), (4, .int (nI f7)), (3, .int (nI f3)), (0, .ref (α 0)), (1, .int (nI d)), (2, .int known)]) hx hb dX11_fallOf_90 hl (by decide) rfl (fun ls hl => ?_)
            refine lv_iload hx hb dX11_fallOf_92 (lv_at hl 1 rfl) ?_
            refine lv_iload hx hb dX11_fallOf_94 (lv_at hl 0 rfl) ?_
            refine lv_icmp_eq (tgt := 111) hx hb dX11_fallOf_96 (by decide) (fun _ => ?_) (fun hc => absurd (by decide) hc)
            refine lv_aload_n hx hb dX11_fallOf_111 rfl (lv_at hl 4 rfl) ?_
            refine g_get C B (0) (by decide) mE_0 rfl gf_11 13 (by decide) wl_740 (v := .ref (α 13)) mF_13 dX11_fallOf_112 ?_
            refine lv_iload hx hb dX11_fallOf_115 (lv_at hl 2 rfl) ?_
            refine g_iald C B (13) (by decide) (f := S.2.2.1 13) mE_13 (vp_in_nI (by omega) (by omega)) (j := f7) (nI_clamp (by omega)) dX11_fallOf_117 ?_
            refine lv_aload_n hx hb dX11_fallOf_118 rfl (lv_at hl 4 rfl) ?_
            refine g_get C B (0) (by decide) mE_0 rfl gf_11 13 (by decide) wl_740 (v := .ref (α 13)) mF_13 dX11_fallOf_119 ?_
            refine lv_iload_n hx hb dX11_fallOf_122 rfl (lv_at hl 3 rfl) ?_
            refine g_iald C B (13) (by decide) (f := S.2.2.1 13) mE_13 (vp_in_nI (by omega) (by omega)) (j := f3) (nI_clamp (by omega)) dX11_fallOf_123 ?_
            refine lv_icmp_ge (tgt := 132) hx hb dX11_fallOf_124 (by decide) (fun c10 => ?_) (fun c10 => ?_)
            · refine lv_iload_n hx hb dX11_fallOf_132 rfl (lv_at hl 3 rfl) ?_
              exact ge_i C hr rfl hlk (by rw [sFall, if_neg (by simp only [i3l, i3e, i3q, inR, isC, isD, zi_0, zi_1, zi_2, zi_3, zi_4, zi_5, zi_6, zi_7, zi_8, zi_9, zi_10, zi_12, zi_20, zi_21, zi_30, zi_60, zi_90, zi_99, zi_100, zi_180, zi_240, zi_400, zi_500, zi_1000, zi_1199, zi_10000, zi_100000, zi_1000000, i3m1] at c1 ⊢; omega), cntA (hP d hd).2.1 o2, cntB (hP d hd).2.2.1 (hP d hd).2.2.2.1 o6]; simp only [sAhead]; simp [c8, c9]; rw [if_neg (by simp only [i3l, i3e, i3q, inR, isC, isD, zi_0, zi_1, zi_2, zi_3, zi_4, zi_5, zi_6, zi_7, zi_8, zi_9, zi_10, zi_12, zi_20, zi_21, zi_30, zi_60, zi_90, zi_99, zi_100, zi_180, zi_240, zi_400, zi_500, zi_1000, zi_1199, zi_10000, zi_100000, zi_1000000, i3m1] at c10 ⊢; omega)]; rfl) dX11_fallOf_133
            · refine lv_iload hx hb dX11_fallOf_127 (lv_at hl 2 rfl) ?_
              refine lv_goto (tgt := 133) hx hb dX11_fallOf_129 (by decide) ?_
              exact ge_i C hr rfl hlk (by rw [sFall, if_neg (by simp only [i3l, i3e, i3q, inR, isC, isD, zi_0, zi_1, zi_2, zi_3, zi_4, zi_5, zi_6, zi_7, zi_8, zi_9, zi_10, zi_12, zi_20, zi_21, zi_30, zi_60, zi_90, zi_99, zi_100, zi_180, zi_240, zi_400, zi_500, zi_1000, zi_1199, zi_10000, zi_100000, zi_1000000, i3m1] at c1 ⊢; omega), cntA (hP d hd).2.1 o2, cntB (hP d hd).2.2.1 (hP d hd).2.2.2.1 o6]; simp only [sAhead]; simp [c8, c9]; rw [if_pos (by simp only [i3l, i3e, i3q, inR, isC, isD, zi_0, zi_1, zi_2, zi_3, zi_4, zi_5, zi_6, zi_7, zi_8, zi_9, zi_10, zi_12, zi_20, zi_21, zi_30, zi_60, zi_90, zi_99, zi_100, zi_180, zi_240, zi_400, zi_500, zi_1000, zi_1199, zi_10000, zi_100000, zi_1000000, i3m1] at c10 ⊢; omega)]; rfl) dX11_fallOf_133
          · refine lv_iconst (v := 1) hx hb dX11_fallOf_85 (by decide) ?_
            refine lv_goto (tgt := 90) hx hb dX11_fallOf_86 (by decide) ?_
            refine lv_istore (lv' := [(6, .int 1), (5, .int 0), (4, .int (nI f7)), (3, .int (nI f3)), (0, .ref (α 0)), (1, .int (nI d)), (2, .int known)]) hx hb dX11_fallOf_90 hl (by decide) rfl (fun ls hl => ?_)
            refine lv_iload hx hb dX11_fallOf_92 (lv_at hl 1 rfl) ?_
            refine lv_iload hx hb dX11_fallOf_94 (lv_at hl 0 rfl) ?_
            refine lv_icmp_eq (tgt := 111) hx hb dX11_fallOf_96 (by decide) (fun hc => absurd hc (by decide)) (fun _ => ?_)
            refine lv_iload hx hb dX11_fallOf_99 (lv_at hl 1 rfl) ?_
            refine lv_if_eq (tgt := 108) hx hb dX11_fallOf_101 (by decide) (fun _ => ?_) (fun hc => absurd (by decide) hc)
            refine lv_iload hx hb dX11_fallOf_108 (lv_at hl 2 rfl) ?_
            exact ge_i C hr rfl hlk (by rw [sFall, if_neg (by simp only [i3l, i3e, i3q, inR, isC, isD, zi_0, zi_1, zi_2, zi_3, zi_4, zi_5, zi_6, zi_7, zi_8, zi_9, zi_10, zi_12, zi_20, zi_21, zi_30, zi_60, zi_90, zi_99, zi_100, zi_180, zi_240, zi_400, zi_500, zi_1000, zi_1199, zi_10000, zi_100000, zi_1000000, i3m1] at c1 ⊢; omega), cntA (hP d hd).2.1 o2, cntB (hP d hd).2.2.1 (hP d hd).2.2.2.1 o6]; simp only [sAhead]; simp [oI, c8, c9]) dX11_fallOf_110
        · refine lv_iconst (v := 1) hx hb dX11_fallOf_68 (by decide) ?_
          refine lv_goto (tgt := 73) hx hb dX11_fallOf_69 (by decide) ?_
          refine lv_istore (lv' := [(5, .int 1), (4, .int (nI f7)), (3, .int (nI f3)), (0, .ref (α 0)), (1, .int (nI d)), (2, .int known)]) hx hb dX11_fallOf_73 hl (by decide) rfl (fun ls hl => ?_)
          refine lv_aload_n hx hb dX11_fallOf_75 rfl (lv_at hl 3 rfl) ?_
          refine g_get C B (0) (by decide) mE_0 rfl gf_11 12 (by decide) wl_739 (v := .ref (α 12)) mF_12 dX11_fallOf_76 ?_
          refine lv_iload hx hb dX11_fallOf_79 (lv_at hl 1 rfl) ?_
          refine g_iald C B (12) (by decide) (f := S.2.2.1 12) mE_12 (vp_in_nI (by omega) (by omega)) (j := f7) (nI_clamp (by omega)) dX11_fallOf_81 ?_
          refine lv_if_ne (tgt := 89) hx hb dX11_fallOf_82 (by decide) (fun c11 => ?_) (fun c11 => ?_)
          · refine lv_iconst (v := 0) hx hb dX11_fallOf_89 (by decide) ?_
            refine lv_istore (lv' := [(6, .int 0), (5, .int 1), (4, .int (nI f7)), (3, .int (nI f3)), (0, .ref (α 0)), (1, .int (nI d)), (2, .int known)]) hx hb dX11_fallOf_90 hl (by decide) rfl (fun ls hl => ?_)
            refine lv_iload hx hb dX11_fallOf_92 (lv_at hl 1 rfl) ?_
            refine lv_iload hx hb dX11_fallOf_94 (lv_at hl 0 rfl) ?_
            refine lv_icmp_eq (tgt := 111) hx hb dX11_fallOf_96 (by decide) (fun hc => absurd hc (by decide)) (fun _ => ?_)
            refine lv_iload hx hb dX11_fallOf_99 (lv_at hl 1 rfl) ?_
            refine lv_if_eq (tgt := 108) hx hb dX11_fallOf_101 (by decide) (fun hc => absurd hc (by decide)) (fun _ => ?_)
            refine lv_iload_n hx hb dX11_fallOf_104 rfl (lv_at hl 3 rfl) ?_
            refine lv_goto (tgt := 110) hx hb dX11_fallOf_105 (by decide) ?_
            exact ge_i C hr rfl hlk (by rw [sFall, if_neg (by simp only [i3l, i3e, i3q, inR, isC, isD, zi_0, zi_1, zi_2, zi_3, zi_4, zi_5, zi_6, zi_7, zi_8, zi_9, zi_10, zi_12, zi_20, zi_21, zi_30, zi_60, zi_90, zi_99, zi_100, zi_180, zi_240, zi_400, zi_500, zi_1000, zi_1199, zi_10000, zi_100000, zi_1000000, i3m1] at c1 ⊢; omega), cntA (hP d hd).2.1 o2, cntB (hP d hd).2.2.1 (hP d hd).2.2.2.1 o6]; simp only [sAhead]; simp [oI, c8, c11]) dX11_fallOf_110
          · refine lv_iconst (v := 1) hx hb dX11_fallOf_85 (by decide) ?_
            refine lv_goto (tgt := 90) hx hb dX11_fallOf_86 (by decide) ?_
            refine lv_istore (lv' := [(6, .int 1), (5, .int 1), (4, .int (nI f7)), (3, .int (nI f3)), (0, .ref (α 0)), (1, .int (nI d)), (2, .int known)]) hx hb dX11_fallOf_90 hl (by decide) rfl (fun ls hl => ?_)
            refine lv_iload hx hb dX11_fallOf_92 (lv_at hl 1 rfl) ?_
            refine lv_iload hx hb dX11_fallOf_94 (lv_at hl 0 rfl) ?_
            refine lv_icmp_eq (tgt := 111) hx hb dX11_fallOf_96 (by decide) (fun _ => ?_) (fun hc => absurd (by decide) hc)
            refine lv_aload_n hx hb dX11_fallOf_111 rfl (lv_at hl 4 rfl) ?_
            refine g_get C B (0) (by decide) mE_0 rfl gf_11 13 (by decide) wl_740 (v := .ref (α 13)) mF_13 dX11_fallOf_112 ?_
            refine lv_iload hx hb dX11_fallOf_115 (lv_at hl 2 rfl) ?_
            refine g_iald C B (13) (by decide) (f := S.2.2.1 13) mE_13 (vp_in_nI (by omega) (by omega)) (j := f7) (nI_clamp (by omega)) dX11_fallOf_117 ?_
            refine lv_aload_n hx hb dX11_fallOf_118 rfl (lv_at hl 4 rfl) ?_
            refine g_get C B (0) (by decide) mE_0 rfl gf_11 13 (by decide) wl_740 (v := .ref (α 13)) mF_13 dX11_fallOf_119 ?_
            refine lv_iload_n hx hb dX11_fallOf_122 rfl (lv_at hl 3 rfl) ?_
            refine g_iald C B (13) (by decide) (f := S.2.2.1 13) mE_13 (vp_in_nI (by omega) (by omega)) (j := f3) (nI_clamp (by omega)) dX11_fallOf_123 ?_
            refine lv_icmp_ge (tgt := 132) hx hb dX11_fallOf_124 (by decide) (fun c12 => ?_) (fun c12 => ?_)
            · refine lv_iload_n hx hb dX11_fallOf_132 rfl (lv_at hl 3 rfl) ?_
              exact ge_i C hr rfl hlk (by rw [sFall, if_neg (by simp only [i3l, i3e, i3q, inR, isC, isD, zi_0, zi_1, zi_2, zi_3, zi_4, zi_5, zi_6, zi_7, zi_8, zi_9, zi_10, zi_12, zi_20, zi_21, zi_30, zi_60, zi_90, zi_99, zi_100, zi_180, zi_240, zi_400, zi_500, zi_1000, zi_1199, zi_10000, zi_100000, zi_1000000, i3m1] at c1 ⊢; omega), cntA (hP d hd).2.1 o2, cntB (hP d hd).2.2.1 (hP d hd).2.2.2.1 o6]; simp only [sAhead]; simp [c8, c11]; rw [if_neg (by simp only [i3l, i3e, i3q, inR, isC, isD, zi_0, zi_1, zi_2, zi_3, zi_4, zi_5, zi_6, zi_7, zi_8, zi_9, zi_10, zi_12, zi_20, zi_21, zi_30, zi_60, zi_90, zi_99, zi_100, zi_180, zi_240, zi_400, zi_500, zi_1000, zi_1199, zi_10000, zi_100000, zi_1000000, i3m1] at c12 ⊢; omega)]; rfl) dX11_fallOf_133
            · refine lv_iload hx hb dX11_fallOf_127 (lv_at hl 2 rfl) ?_
              refine lv_goto (tgt := 133) hx hb dX11_fallOf_129 (by decide) ?_
              exact ge_i C hr rfl hlk (by rw [sFall, if_neg (by simp only [i3l, i3e, i3q, inR, isC, isD, zi_0, zi_1, zi_2, zi_3, zi_4, zi_5, zi_6, zi_7, zi_8, zi_9, zi_10, zi_12, zi_20, zi_21, zi_30, zi_60, zi_90, zi_99, zi_100, zi_180, zi_240, zi_400, zi_500, zi_1000, zi_1199, zi_10000, zi_100000, zi_1000000, i3m1] at c1 ⊢; omega), cntA (hP d hd).2.1 o2, cntB (hP d hd).2.2.1 (hP d hd).2.2.2.1 o6]; simp only [sAhead]; simp [c8, c11]; rw [if_pos (by simp only [i3l, i3e, i3q, inR, isC, isD, zi_0, zi_1, zi_2, zi_3, zi_4, zi_5, zi_6, zi_7, zi_8, zi_9, zi_10, zi_12, zi_20, zi_21, zi_30, zi_60, zi_90, zi_99, zi_100, zi_180, zi_240, zi_400, zi_500, zi_1000, zi_1199, zi_10000, zi_100000, zi_1000000, i3m1] at c12 ⊢; omega)]; rfl) dX11_fallOf_133
  · refine lv_iconst (v := (-1)) hx hb dX11_fallOf_10 (by decide) ?_
    exact ge_i C hr rfl hlk (by rw [sFall, if_pos (by simp only [i3l, i3e, i3q, inR, isC, isD, zi_0, zi_1, zi_2, zi_3, zi_4, zi_5, zi_6, zi_7, zi_8, zi_9, zi_10, zi_12, zi_20, zi_21, zi_30, zi_60, zi_90, zi_99, zi_100, zi_180, zi_240, zi_400, zi_500, zi_1000, zi_1199, zi_10000, zi_100000, zi_1000000, i3m1] at c1 ⊢; omega)]; rfl) dX11_fallOf_11
set_option maxHeartbeats 4000000 in
set_option maxRecDepth 100000 in
theorem c_X11_dueMonth (l : Launch) (D : va_G) (G : Nat → ClassId) (τ α : Nat → Nat) (S : St) (sz : Nat) (f : Nat) (known : Int32) (hf : f < 90) (hN : okN S) (hD : okD S) : Ri l D G τ yX11_dueMonth cX11_dueMonth 3 (some .int) 1 [.ref (α 0), .int (nI f), .int known] α (mE G α S) Lm sz (fun r => r = sDueM S f known) := by
  refine gM _ (by decide) rfl (Nat.le_of_ble_eq_true rfl) ?_
  intro p e s m below meth c ls C hr hlk hnm hsz B hl
  have hx := C.1
  have hb := C.2.1
  have hl : lv_has ls 3 [(0, .ref (α 0)), (1, .int (nI f)), (2, .int known)] := hl
  refine lv_aload_n hx hb dX11_dueMonth_0 rfl (lv_at hl 0 rfl) ?_
  refine g_get C B (0) (by decide) mE_0 rfl gf_11 13 (by decide) wl_740 (v := .ref (α 13)) mF_13 dX11_dueMonth_1 ?_
  refine lv_iload_n hx hb dX11_dueMonth_4 rfl (lv_at hl 1 rfl) ?_
  refine g_iald C B (13) (by decide) (f := S.2.2.1 13) mE_13 (vp_in_nI (by omega) (by omega)) (j := f) (nI_clamp (by omega)) dX11_dueMonth_5 ?_
  refine lv_aload_n hx hb dX11_dueMonth_6 rfl (lv_at hl 0 rfl) ?_
  refine lv_iconst (v := 0) hx hb dX11_dueMonth_7 (by decide) ?_
  refine lv_aload_n hx hb dX11_dueMonth_8 rfl (lv_at hl 0 rfl) ?_
  refine g_get C B (0) (by decide) mE_0 rfl gf_11 13 (by decide) wl_740 (v := .ref (α 13)) mF_13 dX11_dueMonth_9 ?_
  refine lv_iload_n hx hb dX11_dueMonth_12 rfl (lv_at hl 1 rfl) ?_
  refine g_iald C B (13) (by decide) (f := S.2.2.1 13) mE_13 (vp_in_nI (by omega) (by omega)) (j := f) (nI_clamp (by omega)) dX11_dueMonth_13 ?_
  refine lv_iload_n hx hb dX11_dueMonth_14 rfl (lv_at hl 2 rfl) ?_
  refine gc_i (gr_V C B (k := 0) (As := [.int 0, .int (S.2.2.1 13 f), .int known]) (rest := [.int (S.2.2.1 13 f)]) (c_X11_inForce l D G τ α S _ 0 (S.2.2.1 13 f) known hN hD) (by decide) mE_0 rfl wl_890 wl_892 wl_20 wl_40 wl_893 (na := 3) (by decide +kernel) rfl ⟨Nat.le_of_ble_eq_true rfl, Nat.le_of_ble_eq_true rfl⟩ ⟨Nat.le_of_ble_eq_true rfl, Nat.le_of_ble_eq_true rfl⟩ hl.1 rfl (Nat.le_of_ble_eq_true rfl) dX11_dueMonth_15) (fun r h => ?_)
  subst h
  refine lv_iadd hx hb dX11_dueMonth_18 ?_
  exact ge_i C hr rfl hlk (rfl) dX11_dueMonth_19
set_option maxHeartbeats 4000000 in
set_option maxRecDepth 100000 in
theorem c_X11_dueOf (l : Launch) (D : va_G) (G : Nat → ClassId) (τ α : Nat → Nat) (S : St) (sz : Nat) (d f : Nat) (known : Int32) (hd : d < 30) (hf : f < 90) (hN : okN S) (hD : okD S) : Rl l D G τ yX11_dueOf cX11_dueOf 7 (some .long) 2 [.ref (α 0), .int (nI d), .int (nI f), .int known] α (mE G α S) Lm sz (fun r => r = sDue S d f known) := by
  refine gM _ (by decide) rfl (Nat.le_of_ble_eq_true rfl) ?_
  intro p e s m below meth c ls C hr hlk hnm hsz B hl
  have hx := C.1
  have hb := C.2.1
  have hl : lv_has ls 7 [(0, .ref (α 0)), (1, .int (nI d)), (2, .int (nI f)), (3, .int known)] := hl
  refine lv_aload_n hx hb dX11_dueOf_0 rfl (lv_at hl 0 rfl) ?_
  refine g_get C B (0) (by decide) mE_0 rfl gf_11 13 (by decide) wl_740 (v := .ref (α 13)) mF_13 dX11_dueOf_1 ?_
  refine lv_iload_n hx hb dX11_dueOf_4 rfl (lv_at hl 2 rfl) ?_
  refine g_iald C B (13) (by decide) (f := S.2.2.1 13) mE_13 (vp_in_nI (by omega) (by omega)) (j := f) (nI_clamp (by omega)) dX11_dueOf_5 ?_
  refine lv_istore (lv' := [(4, .int (S.2.2.1 13 f)), (0, .ref (α 0)), (1, .int (nI d)), (2, .int (nI f)), (3, .int known)]) hx hb dX11_dueOf_6 hl (by decide) rfl (fun ls hl => ?_)
  refine lv_lconst (v := 0) hx hb dX11_dueOf_8 (by decide) ?_
  refine lv_lstore (lv' := [(5, .long 0), (4, .int (S.2.2.1 13 f)), (0, .ref (α 0)), (1, .int (nI d)), (2, .int (nI f)), (3, .int known)]) hx hb dX11_dueOf_9 hl (by decide) rfl (fun ls hl => ?_)
  refine lv_aload_n hx hb dX11_dueOf_11 rfl (lv_at hl 2 rfl) ?_
  refine g_get C B (0) (by decide) mE_0 rfl gf_11 12 (by decide) wl_739 (v := .ref (α 12)) mF_12 dX11_dueOf_12 ?_
  refine lv_iload_n hx hb dX11_dueOf_15 rfl (lv_at hl 4 rfl) ?_
  refine g_iald C B (12) (by decide) (f := S.2.2.1 12) mE_12 (vp_in_nI (by omega) (by omega)) (j := f) (nI_clamp (by omega)) dX11_dueOf_16 ?_
  refine lv_iconst (v := 2) hx hb dX11_dueOf_17 (by decide) ?_
  refine lv_icmp_ne (tgt := 47) hx hb dX11_dueOf_18 (by decide) (fun c1 => ?_) (fun c1 => ?_)
  · refine lv_aload_n hx hb dX11_dueOf_47 rfl (lv_at hl 2 rfl) ?_
    refine g_get C B (0) (by decide) mE_0 rfl gf_11 12 (by decide) wl_739 (v := .ref (α 12)) mF_12 dX11_dueOf_48 ?_
    refine lv_iload_n hx hb dX11_dueOf_51 rfl (lv_at hl 4 rfl) ?_
    refine g_iald C B (12) (by decide) (f := S.2.2.1 12) mE_12 (vp_in_nI (by omega) (by omega)) (j := f) (nI_clamp (by omega)) dX11_dueOf_52 ?_
    refine lv_iconst (v := 1) hx hb dX11_dueOf_53 (by decide) ?_
    refine lv_icmp_ne (tgt := 92) hx hb dX11_dueOf_54 (by decide) (fun c2 => ?_) (fun c2 => ?_)
    · refine lv_iload hx hb dX11_dueOf_92 (lv_at hl 1 rfl) ?_
      refine lv_aload_n hx hb dX11_dueOf_94 rfl (lv_at hl 2 rfl) ?_
      refine g_get C B (0) (by decide) mE_0 rfl gf_11 21 (by decide) wl_748 (v := .ref (α 21)) mF_21 dX11_dueOf_95 ?_
      refine lv_iload_n hx hb dX11_dueOf_98 rfl (lv_at hl 3 rfl) ?_
      refine g_iald C B (21) (by decide) (f := S.2.2.1 21) mE_21 (vp_in_nI (by omega) (by omega)) (j := d) (nI_clamp (by omega)) dX11_dueOf_99 ?_
      refine lv_icmp_lt (tgt := 114) hx hb dX11_dueOf_100 (by decide) (fun c3 => ?_) (fun c3 => ?_)
      · refine lv_aload_n hx hb dX11_dueOf_114 rfl (lv_at hl 2 rfl) ?_
        refine g_get C B (0) (by decide) mE_0 rfl gf_11 20 (by decide) wl_747 (v := .ref (α 20)) mF_20 dX11_dueOf_115 ?_
        refine lv_iload_n hx hb dX11_dueOf_118 rfl (lv_at hl 3 rfl) ?_
        refine g_lald C B (20) (by decide) (f := S.2.2.2 20) mE_20 (vp_in_nI (by omega) (by omega)) (j := d) (nI_clamp (by omega)) dX11_dueOf_119 ?_
        refine lv_aload_n hx hb dX11_dueOf_120 rfl (lv_at hl 2 rfl) ?_
        refine lv_iconst (v := 3) hx hb dX11_dueOf_121 (by decide) ?_
        refine lv_iload hx hb dX11_dueOf_122 (lv_at hl 1 rfl) ?_
        refine lv_iload_n hx hb dX11_dueOf_124 rfl (lv_at hl 5 rfl) ?_
        refine gc_i (gr_V C B (k := 0) (As := [.int 3, .int (S.2.2.1 13 f), .int known]) (rest := [.long (S.2.2.2 20 d)]) (c_X11_inForce l D G τ α S _ 3 (S.2.2.1 13 f) known hN hD) (by decide) mE_0 rfl wl_890 wl_892 wl_20 wl_40 wl_893 (na := 3) (by decide +kernel) rfl ⟨Nat.le_of_ble_eq_true rfl, Nat.le_of_ble_eq_true rfl⟩ ⟨Nat.le_of_ble_eq_true rfl, Nat.le_of_ble_eq_true rfl⟩ hl.1 rfl (Nat.le_of_ble_eq_true rfl) dX11_dueOf_125) (fun r h => ?_)
        subst h
        refine lv_i2l (v := (sInf S 3 (S.2.2.1 13 f) known).toInt64) hx hb dX11_dueOf_128 rfl ?_
        refine lv_lmul hx hb dX11_dueOf_129 ?_
        refine g_ldc2 C wl_898 dX11_dueOf_130 ?_
        refine lv_ldiv hx hb dX11_dueOf_133 (by decide) ?_
        refine lv_lstore (lv' := [(5, .long (((S.2.2.2 20 d) * (sInf S 3 (S.2.2.1 13 f) known).toInt64) / 1000)), (4, .int (S.2.2.1 13 f)), (0, .ref (α 0)), (1, .int (nI d)), (2, .int (nI f)), (3, .int known)]) hx hb dX11_dueOf_134 hl (by decide) rfl (fun ls hl => ?_)
        refine lv_lload hx hb dX11_dueOf_136 (lv_at hl 0 rfl) ?_
        refine lv_lload hx hb dX11_dueOf_138 (lv_at hl 0 rfl) ?_
        refine lv_aload_n hx hb dX11_dueOf_140 rfl (lv_at hl 2 rfl) ?_
        refine lv_iconst (v := 4) hx hb dX11_dueOf_141 (by decide) ?_
        refine lv_aload_n hx hb dX11_dueOf_142 rfl (lv_at hl 2 rfl) ?_
        refine lv_iload_n hx hb dX11_dueOf_143 rfl (lv_at hl 4 rfl) ?_
        refine lv_iload_n hx hb dX11_dueOf_144 rfl (lv_at hl 5 rfl) ?_
        refine gc_i (gr_V C B (k := 0) (As := [.int (nI f), .int known]) (rest := [.int 4, .ref (α 0), .long (((S.2.2.2 20 d) * (sInf S 3 (S.2.2.1 13 f) known).toInt64) / 1000), .long (((S.2.2.2 20 d) * (sInf S 3 (S.2.2.1 13 f) known).toInt64) / 1000)]) (c_X11_dueMonth l D G τ α S _ f known (by omega) hN hD) (by decide) mE_0 rfl wl_886 wl_888 wl_19 wl_40 wl_889 (na := 2) (by decide +kernel) rfl ⟨Nat.le_of_ble_eq_true rfl, Nat.le_of_ble_eq_true rfl⟩ ⟨Nat.le_of_ble_eq_true rfl, Nat.le_of_ble_eq_true rfl⟩ hl.1 rfl (Nat.le_of_ble_eq_true rfl) dX11_dueOf_145) (fun r h => ?_)
        subst h
        refine lv_iload_n hx hb dX11_dueOf_148 rfl (lv_at hl 5 rfl) ?_
        refine gc_i (gr_V C B (k := 0) (As := [.int 4, .int (sDueM S f known), .int known]) (rest := [.long (((S.2.2.2 20 d) * (sInf S 3 (S.2.2.1 13 f) known).toInt64) / 1000), .long (((S.2.2.2 20 d) * (sInf S 3 (S.2.2.1 13 f) known).toInt64) / 1000)]) (c_X11_inForce l D G τ α S _ 4 (sDueM S f known) known hN hD) (by decide) mE_0 rfl wl_890 wl_892 wl_20 wl_40 wl_893 (na := 3) (by decide +kernel) rfl ⟨Nat.le_of_ble_eq_true rfl, Nat.le_of_ble_eq_true rfl⟩ ⟨Nat.le_of_ble_eq_true rfl, Nat.le_of_ble_eq_true rfl⟩ hl.1 rfl (Nat.le_of_ble_eq_true rfl) dX11_dueOf_149) (fun r h => ?_)
        subst h
        refine lv_i2l (v := (sInf S 4 (sDueM S f known) known).toInt64) hx hb dX11_dueOf_152 rfl ?_
        refine lv_lmul hx hb dX11_dueOf_153 ?_
        refine g_ldc2 C wl_898 dX11_dueOf_154 ?_
        refine lv_ldiv hx hb dX11_dueOf_157 (by decide) ?_
        refine lv_lsub hx hb dX11_dueOf_158 ?_
        exact ge_l C hr hlk (by rw [sDue, show sPre S d f known = (((S.2.2.2 20 d) * (sInf S 3 (S.2.2.1 13 f) known).toInt64) / 1000) from by rw [sPre]; simp [th, c1, c2, c3] <;> (intro h9; exfalso; simp only [i3l, i3e, i3q, inR, isC, isD, zi_0, zi_1, zi_2, zi_3, zi_4, zi_5, zi_6, zi_7, zi_8, zi_9, zi_10, zi_12, zi_20, zi_21, zi_30, zi_60, zi_90, zi_99, zi_100, zi_180, zi_240, zi_400, zi_500, zi_1000, zi_1199, zi_10000, zi_100000, zi_1000000, i3m1] at c3 h9 ⊢; omega)]; rfl) dX11_dueOf_159
      · refine lv_aload_n hx hb dX11_dueOf_103 rfl (lv_at hl 2 rfl) ?_
        refine g_get C B (0) (by decide) mE_0 rfl gf_11 20 (by decide) wl_747 (v := .ref (α 20)) mF_20 dX11_dueOf_104 ?_
        refine lv_iload_n hx hb dX11_dueOf_107 rfl (lv_at hl 3 rfl) ?_
        refine g_lald C B (20) (by decide) (f := S.2.2.2 20) mE_20 (vp_in_nI (by omega) (by omega)) (j := d) (nI_clamp (by omega)) dX11_dueOf_108 ?_
        refine lv_lstore (lv' := [(5, .long (S.2.2.2 20 d)), (4, .int (S.2.2.1 13 f)), (0, .ref (α 0)), (1, .int (nI d)), (2, .int (nI f)), (3, .int known)]) hx hb dX11_dueOf_109 hl (by decide) rfl (fun ls hl => ?_)
        refine lv_goto (tgt := 136) hx hb dX11_dueOf_111 (by decide) ?_
        refine lv_lload hx hb dX11_dueOf_136 (lv_at hl 0 rfl) ?_
        refine lv_lload hx hb dX11_dueOf_138 (lv_at hl 0 rfl) ?_
        refine lv_aload_n hx hb dX11_dueOf_140 rfl (lv_at hl 2 rfl) ?_
        refine lv_iconst (v := 4) hx hb dX11_dueOf_141 (by decide) ?_
        refine lv_aload_n hx hb dX11_dueOf_142 rfl (lv_at hl 2 rfl) ?_
        refine lv_iload_n hx hb dX11_dueOf_143 rfl (lv_at hl 4 rfl) ?_
        refine lv_iload_n hx hb dX11_dueOf_144 rfl (lv_at hl 5 rfl) ?_
        refine gc_i (gr_V C B (k := 0) (As := [.int (nI f), .int known]) (rest := [.int 4, .ref (α 0), .long (S.2.2.2 20 d), .long (S.2.2.2 20 d)]) (c_X11_dueMonth l D G τ α S _ f known (by omega) hN hD) (by decide) mE_0 rfl wl_886 wl_888 wl_19 wl_40 wl_889 (na := 2) (by decide +kernel) rfl ⟨Nat.le_of_ble_eq_true rfl, Nat.le_of_ble_eq_true rfl⟩ ⟨Nat.le_of_ble_eq_true rfl, Nat.le_of_ble_eq_true rfl⟩ hl.1 rfl (Nat.le_of_ble_eq_true rfl) dX11_dueOf_145) (fun r h => ?_)
        subst h
        refine lv_iload_n hx hb dX11_dueOf_148 rfl (lv_at hl 5 rfl) ?_
        refine gc_i (gr_V C B (k := 0) (As := [.int 4, .int (sDueM S f known), .int known]) (rest := [.long (S.2.2.2 20 d), .long (S.2.2.2 20 d)]) (c_X11_inForce l D G τ α S _ 4 (sDueM S f known) known hN hD) (by decide) mE_0 rfl wl_890 wl_892 wl_20 wl_40 wl_893 (na := 3) (by decide +kernel) rfl ⟨Nat.le_of_ble_eq_true rfl, Nat.le_of_ble_eq_true rfl⟩ ⟨Nat.le_of_ble_eq_true rfl, Nat.le_of_ble_eq_true rfl⟩ hl.1 rfl (Nat.le_of_ble_eq_true rfl) dX11_dueOf_149) (fun r h => ?_)
        subst h
        refine lv_i2l (v := (sInf S 4 (sDueM S f known) known).toInt64) hx hb dX11_dueOf_152 rfl ?_
        refine lv_lmul hx hb dX11_dueOf_153 ?_
        refine g_ldc2 C wl_898 dX11_dueOf_154 ?_
        refine lv_ldiv hx hb dX11_dueOf_157 (by decide) ?_
        refine lv_lsub hx hb dX11_dueOf_158 ?_
        exact ge_l C hr hlk (by rw [sDue, show sPre S d f known = (S.2.2.2 20 d) from by rw [sPre]; simp [th, c1, c2, c3] <;> (intro h9; exfalso; simp only [i3l, i3e, i3q, inR, isC, isD, zi_0, zi_1, zi_2, zi_3, zi_4, zi_5, zi_6, zi_7, zi_8, zi_9, zi_10, zi_12, zi_20, zi_21, zi_30, zi_60, zi_90, zi_99, zi_100, zi_180, zi_240, zi_400, zi_500, zi_1000, zi_1199, zi_10000, zi_100000, zi_1000000, i3m1] at c3 h9 ⊢; omega)]; rfl) dX11_dueOf_159
    · refine lv_aload_n hx hb dX11_dueOf_57 rfl (lv_at hl 2 rfl) ?_
      refine g_get C B (0) (by decide) mE_0 rfl gf_11 16 (by decide) wl_743 (v := .ref (α 16)) mF_16 dX11_dueOf_58 ?_
      refine lv_iload_n hx hb dX11_dueOf_61 rfl (lv_at hl 3 rfl) ?_
      refine g_iald C B (16) (by decide) (f := S.2.2.1 16) mE_16 (vp_in_nI (by omega) (by omega)) (j := d) (nI_clamp (by omega)) dX11_dueOf_62 ?_
      refine lv_iconst (v := 2) hx hb dX11_dueOf_63 (by decide) ?_
      refine lv_icmp_eq (tgt := 92) hx hb dX11_dueOf_64 (by decide) (fun c4 => ?_) (fun c4 => ?_)
      · refine lv_iload hx hb dX11_dueOf_92 (lv_at hl 1 rfl) ?_
        refine lv_aload_n hx hb dX11_dueOf_94 rfl (lv_at hl 2 rfl) ?_
        refine g_get C B (0) (by decide) mE_0 rfl gf_11 21 (by decide) wl_748 (v := .ref (α 21)) mF_21 dX11_dueOf_95 ?_
        refine lv_iload_n hx hb dX11_dueOf_98 rfl (lv_at hl 3 rfl) ?_
        refine g_iald C B (21) (by decide) (f := S.2.2.1 21) mE_21 (vp_in_nI (by omega) (by omega)) (j := d) (nI_clamp (by omega)) dX11_dueOf_99 ?_
        refine lv_icmp_lt (tgt := 114) hx hb dX11_dueOf_100 (by decide) (fun c5 => ?_) (fun c5 => ?_)
        · refine lv_aload_n hx hb dX11_dueOf_114 rfl (lv_at hl 2 rfl) ?_
          refine g_get C B (0) (by decide) mE_0 rfl gf_11 20 (by decide) wl_747 (v := .ref (α 20)) mF_20 dX11_dueOf_115 ?_
          refine lv_iload_n hx hb dX11_dueOf_118 rfl (lv_at hl 3 rfl) ?_
          refine g_lald C B (20) (by decide) (f := S.2.2.2 20) mE_20 (vp_in_nI (by omega) (by omega)) (j := d) (nI_clamp (by omega)) dX11_dueOf_119 ?_
          refine lv_aload_n hx hb dX11_dueOf_120 rfl (lv_at hl 2 rfl) ?_
          refine lv_iconst (v := 3) hx hb dX11_dueOf_121 (by decide) ?_
          refine lv_iload hx hb dX11_dueOf_122 (lv_at hl 1 rfl) ?_
          refine lv_iload_n hx hb dX11_dueOf_124 rfl (lv_at hl 5 rfl) ?_
          refine gc_i (gr_V C B (k := 0) (As := [.int 3, .int (S.2.2.1 13 f), .int known]) (rest := [.long (S.2.2.2 20 d)]) (c_X11_inForce l D G τ α S _ 3 (S.2.2.1 13 f) known hN hD) (by decide) mE_0 rfl wl_890 wl_892 wl_20 wl_40 wl_893 (na := 3) (by decide +kernel) rfl ⟨Nat.le_of_ble_eq_true rfl, Nat.le_of_ble_eq_true rfl⟩ ⟨Nat.le_of_ble_eq_true rfl, Nat.le_of_ble_eq_true rfl⟩ hl.1 rfl (Nat.le_of_ble_eq_true rfl) dX11_dueOf_125) (fun r h => ?_)
          subst h
          refine lv_i2l (v := (sInf S 3 (S.2.2.1 13 f) known).toInt64) hx hb dX11_dueOf_128 rfl ?_
          refine lv_lmul hx hb dX11_dueOf_129 ?_
          refine g_ldc2 C wl_898 dX11_dueOf_130 ?_
          refine lv_ldiv hx hb dX11_dueOf_133 (by decide) ?_
          refine lv_lstore (lv' := [(5, .long (((S.2.2.2 20 d) * (sInf S 3 (S.2.2.1 13 f) known).toInt64) / 1000)), (4, .int (S.2.2.1 13 f)), (0, .ref (α 0)), (1, .int (nI d)), (2, .int (nI f)), (3, .int known)]) hx hb dX11_dueOf_134 hl (by decide) rfl (fun ls hl => ?_)
          refine lv_lload hx hb dX11_dueOf_136 (lv_at hl 0 rfl) ?_
          refine lv_lload hx hb dX11_dueOf_138 (lv_at hl 0 rfl) ?_
          refine lv_aload_n hx hb dX11_dueOf_140 rfl (lv_at hl 2 rfl) ?_
          refine lv_iconst (v := 4) hx hb dX11_dueOf_141 (by decide) ?_
          refine lv_aload_n hx hb dX11_dueOf_142 rfl (lv_at hl 2 rfl) ?_
          refine lv_iload_n hx hb dX11_dueOf_143 rfl (lv_at hl 4 rfl) ?_
          refine lv_iload_n hx hb dX11_dueOf_144 rfl (lv_at hl 5 rfl) ?_
          refine gc_i (gr_V C B (k := 0) (As := [.int (nI f), .int known]) (rest := [.int 4, .ref (α 0), .long (((S.2.2.2 20 d) * (sInf S 3 (S.2.2.1 13 f) known).toInt64) / 1000), .long (((S.2.2.2 20 d) * (sInf S 3 (S.2.2.1 13 f) known).toInt64) / 1000)]) (c_X11_dueMonth l D G τ α S _ f known (by omega) hN hD) (by decide) mE_0 rfl wl_886 wl_888 wl_19 wl_40 wl_889 (na := 2) (by decide +kernel) rfl ⟨Nat.le_of_ble_eq_true rfl, Nat.le_of_ble_eq_true rfl⟩ ⟨Nat.le_of_ble_eq_true rfl, Nat.le_of_ble_eq_true rfl⟩ hl.1 rfl (Nat.le_of_ble_eq_true rfl) dX11_dueOf_145) (fun r h => ?_)
          subst h
          refine lv_iload_n hx hb dX11_dueOf_148 rfl (lv_at hl 5 rfl) ?_
          refine gc_i (gr_V C B (k := 0) (As := [.int 4, .int (sDueM S f known), .int known]) (rest := [.long (((S.2.2.2 20 d) * (sInf S 3 (S.2.2.1 13 f) known).toInt64) / 1000), .long (((S.2.2.2 20 d) * (sInf S 3 (S.2.2.1 13 f) known).toInt64) / 1000)]) (c_X11_inForce l D G τ α S _ 4 (sDueM S f known) known hN hD) (by decide) mE_0 rfl wl_890 wl_892 wl_20 wl_40 wl_893 (na := 3) (by decide +kernel) rfl ⟨Nat.le_of_ble_eq_true rfl, Nat.le_of_ble_eq_true rfl⟩ ⟨Nat.le_of_ble_eq_true rfl, Nat.le_of_ble_eq_true rfl⟩ hl.1 rfl (Nat.le_of_ble_eq_true rfl) dX11_dueOf_149) (fun r h => ?_)
          subst h
          refine lv_i2l (v := (sInf S 4 (sDueM S f known) known).toInt64) hx hb dX11_dueOf_152 rfl ?_
          refine lv_lmul hx hb dX11_dueOf_153 ?_
          refine g_ldc2 C wl_898 dX11_dueOf_154 ?_
          refine lv_ldiv hx hb dX11_dueOf_157 (by decide) ?_
          refine lv_lsub hx hb dX11_dueOf_158 ?_
          exact ge_l C hr hlk (by rw [sDue, show sPre S d f known = (((S.2.2.2 20 d) * (sInf S 3 (S.2.2.1 13 f) known).toInt64) / 1000) from by rw [sPre]; simp [th, c1, c2, c4, c5] <;> (intro h9; exfalso; simp only [i3l, i3e, i3q, inR, isC, isD, zi_0, zi_1, zi_2, zi_3, zi_4, zi_5, zi_6, zi_7, zi_8, zi_9, zi_10, zi_12, zi_20, zi_21, zi_30, zi_60, zi_90, zi_99, zi_100, zi_180, zi_240, zi_400, zi_500, zi_1000, zi_1199, zi_10000, zi_100000, zi_1000000, i3m1] at c5 h9 ⊢; omega)]; rfl) dX11_dueOf_159
        · refine lv_aload_n hx hb dX11_dueOf_103 rfl (lv_at hl 2 rfl) ?_
          refine g_get C B (0) (by decide) mE_0 rfl gf_11 20 (by decide) wl_747 (v := .ref (α 20)) mF_20 dX11_dueOf_104 ?_
          refine lv_iload_n hx hb dX11_dueOf_107 rfl (lv_at hl 3 rfl) ?_
          refine g_lald C B (20) (by decide) (f := S.2.2.2 20) mE_20 (vp_in_nI (by omega) (by omega)) (j := d) (nI_clamp (by omega)) dX11_dueOf_108 ?_
          refine lv_lstore (lv' := [(5, .long (S.2.2.2 20 d)), (4, .int (S.2.2.1 13 f)), (0, .ref (α 0)), (1, .int (nI d)), (2, .int (nI f)), (3, .int known)]) hx hb dX11_dueOf_109 hl (by decide) rfl (fun ls hl => ?_)
          refine lv_goto (tgt := 136) hx hb dX11_dueOf_111 (by decide) ?_
          refine lv_lload hx hb dX11_dueOf_136 (lv_at hl 0 rfl) ?_
          refine lv_lload hx hb dX11_dueOf_138 (lv_at hl 0 rfl) ?_
          refine lv_aload_n hx hb dX11_dueOf_140 rfl (lv_at hl 2 rfl) ?_
          refine lv_iconst (v := 4) hx hb dX11_dueOf_141 (by decide) ?_
          refine lv_aload_n hx hb dX11_dueOf_142 rfl (lv_at hl 2 rfl) ?_
          refine lv_iload_n hx hb dX11_dueOf_143 rfl (lv_at hl 4 rfl) ?_
          refine lv_iload_n hx hb dX11_dueOf_144 rfl (lv_at hl 5 rfl) ?_
          refine gc_i (gr_V C B (k := 0) (As := [.int (nI f), .int known]) (rest := [.int 4, .ref (α 0), .long (S.2.2.2 20 d), .long (S.2.2.2 20 d)]) (c_X11_dueMonth l D G τ α S _ f known (by omega) hN hD) (by decide) mE_0 rfl wl_886 wl_888 wl_19 wl_40 wl_889 (na := 2) (by decide +kernel) rfl ⟨Nat.le_of_ble_eq_true rfl, Nat.le_of_ble_eq_true rfl⟩ ⟨Nat.le_of_ble_eq_true rfl, Nat.le_of_ble_eq_true rfl⟩ hl.1 rfl (Nat.le_of_ble_eq_true rfl) dX11_dueOf_145) (fun r h => ?_)
          subst h
          refine lv_iload_n hx hb dX11_dueOf_148 rfl (lv_at hl 5 rfl) ?_
          refine gc_i (gr_V C B (k := 0) (As := [.int 4, .int (sDueM S f known), .int known]) (rest := [.long (S.2.2.2 20 d), .long (S.2.2.2 20 d)]) (c_X11_inForce l D G τ α S _ 4 (sDueM S f known) known hN hD) (by decide) mE_0 rfl wl_890 wl_892 wl_20 wl_40 wl_893 (na := 3) (by decide +kernel) rfl ⟨Nat.le_of_ble_eq_true rfl, Nat.le_of_ble_eq_true rfl⟩ ⟨Nat.le_of_ble_eq_true rfl, Nat.le_of_ble_eq_true rfl⟩ hl.1 rfl (Nat.le_of_ble_eq_true rfl) dX11_dueOf_149) (fun r h => ?_)
          subst h
          refine lv_i2l (v := (sInf S 4 (sDueM S f known) known).toInt64) hx hb dX11_dueOf_152 rfl ?_
          refine lv_lmul hx hb dX11_dueOf_153 ?_
          refine g_ldc2 C wl_898 dX11_dueOf_154 ?_
          refine lv_ldiv hx hb dX11_dueOf_157 (by decide) ?_
          refine lv_lsub hx hb dX11_dueOf_158 ?_
          exact ge_l C hr hlk (by rw [sDue, show sPre S d f known = (S.2.2.2 20 d) from by rw [sPre]; simp [th, c1, c2, c4, c5] <;> (intro h9; exfalso; simp only [i3l, i3e, i3q, inR, isC, isD, zi_0, zi_1, zi_2, zi_3, zi_4, zi_5, zi_6, zi_7, zi_8, zi_9, zi_10, zi_12, zi_20, zi_21, zi_30, zi_60, zi_90, zi_99, zi_100, zi_180, zi_240, zi_400, zi_500, zi_1000, zi_1199, zi_10000, zi_100000, zi_1000000, i3m1] at c5 h9 ⊢; omega)]; rfl) dX11_dueOf_159
      · refine lv_aload_n hx hb dX11_dueOf_67 rfl (lv_at hl 2 rfl) ?_
        refine g_get C B (0) (by decide) mE_0 rfl gf_11 20 (by decide) wl_747 (v := .ref (α 20)) mF_20 dX11_dueOf_68 ?_
        refine lv_iload_n hx hb dX11_dueOf_71 rfl (lv_at hl 3 rfl) ?_
        refine g_lald C B (20) (by decide) (f := S.2.2.2 20) mE_20 (vp_in_nI (by omega) (by omega)) (j := d) (nI_clamp (by omega)) dX11_dueOf_72 ?_
        refine lv_aload_n hx hb dX11_dueOf_73 rfl (lv_at hl 2 rfl) ?_
        refine lv_iconst (v := 2) hx hb dX11_dueOf_74 (by decide) ?_
        refine lv_iload hx hb dX11_dueOf_75 (lv_at hl 1 rfl) ?_
        refine lv_iload_n hx hb dX11_dueOf_77 rfl (lv_at hl 5 rfl) ?_
        refine gc_i (gr_V C B (k := 0) (As := [.int 2, .int (S.2.2.1 13 f), .int known]) (rest := [.long (S.2.2.2 20 d)]) (c_X11_inForce l D G τ α S _ 2 (S.2.2.1 13 f) known hN hD) (by decide) mE_0 rfl wl_890 wl_892 wl_20 wl_40 wl_893 (na := 3) (by decide +kernel) rfl ⟨Nat.le_of_ble_eq_true rfl, Nat.le_of_ble_eq_true rfl⟩ ⟨Nat.le_of_ble_eq_true rfl, Nat.le_of_ble_eq_true rfl⟩ hl.1 rfl (Nat.le_of_ble_eq_true rfl) dX11_dueOf_78) (fun r h => ?_)
        subst h
        refine lv_i2l (v := (sInf S 2 (S.2.2.1 13 f) known).toInt64) hx hb dX11_dueOf_81 rfl ?_
        refine lv_lmul hx hb dX11_dueOf_82 ?_
        refine g_ldc2 C wl_898 dX11_dueOf_83 ?_
        refine lv_ldiv hx hb dX11_dueOf_86 (by decide) ?_
        refine lv_lstore (lv' := [(5, .long (((S.2.2.2 20 d) * (sInf S 2 (S.2.2.1 13 f) known).toInt64) / 1000)), (4, .int (S.2.2.1 13 f)), (0, .ref (α 0)), (1, .int (nI d)), (2, .int (nI f)), (3, .int known)]) hx hb dX11_dueOf_87 hl (by decide) rfl (fun ls hl => ?_)
        refine lv_goto (tgt := 136) hx hb dX11_dueOf_89 (by decide) ?_
        refine lv_lload hx hb dX11_dueOf_136 (lv_at hl 0 rfl) ?_
        refine lv_lload hx hb dX11_dueOf_138 (lv_at hl 0 rfl) ?_
        refine lv_aload_n hx hb dX11_dueOf_140 rfl (lv_at hl 2 rfl) ?_
        refine lv_iconst (v := 4) hx hb dX11_dueOf_141 (by decide) ?_
        refine lv_aload_n hx hb dX11_dueOf_142 rfl (lv_at hl 2 rfl) ?_
        refine lv_iload_n hx hb dX11_dueOf_143 rfl (lv_at hl 4 rfl) ?_
        refine lv_iload_n hx hb dX11_dueOf_144 rfl (lv_at hl 5 rfl) ?_
        refine gc_i (gr_V C B (k := 0) (As := [.int (nI f), .int known]) (rest := [.int 4, .ref (α 0), .long (((S.2.2.2 20 d) * (sInf S 2 (S.2.2.1 13 f) known).toInt64) / 1000), .long (((S.2.2.2 20 d) * (sInf S 2 (S.2.2.1 13 f) known).toInt64) / 1000)]) (c_X11_dueMonth l D G τ α S _ f known (by omega) hN hD) (by decide) mE_0 rfl wl_886 wl_888 wl_19 wl_40 wl_889 (na := 2) (by decide +kernel) rfl ⟨Nat.le_of_ble_eq_true rfl, Nat.le_of_ble_eq_true rfl⟩ ⟨Nat.le_of_ble_eq_true rfl, Nat.le_of_ble_eq_true rfl⟩ hl.1 rfl (Nat.le_of_ble_eq_true rfl) dX11_dueOf_145) (fun r h => ?_)
        subst h
        refine lv_iload_n hx hb dX11_dueOf_148 rfl (lv_at hl 5 rfl) ?_
        refine gc_i (gr_V C B (k := 0) (As := [.int 4, .int (sDueM S f known), .int known]) (rest := [.long (((S.2.2.2 20 d) * (sInf S 2 (S.2.2.1 13 f) known).toInt64) / 1000), .long (((S.2.2.2 20 d) * (sInf S 2 (S.2.2.1 13 f) known).toInt64) / 1000)]) (c_X11_inForce l D G τ α S _ 4 (sDueM S f known) known hN hD) (by decide) mE_0 rfl wl_890 wl_892 wl_20 wl_40 wl_893 (na := 3) (by decide +kernel) rfl ⟨Nat.le_of_ble_eq_true rfl, Nat.le_of_ble_eq_true rfl⟩ ⟨Nat.le_of_ble_eq_true rfl, Nat.le_of_ble_eq_true rfl⟩ hl.1 rfl (Nat.le_of_ble_eq_true rfl) dX11_dueOf_149) (fun r h => ?_)
        subst h
        refine lv_i2l (v := (sInf S 4 (sDueM S f known) known).toInt64) hx hb dX11_dueOf_152 rfl ?_
        refine lv_lmul hx hb dX11_dueOf_153 ?_
        refine g_ldc2 C wl_898 dX11_dueOf_154 ?_
        refine lv_ldiv hx hb dX11_dueOf_157 (by decide) ?_
        refine lv_lsub hx hb dX11_dueOf_158 ?_
        exact ge_l C hr hlk (by rw [sDue, show sPre S d f known = (((S.2.2.2 20 d) * (sInf S 2 (S.2.2.1 13 f) known).toInt64) / 1000) from by rw [sPre]; simp [th, c1, c2, c4] <;> (intro h9; exfalso; simp only [i3l, i3e, i3q, inR, isC, isD, zi_0, zi_1, zi_2, zi_3, zi_4, zi_5, zi_6, zi_7, zi_8, zi_9, zi_10, zi_12, zi_20, zi_21, zi_30, zi_60, zi_90, zi_99, zi_100, zi_180, zi_240, zi_400, zi_500, zi_1000, zi_1199, zi_10000, zi_100000, zi_1000000, i3m1] at c4 h9 ⊢; omega)]; rfl) dX11_dueOf_159
  · refine lv_aload_n hx hb dX11_dueOf_21 rfl (lv_at hl 2 rfl) ?_
    refine g_get C B (0) (by decide) mE_0 rfl gf_11 19 (by decide) wl_746 (v := .ref (α 19)) mF_19 dX11_dueOf_22 ?_
    refine lv_iload_n hx hb dX11_dueOf_25 rfl (lv_at hl 3 rfl) ?_
    refine g_iald C B (19) (by decide) (f := S.2.2.1 19) mE_19 (vp_in_nI (by omega) (by omega)) (j := d) (nI_clamp (by omega)) dX11_dueOf_26 ?_
    refine lv_i2l (v := (S.2.2.1 19 d).toInt64) hx hb dX11_dueOf_27 rfl ?_
    refine lv_aload_n hx hb dX11_dueOf_28 rfl (lv_at hl 2 rfl) ?_
    refine lv_iconst (v := 1) hx hb dX11_dueOf_29 (by decide) ?_
    refine lv_iload hx hb dX11_dueOf_30 (lv_at hl 1 rfl) ?_
    refine lv_iload_n hx hb dX11_dueOf_32 rfl (lv_at hl 5 rfl) ?_
    refine gc_i (gr_V C B (k := 0) (As := [.int 1, .int (S.2.2.1 13 f), .int known]) (rest := [.long ((S.2.2.1 19 d).toInt64)]) (c_X11_inForce l D G τ α S _ 1 (S.2.2.1 13 f) known hN hD) (by decide) mE_0 rfl wl_890 wl_892 wl_20 wl_40 wl_893 (na := 3) (by decide +kernel) rfl ⟨Nat.le_of_ble_eq_true rfl, Nat.le_of_ble_eq_true rfl⟩ ⟨Nat.le_of_ble_eq_true rfl, Nat.le_of_ble_eq_true rfl⟩ hl.1 rfl (Nat.le_of_ble_eq_true rfl) dX11_dueOf_33) (fun r h => ?_)
    subst h
    refine lv_i2l (v := (sInf S 1 (S.2.2.1 13 f) known).toInt64) hx hb dX11_dueOf_36 rfl ?_
    refine lv_lmul hx hb dX11_dueOf_37 ?_
    refine g_ldc2 C wl_898 dX11_dueOf_38 ?_
    refine lv_ldiv hx hb dX11_dueOf_41 (by decide) ?_
    refine lv_lstore (lv' := [(5, .long (((S.2.2.1 19 d).toInt64 * (sInf S 1 (S.2.2.1 13 f) known).toInt64) / 1000)), (4, .int (S.2.2.1 13 f)), (0, .ref (α 0)), (1, .int (nI d)), (2, .int (nI f)), (3, .int known)]) hx hb dX11_dueOf_42 hl (by decide) rfl (fun ls hl => ?_)
    refine lv_goto (tgt := 136) hx hb dX11_dueOf_44 (by decide) ?_
    refine lv_lload hx hb dX11_dueOf_136 (lv_at hl 0 rfl) ?_
    refine lv_lload hx hb dX11_dueOf_138 (lv_at hl 0 rfl) ?_
    refine lv_aload_n hx hb dX11_dueOf_140 rfl (lv_at hl 2 rfl) ?_
    refine lv_iconst (v := 4) hx hb dX11_dueOf_141 (by decide) ?_
    refine lv_aload_n hx hb dX11_dueOf_142 rfl (lv_at hl 2 rfl) ?_
    refine lv_iload_n hx hb dX11_dueOf_143 rfl (lv_at hl 4 rfl) ?_
    refine lv_iload_n hx hb dX11_dueOf_144 rfl (lv_at hl 5 rfl) ?_
    refine gc_i (gr_V C B (k := 0) (As := [.int (nI f), .int known]) (rest := [.int 4, .ref (α 0), .long (((S.2.2.1 19 d).toInt64 * (sInf S 1 (S.2.2.1 13 f) known).toInt64) / 1000), .long (((S.2.2.1 19 d).toInt64 * (sInf S 1 (S.2.2.1 13 f) known).toInt64) / 1000)]) (c_X11_dueMonth l D G τ α S _ f known (by omega) hN hD) (by decide) mE_0 rfl wl_886 wl_888 wl_19 wl_40 wl_889 (na := 2) (by decide +kernel) rfl ⟨Nat.le_of_ble_eq_true rfl, Nat.le_of_ble_eq_true rfl⟩ ⟨Nat.le_of_ble_eq_true rfl, Nat.le_of_ble_eq_true rfl⟩ hl.1 rfl (Nat.le_of_ble_eq_true rfl) dX11_dueOf_145) (fun r h => ?_)
    subst h
    refine lv_iload_n hx hb dX11_dueOf_148 rfl (lv_at hl 5 rfl) ?_
    refine gc_i (gr_V C B (k := 0) (As := [.int 4, .int (sDueM S f known), .int known]) (rest := [.long (((S.2.2.1 19 d).toInt64 * (sInf S 1 (S.2.2.1 13 f) known).toInt64) / 1000), .long (((S.2.2.1 19 d).toInt64 * (sInf S 1 (S.2.2.1 13 f) known).toInt64) / 1000)]) (c_X11_inForce l D G τ α S _ 4 (sDueM S f known) known hN hD) (by decide) mE_0 rfl wl_890 wl_892 wl_20 wl_40 wl_893 (na := 3) (by decide +kernel) rfl ⟨Nat.le_of_ble_eq_true rfl, Nat.le_of_ble_eq_true rfl⟩ ⟨Nat.le_of_ble_eq_true rfl, Nat.le_of_ble_eq_true rfl⟩ hl.1 rfl (Nat.le_of_ble_eq_true rfl) dX11_dueOf_149) (fun r h => ?_)
    subst h
    refine lv_i2l (v := (sInf S 4 (sDueM S f known) known).toInt64) hx hb dX11_dueOf_152 rfl ?_
    refine lv_lmul hx hb dX11_dueOf_153 ?_
    refine g_ldc2 C wl_898 dX11_dueOf_154 ?_
    refine lv_ldiv hx hb dX11_dueOf_157 (by decide) ?_
    refine lv_lsub hx hb dX11_dueOf_158 ?_
    exact ge_l C hr hlk (by rw [sDue, show sPre S d f known = (((S.2.2.1 19 d).toInt64 * (sInf S 1 (S.2.2.1 13 f) known).toInt64) / 1000) from by rw [sPre]; simp [th, c1] <;> (intro h9; exfalso; simp only [i3l, i3e, i3q, inR, isC, isD, zi_0, zi_1, zi_2, zi_3, zi_4, zi_5, zi_6, zi_7, zi_8, zi_9, zi_10, zi_12, zi_20, zi_21, zi_30, zi_60, zi_90, zi_99, zi_100, zi_180, zi_240, zi_400, zi_500, zi_1000, zi_1199, zi_10000, zi_100000, zi_1000000, i3m1] at c1 h9 ⊢; omega)]; rfl) dX11_dueOf_159
set_option maxHeartbeats 4000000 in
set_option maxRecDepth 100000 in
theorem c_X11_outMany (l : Launch) (D : va_G) (G : Nat → ClassId) (τ α : Nat → Nat) (S : St) (sz : Nat) (hN : okN S) : Ri l D G τ yX11_outMany cX11_outMany 3 (some .int) 0 [.ref (α 0)] α (mE G α S) Lm sz (fun r => r = outL S (nOf S 15)) := by
  refine gM _ (by decide) rfl (Nat.le_of_ble_eq_true rfl) ?_
  intro p e s m below meth c ls C hr hlk hnm hsz B hl
  have hx := C.1
  have hb := C.2.1
  have hl : lv_has ls 3 [(0, .ref (α 0))] := hl
  have hNe := nOf_eq hN.2.2.2.2.1.1
  have hNl : nOf S 15 ≤ 30 := nOf_le hN.2.2.2.2.1.1 hN.2.2.2.2.1.2 (by decide)
  have loop : ∀ (nn kk : Nat) (h : Int32) (ls : Array Slot), nn + kk = nOf S 15 → (outL S kk = h) → lv_has ls 3 [(2, .int (nI kk)), (1, .int h), (0, .ref (α 0))] → W p l e (rmd 0 0 0) s m [.ref (α 0)].toArray below meth c s.heap [] 0 0 (MQ below (vp_Si (fun r => r = outL S (nOf S 15))) [.ref (α 0)].toArray s 0 0 (fun _ => False)) (F0 m 4 ls []) := by
    intro nn
    induction nn with
    | zero =>
      intro kk h ls hk hI hl
      refine lv_iload_n hx hb dX11_outMany_4 rfl (lv_at hl 0 rfl) ?_
      refine lv_aload_n hx hb dX11_outMany_5 rfl (lv_at hl 2 rfl) ?_
      refine g_get C B (0) (by decide) mE_0 rfl gf_11 15 (by decide) wl_742 (v := .int (S.1 15)) mF_15 dX11_outMany_6 ?_
      refine lv_icmp_ge (tgt := 35) hx hb dX11_outMany_9 (by decide) (fun _ => ?_) (fun hc => absurd (by rw [hNe]; exact nI_le (by omega) (by omega)) hc)
      refine lv_iload_n hx hb dX11_outMany_35 rfl (lv_at hl 1 rfl) ?_
      exact ge_i C hr rfl hlk (by rw [show nOf S 15 = kk by omega, hI]) dX11_outMany_36
    | succ nn ih =>
      intro kk h ls hk hI hl
      refine lv_iload_n hx hb dX11_outMany_4 rfl (lv_at hl 0 rfl) ?_
      refine lv_aload_n hx hb dX11_outMany_5 rfl (lv_at hl 2 rfl) ?_
      refine g_get C B (0) (by decide) mE_0 rfl gf_11 15 (by decide) wl_742 (v := .int (S.1 15)) mF_15 dX11_outMany_6 ?_
      refine lv_icmp_ge (tgt := 35) hx hb dX11_outMany_9 (by decide) (fun hc => absurd hc (by rw [hNe]; exact nI_ge (by omega) (by omega))) (fun _ => ?_)
      refine lv_iload_n hx hb dX11_outMany_12 rfl (lv_at hl 1 rfl) ?_
      refine lv_aload_n hx hb dX11_outMany_13 rfl (lv_at hl 2 rfl) ?_
      refine g_get C B (0) (by decide) mE_0 rfl gf_11 24 (by decide) wl_751 (v := .ref (α 24)) mF_24 dX11_outMany_14 ?_
      refine lv_iload_n hx hb dX11_outMany_17 rfl (lv_at hl 0 rfl) ?_
      refine g_zald C B (24) (by decide) (f := S.2.2.1 24) mE_24 (vp_in_nI (by omega) (by omega)) (j := kk) (nI_clamp (by omega)) dX11_outMany_18 ?_
      refine lv_if_eq (tgt := 26) hx hb dX11_outMany_19 (by decide) (fun c1 => ?_) (fun c1 => ?_)
      · refine lv_iconst (v := 0) hx hb dX11_outMany_26 (by decide) ?_
        refine lv_iadd hx hb dX11_outMany_27 ?_
        refine lv_istore_n (lv' := [(1, .int (h + 0)), (2, .int (nI kk)), (0, .ref (α 0))]) hx hb dX11_outMany_28 rfl hl (by decide) rfl (fun ls hl => ?_)
        refine lv_iinc (v := ((nI kk) + 1)) (lv' := [(2, .int ((nI kk) + 1)), (1, .int (h + 0)), (0, .ref (α 0))]) hx hb dX11_outMany_29 hl (k := 1) rfl rfl (by decide) rfl (fun ls hl => ?_)
        refine lv_goto (tgt := 4) hx hb dX11_outMany_32 (by decide) ?_
        exact ih (kk + 1) (h + 0) ls (by omega) (by rw [outL, hI]; simp [c1]) (by have h9 := lv_sub (l' := [(2, .int ((nI kk) + 1)), (1, .int (h + 0)), (0, .ref (α 0))]) hl [0, 1, 2] rfl; rw [nI_1] at h9; exact h9)
      · refine lv_iconst (v := 1) hx hb dX11_outMany_22 (by decide) ?_
        refine lv_goto (tgt := 27) hx hb dX11_outMany_23 (by decide) ?_
        refine lv_iadd hx hb dX11_outMany_27 ?_
        refine lv_istore_n (lv' := [(1, .int (h + 1)), (2, .int (nI kk)), (0, .ref (α 0))]) hx hb dX11_outMany_28 rfl hl (by decide) rfl (fun ls hl => ?_)
        refine lv_iinc (v := ((nI kk) + 1)) (lv' := [(2, .int ((nI kk) + 1)), (1, .int (h + 1)), (0, .ref (α 0))]) hx hb dX11_outMany_29 hl (k := 1) rfl rfl (by decide) rfl (fun ls hl => ?_)
        refine lv_goto (tgt := 4) hx hb dX11_outMany_32 (by decide) ?_
        exact ih (kk + 1) (h + 1) ls (by omega) (by rw [outL, hI]; simp [c1]) (by have h9 := lv_sub (l' := [(2, .int ((nI kk) + 1)), (1, .int (h + 1)), (0, .ref (α 0))]) hl [0, 1, 2] rfl; rw [nI_1] at h9; exact h9)
  refine lv_iconst (v := 0) hx hb dX11_outMany_0 (by decide) ?_
  refine lv_istore_n (lv' := [(1, .int 0), (0, .ref (α 0))]) hx hb dX11_outMany_1 rfl hl (by decide) rfl (fun ls hl => ?_)
  refine lv_iconst (v := 0) hx hb dX11_outMany_2 (by decide) ?_
  refine lv_istore_n (lv' := [(2, .int 0), (1, .int 0), (0, .ref (α 0))]) hx hb dX11_outMany_3 rfl hl (by decide) rfl (fun ls hl => ?_)
  exact loop (nOf S 15) 0 0 ls (by omega) rfl (lv_sub hl [0, 1, 2] rfl)
set_option maxHeartbeats 4000000 in
set_option maxRecDepth 100000 in
theorem c_X11_live (l : Launch) (D : va_G) (G : Nat → ClassId) (τ α : Nat → Nat) (S : St) (sz : Nat) (a b : Nat) (hab : a ≤ b) (hb21 : b ≤ 21) : Wv l D G τ yX11_live cX11_live 6 none 0 0 0 [.ref (α 0), .int (nI a), .int (nI b)] α (mE G α S) Lm sz (fun u => u = (α, mE G α (uJ (uJ S 41 (liveL S a (b - a)).1) 42 (liveL S a (b - a)).2), Lm)) := by
  refine gM _ (by decide) rfl (Nat.le_of_ble_eq_true rfl) ?_
  intro p e s m below meth c ls C hr hlk hnm hsz B hl
  have hx := C.1
  have hb := C.2.1
  have hl : lv_has ls 6 [(0, .ref (α 0)), (1, .int (nI a)), (2, .int (nI b))] := hl
  have loop : ∀ (nn kk : Nat) (x : Int64) (y : Int64) (H : Heap) (locs : List Loc) (ls : Array Slot), nn + kk = b - a → (liveL S a kk = (x, y)) → gB D G τ (gA α Lm sz) s H locs α (mE G α (uJ (uJ S 41 x) 42 y)) Lm → lv_has ls 6 [(3, .int (nI (a + kk))), (0, .ref (α 0)), (1, .int (nI a)), (2, .int (nI b))] → W p l e (rmd 0 0 0) s m [.ref (α 0), .int (nI a), .int (nI b)].toArray below meth c H locs 0 0 (MQ below (va_Qv (fun u => u = (α, mE G α (uJ (uJ S 41 (liveL S a (b - a)).1) 42 (liveL S a (b - a)).2), Lm)) (gAt D (gA α Lm sz)) (gA α Lm sz)) [.ref (α 0), .int (nI a), .int (nI b)].toArray s 0 0 (gA α Lm sz)) (F0 m 14 ls []) := by
    intro nn
    induction nn with
    | zero =>
      intro kk x y H locs ls hk hI B hl
      refine lv_iload_n hx hb dX11_live_14 rfl (lv_at hl 0 rfl) ?_
      refine lv_iload_n hx hb dX11_live_15 rfl (lv_at hl 3 rfl) ?_
      refine lv_icmp_ge (tgt := 99) hx hb dX11_live_16 (by decide) (fun _ => ?_) (fun hc => absurd (nI_le (by omega) (by omega)) hc)
      exact ge_wv C B hr hlk (by rw [show b - a = kk by omega, hI]) dX11_live_99
    | succ nn ih =>
      intro kk x y H locs ls hk hI B hl
      refine lv_iload_n hx hb dX11_live_14 rfl (lv_at hl 0 rfl) ?_
      refine lv_iload_n hx hb dX11_live_15 rfl (lv_at hl 3 rfl) ?_
      refine lv_icmp_ge (tgt := 99) hx hb dX11_live_16 (by decide) (fun hc => absurd hc (nI_ge (by omega) (by omega))) (fun _ => ?_)
      refine lv_aload_n hx hb dX11_live_19 rfl (lv_at hl 1 rfl) ?_
      refine g_get C B (0) (by decide) mE_0 rfl gf_11 41 (by decide) wl_768 (v := .long x) mF_41 dX11_live_20 ?_
      refine lv_aload_n hx hb dX11_live_23 rfl (lv_at hl 1 rfl) ?_
      refine g_get C B (0) (by decide) mE_0 rfl gf_11 35 (by decide) wl_762 (v := .ref (α 35)) mF_35 dX11_live_24 ?_
      refine lv_iload_n hx hb dX11_live_27 rfl (lv_at hl 0 rfl) ?_
      refine g_iald C B (35) (by decide) (f := S.2.2.1 35) mE_35 (vp_in_nI (by omega) (by omega)) (j := (a + kk)) (nI_clamp (by omega)) dX11_live_28 ?_
      refine lv_i2l (v := (S.2.2.1 35 (a + kk)).toInt64) hx hb dX11_live_29 rfl ?_
      refine lv_lmul hx hb dX11_live_30 ?_
      refine g_ldc2 C wl_898 dX11_live_31 ?_
      refine lv_ldiv hx hb dX11_live_34 (by decide) ?_
      refine lv_lstore (lv' := [(4, .long ((x * (S.2.2.1 35 (a + kk)).toInt64) / 1000)), (3, .int (nI (a + kk))), (0, .ref (α 0)), (1, .int (nI a)), (2, .int (nI b))]) hx hb dX11_live_35 hl (by decide) rfl (fun ls hl => ?_)
      refine lv_aload_n hx hb dX11_live_37 rfl (lv_at hl 2 rfl) ?_
      refine lv_dup hx hb dX11_live_38 rfl ?_
      refine g_get C B (0) (by decide) mE_0 rfl gf_11 42 (by decide) wl_769 (v := .long y) mF_42 dX11_live_39 ?_
      refine lv_lload hx hb dX11_live_42 (lv_at hl 0 rfl) ?_
      refine lv_ladd hx hb dX11_live_44 ?_
      refine g_put C B (0) (by decide) mE_0 rfl gf_11 tyX11 tyX11_ok nmX11 42 (by decide) wl_769 rfl (ty := .long) (v := .long (y + ((x * (S.2.2.1 35 (a + kk)).toInt64) / 1000))) (by decide +kernel) rfl rfl (Nat.le_of_ble_eq_true rfl) dX11_live_45 mO_42 (fun H locs B => ?_)
      refine lv_aload_n hx hb dX11_live_48 rfl (lv_at hl 2 rfl) ?_
      refine lv_dup hx hb dX11_live_49 rfl ?_
      refine g_get C B (0) (by decide) mE_0 rfl gf_11 41 (by decide) wl_768 (v := .long x) mF_41 dX11_live_50 ?_
      refine lv_lload hx hb dX11_live_53 (lv_at hl 0 rfl) ?_
      refine lv_aload_n hx hb dX11_live_55 rfl (lv_at hl 2 rfl) ?_
      refine g_get C B (0) (by decide) mE_0 rfl gf_11 41 (by decide) wl_768 (v := .long x) mF_41 dX11_live_56 ?_
      refine lv_aload_n hx hb dX11_live_59 rfl (lv_at hl 2 rfl) ?_
      refine g_get C B (0) (by decide) mE_0 rfl gf_11 34 (by decide) wl_761 (v := .ref (α 34)) mF_34 dX11_live_60 ?_
      refine lv_iload_n hx hb dX11_live_63 rfl (lv_at hl 1 rfl) ?_
      refine g_iald C B (34) (by decide) (f := S.2.2.1 34) mE_34 (vp_in_nI (by omega) (by omega)) (j := (a + kk)) (nI_clamp (by omega)) dX11_live_64 ?_
      refine lv_i2l (v := (S.2.2.1 34 (a + kk)).toInt64) hx hb dX11_live_65 rfl ?_
      refine lv_lmul hx hb dX11_live_66 ?_
      refine g_ldc2 C wl_898 dX11_live_67 ?_
      refine lv_ldiv hx hb dX11_live_70 (by decide) ?_
      refine lv_ladd hx hb dX11_live_71 ?_
      refine lv_aload_n hx hb dX11_live_72 rfl (lv_at hl 2 rfl) ?_
      refine g_get C B (0) (by decide) mE_0 rfl gf_11 41 (by decide) wl_768 (v := .long x) mF_41 dX11_live_73 ?_
      refine lv_aload_n hx hb dX11_live_76 rfl (lv_at hl 2 rfl) ?_
      refine g_get C B (0) (by decide) mE_0 rfl gf_11 36 (by decide) wl_763 (v := .ref (α 36)) mF_36 dX11_live_77 ?_
      refine lv_iload_n hx hb dX11_live_80 rfl (lv_at hl 1 rfl) ?_
      refine g_iald C B (36) (by decide) (f := S.2.2.1 36) mE_36 (vp_in_nI (by omega) (by omega)) (j := (a + kk)) (nI_clamp (by omega)) dX11_live_81 ?_
      refine lv_i2l (v := (S.2.2.1 36 (a + kk)).toInt64) hx hb dX11_live_82 rfl ?_
      refine lv_lmul hx hb dX11_live_83 ?_
      refine g_ldc2 C wl_898 dX11_live_84 ?_
      refine lv_ldiv hx hb dX11_live_87 (by decide) ?_
      refine lv_ladd hx hb dX11_live_88 ?_
      refine lv_lsub hx hb dX11_live_89 ?_
      refine g_put C B (0) (by decide) mE_0 rfl gf_11 tyX11 tyX11_ok nmX11 41 (by decide) wl_768 rfl (ty := .long) (v := .long (x - ((((x * (S.2.2.1 35 (a + kk)).toInt64) / 1000) + ((x * (S.2.2.1 34 (a + kk)).toInt64) / 1000)) + ((x * (S.2.2.1 36 (a + kk)).toInt64) / 1000)))) (by decide +kernel) rfl rfl (Nat.le_of_ble_eq_true rfl) dX11_live_90 mO_41 (fun H locs B => ?_)
      refine lv_iinc (v := ((nI (a + kk)) + 1)) (lv' := [(3, .int ((nI (a + kk)) + 1)), (4, .long ((x * (S.2.2.1 35 (a + kk)).toInt64) / 1000)), (0, .ref (α 0)), (1, .int (nI a)), (2, .int (nI b))]) hx hb dX11_live_93 hl (k := 1) rfl rfl (by decide) rfl (fun ls hl => ?_)
      refine lv_goto (tgt := 14) hx hb dX11_live_96 (by decide) ?_
      rw [uJ_live] at B
      exact ih (kk + 1) (x - ((((x * (S.2.2.1 35 (a + kk)).toInt64) / 1000) + ((x * (S.2.2.1 34 (a + kk)).toInt64) / 1000)) + ((x * (S.2.2.1 36 (a + kk)).toInt64) / 1000))) (y + ((x * (S.2.2.1 35 (a + kk)).toInt64) / 1000)) H locs ls (by omega) (by rw [liveL, hI]; rfl) B (by have h9 := lv_sub (l' := [(3, .int ((nI (a + kk)) + 1)), (0, .ref (α 0)), (1, .int (nI a)), (2, .int (nI b))]) hl [0, 2, 3, 4] rfl; rw [nI_1, Nat.add_assoc] at h9; exact h9)
  refine lv_aload_n hx hb dX11_live_0 rfl (lv_at hl 0 rfl) ?_
  refine g_ldc2 C wl_1011 dX11_live_1 ?_
  refine g_put C B (0) (by decide) mE_0 rfl gf_11 tyX11 tyX11_ok nmX11 41 (by decide) wl_768 rfl (ty := .long) (v := .long 1000000) (by decide +kernel) rfl rfl (Nat.le_of_ble_eq_true rfl) dX11_live_4 mO_41 (fun H locs B => ?_)
  refine lv_aload_n hx hb dX11_live_7 rfl (lv_at hl 0 rfl) ?_
  refine lv_lconst (v := 0) hx hb dX11_live_8 (by decide) ?_
  refine g_put C B (0) (by decide) mE_0 rfl gf_11 tyX11 tyX11_ok nmX11 42 (by decide) wl_769 rfl (ty := .long) (v := .long 0) (by decide +kernel) rfl rfl (Nat.le_of_ble_eq_true rfl) dX11_live_9 mO_42 (fun H locs B => ?_)
  refine lv_iload_n hx hb dX11_live_12 rfl (lv_at hl 1 rfl) ?_
  refine lv_istore_n (lv' := [(3, .int (nI a)), (0, .ref (α 0)), (1, .int (nI a)), (2, .int (nI b))]) hx hb dX11_live_13 rfl hl (by decide) rfl (fun ls hl => ?_)
  exact loop (b - a) 0 1000000 0 _ _ ls (by omega) rfl B (lv_sub hl [0, 1, 2, 3] rfl)
