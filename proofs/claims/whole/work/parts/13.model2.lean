theorem okS_7 {S : St} {k : Nat} (h : okS S k) : 0 ≤ S.2.2.1 25 k ∧ S.2.2.1 25 k ≤ 7 := by
  obtain ⟨h1, h2⟩ := h.1
  refine ⟨?_, h2⟩
  simp only [i3e, zi_0, zi_1] at h1 ⊢
  omega
set_option maxHeartbeats 4000000 in
set_option maxRecDepth 100000 in
theorem c_X11_decree (l : Launch) (D : va_G) (G : Nat → ClassId) (τ α : Nat → Nat) (S : St) (sz : Nat) (kind fr v : Int32) (hN : okN S) : Wl l D G τ yX11_decree cX11_decree 4 (some .long) 2 0 0 [.ref (α 0), .int kind, .int fr, .int v] α (mE G α S) Lm sz (fun r u => r = (sp_decree S kind fr v).1 ∧ u = (α, mE G α (sp_decree S kind fr v).2, Lm)) := by
  refine gM _ (by decide) rfl (Nat.le_of_ble_eq_true rfl) ?_
  intro p e s m below meth c ls C hr hlk hnm hsz B hl
  have hx := C.1
  have hb := C.2.1
  have hl : lv_has ls 4 [(0, .ref (α 0)), (1, .int kind), (2, .int fr), (3, .int v)] := hl
  refine lv_iload_n hx hb dX11_decree_0 rfl (lv_at hl 1 rfl) ?_
  refine lv_iconst (v := 0) hx hb dX11_decree_1 (by decide) ?_
  refine lv_iconst (v := 5) hx hb dX11_decree_2 (by decide) ?_
  refine gc_b (gr_S C B (As := [.int kind, .int 0, .int 5]) (rest := []) (c_X11_in l D G τ α _ _ _ kind 0 5) wl_862 wl_863 wl_40 wl_864 (na := 3) (by decide +kernel) rfl ⟨Nat.le_of_ble_eq_true rfl, Nat.le_of_ble_eq_true rfl⟩ ⟨Nat.le_of_ble_eq_true rfl, Nat.le_of_ble_eq_true rfl⟩ hl.1 rfl (Nat.le_of_ble_eq_true rfl) dX11_decree_3) (fun c1 => ?_) (fun c1 => ?_)
  · refine lv_if_eq (tgt := 24) hx hb dX11_decree_6 (by decide) (fun hc => absurd hc (by decide)) (fun _ => ?_)
    refine lv_iload_n hx hb dX11_decree_9 rfl (lv_at hl 2 rfl) ?_
    refine gc_b (gr_S C B (As := [.int fr]) (rest := []) (c_X11_isMonth l D G τ α _ _ _ fr) wl_911 wl_912 wl_40 wl_913 (na := 1) (by decide +kernel) rfl ⟨Nat.le_of_ble_eq_true rfl, Nat.le_of_ble_eq_true rfl⟩ ⟨Nat.le_of_ble_eq_true rfl, Nat.le_of_ble_eq_true rfl⟩ hl.1 rfl (Nat.le_of_ble_eq_true rfl) dX11_decree_10) (fun c2 => ?_) (fun c2 => ?_)
    · refine lv_if_eq (tgt := 24) hx hb dX11_decree_13 (by decide) (fun hc => absurd hc (by decide)) (fun _ => ?_)
      refine lv_iload_n hx hb dX11_decree_16 rfl (lv_at hl 1 rfl) ?_
      refine lv_iload_n hx hb dX11_decree_17 rfl (lv_at hl 3 rfl) ?_
      refine gc_b (gr_S C B (As := [.int kind, .int v]) (rest := []) (c_X11_isValue l D G τ α _ _ _ kind v) wl_914 wl_915 wl_40 wl_916 (na := 2) (by decide +kernel) rfl ⟨Nat.le_of_ble_eq_true rfl, Nat.le_of_ble_eq_true rfl⟩ ⟨Nat.le_of_ble_eq_true rfl, Nat.le_of_ble_eq_true rfl⟩ hl.1 rfl (Nat.le_of_ble_eq_true rfl) dX11_decree_18) (fun c3 => ?_) (fun c3 => ?_)
      · refine lv_if_ne (tgt := 30) hx hb dX11_decree_21 (by decide) (fun _ => ?_) (fun hc => absurd hc (by decide))
        refine lv_aload_n hx hb dX11_decree_30 rfl (lv_at hl 0 rfl) ?_
        refine g_get C B (0) (by decide) mE_0 rfl gf_11 2 (by decide) wl_729 (v := .int (S.1 2)) mF_2 dX11_decree_31 ?_
        refine lv_bipush (v := 60) hx hb dX11_decree_34 (by decide) ?_
        refine lv_icmp_ne (tgt := 45) hx hb dX11_decree_36 (by decide) (fun c4 => ?_) (fun c4 => ?_)
        · refine lv_aload_n hx hb dX11_decree_45 rfl (lv_at hl 0 rfl) ?_
          refine g_get C B (0) (by decide) mE_0 rfl gf_11 3 (by decide) wl_730 (v := .ref (α 3)) mF_3 dX11_decree_46 ?_
          refine lv_aload_n hx hb dX11_decree_49 rfl (lv_at hl 0 rfl) ?_
          refine g_get C B (0) (by decide) mE_0 rfl gf_11 2 (by decide) wl_729 (v := .int (S.1 2)) mF_2 dX11_decree_50 ?_
          refine lv_iload_n hx hb dX11_decree_53 rfl (lv_at hl 1 rfl) ?_
          refine g_iast C B (3) (by decide) (f := S.2.2.1 3) mE_3 (vp_ne hN.2.1 c4 rfl) (j := (S.1 2).toNatClampNeg) rfl dX11_decree_54 mU_3 (fun H locs B => ?_)
          refine lv_aload_n hx hb dX11_decree_55 rfl (lv_at hl 0 rfl) ?_
          refine g_get C B (0) (by decide) mE_0 rfl gf_11 4 (by decide) wl_731 (v := .ref (α 4)) mF_4 dX11_decree_56 ?_
          refine lv_aload_n hx hb dX11_decree_59 rfl (lv_at hl 0 rfl) ?_
          refine g_get C B (0) (by decide) mE_0 rfl gf_11 2 (by decide) wl_729 (v := .int (S.1 2)) mF_2 dX11_decree_60 ?_
          refine lv_iload_n hx hb dX11_decree_63 rfl (lv_at hl 2 rfl) ?_
          refine g_iast C B (4) (by decide) (f := S.2.2.1 4) mE_4 (vp_ne hN.2.1 c4 rfl) (j := (S.1 2).toNatClampNeg) rfl dX11_decree_64 mU_4 (fun H locs B => ?_)
          refine lv_aload_n hx hb dX11_decree_65 rfl (lv_at hl 0 rfl) ?_
          refine g_get C B (0) (by decide) mE_0 rfl gf_11 5 (by decide) wl_732 (v := .ref (α 5)) mF_5 dX11_decree_66 ?_
          refine lv_aload_n hx hb dX11_decree_69 rfl (lv_at hl 0 rfl) ?_
          refine g_get C B (0) (by decide) mE_0 rfl gf_11 2 (by decide) wl_729 (v := .int (S.1 2)) mF_2 dX11_decree_70 ?_
          refine lv_iload_n hx hb dX11_decree_73 rfl (lv_at hl 3 rfl) ?_
          refine g_iast C B (5) (by decide) (f := S.2.2.1 5) mE_5 (vp_ne hN.2.1 c4 rfl) (j := (S.1 2).toNatClampNeg) rfl dX11_decree_74 mU_5 (fun H locs B => ?_)
          refine lv_aload_n hx hb dX11_decree_75 rfl (lv_at hl 0 rfl) ?_
          refine g_get C B (0) (by decide) mE_0 rfl gf_11 6 (by decide) wl_733 (v := .ref (α 6)) mF_6 dX11_decree_76 ?_
          refine lv_aload_n hx hb dX11_decree_79 rfl (lv_at hl 0 rfl) ?_
          refine g_get C B (0) (by decide) mE_0 rfl gf_11 2 (by decide) wl_729 (v := .int (S.1 2)) mF_2 dX11_decree_80 ?_
          refine lv_aload_n hx hb dX11_decree_83 rfl (lv_at hl 0 rfl) ?_
          refine g_get C B (0) (by decide) mE_0 rfl gf_11 0 (by decide) wl_727 (v := .int (S.1 0)) mF_0 dX11_decree_84 ?_
          refine g_iast C B (6) (by decide) (f := S.2.2.1 6) mE_6 (vp_ne hN.2.1 c4 rfl) (j := (S.1 2).toNatClampNeg) rfl dX11_decree_87 mU_6 (fun H locs B => ?_)
          refine lv_aload_n hx hb dX11_decree_88 rfl (lv_at hl 0 rfl) ?_
          refine lv_dup hx hb dX11_decree_89 rfl ?_
          refine g_get C B (0) (by decide) mE_0 rfl gf_11 2 (by decide) wl_729 (v := .int (S.1 2)) mF_2 dX11_decree_90 ?_
          refine lv_iconst (v := 1) hx hb dX11_decree_93 (by decide) ?_
          refine lv_iadd hx hb dX11_decree_94 ?_
          refine g_put C B (0) (by decide) mE_0 rfl gf_11 tyX11 tyX11_ok nmX11 2 (by decide) wl_729 rfl (ty := .int) (v := .int (S.1 2 + 1)) (by decide +kernel) rfl rfl (Nat.le_of_ble_eq_true rfl) dX11_decree_95 mO_2 (fun H locs B => ?_)
          refine lv_aload_n hx hb dX11_decree_98 rfl (lv_at hl 0 rfl) ?_
          refine g_get C B (0) (by decide) mE_0 rfl gf_11 2 (by decide) wl_729 (v := .int (S.1 2 + 1)) mF_2 dX11_decree_99 ?_
          refine lv_i2l (v := (S.1 2 + 1).toInt64) hx hb dX11_decree_102 rfl ?_
          exact ge_wl C B hr hlk (by have e9 : sp_decree S kind fr v = ((S.1 2 + 1).toInt64, (uI (uA (uA (uA (uA S 3 (upd (S.2.2.1 3) ((S.1 2).toNatClampNeg) kind)) 4 (upd (S.2.2.1 4) ((S.1 2).toNatClampNeg) fr)) 5 (upd (S.2.2.1 5) ((S.1 2).toNatClampNeg) v)) 6 (upd (S.2.2.1 6) ((S.1 2).toNatClampNeg) (S.1 0))) 2 (S.1 2 + 1))) := (by unfold sp_decree; (first | rw [if_pos c1] | rw [if_neg c1] | rw [if_neg (not_not_intro c1)] | skip); (first | rw [if_pos c2] | rw [if_neg c2] | rw [if_neg (not_not_intro c2)] | skip); (first | rw [if_pos c3] | rw [if_neg c3] | rw [if_neg (not_not_intro c3)] | skip); (first | rw [if_pos c4] | rw [if_neg c4] | rw [if_neg (not_not_intro c4)] | skip); (first | done | rfl)); rw [e9]; exact ⟨rfl, rfl⟩) dX11_decree_103
        · refine lv_aload_n hx hb dX11_decree_39 rfl (lv_at hl 0 rfl) ?_
          refine lv_iconst (v := 4) hx hb dX11_decree_40 (by decide) ?_
          refine gc_wl B (gr_V C B (k := 0) (As := [.int 4]) (rest := []) (c_X11_no l D G τ α S _ 4 (vp_d (by decide))) (by decide) mE_0 rfl wl_865 wl_867 wl_14 wl_40 wl_868 (na := 1) (by decide +kernel) rfl ⟨Nat.le_of_ble_eq_true rfl, Nat.le_of_ble_eq_true rfl⟩ ⟨Nat.le_of_ble_eq_true rfl, Nat.le_of_ble_eq_true rfl⟩ hl.1 rfl (Nat.le_of_ble_eq_true rfl) dX11_decree_41) (fun r u h H locs B => ?_)
          obtain ⟨rfl, rfl⟩ := h
          have B : gB D G τ (gA α Lm sz) s H locs α (mE G α (sNo S 4).2) Lm := B
          exact ge_wl C B hr hlk (by have e9 : sp_decree S kind fr v = ((sNo S 4).1, (sNo S 4).2) := (by unfold sp_decree; (first | rw [if_pos c1] | rw [if_neg c1] | rw [if_neg (not_not_intro c1)] | skip); (first | rw [if_pos c2] | rw [if_neg c2] | rw [if_neg (not_not_intro c2)] | skip); (first | rw [if_pos c3] | rw [if_neg c3] | rw [if_neg (not_not_intro c3)] | skip); (first | rw [if_pos c4] | rw [if_neg c4] | rw [if_neg (not_not_intro c4)] | skip); (first | done | rfl)); rw [e9]; exact ⟨rfl, rfl⟩) dX11_decree_44
      · refine lv_if_ne (tgt := 30) hx hb dX11_decree_21 (by decide) (fun hc => absurd (by decide) hc) (fun _ => ?_)
        refine lv_aload_n hx hb dX11_decree_24 rfl (lv_at hl 0 rfl) ?_
        refine lv_iconst (v := 1) hx hb dX11_decree_25 (by decide) ?_
        refine gc_wl B (gr_V C B (k := 0) (As := [.int 1]) (rest := []) (c_X11_no l D G τ α S _ 1 (vp_d (by decide))) (by decide) mE_0 rfl wl_865 wl_867 wl_14 wl_40 wl_868 (na := 1) (by decide +kernel) rfl ⟨Nat.le_of_ble_eq_true rfl, Nat.le_of_ble_eq_true rfl⟩ ⟨Nat.le_of_ble_eq_true rfl, Nat.le_of_ble_eq_true rfl⟩ hl.1 rfl (Nat.le_of_ble_eq_true rfl) dX11_decree_26) (fun r u h H locs B => ?_)
        obtain ⟨rfl, rfl⟩ := h
        have B : gB D G τ (gA α Lm sz) s H locs α (mE G α (sNo S 1).2) Lm := B
        exact ge_wl C B hr hlk (by have e9 : sp_decree S kind fr v = ((sNo S 1).1, (sNo S 1).2) := (by unfold sp_decree; (first | rw [if_pos c1] | rw [if_neg c1] | rw [if_neg (not_not_intro c1)] | skip); (first | rw [if_pos c2] | rw [if_neg c2] | rw [if_neg (not_not_intro c2)] | skip); (first | rw [if_pos c3] | rw [if_neg c3] | rw [if_neg (not_not_intro c3)] | skip); (first | done | rfl)); rw [e9]; exact ⟨rfl, rfl⟩) dX11_decree_29
    · refine lv_if_eq (tgt := 24) hx hb dX11_decree_13 (by decide) (fun _ => ?_) (fun hc => absurd (by decide) hc)
      refine lv_aload_n hx hb dX11_decree_24 rfl (lv_at hl 0 rfl) ?_
      refine lv_iconst (v := 1) hx hb dX11_decree_25 (by decide) ?_
      refine gc_wl B (gr_V C B (k := 0) (As := [.int 1]) (rest := []) (c_X11_no l D G τ α S _ 1 (vp_d (by decide))) (by decide) mE_0 rfl wl_865 wl_867 wl_14 wl_40 wl_868 (na := 1) (by decide +kernel) rfl ⟨Nat.le_of_ble_eq_true rfl, Nat.le_of_ble_eq_true rfl⟩ ⟨Nat.le_of_ble_eq_true rfl, Nat.le_of_ble_eq_true rfl⟩ hl.1 rfl (Nat.le_of_ble_eq_true rfl) dX11_decree_26) (fun r u h H locs B => ?_)
      obtain ⟨rfl, rfl⟩ := h
      have B : gB D G τ (gA α Lm sz) s H locs α (mE G α (sNo S 1).2) Lm := B
      exact ge_wl C B hr hlk (by have e9 : sp_decree S kind fr v = ((sNo S 1).1, (sNo S 1).2) := (by unfold sp_decree; (first | rw [if_pos c1] | rw [if_neg c1] | rw [if_neg (not_not_intro c1)] | skip); (first | rw [if_pos c2] | rw [if_neg c2] | rw [if_neg (not_not_intro c2)] | skip); (first | done | rfl)); rw [e9]; exact ⟨rfl, rfl⟩) dX11_decree_29
  · refine lv_if_eq (tgt := 24) hx hb dX11_decree_6 (by decide) (fun _ => ?_) (fun hc => absurd (by decide) hc)
    refine lv_aload_n hx hb dX11_decree_24 rfl (lv_at hl 0 rfl) ?_
    refine lv_iconst (v := 1) hx hb dX11_decree_25 (by decide) ?_
    refine gc_wl B (gr_V C B (k := 0) (As := [.int 1]) (rest := []) (c_X11_no l D G τ α S _ 1 (vp_d (by decide))) (by decide) mE_0 rfl wl_865 wl_867 wl_14 wl_40 wl_868 (na := 1) (by decide +kernel) rfl ⟨Nat.le_of_ble_eq_true rfl, Nat.le_of_ble_eq_true rfl⟩ ⟨Nat.le_of_ble_eq_true rfl, Nat.le_of_ble_eq_true rfl⟩ hl.1 rfl (Nat.le_of_ble_eq_true rfl) dX11_decree_26) (fun r u h H locs B => ?_)
    obtain ⟨rfl, rfl⟩ := h
    have B : gB D G τ (gA α Lm sz) s H locs α (mE G α (sNo S 1).2) Lm := B
    exact ge_wl C B hr hlk (by have e9 : sp_decree S kind fr v = ((sNo S 1).1, (sNo S 1).2) := (by unfold sp_decree; (first | rw [if_pos c1] | rw [if_neg c1] | rw [if_neg (not_not_intro c1)] | skip); (first | done | rfl)); rw [e9]; exact ⟨rfl, rfl⟩) dX11_decree_29
set_option maxHeartbeats 4000000 in
set_option maxRecDepth 100000 in
theorem c_X11_force (l : Launch) (D : va_G) (G : Nat → ClassId) (τ α : Nat → Nat) (S : St) (sz : Nat) (kind month known : Int32) (hN : okN S) (hD : okD S) : Wl l D G τ yX11_force cX11_force 4 (some .long) 2 0 0 [.ref (α 0), .int kind, .int month, .int known] α (mE G α S) Lm sz (fun r u => r = (sp_force S kind month known).1 ∧ u = (α, mE G α (sp_force S kind month known).2, Lm)) := by
  refine gM _ (by decide) rfl (Nat.le_of_ble_eq_true rfl) ?_
  intro p e s m below meth c ls C hr hlk hnm hsz B hl
  have hx := C.1
  have hb := C.2.1
  have hl : lv_has ls 4 [(0, .ref (α 0)), (1, .int kind), (2, .int month), (3, .int known)] := hl
  refine lv_iload_n hx hb dX11_force_0 rfl (lv_at hl 1 rfl) ?_
  refine lv_iconst (v := 0) hx hb dX11_force_1 (by decide) ?_
  refine lv_iconst (v := 5) hx hb dX11_force_2 (by decide) ?_
  refine gc_b (gr_S C B (As := [.int kind, .int 0, .int 5]) (rest := []) (c_X11_in l D G τ α _ _ _ kind 0 5) wl_862 wl_863 wl_40 wl_864 (na := 3) (by decide +kernel) rfl ⟨Nat.le_of_ble_eq_true rfl, Nat.le_of_ble_eq_true rfl⟩ ⟨Nat.le_of_ble_eq_true rfl, Nat.le_of_ble_eq_true rfl⟩ hl.1 rfl (Nat.le_of_ble_eq_true rfl) dX11_force_3) (fun c1 => ?_) (fun c1 => ?_)
  · refine lv_if_eq (tgt := 23) hx hb dX11_force_6 (by decide) (fun hc => absurd hc (by decide)) (fun _ => ?_)
    refine lv_iload_n hx hb dX11_force_9 rfl (lv_at hl 2 rfl) ?_
    refine gc_b (gr_S C B (As := [.int month]) (rest := []) (c_X11_isMonth l D G τ α _ _ _ month) wl_911 wl_912 wl_40 wl_913 (na := 1) (by decide +kernel) rfl ⟨Nat.le_of_ble_eq_true rfl, Nat.le_of_ble_eq_true rfl⟩ ⟨Nat.le_of_ble_eq_true rfl, Nat.le_of_ble_eq_true rfl⟩ hl.1 rfl (Nat.le_of_ble_eq_true rfl) dX11_force_10) (fun c2 => ?_) (fun c2 => ?_)
    · refine lv_if_eq (tgt := 23) hx hb dX11_force_13 (by decide) (fun hc => absurd hc (by decide)) (fun _ => ?_)
      refine lv_iload_n hx hb dX11_force_16 rfl (lv_at hl 3 rfl) ?_
      refine gc_b (gr_S C B (As := [.int known]) (rest := []) (c_X11_isMonth l D G τ α _ _ _ known) wl_911 wl_912 wl_40 wl_913 (na := 1) (by decide +kernel) rfl ⟨Nat.le_of_ble_eq_true rfl, Nat.le_of_ble_eq_true rfl⟩ ⟨Nat.le_of_ble_eq_true rfl, Nat.le_of_ble_eq_true rfl⟩ hl.1 rfl (Nat.le_of_ble_eq_true rfl) dX11_force_17) (fun c3 => ?_) (fun c3 => ?_)
      · refine lv_if_ne (tgt := 29) hx hb dX11_force_20 (by decide) (fun _ => ?_) (fun hc => absurd hc (by decide))
        refine lv_aload_n hx hb dX11_force_29 rfl (lv_at hl 0 rfl) ?_
        refine lv_iload_n hx hb dX11_force_30 rfl (lv_at hl 1 rfl) ?_
        refine lv_iload_n hx hb dX11_force_31 rfl (lv_at hl 2 rfl) ?_
        refine lv_iload_n hx hb dX11_force_32 rfl (lv_at hl 3 rfl) ?_
        refine gc_i (gr_V C B (k := 0) (As := [.int kind, .int month, .int known]) (rest := []) (c_X11_inForce l D G τ α S _ kind month known hN hD) (by decide) mE_0 rfl wl_890 wl_892 wl_20 wl_40 wl_893 (na := 3) (by decide +kernel) rfl ⟨Nat.le_of_ble_eq_true rfl, Nat.le_of_ble_eq_true rfl⟩ ⟨Nat.le_of_ble_eq_true rfl, Nat.le_of_ble_eq_true rfl⟩ hl.1 rfl (Nat.le_of_ble_eq_true rfl) dX11_force_33) (fun r h => ?_)
        subst h
        refine lv_i2l (v := (sInf S kind month known).toInt64) hx hb dX11_force_36 rfl ?_
        exact ge_wl C B hr hlk (by have e9 : sp_force S kind month known = ((sInf S kind month known).toInt64, S) := (by unfold sp_force; (first | rw [if_pos c1] | rw [if_neg c1] | rw [if_neg (not_not_intro c1)] | skip); (first | rw [if_pos c2] | rw [if_neg c2] | rw [if_neg (not_not_intro c2)] | skip); (first | rw [if_pos c3] | rw [if_neg c3] | rw [if_neg (not_not_intro c3)] | skip); (first | done | rfl)); rw [e9]; exact ⟨rfl, rfl⟩) dX11_force_37
      · refine lv_if_ne (tgt := 29) hx hb dX11_force_20 (by decide) (fun hc => absurd (by decide) hc) (fun _ => ?_)
        refine lv_aload_n hx hb dX11_force_23 rfl (lv_at hl 0 rfl) ?_
        refine lv_iconst (v := 1) hx hb dX11_force_24 (by decide) ?_
        refine gc_wl B (gr_V C B (k := 0) (As := [.int 1]) (rest := []) (c_X11_no l D G τ α S _ 1 (vp_d (by decide))) (by decide) mE_0 rfl wl_865 wl_867 wl_14 wl_40 wl_868 (na := 1) (by decide +kernel) rfl ⟨Nat.le_of_ble_eq_true rfl, Nat.le_of_ble_eq_true rfl⟩ ⟨Nat.le_of_ble_eq_true rfl, Nat.le_of_ble_eq_true rfl⟩ hl.1 rfl (Nat.le_of_ble_eq_true rfl) dX11_force_25) (fun r u h H locs B => ?_)
        obtain ⟨rfl, rfl⟩ := h
        have B : gB D G τ (gA α Lm sz) s H locs α (mE G α (sNo S 1).2) Lm := B
        exact ge_wl C B hr hlk (by have e9 : sp_force S kind month known = ((sNo S 1).1, (sNo S 1).2) := (by unfold sp_force; (first | rw [if_pos c1] | rw [if_neg c1] | rw [if_neg (not_not_intro c1)] | skip); (first | rw [if_pos c2] | rw [if_neg c2] | rw [if_neg (not_not_intro c2)] | skip); (first | rw [if_pos c3] | rw [if_neg c3] | rw [if_neg (not_not_intro c3)] | skip); (first | done | rfl)); rw [e9]; exact ⟨rfl, rfl⟩) dX11_force_28
    · refine lv_if_eq (tgt := 23) hx hb dX11_force_13 (by decide) (fun _ => ?_) (fun hc => absurd (by decide) hc)
      refine lv_aload_n hx hb dX11_force_23 rfl (lv_at hl 0 rfl) ?_
      refine lv_iconst (v := 1) hx hb dX11_force_24 (by decide) ?_
      refine gc_wl B (gr_V C B (k := 0) (As := [.int 1]) (rest := []) (c_X11_no l D G τ α S _ 1 (vp_d (by decide))) (by decide) mE_0 rfl wl_865 wl_867 wl_14 wl_40 wl_868 (na := 1) (by decide +kernel) rfl ⟨Nat.le_of_ble_eq_true rfl, Nat.le_of_ble_eq_true rfl⟩ ⟨Nat.le_of_ble_eq_true rfl, Nat.le_of_ble_eq_true rfl⟩ hl.1 rfl (Nat.le_of_ble_eq_true rfl) dX11_force_25) (fun r u h H locs B => ?_)
      obtain ⟨rfl, rfl⟩ := h
      have B : gB D G τ (gA α Lm sz) s H locs α (mE G α (sNo S 1).2) Lm := B
      exact ge_wl C B hr hlk (by have e9 : sp_force S kind month known = ((sNo S 1).1, (sNo S 1).2) := (by unfold sp_force; (first | rw [if_pos c1] | rw [if_neg c1] | rw [if_neg (not_not_intro c1)] | skip); (first | rw [if_pos c2] | rw [if_neg c2] | rw [if_neg (not_not_intro c2)] | skip); (first | done | rfl)); rw [e9]; exact ⟨rfl, rfl⟩) dX11_force_28
  · refine lv_if_eq (tgt := 23) hx hb dX11_force_6 (by decide) (fun _ => ?_) (fun hc => absurd (by decide) hc)
    refine lv_aload_n hx hb dX11_force_23 rfl (lv_at hl 0 rfl) ?_
    refine lv_iconst (v := 1) hx hb dX11_force_24 (by decide) ?_
    refine gc_wl B (gr_V C B (k := 0) (As := [.int 1]) (rest := []) (c_X11_no l D G τ α S _ 1 (vp_d (by decide))) (by decide) mE_0 rfl wl_865 wl_867 wl_14 wl_40 wl_868 (na := 1) (by decide +kernel) rfl ⟨Nat.le_of_ble_eq_true rfl, Nat.le_of_ble_eq_true rfl⟩ ⟨Nat.le_of_ble_eq_true rfl, Nat.le_of_ble_eq_true rfl⟩ hl.1 rfl (Nat.le_of_ble_eq_true rfl) dX11_force_25) (fun r u h H locs B => ?_)
    obtain ⟨rfl, rfl⟩ := h
    have B : gB D G τ (gA α Lm sz) s H locs α (mE G α (sNo S 1).2) Lm := B
    exact ge_wl C B hr hlk (by have e9 : sp_force S kind month known = ((sNo S 1).1, (sNo S 1).2) := (by unfold sp_force; (first | rw [if_pos c1] | rw [if_neg c1] | rw [if_neg (not_not_intro c1)] | skip); (first | done | rfl)); rw [e9]; exact ⟨rfl, rfl⟩) dX11_force_28
set_option maxHeartbeats 4000000 in
set_option maxRecDepth 100000 in
theorem c_X11_rate (l : Launch) (D : va_G) (G : Nat → ClassId) (τ α : Nat → Nat) (S : St) (sz : Nat) (y v : Int32) (hN : okN S) : Wl l D G τ yX11_rate cX11_rate 4 (some .long) 2 0 0 [.ref (α 0), .int y, .int v] α (mE G α S) Lm sz (fun r u => r = (sp_rate S y v).1 ∧ u = (α, mE G α (sp_rate S y v).2, Lm)) := by
  refine gM _ (by decide) rfl (Nat.le_of_ble_eq_true rfl) ?_
  intro p e s m below meth c ls C hr hlk hnm hsz B hl
  have hx := C.1
  have hb := C.2.1
  have hl : lv_has ls 4 [(0, .ref (α 0)), (1, .int y), (2, .int v)] := hl
  refine lv_iload_n hx hb dX11_rate_0 rfl (lv_at hl 1 rfl) ?_
  refine lv_iconst (v := 1) hx hb dX11_rate_1 (by decide) ?_
  refine lv_bipush (v := 20) hx hb dX11_rate_2 (by decide) ?_
  refine gc_b (gr_S C B (As := [.int y, .int 1, .int 20]) (rest := []) (c_X11_in l D G τ α _ _ _ y 1 20) wl_862 wl_863 wl_40 wl_864 (na := 3) (by decide +kernel) rfl ⟨Nat.le_of_ble_eq_true rfl, Nat.le_of_ble_eq_true rfl⟩ ⟨Nat.le_of_ble_eq_true rfl, Nat.le_of_ble_eq_true rfl⟩ hl.1 rfl (Nat.le_of_ble_eq_true rfl) dX11_rate_4) (fun c1 => ?_) (fun c1 => ?_)
  · refine lv_if_eq (tgt := 22) hx hb dX11_rate_7 (by decide) (fun hc => absurd hc (by decide)) (fun _ => ?_)
    refine lv_iload_n hx hb dX11_rate_10 rfl (lv_at hl 2 rfl) ?_
    refine lv_bipush (v := 100) hx hb dX11_rate_11 (by decide) ?_
    refine lv_sipush (v := 1000) hx hb dX11_rate_13 (by decide) ?_
    refine gc_b (gr_S C B (As := [.int v, .int 100, .int 1000]) (rest := []) (c_X11_in l D G τ α _ _ _ v 100 1000) wl_862 wl_863 wl_40 wl_864 (na := 3) (by decide +kernel) rfl ⟨Nat.le_of_ble_eq_true rfl, Nat.le_of_ble_eq_true rfl⟩ ⟨Nat.le_of_ble_eq_true rfl, Nat.le_of_ble_eq_true rfl⟩ hl.1 rfl (Nat.le_of_ble_eq_true rfl) dX11_rate_16) (fun c2 => ?_) (fun c2 => ?_)
    · refine lv_if_ne (tgt := 28) hx hb dX11_rate_19 (by decide) (fun _ => ?_) (fun hc => absurd hc (by decide))
      refine lv_aload_n hx hb dX11_rate_28 rfl (lv_at hl 0 rfl) ?_
      refine g_get C B (0) (by decide) mE_0 rfl gf_11 7 (by decide) wl_734 (v := .ref (α 7)) mF_7 dX11_rate_29 ?_
      refine lv_iload_n hx hb dX11_rate_32 rfl (lv_at hl 1 rfl) ?_
      refine g_iald C B (7) (by decide) (f := S.2.2.1 7) mE_7 (vp_rng c1 (by decide) (by decide)) (j := y.toNatClampNeg) rfl dX11_rate_33 ?_
      refine lv_istore_n (lv' := [(3, .int (S.2.2.1 7 y.toNatClampNeg)), (0, .ref (α 0)), (1, .int y), (2, .int v)]) hx hb dX11_rate_34 rfl hl (by decide) rfl (fun ls hl => ?_)
      refine lv_aload_n hx hb dX11_rate_35 rfl (lv_at hl 1 rfl) ?_
      refine g_get C B (0) (by decide) mE_0 rfl gf_11 7 (by decide) wl_734 (v := .ref (α 7)) mF_7 dX11_rate_36 ?_
      refine lv_iload_n hx hb dX11_rate_39 rfl (lv_at hl 2 rfl) ?_
      refine lv_iload_n hx hb dX11_rate_40 rfl (lv_at hl 3 rfl) ?_
      refine g_iast C B (7) (by decide) (f := S.2.2.1 7) mE_7 (vp_rng c1 (by decide) (by decide)) (j := y.toNatClampNeg) rfl dX11_rate_41 mU_7 (fun H locs B => ?_)
      refine lv_iload_n hx hb dX11_rate_42 rfl (lv_at hl 0 rfl) ?_
      refine lv_i2l (v := (S.2.2.1 7 y.toNatClampNeg).toInt64) hx hb dX11_rate_43 rfl ?_
      exact ge_wl C B hr hlk (by have e9 : sp_rate S y v = ((S.2.2.1 7 y.toNatClampNeg).toInt64, (uA S 7 (upd (S.2.2.1 7) y.toNatClampNeg v))) := (by unfold sp_rate; (first | rw [if_pos c1] | rw [if_neg c1] | rw [if_neg (not_not_intro c1)] | skip); (first | rw [if_pos c2] | rw [if_neg c2] | rw [if_neg (not_not_intro c2)] | skip); (first | done | rfl)); rw [e9]; exact ⟨rfl, rfl⟩) dX11_rate_44
    · refine lv_if_ne (tgt := 28) hx hb dX11_rate_19 (by decide) (fun hc => absurd (by decide) hc) (fun _ => ?_)
      refine lv_aload_n hx hb dX11_rate_22 rfl (lv_at hl 0 rfl) ?_
      refine lv_iconst (v := 1) hx hb dX11_rate_23 (by decide) ?_
      refine gc_wl B (gr_V C B (k := 0) (As := [.int 1]) (rest := []) (c_X11_no l D G τ α S _ 1 (vp_d (by decide))) (by decide) mE_0 rfl wl_865 wl_867 wl_14 wl_40 wl_868 (na := 1) (by decide +kernel) rfl ⟨Nat.le_of_ble_eq_true rfl, Nat.le_of_ble_eq_true rfl⟩ ⟨Nat.le_of_ble_eq_true rfl, Nat.le_of_ble_eq_true rfl⟩ hl.1 rfl (Nat.le_of_ble_eq_true rfl) dX11_rate_24) (fun r u h H locs B => ?_)
      obtain ⟨rfl, rfl⟩ := h
      have B : gB D G τ (gA α Lm sz) s H locs α (mE G α (sNo S 1).2) Lm := B
      exact ge_wl C B hr hlk (by have e9 : sp_rate S y v = ((sNo S 1).1, (sNo S 1).2) := (by unfold sp_rate; (first | rw [if_pos c1] | rw [if_neg c1] | rw [if_neg (not_not_intro c1)] | skip); (first | rw [if_pos c2] | rw [if_neg c2] | rw [if_neg (not_not_intro c2)] | skip); (first | done | rfl)); rw [e9]; exact ⟨rfl, rfl⟩) dX11_rate_27
  · refine lv_if_eq (tgt := 22) hx hb dX11_rate_7 (by decide) (fun _ => ?_) (fun hc => absurd (by decide) hc)
    refine lv_aload_n hx hb dX11_rate_22 rfl (lv_at hl 0 rfl) ?_
    refine lv_iconst (v := 1) hx hb dX11_rate_23 (by decide) ?_
    refine gc_wl B (gr_V C B (k := 0) (As := [.int 1]) (rest := []) (c_X11_no l D G τ α S _ 1 (vp_d (by decide))) (by decide) mE_0 rfl wl_865 wl_867 wl_14 wl_40 wl_868 (na := 1) (by decide +kernel) rfl ⟨Nat.le_of_ble_eq_true rfl, Nat.le_of_ble_eq_true rfl⟩ ⟨Nat.le_of_ble_eq_true rfl, Nat.le_of_ble_eq_true rfl⟩ hl.1 rfl (Nat.le_of_ble_eq_true rfl) dX11_rate_24) (fun r u h H locs B => ?_)
    obtain ⟨rfl, rfl⟩ := h
    have B : gB D G τ (gA α Lm sz) s H locs α (mE G α (sNo S 1).2) Lm := B
    exact ge_wl C B hr hlk (by have e9 : sp_rate S y v = ((sNo S 1).1, (sNo S 1).2) := (by unfold sp_rate; (first | rw [if_pos c1] | rw [if_neg c1] | rw [if_neg (not_not_intro c1)] | skip); (first | done | rfl)); rw [e9]; exact ⟨rfl, rfl⟩) dX11_rate_27
set_option maxHeartbeats 4000000 in
set_option maxRecDepth 100000 in
theorem c_X11_child (l : Launch) (D : va_G) (G : Nat → ClassId) (τ α : Nat → Nat) (S : St) (sz : Nat) (mo : Int32) (hN : okN S) : Wl l D G τ yX11_child cX11_child 2 (some .long) 2 0 0 [.ref (α 0), .int mo] α (mE G α S) Lm sz (fun r u => r = (sp_child S mo).1 ∧ u = (α, mE G α (sp_child S mo).2, Lm)) := by
  refine gM _ (by decide) rfl (Nat.le_of_ble_eq_true rfl) ?_
  intro p e s m below meth c ls C hr hlk hnm hsz B hl
  have hx := C.1
  have hb := C.2.1
  have hl : lv_has ls 2 [(0, .ref (α 0)), (1, .int mo)] := hl
  refine lv_iload_n hx hb dX11_child_0 rfl (lv_at hl 1 rfl) ?_
  refine lv_iconst (v := 0) hx hb dX11_child_1 (by decide) ?_
  refine lv_aload_n hx hb dX11_child_2 rfl (lv_at hl 0 rfl) ?_
  refine g_get C B (0) (by decide) mE_0 rfl gf_11 0 (by decide) wl_727 (v := .int (S.1 0)) mF_0 dX11_child_3 ?_
  refine gc_b (gr_S C B (As := [.int mo, .int 0, .int (S.1 0)]) (rest := []) (c_X11_in l D G τ α _ _ _ mo 0 (S.1 0)) wl_862 wl_863 wl_40 wl_864 (na := 3) (by decide +kernel) rfl ⟨Nat.le_of_ble_eq_true rfl, Nat.le_of_ble_eq_true rfl⟩ ⟨Nat.le_of_ble_eq_true rfl, Nat.le_of_ble_eq_true rfl⟩ hl.1 rfl (Nat.le_of_ble_eq_true rfl) dX11_child_6) (fun c1 => ?_) (fun c1 => ?_)
  · refine lv_if_ne (tgt := 18) hx hb dX11_child_9 (by decide) (fun _ => ?_) (fun hc => absurd hc (by decide))
    refine lv_aload_n hx hb dX11_child_18 rfl (lv_at hl 0 rfl) ?_
    refine g_get C B (0) (by decide) mE_0 rfl gf_11 8 (by decide) wl_735 (v := .int (S.1 8)) mF_8 dX11_child_19 ?_
    refine lv_bipush (v := 30) hx hb dX11_child_22 (by decide) ?_
    refine lv_icmp_ne (tgt := 33) hx hb dX11_child_24 (by decide) (fun c2 => ?_) (fun c2 => ?_)
    · refine lv_aload_n hx hb dX11_child_33 rfl (lv_at hl 0 rfl) ?_
      refine g_get C B (0) (by decide) mE_0 rfl gf_11 9 (by decide) wl_736 (v := .ref (α 9)) mF_9 dX11_child_34 ?_
      refine lv_aload_n hx hb dX11_child_37 rfl (lv_at hl 0 rfl) ?_
      refine g_get C B (0) (by decide) mE_0 rfl gf_11 8 (by decide) wl_735 (v := .int (S.1 8)) mF_8 dX11_child_38 ?_
      refine lv_iload_n hx hb dX11_child_41 rfl (lv_at hl 1 rfl) ?_
      refine g_iast C B (9) (by decide) (f := S.2.2.1 9) mE_9 (vp_ne hN.2.2.1 c2 rfl) (j := (S.1 8).toNatClampNeg) rfl dX11_child_42 mU_9 (fun H locs B => ?_)
      refine lv_aload_n hx hb dX11_child_43 rfl (lv_at hl 0 rfl) ?_
      refine lv_dup hx hb dX11_child_44 rfl ?_
      refine g_get C B (0) (by decide) mE_0 rfl gf_11 8 (by decide) wl_735 (v := .int (S.1 8)) mF_8 dX11_child_45 ?_
      refine lv_iconst (v := 1) hx hb dX11_child_48 (by decide) ?_
      refine lv_iadd hx hb dX11_child_49 ?_
      refine g_put C B (0) (by decide) mE_0 rfl gf_11 tyX11 tyX11_ok nmX11 8 (by decide) wl_735 rfl (ty := .int) (v := .int (S.1 8 + 1)) (by decide +kernel) rfl rfl (Nat.le_of_ble_eq_true rfl) dX11_child_50 mO_8 (fun H locs B => ?_)
      refine lv_aload_n hx hb dX11_child_53 rfl (lv_at hl 0 rfl) ?_
      refine g_get C B (0) (by decide) mE_0 rfl gf_11 8 (by decide) wl_735 (v := .int (S.1 8 + 1)) mF_8 dX11_child_54 ?_
      refine lv_iconst (v := 1) hx hb dX11_child_57 (by decide) ?_
      refine lv_isub hx hb dX11_child_58 ?_
      refine lv_i2l (v := ((S.1 8 + 1) - 1).toInt64) hx hb dX11_child_59 rfl ?_
      exact ge_wl C B hr hlk (by have e9 : sp_child S mo = (((S.1 8 + 1) - 1).toInt64, (uI (uA S 9 (upd (S.2.2.1 9) ((S.1 8).toNatClampNeg) mo)) 8 (S.1 8 + 1))) := (by unfold sp_child; (first | rw [if_pos c1] | rw [if_neg c1] | rw [if_neg (not_not_intro c1)] | skip); (first | rw [if_pos c2] | rw [if_neg c2] | rw [if_neg (not_not_intro c2)] | skip); (first | done | rfl)); rw [e9]; exact ⟨rfl, rfl⟩) dX11_child_60
    · refine lv_aload_n hx hb dX11_child_27 rfl (lv_at hl 0 rfl) ?_
      refine lv_iconst (v := 4) hx hb dX11_child_28 (by decide) ?_
      refine gc_wl B (gr_V C B (k := 0) (As := [.int 4]) (rest := []) (c_X11_no l D G τ α S _ 4 (vp_d (by decide))) (by decide) mE_0 rfl wl_865 wl_867 wl_14 wl_40 wl_868 (na := 1) (by decide +kernel) rfl ⟨Nat.le_of_ble_eq_true rfl, Nat.le_of_ble_eq_true rfl⟩ ⟨Nat.le_of_ble_eq_true rfl, Nat.le_of_ble_eq_true rfl⟩ hl.1 rfl (Nat.le_of_ble_eq_true rfl) dX11_child_29) (fun r u h H locs B => ?_)
      obtain ⟨rfl, rfl⟩ := h
      have B : gB D G τ (gA α Lm sz) s H locs α (mE G α (sNo S 4).2) Lm := B
      exact ge_wl C B hr hlk (by have e9 : sp_child S mo = ((sNo S 4).1, (sNo S 4).2) := (by unfold sp_child; (first | rw [if_pos c1] | rw [if_neg c1] | rw [if_neg (not_not_intro c1)] | skip); (first | rw [if_pos c2] | rw [if_neg c2] | rw [if_neg (not_not_intro c2)] | skip); (first | done | rfl)); rw [e9]; exact ⟨rfl, rfl⟩) dX11_child_32
  · refine lv_if_ne (tgt := 18) hx hb dX11_child_9 (by decide) (fun hc => absurd (by decide) hc) (fun _ => ?_)
    refine lv_aload_n hx hb dX11_child_12 rfl (lv_at hl 0 rfl) ?_
    refine lv_iconst (v := 1) hx hb dX11_child_13 (by decide) ?_
    refine gc_wl B (gr_V C B (k := 0) (As := [.int 1]) (rest := []) (c_X11_no l D G τ α S _ 1 (vp_d (by decide))) (by decide) mE_0 rfl wl_865 wl_867 wl_14 wl_40 wl_868 (na := 1) (by decide +kernel) rfl ⟨Nat.le_of_ble_eq_true rfl, Nat.le_of_ble_eq_true rfl⟩ ⟨Nat.le_of_ble_eq_true rfl, Nat.le_of_ble_eq_true rfl⟩ hl.1 rfl (Nat.le_of_ble_eq_true rfl) dX11_child_14) (fun r u h H locs B => ?_)
    obtain ⟨rfl, rfl⟩ := h
    have B : gB D G τ (gA α Lm sz) s H locs α (mE G α (sNo S 1).2) Lm := B
    exact ge_wl C B hr hlk (by have e9 : sp_child S mo = ((sNo S 1).1, (sNo S 1).2) := (by unfold sp_child; (first | rw [if_pos c1] | rw [if_neg c1] | rw [if_neg (not_not_intro c1)] | skip); (first | done | rfl)); rw [e9]; exact ⟨rfl, rfl⟩) dX11_child_17
set_option maxHeartbeats 4000000 in
set_option maxRecDepth 100000 in
theorem c_X11_fate (l : Launch) (D : va_G) (G : Nat → ClassId) (τ α : Nat → Nat) (S : St) (sz : Nat) (ch f mo : Int32) (hN : okN S) : Wl l D G τ yX11_fate cX11_fate 4 (some .long) 2 0 0 [.ref (α 0), .int ch, .int f, .int mo] α (mE G α S) Lm sz (fun r u => r = (sp_fate S ch f mo).1 ∧ u = (α, mE G α (sp_fate S ch f mo).2, Lm)) := by
  refine gM _ (by decide) rfl (Nat.le_of_ble_eq_true rfl) ?_
  intro p e s m below meth c ls C hr hlk hnm hsz B hl
  have hx := C.1
  have hb := C.2.1
  have hl : lv_has ls 4 [(0, .ref (α 0)), (1, .int ch), (2, .int f), (3, .int mo)] := hl
  refine lv_aload_n hx hb dX11_fate_0 rfl (lv_at hl 0 rfl) ?_
  refine lv_iload_n hx hb dX11_fate_1 rfl (lv_at hl 1 rfl) ?_
  refine gc_b (gr_V C B (k := 0) (As := [.int ch]) (rest := []) (c_X11_isChild l D G τ α S _ ch hN) (by decide) mE_0 rfl wl_933 wl_935 wl_24 wl_40 wl_936 (na := 1) (by decide +kernel) rfl ⟨Nat.le_of_ble_eq_true rfl, Nat.le_of_ble_eq_true rfl⟩ ⟨Nat.le_of_ble_eq_true rfl, Nat.le_of_ble_eq_true rfl⟩ hl.1 rfl (Nat.le_of_ble_eq_true rfl) dX11_fate_2) (fun c1 => ?_) (fun c1 => ?_)
  · refine lv_if_eq (tgt := 38) hx hb dX11_fate_5 (by decide) (fun hc => absurd hc (by decide)) (fun _ => ?_)
    refine lv_iload_n hx hb dX11_fate_8 rfl (lv_at hl 2 rfl) ?_
    refine lv_iconst (v := 0) hx hb dX11_fate_9 (by decide) ?_
    refine lv_iconst (v := 3) hx hb dX11_fate_10 (by decide) ?_
    refine gc_b (gr_S C B (As := [.int f, .int 0, .int 3]) (rest := []) (c_X11_in l D G τ α _ _ _ f 0 3) wl_862 wl_863 wl_40 wl_864 (na := 3) (by decide +kernel) rfl ⟨Nat.le_of_ble_eq_true rfl, Nat.le_of_ble_eq_true rfl⟩ ⟨Nat.le_of_ble_eq_true rfl, Nat.le_of_ble_eq_true rfl⟩ hl.1 rfl (Nat.le_of_ble_eq_true rfl) dX11_fate_11) (fun c2 => ?_) (fun c2 => ?_)
    · refine lv_if_eq (tgt := 38) hx hb dX11_fate_14 (by decide) (fun hc => absurd hc (by decide)) (fun _ => ?_)
      refine lv_iload_n hx hb dX11_fate_17 rfl (lv_at hl 2 rfl) ?_
      refine lv_iconst (v := 3) hx hb dX11_fate_18 (by decide) ?_
      refine lv_icmp_ge (tgt := 44) hx hb dX11_fate_19 (by decide) (fun c3 => ?_) (fun c3 => ?_)
      · refine lv_aload_n hx hb dX11_fate_44 rfl (lv_at hl 0 rfl) ?_
        refine g_get C B (0) (by decide) mE_0 rfl gf_11 10 (by decide) wl_737 (v := .int (S.1 10)) mF_10 dX11_fate_45 ?_
        refine lv_bipush (v := 90) hx hb dX11_fate_48 (by decide) ?_
        refine lv_icmp_ne (tgt := 59) hx hb dX11_fate_50 (by decide) (fun c4 => ?_) (fun c4 => ?_)
        · refine lv_aload_n hx hb dX11_fate_59 rfl (lv_at hl 0 rfl) ?_
          refine g_get C B (0) (by decide) mE_0 rfl gf_11 11 (by decide) wl_738 (v := .ref (α 11)) mF_11 dX11_fate_60 ?_
          refine lv_aload_n hx hb dX11_fate_63 rfl (lv_at hl 0 rfl) ?_
          refine g_get C B (0) (by decide) mE_0 rfl gf_11 10 (by decide) wl_737 (v := .int (S.1 10)) mF_10 dX11_fate_64 ?_
          refine lv_iload_n hx hb dX11_fate_67 rfl (lv_at hl 1 rfl) ?_
          refine g_iast C B (11) (by decide) (f := S.2.2.1 11) mE_11 (vp_ne hN.2.2.2.1 c4 rfl) (j := (S.1 10).toNatClampNeg) rfl dX11_fate_68 mU_11 (fun H locs B => ?_)
          refine lv_aload_n hx hb dX11_fate_69 rfl (lv_at hl 0 rfl) ?_
          refine g_get C B (0) (by decide) mE_0 rfl gf_11 12 (by decide) wl_739 (v := .ref (α 12)) mF_12 dX11_fate_70 ?_
          refine lv_aload_n hx hb dX11_fate_73 rfl (lv_at hl 0 rfl) ?_
          refine g_get C B (0) (by decide) mE_0 rfl gf_11 10 (by decide) wl_737 (v := .int (S.1 10)) mF_10 dX11_fate_74 ?_
          refine lv_iload_n hx hb dX11_fate_77 rfl (lv_at hl 2 rfl) ?_
          refine g_iast C B (12) (by decide) (f := S.2.2.1 12) mE_12 (vp_ne hN.2.2.2.1 c4 rfl) (j := (S.1 10).toNatClampNeg) rfl dX11_fate_78 mU_12 (fun H locs B => ?_)
          refine lv_aload_n hx hb dX11_fate_79 rfl (lv_at hl 0 rfl) ?_
          refine g_get C B (0) (by decide) mE_0 rfl gf_11 13 (by decide) wl_740 (v := .ref (α 13)) mF_13 dX11_fate_80 ?_
          refine lv_aload_n hx hb dX11_fate_83 rfl (lv_at hl 0 rfl) ?_
          refine g_get C B (0) (by decide) mE_0 rfl gf_11 10 (by decide) wl_737 (v := .int (S.1 10)) mF_10 dX11_fate_84 ?_
          refine lv_iload_n hx hb dX11_fate_87 rfl (lv_at hl 3 rfl) ?_
          refine g_iast C B (13) (by decide) (f := S.2.2.1 13) mE_13 (vp_ne hN.2.2.2.1 c4 rfl) (j := (S.1 10).toNatClampNeg) rfl dX11_fate_88 mU_13 (fun H locs B => ?_)
          refine lv_aload_n hx hb dX11_fate_89 rfl (lv_at hl 0 rfl) ?_
          refine g_get C B (0) (by decide) mE_0 rfl gf_11 14 (by decide) wl_741 (v := .ref (α 14)) mF_14 dX11_fate_90 ?_
          refine lv_aload_n hx hb dX11_fate_93 rfl (lv_at hl 0 rfl) ?_
          refine g_get C B (0) (by decide) mE_0 rfl gf_11 10 (by decide) wl_737 (v := .int (S.1 10)) mF_10 dX11_fate_94 ?_
          refine lv_aload_n hx hb dX11_fate_97 rfl (lv_at hl 0 rfl) ?_
          refine g_get C B (0) (by decide) mE_0 rfl gf_11 0 (by decide) wl_727 (v := .int (S.1 0)) mF_0 dX11_fate_98 ?_
          refine g_iast C B (14) (by decide) (f := S.2.2.1 14) mE_14 (vp_ne hN.2.2.2.1 c4 rfl) (j := (S.1 10).toNatClampNeg) rfl dX11_fate_101 mU_14 (fun H locs B => ?_)
          refine lv_aload_n hx hb dX11_fate_102 rfl (lv_at hl 0 rfl) ?_
          refine lv_dup hx hb dX11_fate_103 rfl ?_
          refine g_get C B (0) (by decide) mE_0 rfl gf_11 10 (by decide) wl_737 (v := .int (S.1 10)) mF_10 dX11_fate_104 ?_
          refine lv_iconst (v := 1) hx hb dX11_fate_107 (by decide) ?_
          refine lv_iadd hx hb dX11_fate_108 ?_
          refine g_put C B (0) (by decide) mE_0 rfl gf_11 tyX11 tyX11_ok nmX11 10 (by decide) wl_737 rfl (ty := .int) (v := .int (S.1 10 + 1)) (by decide +kernel) rfl rfl (Nat.le_of_ble_eq_true rfl) dX11_fate_109 mO_10 (fun H locs B => ?_)
          refine lv_aload_n hx hb dX11_fate_112 rfl (lv_at hl 0 rfl) ?_
          refine g_get C B (0) (by decide) mE_0 rfl gf_11 10 (by decide) wl_737 (v := .int (S.1 10 + 1)) mF_10 dX11_fate_113 ?_
          refine lv_i2l (v := (S.1 10 + 1).toInt64) hx hb dX11_fate_116 rfl ?_
          exact ge_wl C B hr hlk (by have e9 : sp_fate S ch f mo = ((S.1 10 + 1).toInt64, (uI (uA (uA (uA (uA S 11 (upd (S.2.2.1 11) ((S.1 10).toNatClampNeg) ch)) 12 (upd (S.2.2.1 12) ((S.1 10).toNatClampNeg) f)) 13 (upd (S.2.2.1 13) ((S.1 10).toNatClampNeg) mo)) 14 (upd (S.2.2.1 14) ((S.1 10).toNatClampNeg) (S.1 0))) 10 (S.1 10 + 1))) := (by unfold sp_fate sp_fateT; (first | rw [if_pos c1] | rw [if_neg c1] | rw [if_neg (not_not_intro c1)] | skip); (first | rw [if_pos c2] | rw [if_neg c2] | rw [if_neg (not_not_intro c2)] | skip); (rw [if_neg (by simp only [i3l, i3e, i3q, inR, isC, isD, zi_0, zi_1, zi_2, zi_3, zi_4, zi_5, zi_6, zi_7, zi_8, zi_9, zi_10, zi_12, zi_20, zi_21, zi_30, zi_60, zi_90, zi_99, zi_100, zi_180, zi_240, zi_400, zi_500, zi_1000, zi_1199, zi_10000, zi_100000, zi_1000000, i3m1] at c3 ⊢; omega)]); (first | rw [if_pos c4] | rw [if_neg c4] | rw [if_neg (not_not_intro c4)] | skip); (first | done | rfl)); rw [e9]; exact ⟨rfl, rfl⟩) dX11_fate_117
        · refine lv_aload_n hx hb dX11_fate_53 rfl (lv_at hl 0 rfl) ?_
          refine lv_iconst (v := 4) hx hb dX11_fate_54 (by decide) ?_
          refine gc_wl B (gr_V C B (k := 0) (As := [.int 4]) (rest := []) (c_X11_no l D G τ α S _ 4 (vp_d (by decide))) (by decide) mE_0 rfl wl_865 wl_867 wl_14 wl_40 wl_868 (na := 1) (by decide +kernel) rfl ⟨Nat.le_of_ble_eq_true rfl, Nat.le_of_ble_eq_true rfl⟩ ⟨Nat.le_of_ble_eq_true rfl, Nat.le_of_ble_eq_true rfl⟩ hl.1 rfl (Nat.le_of_ble_eq_true rfl) dX11_fate_55) (fun r u h H locs B => ?_)
          obtain ⟨rfl, rfl⟩ := h
          have B : gB D G τ (gA α Lm sz) s H locs α (mE G α (sNo S 4).2) Lm := B
          exact ge_wl C B hr hlk (by have e9 : sp_fate S ch f mo = ((sNo S 4).1, (sNo S 4).2) := (by unfold sp_fate sp_fateT; (first | rw [if_pos c1] | rw [if_neg c1] | rw [if_neg (not_not_intro c1)] | skip); (first | rw [if_pos c2] | rw [if_neg c2] | rw [if_neg (not_not_intro c2)] | skip); (rw [if_neg (by simp only [i3l, i3e, i3q, inR, isC, isD, zi_0, zi_1, zi_2, zi_3, zi_4, zi_5, zi_6, zi_7, zi_8, zi_9, zi_10, zi_12, zi_20, zi_21, zi_30, zi_60, zi_90, zi_99, zi_100, zi_180, zi_240, zi_400, zi_500, zi_1000, zi_1199, zi_10000, zi_100000, zi_1000000, i3m1] at c3 ⊢; omega)]); (first | rw [if_pos c4] | rw [if_neg c4] | rw [if_neg (not_not_intro c4)] | skip); (first | done | rfl)); rw [e9]; exact ⟨rfl, rfl⟩) dX11_fate_58
      · refine lv_iload_n hx hb dX11_fate_22 rfl (lv_at hl 3 rfl) ?_
        refine lv_aload_n hx hb dX11_fate_23 rfl (lv_at hl 0 rfl) ?_
        refine g_get C B (0) (by decide) mE_0 rfl gf_11 9 (by decide) wl_736 (v := .ref (α 9)) mF_9 dX11_fate_24 ?_
        refine lv_iload_n hx hb dX11_fate_27 rfl (lv_at hl 1 rfl) ?_
        refine g_iald C B (9) (by decide) (f := S.2.2.1 9) mE_9 (vp_cnt c1 hN.2.2.1.2 (by decide)) (j := ch.toNatClampNeg) rfl dX11_fate_28 ?_
        refine lv_sipush (v := 1199) hx hb dX11_fate_29 (by decide) ?_
        refine gc_b (gr_S C B (As := [.int mo, .int (S.2.2.1 9 ch.toNatClampNeg), .int 1199]) (rest := []) (c_X11_in l D G τ α _ _ _ mo (S.2.2.1 9 ch.toNatClampNeg) 1199) wl_862 wl_863 wl_40 wl_864 (na := 3) (by decide +kernel) rfl ⟨Nat.le_of_ble_eq_true rfl, Nat.le_of_ble_eq_true rfl⟩ ⟨Nat.le_of_ble_eq_true rfl, Nat.le_of_ble_eq_true rfl⟩ hl.1 rfl (Nat.le_of_ble_eq_true rfl) dX11_fate_32) (fun c5 => ?_) (fun c5 => ?_)
        · refine lv_if_ne (tgt := 44) hx hb dX11_fate_35 (by decide) (fun _ => ?_) (fun hc => absurd hc (by decide))
          refine lv_aload_n hx hb dX11_fate_44 rfl (lv_at hl 0 rfl) ?_
          refine g_get C B (0) (by decide) mE_0 rfl gf_11 10 (by decide) wl_737 (v := .int (S.1 10)) mF_10 dX11_fate_45 ?_
          refine lv_bipush (v := 90) hx hb dX11_fate_48 (by decide) ?_
          refine lv_icmp_ne (tgt := 59) hx hb dX11_fate_50 (by decide) (fun c6 => ?_) (fun c6 => ?_)
          · refine lv_aload_n hx hb dX11_fate_59 rfl (lv_at hl 0 rfl) ?_
            refine g_get C B (0) (by decide) mE_0 rfl gf_11 11 (by decide) wl_738 (v := .ref (α 11)) mF_11 dX11_fate_60 ?_
            refine lv_aload_n hx hb dX11_fate_63 rfl (lv_at hl 0 rfl) ?_
            refine g_get C B (0) (by decide) mE_0 rfl gf_11 10 (by decide) wl_737 (v := .int (S.1 10)) mF_10 dX11_fate_64 ?_
            refine lv_iload_n hx hb dX11_fate_67 rfl (lv_at hl 1 rfl) ?_
            refine g_iast C B (11) (by decide) (f := S.2.2.1 11) mE_11 (vp_ne hN.2.2.2.1 c6 rfl) (j := (S.1 10).toNatClampNeg) rfl dX11_fate_68 mU_11 (fun H locs B => ?_)
            refine lv_aload_n hx hb dX11_fate_69 rfl (lv_at hl 0 rfl) ?_
            refine g_get C B (0) (by decide) mE_0 rfl gf_11 12 (by decide) wl_739 (v := .ref (α 12)) mF_12 dX11_fate_70 ?_
            refine lv_aload_n hx hb dX11_fate_73 rfl (lv_at hl 0 rfl) ?_
            refine g_get C B (0) (by decide) mE_0 rfl gf_11 10 (by decide) wl_737 (v := .int (S.1 10)) mF_10 dX11_fate_74 ?_
            refine lv_iload_n hx hb dX11_fate_77 rfl (lv_at hl 2 rfl) ?_
            refine g_iast C B (12) (by decide) (f := S.2.2.1 12) mE_12 (vp_ne hN.2.2.2.1 c6 rfl) (j := (S.1 10).toNatClampNeg) rfl dX11_fate_78 mU_12 (fun H locs B => ?_)
            refine lv_aload_n hx hb dX11_fate_79 rfl (lv_at hl 0 rfl) ?_
            refine g_get C B (0) (by decide) mE_0 rfl gf_11 13 (by decide) wl_740 (v := .ref (α 13)) mF_13 dX11_fate_80 ?_
            refine lv_aload_n hx hb dX11_fate_83 rfl (lv_at hl 0 rfl) ?_
            refine g_get C B (0) (by decide) mE_0 rfl gf_11 10 (by decide) wl_737 (v := .int (S.1 10)) mF_10 dX11_fate_84 ?_
            refine lv_iload_n hx hb dX11_fate_87 rfl (lv_at hl 3 rfl) ?_
            refine g_iast C B (13) (by decide) (f := S.2.2.1 13) mE_13 (vp_ne hN.2.2.2.1 c6 rfl) (j := (S.1 10).toNatClampNeg) rfl dX11_fate_88 mU_13 (fun H locs B => ?_)
            refine lv_aload_n hx hb dX11_fate_89 rfl (lv_at hl 0 rfl) ?_
            refine g_get C B (0) (by decide) mE_0 rfl gf_11 14 (by decide) wl_741 (v := .ref (α 14)) mF_14 dX11_fate_90 ?_
            refine lv_aload_n hx hb dX11_fate_93 rfl (lv_at hl 0 rfl) ?_
            refine g_get C B (0) (by decide) mE_0 rfl gf_11 10 (by decide) wl_737 (v := .int (S.1 10)) mF_10 dX11_fate_94 ?_
            refine lv_aload_n hx hb dX11_fate_97 rfl (lv_at hl 0 rfl) ?_
            refine g_get C B (0) (by decide) mE_0 rfl gf_11 0 (by decide) wl_727 (v := .int (S.1 0)) mF_0 dX11_fate_98 ?_
            refine g_iast C B (14) (by decide) (f := S.2.2.1 14) mE_14 (vp_ne hN.2.2.2.1 c6 rfl) (j := (S.1 10).toNatClampNeg) rfl dX11_fate_101 mU_14 (fun H locs B => ?_)
            refine lv_aload_n hx hb dX11_fate_102 rfl (lv_at hl 0 rfl) ?_
            refine lv_dup hx hb dX11_fate_103 rfl ?_
            refine g_get C B (0) (by decide) mE_0 rfl gf_11 10 (by decide) wl_737 (v := .int (S.1 10)) mF_10 dX11_fate_104 ?_
            refine lv_iconst (v := 1) hx hb dX11_fate_107 (by decide) ?_
            refine lv_iadd hx hb dX11_fate_108 ?_
            refine g_put C B (0) (by decide) mE_0 rfl gf_11 tyX11 tyX11_ok nmX11 10 (by decide) wl_737 rfl (ty := .int) (v := .int (S.1 10 + 1)) (by decide +kernel) rfl rfl (Nat.le_of_ble_eq_true rfl) dX11_fate_109 mO_10 (fun H locs B => ?_)
            refine lv_aload_n hx hb dX11_fate_112 rfl (lv_at hl 0 rfl) ?_
            refine g_get C B (0) (by decide) mE_0 rfl gf_11 10 (by decide) wl_737 (v := .int (S.1 10 + 1)) mF_10 dX11_fate_113 ?_
            refine lv_i2l (v := (S.1 10 + 1).toInt64) hx hb dX11_fate_116 rfl ?_
            exact ge_wl C B hr hlk (by have e9 : sp_fate S ch f mo = ((S.1 10 + 1).toInt64, (uI (uA (uA (uA (uA S 11 (upd (S.2.2.1 11) ((S.1 10).toNatClampNeg) ch)) 12 (upd (S.2.2.1 12) ((S.1 10).toNatClampNeg) f)) 13 (upd (S.2.2.1 13) ((S.1 10).toNatClampNeg) mo)) 14 (upd (S.2.2.1 14) ((S.1 10).toNatClampNeg) (S.1 0))) 10 (S.1 10 + 1))) := (by unfold sp_fate sp_fateT; (first | rw [if_pos c1] | rw [if_neg c1] | rw [if_neg (not_not_intro c1)] | skip); (first | rw [if_pos c2] | rw [if_neg c2] | rw [if_neg (not_not_intro c2)] | skip); (rw [if_pos (by simp only [i3l, i3e, i3q, inR, isC, isD, zi_0, zi_1, zi_2, zi_3, zi_4, zi_5, zi_6, zi_7, zi_8, zi_9, zi_10, zi_12, zi_20, zi_21, zi_30, zi_60, zi_90, zi_99, zi_100, zi_180, zi_240, zi_400, zi_500, zi_1000, zi_1199, zi_10000, zi_100000, zi_1000000, i3m1] at c3 ⊢; omega)]); (first | rw [if_pos c5] | rw [if_neg c5] | rw [if_neg (not_not_intro c5)] | skip); (first | rw [if_pos c6] | rw [if_neg c6] | rw [if_neg (not_not_intro c6)] | skip); (first | done | rfl)); rw [e9]; exact ⟨rfl, rfl⟩) dX11_fate_117
          · refine lv_aload_n hx hb dX11_fate_53 rfl (lv_at hl 0 rfl) ?_
            refine lv_iconst (v := 4) hx hb dX11_fate_54 (by decide) ?_
            refine gc_wl B (gr_V C B (k := 0) (As := [.int 4]) (rest := []) (c_X11_no l D G τ α S _ 4 (vp_d (by decide))) (by decide) mE_0 rfl wl_865 wl_867 wl_14 wl_40 wl_868 (na := 1) (by decide +kernel) rfl ⟨Nat.le_of_ble_eq_true rfl, Nat.le_of_ble_eq_true rfl⟩ ⟨Nat.le_of_ble_eq_true rfl, Nat.le_of_ble_eq_true rfl⟩ hl.1 rfl (Nat.le_of_ble_eq_true rfl) dX11_fate_55) (fun r u h H locs B => ?_)
            obtain ⟨rfl, rfl⟩ := h
            have B : gB D G τ (gA α Lm sz) s H locs α (mE G α (sNo S 4).2) Lm := B
            exact ge_wl C B hr hlk (by have e9 : sp_fate S ch f mo = ((sNo S 4).1, (sNo S 4).2) := (by unfold sp_fate sp_fateT; (first | rw [if_pos c1] | rw [if_neg c1] | rw [if_neg (not_not_intro c1)] | skip); (first | rw [if_pos c2] | rw [if_neg c2] | rw [if_neg (not_not_intro c2)] | skip); (rw [if_pos (by simp only [i3l, i3e, i3q, inR, isC, isD, zi_0, zi_1, zi_2, zi_3, zi_4, zi_5, zi_6, zi_7, zi_8, zi_9, zi_10, zi_12, zi_20, zi_21, zi_30, zi_60, zi_90, zi_99, zi_100, zi_180, zi_240, zi_400, zi_500, zi_1000, zi_1199, zi_10000, zi_100000, zi_1000000, i3m1] at c3 ⊢; omega)]); (first | rw [if_pos c5] | rw [if_neg c5] | rw [if_neg (not_not_intro c5)] | skip); (first | rw [if_pos c6] | rw [if_neg c6] | rw [if_neg (not_not_intro c6)] | skip); (first | done | rfl)); rw [e9]; exact ⟨rfl, rfl⟩) dX11_fate_58
        · refine lv_if_ne (tgt := 44) hx hb dX11_fate_35 (by decide) (fun hc => absurd (by decide) hc) (fun _ => ?_)
          refine lv_aload_n hx hb dX11_fate_38 rfl (lv_at hl 0 rfl) ?_
          refine lv_iconst (v := 1) hx hb dX11_fate_39 (by decide) ?_
          refine gc_wl B (gr_V C B (k := 0) (As := [.int 1]) (rest := []) (c_X11_no l D G τ α S _ 1 (vp_d (by decide))) (by decide) mE_0 rfl wl_865 wl_867 wl_14 wl_40 wl_868 (na := 1) (by decide +kernel) rfl ⟨Nat.le_of_ble_eq_true rfl, Nat.le_of_ble_eq_true rfl⟩ ⟨Nat.le_of_ble_eq_true rfl, Nat.le_of_ble_eq_true rfl⟩ hl.1 rfl (Nat.le_of_ble_eq_true rfl) dX11_fate_40) (fun r u h H locs B => ?_)
          obtain ⟨rfl, rfl⟩ := h
          have B : gB D G τ (gA α Lm sz) s H locs α (mE G α (sNo S 1).2) Lm := B
          exact ge_wl C B hr hlk (by have e9 : sp_fate S ch f mo = ((sNo S 1).1, (sNo S 1).2) := (by unfold sp_fate sp_fateT; (first | rw [if_pos c1] | rw [if_neg c1] | rw [if_neg (not_not_intro c1)] | skip); (first | rw [if_pos c2] | rw [if_neg c2] | rw [if_neg (not_not_intro c2)] | skip); (rw [if_pos (by simp only [i3l, i3e, i3q, inR, isC, isD, zi_0, zi_1, zi_2, zi_3, zi_4, zi_5, zi_6, zi_7, zi_8, zi_9, zi_10, zi_12, zi_20, zi_21, zi_30, zi_60, zi_90, zi_99, zi_100, zi_180, zi_240, zi_400, zi_500, zi_1000, zi_1199, zi_10000, zi_100000, zi_1000000, i3m1] at c3 ⊢; omega)]); (first | rw [if_pos c5] | rw [if_neg c5] | rw [if_neg (not_not_intro c5)] | skip); (first | done | rfl)); rw [e9]; exact ⟨rfl, rfl⟩) dX11_fate_43
    · refine lv_if_eq (tgt := 38) hx hb dX11_fate_14 (by decide) (fun _ => ?_) (fun hc => absurd (by decide) hc)
      refine lv_aload_n hx hb dX11_fate_38 rfl (lv_at hl 0 rfl) ?_
      refine lv_iconst (v := 1) hx hb dX11_fate_39 (by decide) ?_
      refine gc_wl B (gr_V C B (k := 0) (As := [.int 1]) (rest := []) (c_X11_no l D G τ α S _ 1 (vp_d (by decide))) (by decide) mE_0 rfl wl_865 wl_867 wl_14 wl_40 wl_868 (na := 1) (by decide +kernel) rfl ⟨Nat.le_of_ble_eq_true rfl, Nat.le_of_ble_eq_true rfl⟩ ⟨Nat.le_of_ble_eq_true rfl, Nat.le_of_ble_eq_true rfl⟩ hl.1 rfl (Nat.le_of_ble_eq_true rfl) dX11_fate_40) (fun r u h H locs B => ?_)
      obtain ⟨rfl, rfl⟩ := h
      have B : gB D G τ (gA α Lm sz) s H locs α (mE G α (sNo S 1).2) Lm := B
      exact ge_wl C B hr hlk (by have e9 : sp_fate S ch f mo = ((sNo S 1).1, (sNo S 1).2) := (by unfold sp_fate sp_fateT; (first | rw [if_pos c1] | rw [if_neg c1] | rw [if_neg (not_not_intro c1)] | skip); (first | rw [if_pos c2] | rw [if_neg c2] | rw [if_neg (not_not_intro c2)] | skip); (first | done | rfl)); rw [e9]; exact ⟨rfl, rfl⟩) dX11_fate_43
  · refine lv_if_eq (tgt := 38) hx hb dX11_fate_5 (by decide) (fun _ => ?_) (fun hc => absurd (by decide) hc)
    refine lv_aload_n hx hb dX11_fate_38 rfl (lv_at hl 0 rfl) ?_
    refine lv_iconst (v := 1) hx hb dX11_fate_39 (by decide) ?_
    refine gc_wl B (gr_V C B (k := 0) (As := [.int 1]) (rest := []) (c_X11_no l D G τ α S _ 1 (vp_d (by decide))) (by decide) mE_0 rfl wl_865 wl_867 wl_14 wl_40 wl_868 (na := 1) (by decide +kernel) rfl ⟨Nat.le_of_ble_eq_true rfl, Nat.le_of_ble_eq_true rfl⟩ ⟨Nat.le_of_ble_eq_true rfl, Nat.le_of_ble_eq_true rfl⟩ hl.1 rfl (Nat.le_of_ble_eq_true rfl) dX11_fate_40) (fun r u h H locs B => ?_)
    obtain ⟨rfl, rfl⟩ := h
    have B : gB D G τ (gA α Lm sz) s H locs α (mE G α (sNo S 1).2) Lm := B
    exact ge_wl C B hr hlk (by have e9 : sp_fate S ch f mo = ((sNo S 1).1, (sNo S 1).2) := (by unfold sp_fate sp_fateT; (first | rw [if_pos c1] | rw [if_neg c1] | rw [if_neg (not_not_intro c1)] | skip); (first | done | rfl)); rw [e9]; exact ⟨rfl, rfl⟩) dX11_fate_43
set_option maxHeartbeats 4000000 in
set_option maxRecDepth 100000 in
theorem c_X11_told (l : Launch) (D : va_G) (G : Nat → ClassId) (τ α : Nat → Nat) (S : St) (sz : Nat) (ch k mb : Int32) (hN : okN S) : Wl l D G τ yX11_told cX11_told 5 (some .long) 2 0 0 [.ref (α 0), .int ch, .int k, .int mb] α (mE G α S) Lm sz (fun r u => r = (sp_told S ch k mb).1 ∧ u = (α, mE G α (sp_told S ch k mb).2, Lm)) := by
  refine gM _ (by decide) rfl (Nat.le_of_ble_eq_true rfl) ?_
  intro p e s m below meth c ls C hr hlk hnm hsz B hl
  have hx := C.1
  have hb := C.2.1
  have hl : lv_has ls 5 [(0, .ref (α 0)), (1, .int ch), (2, .int k), (3, .int mb)] := hl
  refine lv_aload_n hx hb dX11_told_0 rfl (lv_at hl 0 rfl) ?_
  refine lv_iload_n hx hb dX11_told_1 rfl (lv_at hl 1 rfl) ?_
  refine gc_b (gr_V C B (k := 0) (As := [.int ch]) (rest := []) (c_X11_isChild l D G τ α S _ ch hN) (by decide) mE_0 rfl wl_933 wl_935 wl_24 wl_40 wl_936 (na := 1) (by decide +kernel) rfl ⟨Nat.le_of_ble_eq_true rfl, Nat.le_of_ble_eq_true rfl⟩ ⟨Nat.le_of_ble_eq_true rfl, Nat.le_of_ble_eq_true rfl⟩ hl.1 rfl (Nat.le_of_ble_eq_true rfl) dX11_told_2) (fun c1 => ?_) (fun c1 => ?_)
  · refine lv_if_eq (tgt := 15) hx hb dX11_told_5 (by decide) (fun hc => absurd hc (by decide)) (fun _ => ?_)
    refine lv_iload_n hx hb dX11_told_8 rfl (lv_at hl 2 rfl) ?_
    refine gc_b (gr_S C B (As := [.int k]) (rest := []) (c_X11_isMonth l D G τ α _ _ _ k) wl_911 wl_912 wl_40 wl_913 (na := 1) (by decide +kernel) rfl ⟨Nat.le_of_ble_eq_true rfl, Nat.le_of_ble_eq_true rfl⟩ ⟨Nat.le_of_ble_eq_true rfl, Nat.le_of_ble_eq_true rfl⟩ hl.1 rfl (Nat.le_of_ble_eq_true rfl) dX11_told_9) (fun c2 => ?_) (fun c2 => ?_)
    · refine lv_if_ne (tgt := 21) hx hb dX11_told_12 (by decide) (fun _ => ?_) (fun hc => absurd hc (by decide))
      refine lv_aload_n hx hb dX11_told_21 rfl (lv_at hl 0 rfl) ?_
      refine lv_iload_n hx hb dX11_told_22 rfl (lv_at hl 1 rfl) ?_
      refine lv_iload_n hx hb dX11_told_23 rfl (lv_at hl 2 rfl) ?_
      refine gc_o (oI := oI) (gr_V C B (k := 0) (As := [.int ch, .int k]) (rest := []) (c_X11_fateAt l D G τ α S _ ch k hN) (by decide) mE_0 rfl wl_882 wl_884 wl_18 wl_40 wl_885 (na := 2) (by decide +kernel) rfl ⟨Nat.le_of_ble_eq_true rfl, Nat.le_of_ble_eq_true rfl⟩ ⟨Nat.le_of_ble_eq_true rfl, Nat.le_of_ble_eq_true rfl⟩ hl.1 rfl (Nat.le_of_ble_eq_true rfl) dX11_told_24) (fun o3 => ?_) (fun f4 o3 => ?_)
      · refine lv_istore (lv' := [(4, .int (-1)), (0, .ref (α 0)), (1, .int ch), (2, .int k), (3, .int mb)]) hx hb dX11_told_27 hl (by decide) rfl (fun ls hl => ?_)
        refine lv_iload hx hb dX11_told_29 (lv_at hl 0 rfl) ?_
        refine lv_if_ge (tgt := 40) hx hb dX11_told_31 (by decide) (fun hc => absurd hc (by decide)) (fun _ => ?_)
        refine lv_aload_n hx hb dX11_told_34 rfl (lv_at hl 1 rfl) ?_
        refine lv_iconst (v := 2) hx hb dX11_told_35 (by decide) ?_
        refine gc_wl B (gr_V C B (k := 0) (As := [.int 2]) (rest := []) (c_X11_no l D G τ α S _ 2 (vp_d (by decide))) (by decide) mE_0 rfl wl_865 wl_867 wl_14 wl_40 wl_868 (na := 1) (by decide +kernel) rfl ⟨Nat.le_of_ble_eq_true rfl, Nat.le_of_ble_eq_true rfl⟩ ⟨Nat.le_of_ble_eq_true rfl, Nat.le_of_ble_eq_true rfl⟩ hl.1 rfl (Nat.le_of_ble_eq_true rfl) dX11_told_36) (fun r u h H locs B => ?_)
        obtain ⟨rfl, rfl⟩ := h
        have B : gB D G τ (gA α Lm sz) s H locs α (mE G α (sNo S 2).2) Lm := B
        exact ge_wl C B hr hlk (by have e9 : sp_told S ch k mb = ((sNo S 2).1, (sNo S 2).2) := (by unfold sp_told; (first | rw [if_pos c1] | rw [if_neg c1] | rw [if_neg (not_not_intro c1)] | skip); (first | rw [if_pos c2] | rw [if_neg c2] | rw [if_neg (not_not_intro c2)] | skip); (first | rw [o3] | skip); (try dsimp only); (first | done | rfl)); rw [e9]; exact ⟨rfl, rfl⟩) dX11_told_39
      · have f4_b : f4 < 90 := Nat.lt_of_lt_of_le (sFate_lt o3).1 (nOf_le hN.2.2.2.1.1 hN.2.2.2.1.2 (by decide))
        refine lv_istore (lv' := [(4, .int (nI f4)), (0, .ref (α 0)), (1, .int ch), (2, .int k), (3, .int mb)]) hx hb dX11_told_27 hl (by decide) rfl (fun ls hl => ?_)
        refine lv_iload hx hb dX11_told_29 (lv_at hl 0 rfl) ?_
        refine lv_if_ge (tgt := 40) hx hb dX11_told_31 (by decide) (fun _ => ?_) (fun hc => absurd (nI_pos' (by omega)) hc)
        refine lv_iload_n hx hb dX11_told_40 rfl (lv_at hl 4 rfl) ?_
        refine lv_if_eq (tgt := 55) hx hb dX11_told_41 (by decide) (fun c5 => ?_) (fun c5 => ?_)
        · refine lv_aload_n hx hb dX11_told_55 rfl (lv_at hl 1 rfl) ?_
          refine g_get C B (0) (by decide) mE_0 rfl gf_11 12 (by decide) wl_739 (v := .ref (α 12)) mF_12 dX11_told_56 ?_
          refine lv_iload hx hb dX11_told_59 (lv_at hl 0 rfl) ?_
          refine g_iald C B (12) (by decide) (f := S.2.2.1 12) mE_12 (vp_in_nI (by omega) (by omega)) (j := f4) (nI_clamp (by omega)) dX11_told_61 ?_
          refine lv_i2l (v := (S.2.2.1 12 f4).toInt64) hx hb dX11_told_62 rfl ?_
          exact ge_wl C B hr hlk (by have e9 : sp_told S ch k mb = ((S.2.2.1 12 f4).toInt64, S) := (by unfold sp_told; (first | rw [if_pos c1] | rw [if_neg c1] | rw [if_neg (not_not_intro c1)] | skip); (first | rw [if_pos c2] | rw [if_neg c2] | rw [if_neg (not_not_intro c2)] | skip); (first | rw [o3] | skip); (try dsimp only); (first | rw [if_pos c5] | rw [if_neg c5] | rw [if_neg (not_not_intro c5)] | skip); (first | done | rfl)); rw [e9]; exact ⟨rfl, rfl⟩) dX11_told_63
        · refine lv_aload_n hx hb dX11_told_44 rfl (lv_at hl 1 rfl) ?_
          refine g_get C B (0) (by decide) mE_0 rfl gf_11 13 (by decide) wl_740 (v := .ref (α 13)) mF_13 dX11_told_45 ?_
          refine lv_iload hx hb dX11_told_48 (lv_at hl 0 rfl) ?_
          refine g_iald C B (13) (by decide) (f := S.2.2.1 13) mE_13 (vp_in_nI (by omega) (by omega)) (j := f4) (nI_clamp (by omega)) dX11_told_50 ?_
          refine lv_i2l (v := (S.2.2.1 13 f4).toInt64) hx hb dX11_told_51 rfl ?_
          refine lv_goto (tgt := 63) hx hb dX11_told_52 (by decide) ?_
          exact ge_wl C B hr hlk (by have e9 : sp_told S ch k mb = ((S.2.2.1 13 f4).toInt64, S) := (by unfold sp_told; (first | rw [if_pos c1] | rw [if_neg c1] | rw [if_neg (not_not_intro c1)] | skip); (first | rw [if_pos c2] | rw [if_neg c2] | rw [if_neg (not_not_intro c2)] | skip); (first | rw [o3] | skip); (try dsimp only); (first | rw [if_pos c5] | rw [if_neg c5] | rw [if_neg (not_not_intro c5)] | skip); (first | done | rfl)); rw [e9]; exact ⟨rfl, rfl⟩) dX11_told_63
    · refine lv_if_ne (tgt := 21) hx hb dX11_told_12 (by decide) (fun hc => absurd (by decide) hc) (fun _ => ?_)
      refine lv_aload_n hx hb dX11_told_15 rfl (lv_at hl 0 rfl) ?_
      refine lv_iconst (v := 1) hx hb dX11_told_16 (by decide) ?_
      refine gc_wl B (gr_V C B (k := 0) (As := [.int 1]) (rest := []) (c_X11_no l D G τ α S _ 1 (vp_d (by decide))) (by decide) mE_0 rfl wl_865 wl_867 wl_14 wl_40 wl_868 (na := 1) (by decide +kernel) rfl ⟨Nat.le_of_ble_eq_true rfl, Nat.le_of_ble_eq_true rfl⟩ ⟨Nat.le_of_ble_eq_true rfl, Nat.le_of_ble_eq_true rfl⟩ hl.1 rfl (Nat.le_of_ble_eq_true rfl) dX11_told_17) (fun r u h H locs B => ?_)
      obtain ⟨rfl, rfl⟩ := h
      have B : gB D G τ (gA α Lm sz) s H locs α (mE G α (sNo S 1).2) Lm := B
      exact ge_wl C B hr hlk (by have e9 : sp_told S ch k mb = ((sNo S 1).1, (sNo S 1).2) := (by unfold sp_told; (first | rw [if_pos c1] | rw [if_neg c1] | rw [if_neg (not_not_intro c1)] | skip); (first | rw [if_pos c2] | rw [if_neg c2] | rw [if_neg (not_not_intro c2)] | skip); (first | done | rfl)); rw [e9]; exact ⟨rfl, rfl⟩) dX11_told_20
  · refine lv_if_eq (tgt := 15) hx hb dX11_told_5 (by decide) (fun _ => ?_) (fun hc => absurd (by decide) hc)
    refine lv_aload_n hx hb dX11_told_15 rfl (lv_at hl 0 rfl) ?_
    refine lv_iconst (v := 1) hx hb dX11_told_16 (by decide) ?_
    refine gc_wl B (gr_V C B (k := 0) (As := [.int 1]) (rest := []) (c_X11_no l D G τ α S _ 1 (vp_d (by decide))) (by decide) mE_0 rfl wl_865 wl_867 wl_14 wl_40 wl_868 (na := 1) (by decide +kernel) rfl ⟨Nat.le_of_ble_eq_true rfl, Nat.le_of_ble_eq_true rfl⟩ ⟨Nat.le_of_ble_eq_true rfl, Nat.le_of_ble_eq_true rfl⟩ hl.1 rfl (Nat.le_of_ble_eq_true rfl) dX11_told_17) (fun r u h H locs B => ?_)
    obtain ⟨rfl, rfl⟩ := h
    have B : gB D G τ (gA α Lm sz) s H locs α (mE G α (sNo S 1).2) Lm := B
    exact ge_wl C B hr hlk (by have e9 : sp_told S ch k mb = ((sNo S 1).1, (sNo S 1).2) := (by unfold sp_told; (first | rw [if_pos c1] | rw [if_neg c1] | rw [if_neg (not_not_intro c1)] | skip); (first | done | rfl)); rw [e9]; exact ⟨rfl, rfl⟩) dX11_told_20
set_option maxHeartbeats 4000000 in
set_option maxRecDepth 100000 in
theorem c_X11_as (l : Launch) (D : va_G) (G : Nat → ClassId) (τ α : Nat → Nat) (S : St) (sz : Nat) (d k : Int32) (hN : okN S) (hP : okP S) : Wl l D G τ yX11_as cX11_as 3 (some .long) 2 0 0 [.ref (α 0), .int d, .int k] α (mE G α S) Lm sz (fun r u => r = (sp_as S d k).1 ∧ u = (α, mE G α (sp_as S d k).2, Lm)) := by
  refine gM _ (by decide) rfl (Nat.le_of_ble_eq_true rfl) ?_
  intro p e s m below meth c ls C hr hlk hnm hsz B hl
  have hx := C.1
  have hb := C.2.1
  have hl : lv_has ls 3 [(0, .ref (α 0)), (1, .int d), (2, .int k)] := hl
  refine lv_aload_n hx hb dX11_as_0 rfl (lv_at hl 0 rfl) ?_
  refine lv_iload_n hx hb dX11_as_1 rfl (lv_at hl 1 rfl) ?_
  refine gc_b (gr_V C B (k := 0) (As := [.int d]) (rest := []) (c_X11_isDeposit l D G τ α S _ d hN) (by decide) mE_0 rfl wl_953 wl_955 wl_25 wl_40 wl_956 (na := 1) (by decide +kernel) rfl ⟨Nat.le_of_ble_eq_true rfl, Nat.le_of_ble_eq_true rfl⟩ ⟨Nat.le_of_ble_eq_true rfl, Nat.le_of_ble_eq_true rfl⟩ hl.1 rfl (Nat.le_of_ble_eq_true rfl) dX11_as_2) (fun c1 => ?_) (fun c1 => ?_)
  · obtain ⟨d9, d9_d, rfl⟩ := isD_nat c1
    have d9_c : d9 < 30 := Nat.lt_of_lt_of_le d9_d (nOf_le hN.2.2.2.2.1.1 hN.2.2.2.2.1.2 (by decide))
    have d9_b : d9 < 2 ^ 31 := by omega
    have hs9 : 0 ≤ S.2.2.1 25 d9 ∧ S.2.2.1 25 d9 ≤ 7 := okS_7 (hP d9 d9_d).2.2.2.2.2.2.2.2.2
    refine lv_if_eq (tgt := 17) hx hb dX11_as_5 (by decide) (fun hc => absurd hc (by decide)) (fun _ => ?_)
    refine lv_iload_n hx hb dX11_as_8 rfl (lv_at hl 2 rfl) ?_
    refine lv_iconst (v := 0) hx hb dX11_as_9 (by decide) ?_
    refine lv_iconst (v := 2) hx hb dX11_as_10 (by decide) ?_
    refine gc_b (gr_S C B (As := [.int k, .int 0, .int 2]) (rest := []) (c_X11_in l D G τ α _ _ _ k 0 2) wl_862 wl_863 wl_40 wl_864 (na := 3) (by decide +kernel) rfl ⟨Nat.le_of_ble_eq_true rfl, Nat.le_of_ble_eq_true rfl⟩ ⟨Nat.le_of_ble_eq_true rfl, Nat.le_of_ble_eq_true rfl⟩ hl.1 rfl (Nat.le_of_ble_eq_true rfl) dX11_as_11) (fun c2 => ?_) (fun c2 => ?_)
    · refine lv_if_ne (tgt := 23) hx hb dX11_as_14 (by decide) (fun _ => ?_) (fun hc => absurd hc (by decide))
      refine lv_iload_n hx hb dX11_as_23 rfl (lv_at hl 2 rfl) ?_
      refine lv_if_eq (tgt := 43) hx hb dX11_as_24 (by decide) (fun c3 => ?_) (fun c3 => ?_)
      · refine lv_aload_n hx hb dX11_as_43 rfl (lv_at hl 0 rfl) ?_
        refine g_get C B (0) (by decide) mE_0 rfl gf_11 19 (by decide) wl_746 (v := .ref (α 19)) mF_19 dX11_as_44 ?_
        refine lv_iload_n hx hb dX11_as_47 rfl (lv_at hl 1 rfl) ?_
        refine g_iald C B (19) (by decide) (f := S.2.2.1 19) mE_19 (vp_in_nI (by omega) (by omega)) (j := d9) (nI_clamp (by omega)) dX11_as_48 ?_
        refine lv_i2l (v := (S.2.2.1 19 d9).toInt64) hx hb dX11_as_49 rfl ?_
        exact ge_wl C B hr hlk (by have e9 : sp_as S (nI d9) k = ((S.2.2.1 19 d9).toInt64, S) := (by unfold sp_as; (try simp only [nI_clamp d9_b]); (first | rw [if_pos c1] | rw [if_neg c1] | rw [if_neg (not_not_intro c1)] | skip); (try simp only [nI_clamp d9_b]); (first | rw [if_pos c2] | rw [if_neg c2] | rw [if_neg (not_not_intro c2)] | skip); (try simp only [nI_clamp d9_b]); (first | rw [if_pos c3] | rw [if_neg c3] | rw [if_neg (not_not_intro c3)] | skip); (try simp only [nI_clamp d9_b]); (first | done | rfl)); rw [e9]; exact ⟨rfl, rfl⟩) dX11_as_50
      · refine lv_aload_n hx hb dX11_as_27 rfl (lv_at hl 0 rfl) ?_
        refine g_get C B (0) (by decide) mE_0 rfl gf_11 16 (by decide) wl_743 (v := .ref (α 16)) mF_16 dX11_as_28 ?_
        refine lv_iload_n hx hb dX11_as_31 rfl (lv_at hl 1 rfl) ?_
        refine g_iald C B (16) (by decide) (f := S.2.2.1 16) mE_16 (vp_in_nI (by omega) (by omega)) (j := d9) (nI_clamp (by omega)) dX11_as_32 ?_
        refine lv_iload_n hx hb dX11_as_33 rfl (lv_at hl 2 rfl) ?_
        refine lv_icmp_eq (tgt := 43) hx hb dX11_as_34 (by decide) (fun c4 => ?_) (fun c4 => ?_)
        · refine lv_aload_n hx hb dX11_as_43 rfl (lv_at hl 0 rfl) ?_
          refine g_get C B (0) (by decide) mE_0 rfl gf_11 19 (by decide) wl_746 (v := .ref (α 19)) mF_19 dX11_as_44 ?_
          refine lv_iload_n hx hb dX11_as_47 rfl (lv_at hl 1 rfl) ?_
          refine g_iald C B (19) (by decide) (f := S.2.2.1 19) mE_19 (vp_in_nI (by omega) (by omega)) (j := d9) (nI_clamp (by omega)) dX11_as_48 ?_
          refine lv_i2l (v := (S.2.2.1 19 d9).toInt64) hx hb dX11_as_49 rfl ?_
          exact ge_wl C B hr hlk (by have e9 : sp_as S (nI d9) k = ((S.2.2.1 19 d9).toInt64, S) := (by unfold sp_as; (try simp only [nI_clamp d9_b]); (first | rw [if_pos c1] | rw [if_neg c1] | rw [if_neg (not_not_intro c1)] | skip); (try simp only [nI_clamp d9_b]); (first | rw [if_pos c2] | rw [if_neg c2] | rw [if_neg (not_not_intro c2)] | skip); (try simp only [nI_clamp d9_b]); (first | rw [if_pos c3] | rw [if_neg c3] | rw [if_neg (not_not_intro c3)] | skip); (try simp only [nI_clamp d9_b]); (first | rw [if_pos c4] | rw [if_neg c4] | rw [if_neg (not_not_intro c4)] | skip); (try simp only [nI_clamp d9_b]); (first | done | rfl)); rw [e9]; exact ⟨rfl, rfl⟩) dX11_as_50
        · refine lv_aload_n hx hb dX11_as_37 rfl (lv_at hl 0 rfl) ?_
          refine lv_iconst (v := 5) hx hb dX11_as_38 (by decide) ?_
          refine gc_wl B (gr_V C B (k := 0) (As := [.int 5]) (rest := []) (c_X11_no l D G τ α S _ 5 (vp_d (by decide))) (by decide) mE_0 rfl wl_865 wl_867 wl_14 wl_40 wl_868 (na := 1) (by decide +kernel) rfl ⟨Nat.le_of_ble_eq_true rfl, Nat.le_of_ble_eq_true rfl⟩ ⟨Nat.le_of_ble_eq_true rfl, Nat.le_of_ble_eq_true rfl⟩ hl.1 rfl (Nat.le_of_ble_eq_true rfl) dX11_as_39) (fun r u h H locs B => ?_)
          obtain ⟨rfl, rfl⟩ := h
          have B : gB D G τ (gA α Lm sz) s H locs α (mE G α (sNo S 5).2) Lm := B
          exact ge_wl C B hr hlk (by have e9 : sp_as S (nI d9) k = ((sNo S 5).1, (sNo S 5).2) := (by unfold sp_as; (try simp only [nI_clamp d9_b]); (first | rw [if_pos c1] | rw [if_neg c1] | rw [if_neg (not_not_intro c1)] | skip); (try simp only [nI_clamp d9_b]); (first | rw [if_pos c2] | rw [if_neg c2] | rw [if_neg (not_not_intro c2)] | skip); (try simp only [nI_clamp d9_b]); (first | rw [if_pos c3] | rw [if_neg c3] | rw [if_neg (not_not_intro c3)] | skip); (try simp only [nI_clamp d9_b]); (first | rw [if_pos c4] | rw [if_neg c4] | rw [if_neg (not_not_intro c4)] | skip); (try simp only [nI_clamp d9_b]); (first | done | rfl)); rw [e9]; exact ⟨rfl, rfl⟩) dX11_as_42
    · refine lv_if_ne (tgt := 23) hx hb dX11_as_14 (by decide) (fun hc => absurd (by decide) hc) (fun _ => ?_)
      refine lv_aload_n hx hb dX11_as_17 rfl (lv_at hl 0 rfl) ?_
      refine lv_iconst (v := 1) hx hb dX11_as_18 (by decide) ?_
      refine gc_wl B (gr_V C B (k := 0) (As := [.int 1]) (rest := []) (c_X11_no l D G τ α S _ 1 (vp_d (by decide))) (by decide) mE_0 rfl wl_865 wl_867 wl_14 wl_40 wl_868 (na := 1) (by decide +kernel) rfl ⟨Nat.le_of_ble_eq_true rfl, Nat.le_of_ble_eq_true rfl⟩ ⟨Nat.le_of_ble_eq_true rfl, Nat.le_of_ble_eq_true rfl⟩ hl.1 rfl (Nat.le_of_ble_eq_true rfl) dX11_as_19) (fun r u h H locs B => ?_)
      obtain ⟨rfl, rfl⟩ := h
      have B : gB D G τ (gA α Lm sz) s H locs α (mE G α (sNo S 1).2) Lm := B
      exact ge_wl C B hr hlk (by have e9 : sp_as S (nI d9) k = ((sNo S 1).1, (sNo S 1).2) := (by unfold sp_as; (try simp only [nI_clamp d9_b]); (first | rw [if_pos c1] | rw [if_neg c1] | rw [if_neg (not_not_intro c1)] | skip); (try simp only [nI_clamp d9_b]); (first | rw [if_pos c2] | rw [if_neg c2] | rw [if_neg (not_not_intro c2)] | skip); (try simp only [nI_clamp d9_b]); (first | done | rfl)); rw [e9]; exact ⟨rfl, rfl⟩) dX11_as_22
  · refine lv_if_eq (tgt := 17) hx hb dX11_as_5 (by decide) (fun _ => ?_) (fun hc => absurd (by decide) hc)
    refine lv_aload_n hx hb dX11_as_17 rfl (lv_at hl 0 rfl) ?_
    refine lv_iconst (v := 1) hx hb dX11_as_18 (by decide) ?_
    refine gc_wl B (gr_V C B (k := 0) (As := [.int 1]) (rest := []) (c_X11_no l D G τ α S _ 1 (vp_d (by decide))) (by decide) mE_0 rfl wl_865 wl_867 wl_14 wl_40 wl_868 (na := 1) (by decide +kernel) rfl ⟨Nat.le_of_ble_eq_true rfl, Nat.le_of_ble_eq_true rfl⟩ ⟨Nat.le_of_ble_eq_true rfl, Nat.le_of_ble_eq_true rfl⟩ hl.1 rfl (Nat.le_of_ble_eq_true rfl) dX11_as_19) (fun r u h H locs B => ?_)
    obtain ⟨rfl, rfl⟩ := h
    have B : gB D G τ (gA α Lm sz) s H locs α (mE G α (sNo S 1).2) Lm := B
    exact ge_wl C B hr hlk (by have e9 : sp_as S d k = ((sNo S 1).1, (sNo S 1).2) := (by unfold sp_as; (first | rw [if_pos c1] | rw [if_neg c1] | rw [if_neg (not_not_intro c1)] | skip); (first | done | rfl)); rw [e9]; exact ⟨rfl, rfl⟩) dX11_as_22
set_option maxHeartbeats 4000000 in
set_option maxRecDepth 100000 in
theorem c_X11_about (l : Launch) (D : va_G) (G : Nat → ClassId) (τ α : Nat → Nat) (S : St) (sz : Nat) (d w : Int32) (hN : okN S) (hP : okP S) : Wl l D G τ yX11_about cX11_about 3 (some .long) 2 0 0 [.ref (α 0), .int d, .int w] α (mE G α S) Lm sz (fun r u => r = (sp_about S d w).1 ∧ u = (α, mE G α (sp_about S d w).2, Lm)) := by
  refine gM _ (by decide) rfl (Nat.le_of_ble_eq_true rfl) ?_
  intro p e s m below meth c ls C hr hlk hnm hsz B hl
  have hx := C.1
  have hb := C.2.1
  have hl : lv_has ls 3 [(0, .ref (α 0)), (1, .int d), (2, .int w)] := hl
  refine lv_aload_n hx hb dX11_about_0 rfl (lv_at hl 0 rfl) ?_
  refine lv_iload_n hx hb dX11_about_1 rfl (lv_at hl 1 rfl) ?_
  refine gc_b (gr_V C B (k := 0) (As := [.int d]) (rest := []) (c_X11_isDeposit l D G τ α S _ d hN) (by decide) mE_0 rfl wl_953 wl_955 wl_25 wl_40 wl_956 (na := 1) (by decide +kernel) rfl ⟨Nat.le_of_ble_eq_true rfl, Nat.le_of_ble_eq_true rfl⟩ ⟨Nat.le_of_ble_eq_true rfl, Nat.le_of_ble_eq_true rfl⟩ hl.1 rfl (Nat.le_of_ble_eq_true rfl) dX11_about_2) (fun c1 => ?_) (fun c1 => ?_)
  · obtain ⟨d9, d9_d, rfl⟩ := isD_nat c1
    have d9_c : d9 < 30 := Nat.lt_of_lt_of_le d9_d (nOf_le hN.2.2.2.2.1.1 hN.2.2.2.2.1.2 (by decide))
    have d9_b : d9 < 2 ^ 31 := by omega
    have hs9 : 0 ≤ S.2.2.1 25 d9 ∧ S.2.2.1 25 d9 ≤ 7 := okS_7 (hP d9 d9_d).2.2.2.2.2.2.2.2.2
    refine lv_if_eq (tgt := 18) hx hb dX11_about_5 (by decide) (fun hc => absurd hc (by decide)) (fun _ => ?_)
    refine lv_iload_n hx hb dX11_about_8 rfl (lv_at hl 2 rfl) ?_
    refine lv_iconst (v := 0) hx hb dX11_about_9 (by decide) ?_
    refine lv_bipush (v := 8) hx hb dX11_about_10 (by decide) ?_
    refine gc_b (gr_S C B (As := [.int w, .int 0, .int 8]) (rest := []) (c_X11_in l D G τ α _ _ _ w 0 8) wl_862 wl_863 wl_40 wl_864 (na := 3) (by decide +kernel) rfl ⟨Nat.le_of_ble_eq_true rfl, Nat.le_of_ble_eq_true rfl⟩ ⟨Nat.le_of_ble_eq_true rfl, Nat.le_of_ble_eq_true rfl⟩ hl.1 rfl (Nat.le_of_ble_eq_true rfl) dX11_about_12) (fun c2 => ?_) (fun c2 => ?_)
    · refine lv_if_ne (tgt := 24) hx hb dX11_about_15 (by decide) (fun _ => ?_) (fun hc => absurd hc (by decide))
      refine lv_iload_n hx hb dX11_about_24 rfl (lv_at hl 2 rfl) ?_
      rcases sw_7 w with w3 | w3 | w3 | w3 | w3 | w3 | w3 | w3 | w3
      · refine lv_tableIn (tgt := 72) hx hb dX11_about_25 (by rw [w3]; decide) (by rw [w3]; decide) (off := 47) (by rw [w3]; rfl) (by decide) ?_
        refine lv_aload_n hx hb dX11_about_72 rfl (lv_at hl 0 rfl) ?_
        refine g_get C B (0) (by decide) mE_0 rfl gf_11 16 (by decide) wl_743 (v := .ref (α 16)) mF_16 dX11_about_73 ?_
        refine lv_iload_n hx hb dX11_about_76 rfl (lv_at hl 1 rfl) ?_
        refine g_iald C B (16) (by decide) (f := S.2.2.1 16) mE_16 (vp_in_nI (by omega) (by omega)) (j := d9) (nI_clamp (by omega)) dX11_about_77 ?_
        refine lv_i2l (v := (S.2.2.1 16 d9).toInt64) hx hb dX11_about_78 rfl ?_
        exact ge_wl C B hr hlk (by have e9 : sp_about S (nI d9) w = ((S.2.2.1 16 d9).toInt64, S) := (by unfold sp_about; (first | rw [if_pos c1] | rw [if_neg c1] | rw [if_neg (not_not_intro c1)] | skip); (first | rw [if_pos c2] | rw [if_neg c2] | rw [if_neg (not_not_intro c2)] | skip); (first | rw [if_neg (by rw [w3]; decide)] | (rw [if_pos w3]) | (rw [if_neg (sw_ne w3 (by decide))]) | skip); (first | rw [if_neg (by rw [w3]; decide)] | (rw [if_pos w3]) | (rw [if_neg (sw_ne w3 (by decide))]) | skip); (first | rw [if_neg (by rw [w3]; decide)] | (rw [if_pos w3]) | (rw [if_neg (sw_ne w3 (by decide))]) | skip); (first | rw [if_neg (by rw [w3]; decide)] | (rw [if_pos w3]) | (rw [if_neg (sw_ne w3 (by decide))]) | skip); (first | rw [if_neg (by rw [w3]; decide)] | (rw [if_pos w3]) | (rw [if_neg (sw_ne w3 (by decide))]) | skip); (first | rw [if_neg (by rw [w3]; decide)] | (rw [if_pos w3]) | (rw [if_neg (sw_ne w3 (by decide))]) | skip); (first | rw [if_neg (by rw [w3]; decide)] | (rw [if_pos w3]) | (rw [if_neg (sw_ne w3 (by decide))]) | skip); (first | rw [if_neg (by rw [w3]; decide)] | (rw [if_pos w3]) | (rw [if_neg (sw_ne w3 (by decide))]) | skip); (try simp only [nI_clamp d9_b]); (try simp only [nI_clamp d9_b]); (first | done | rfl)); rw [e9]; exact ⟨rfl, rfl⟩) dX11_about_79
      · refine lv_tableIn (tgt := 80) hx hb dX11_about_25 (by rw [w3]; decide) (by rw [w3]; decide) (off := 55) (by rw [w3]; rfl) (by decide) ?_
        refine lv_aload_n hx hb dX11_about_80 rfl (lv_at hl 0 rfl) ?_
        refine g_get C B (0) (by decide) mE_0 rfl gf_11 17 (by decide) wl_744 (v := .ref (α 17)) mF_17 dX11_about_81 ?_
        refine lv_iload_n hx hb dX11_about_84 rfl (lv_at hl 1 rfl) ?_
        refine g_iald C B (17) (by decide) (f := S.2.2.1 17) mE_17 (vp_in_nI (by omega) (by omega)) (j := d9) (nI_clamp (by omega)) dX11_about_85 ?_
        refine lv_i2l (v := (S.2.2.1 17 d9).toInt64) hx hb dX11_about_86 rfl ?_
        exact ge_wl C B hr hlk (by have e9 : sp_about S (nI d9) w = ((S.2.2.1 17 d9).toInt64, S) := (by unfold sp_about; (first | rw [if_pos c1] | rw [if_neg c1] | rw [if_neg (not_not_intro c1)] | skip); (first | rw [if_pos c2] | rw [if_neg c2] | rw [if_neg (not_not_intro c2)] | skip); (first | rw [if_neg (by rw [w3]; decide)] | (rw [if_pos w3]) | (rw [if_neg (sw_ne w3 (by decide))]) | skip); (first | rw [if_neg (by rw [w3]; decide)] | (rw [if_pos w3]) | (rw [if_neg (sw_ne w3 (by decide))]) | skip); (first | rw [if_neg (by rw [w3]; decide)] | (rw [if_pos w3]) | (rw [if_neg (sw_ne w3 (by decide))]) | skip); (first | rw [if_neg (by rw [w3]; decide)] | (rw [if_pos w3]) | (rw [if_neg (sw_ne w3 (by decide))]) | skip); (first | rw [if_neg (by rw [w3]; decide)] | (rw [if_pos w3]) | (rw [if_neg (sw_ne w3 (by decide))]) | skip); (first | rw [if_neg (by rw [w3]; decide)] | (rw [if_pos w3]) | (rw [if_neg (sw_ne w3 (by decide))]) | skip); (first | rw [if_neg (by rw [w3]; decide)] | (rw [if_pos w3]) | (rw [if_neg (sw_ne w3 (by decide))]) | skip); (first | rw [if_neg (by rw [w3]; decide)] | (rw [if_pos w3]) | (rw [if_neg (sw_ne w3 (by decide))]) | skip); (try simp only [nI_clamp d9_b]); (try simp only [nI_clamp d9_b]); (first | done | rfl)); rw [e9]; exact ⟨rfl, rfl⟩) dX11_about_87
      · refine lv_tableIn (tgt := 88) hx hb dX11_about_25 (by rw [w3]; decide) (by rw [w3]; decide) (off := 63) (by rw [w3]; rfl) (by decide) ?_
        refine lv_aload_n hx hb dX11_about_88 rfl (lv_at hl 0 rfl) ?_
        refine g_get C B (0) (by decide) mE_0 rfl gf_11 16 (by decide) wl_743 (v := .ref (α 16)) mF_16 dX11_about_89 ?_
        refine lv_iload_n hx hb dX11_about_92 rfl (lv_at hl 1 rfl) ?_
        refine g_iald C B (16) (by decide) (f := S.2.2.1 16) mE_16 (vp_in_nI (by omega) (by omega)) (j := d9) (nI_clamp (by omega)) dX11_about_93 ?_
        refine lv_iconst (v := 1) hx hb dX11_about_94 (by decide) ?_
        refine lv_icmp_ne (tgt := 108) hx hb dX11_about_95 (by decide) (fun c4 => ?_) (fun c4 => ?_)
        · refine lv_aload_n hx hb dX11_about_108 rfl (lv_at hl 0 rfl) ?_
          refine lv_iconst (v := 2) hx hb dX11_about_109 (by decide) ?_
          refine gc_wl B (gr_V C B (k := 0) (As := [.int 2]) (rest := []) (c_X11_no l D G τ α S _ 2 (vp_d (by decide))) (by decide) mE_0 rfl wl_865 wl_867 wl_14 wl_40 wl_868 (na := 1) (by decide +kernel) rfl ⟨Nat.le_of_ble_eq_true rfl, Nat.le_of_ble_eq_true rfl⟩ ⟨Nat.le_of_ble_eq_true rfl, Nat.le_of_ble_eq_true rfl⟩ hl.1 rfl (Nat.le_of_ble_eq_true rfl) dX11_about_110) (fun r u h H locs B => ?_)
          obtain ⟨rfl, rfl⟩ := h
          have B : gB D G τ (gA α Lm sz) s H locs α (mE G α (sNo S 2).2) Lm := B
          exact ge_wl C B hr hlk (by have e9 : sp_about S (nI d9) w = ((sNo S 2).1, (sNo S 2).2) := (by unfold sp_about; (first | rw [if_pos c1] | rw [if_neg c1] | rw [if_neg (not_not_intro c1)] | skip); (first | rw [if_pos c2] | rw [if_neg c2] | rw [if_neg (not_not_intro c2)] | skip); (first | rw [if_neg (by rw [w3]; decide)] | (rw [if_pos w3]) | (rw [if_neg (sw_ne w3 (by decide))]) | skip); (first | rw [if_neg (by rw [w3]; decide)] | (rw [if_pos w3]) | (rw [if_neg (sw_ne w3 (by decide))]) | skip); (first | rw [if_neg (by rw [w3]; decide)] | (rw [if_pos w3]) | (rw [if_neg (sw_ne w3 (by decide))]) | skip); (first | rw [if_neg (by rw [w3]; decide)] | (rw [if_pos w3]) | (rw [if_neg (sw_ne w3 (by decide))]) | skip); (first | rw [if_neg (by rw [w3]; decide)] | (rw [if_pos w3]) | (rw [if_neg (sw_ne w3 (by decide))]) | skip); (first | rw [if_neg (by rw [w3]; decide)] | (rw [if_pos w3]) | (rw [if_neg (sw_ne w3 (by decide))]) | skip); (first | rw [if_neg (by rw [w3]; decide)] | (rw [if_pos w3]) | (rw [if_neg (sw_ne w3 (by decide))]) | skip); (first | rw [if_neg (by rw [w3]; decide)] | (rw [if_pos w3]) | (rw [if_neg (sw_ne w3 (by decide))]) | skip); (try simp only [nI_clamp d9_b]); (first | rw [if_pos c4] | rw [if_neg c4] | rw [if_neg (not_not_intro c4)] | skip); (try simp only [nI_clamp d9_b]); (first | done | rfl)); rw [e9]; exact ⟨rfl, rfl⟩) dX11_about_113
        · refine lv_aload_n hx hb dX11_about_98 rfl (lv_at hl 0 rfl) ?_
          refine g_get C B (0) (by decide) mE_0 rfl gf_11 18 (by decide) wl_745 (v := .ref (α 18)) mF_18 dX11_about_99 ?_
          refine lv_iload_n hx hb dX11_about_102 rfl (lv_at hl 1 rfl) ?_
          refine g_iald C B (18) (by decide) (f := S.2.2.1 18) mE_18 (vp_in_nI (by omega) (by omega)) (j := d9) (nI_clamp (by omega)) dX11_about_103 ?_
          refine lv_i2l (v := (S.2.2.1 18 d9).toInt64) hx hb dX11_about_104 rfl ?_
          refine lv_goto (tgt := 113) hx hb dX11_about_105 (by decide) ?_
          exact ge_wl C B hr hlk (by have e9 : sp_about S (nI d9) w = ((S.2.2.1 18 d9).toInt64, S) := (by unfold sp_about; (first | rw [if_pos c1] | rw [if_neg c1] | rw [if_neg (not_not_intro c1)] | skip); (first | rw [if_pos c2] | rw [if_neg c2] | rw [if_neg (not_not_intro c2)] | skip); (first | rw [if_neg (by rw [w3]; decide)] | (rw [if_pos w3]) | (rw [if_neg (sw_ne w3 (by decide))]) | skip); (first | rw [if_neg (by rw [w3]; decide)] | (rw [if_pos w3]) | (rw [if_neg (sw_ne w3 (by decide))]) | skip); (first | rw [if_neg (by rw [w3]; decide)] | (rw [if_pos w3]) | (rw [if_neg (sw_ne w3 (by decide))]) | skip); (first | rw [if_neg (by rw [w3]; decide)] | (rw [if_pos w3]) | (rw [if_neg (sw_ne w3 (by decide))]) | skip); (first | rw [if_neg (by rw [w3]; decide)] | (rw [if_pos w3]) | (rw [if_neg (sw_ne w3 (by decide))]) | skip); (first | rw [if_neg (by rw [w3]; decide)] | (rw [if_pos w3]) | (rw [if_neg (sw_ne w3 (by decide))]) | skip); (first | rw [if_neg (by rw [w3]; decide)] | (rw [if_pos w3]) | (rw [if_neg (sw_ne w3 (by decide))]) | skip); (first | rw [if_neg (by rw [w3]; decide)] | (rw [if_pos w3]) | (rw [if_neg (sw_ne w3 (by decide))]) | skip); (try simp only [nI_clamp d9_b]); (first | rw [if_pos c4] | rw [if_neg c4] | rw [if_neg (not_not_intro c4)] | skip); (try simp only [nI_clamp d9_b]); (first | done | rfl)); rw [e9]; exact ⟨rfl, rfl⟩) dX11_about_113
      · refine lv_tableIn (tgt := 114) hx hb dX11_about_25 (by rw [w3]; decide) (by rw [w3]; decide) (off := 89) (by rw [w3]; rfl) (by decide) ?_
        refine lv_aload_n hx hb dX11_about_114 rfl (lv_at hl 0 rfl) ?_
        refine g_get C B (0) (by decide) mE_0 rfl gf_11 19 (by decide) wl_746 (v := .ref (α 19)) mF_19 dX11_about_115 ?_
        refine lv_iload_n hx hb dX11_about_118 rfl (lv_at hl 1 rfl) ?_
        refine g_iald C B (19) (by decide) (f := S.2.2.1 19) mE_19 (vp_in_nI (by omega) (by omega)) (j := d9) (nI_clamp (by omega)) dX11_about_119 ?_
        refine lv_i2l (v := (S.2.2.1 19 d9).toInt64) hx hb dX11_about_120 rfl ?_
        exact ge_wl C B hr hlk (by have e9 : sp_about S (nI d9) w = ((S.2.2.1 19 d9).toInt64, S) := (by unfold sp_about; (first | rw [if_pos c1] | rw [if_neg c1] | rw [if_neg (not_not_intro c1)] | skip); (first | rw [if_pos c2] | rw [if_neg c2] | rw [if_neg (not_not_intro c2)] | skip); (first | rw [if_neg (by rw [w3]; decide)] | (rw [if_pos w3]) | (rw [if_neg (sw_ne w3 (by decide))]) | skip); (first | rw [if_neg (by rw [w3]; decide)] | (rw [if_pos w3]) | (rw [if_neg (sw_ne w3 (by decide))]) | skip); (first | rw [if_neg (by rw [w3]; decide)] | (rw [if_pos w3]) | (rw [if_neg (sw_ne w3 (by decide))]) | skip); (first | rw [if_neg (by rw [w3]; decide)] | (rw [if_pos w3]) | (rw [if_neg (sw_ne w3 (by decide))]) | skip); (first | rw [if_neg (by rw [w3]; decide)] | (rw [if_pos w3]) | (rw [if_neg (sw_ne w3 (by decide))]) | skip); (first | rw [if_neg (by rw [w3]; decide)] | (rw [if_pos w3]) | (rw [if_neg (sw_ne w3 (by decide))]) | skip); (first | rw [if_neg (by rw [w3]; decide)] | (rw [if_pos w3]) | (rw [if_neg (sw_ne w3 (by decide))]) | skip); (first | rw [if_neg (by rw [w3]; decide)] | (rw [if_pos w3]) | (rw [if_neg (sw_ne w3 (by decide))]) | skip); (try simp only [nI_clamp d9_b]); (try simp only [nI_clamp d9_b]); (first | done | rfl)); rw [e9]; exact ⟨rfl, rfl⟩) dX11_about_121
      · refine lv_tableIn (tgt := 122) hx hb dX11_about_25 (by rw [w3]; decide) (by rw [w3]; decide) (off := 97) (by rw [w3]; rfl) (by decide) ?_
        refine lv_aload_n hx hb dX11_about_122 rfl (lv_at hl 0 rfl) ?_
        refine g_get C B (0) (by decide) mE_0 rfl gf_11 20 (by decide) wl_747 (v := .ref (α 20)) mF_20 dX11_about_123 ?_
        refine lv_iload_n hx hb dX11_about_126 rfl (lv_at hl 1 rfl) ?_
        refine g_lald C B (20) (by decide) (f := S.2.2.2 20) mE_20 (vp_in_nI (by omega) (by omega)) (j := d9) (nI_clamp (by omega)) dX11_about_127 ?_
        exact ge_wl C B hr hlk (by have e9 : sp_about S (nI d9) w = ((S.2.2.2 20 d9), S) := (by unfold sp_about; (first | rw [if_pos c1] | rw [if_neg c1] | rw [if_neg (not_not_intro c1)] | skip); (first | rw [if_pos c2] | rw [if_neg c2] | rw [if_neg (not_not_intro c2)] | skip); (first | rw [if_neg (by rw [w3]; decide)] | (rw [if_pos w3]) | (rw [if_neg (sw_ne w3 (by decide))]) | skip); (first | rw [if_neg (by rw [w3]; decide)] | (rw [if_pos w3]) | (rw [if_neg (sw_ne w3 (by decide))]) | skip); (first | rw [if_neg (by rw [w3]; decide)] | (rw [if_pos w3]) | (rw [if_neg (sw_ne w3 (by decide))]) | skip); (first | rw [if_neg (by rw [w3]; decide)] | (rw [if_pos w3]) | (rw [if_neg (sw_ne w3 (by decide))]) | skip); (first | rw [if_neg (by rw [w3]; decide)] | (rw [if_pos w3]) | (rw [if_neg (sw_ne w3 (by decide))]) | skip); (first | rw [if_neg (by rw [w3]; decide)] | (rw [if_pos w3]) | (rw [if_neg (sw_ne w3 (by decide))]) | skip); (first | rw [if_neg (by rw [w3]; decide)] | (rw [if_pos w3]) | (rw [if_neg (sw_ne w3 (by decide))]) | skip); (first | rw [if_neg (by rw [w3]; decide)] | (rw [if_pos w3]) | (rw [if_neg (sw_ne w3 (by decide))]) | skip); (try simp only [nI_clamp d9_b]); (try simp only [nI_clamp d9_b]); (first | done | rfl)); rw [e9]; exact ⟨rfl, rfl⟩) dX11_about_128
      · refine lv_tableIn (tgt := 129) hx hb dX11_about_25 (by rw [w3]; decide) (by rw [w3]; decide) (off := 104) (by rw [w3]; rfl) (by decide) ?_
        refine lv_aload_n hx hb dX11_about_129 rfl (lv_at hl 0 rfl) ?_
        refine g_get C B (0) (by decide) mE_0 rfl gf_11 21 (by decide) wl_748 (v := .ref (α 21)) mF_21 dX11_about_130 ?_
        refine lv_iload_n hx hb dX11_about_133 rfl (lv_at hl 1 rfl) ?_
        refine g_iald C B (21) (by decide) (f := S.2.2.1 21) mE_21 (vp_in_nI (by omega) (by omega)) (j := d9) (nI_clamp (by omega)) dX11_about_134 ?_
        refine lv_i2l (v := (S.2.2.1 21 d9).toInt64) hx hb dX11_about_135 rfl ?_
        exact ge_wl C B hr hlk (by have e9 : sp_about S (nI d9) w = ((S.2.2.1 21 d9).toInt64, S) := (by unfold sp_about; (first | rw [if_pos c1] | rw [if_neg c1] | rw [if_neg (not_not_intro c1)] | skip); (first | rw [if_pos c2] | rw [if_neg c2] | rw [if_neg (not_not_intro c2)] | skip); (first | rw [if_neg (by rw [w3]; decide)] | (rw [if_pos w3]) | (rw [if_neg (sw_ne w3 (by decide))]) | skip); (first | rw [if_neg (by rw [w3]; decide)] | (rw [if_pos w3]) | (rw [if_neg (sw_ne w3 (by decide))]) | skip); (first | rw [if_neg (by rw [w3]; decide)] | (rw [if_pos w3]) | (rw [if_neg (sw_ne w3 (by decide))]) | skip); (first | rw [if_neg (by rw [w3]; decide)] | (rw [if_pos w3]) | (rw [if_neg (sw_ne w3 (by decide))]) | skip); (first | rw [if_neg (by rw [w3]; decide)] | (rw [if_pos w3]) | (rw [if_neg (sw_ne w3 (by decide))]) | skip); (first | rw [if_neg (by rw [w3]; decide)] | (rw [if_pos w3]) | (rw [if_neg (sw_ne w3 (by decide))]) | skip); (first | rw [if_neg (by rw [w3]; decide)] | (rw [if_pos w3]) | (rw [if_neg (sw_ne w3 (by decide))]) | skip); (first | rw [if_neg (by rw [w3]; decide)] | (rw [if_pos w3]) | (rw [if_neg (sw_ne w3 (by decide))]) | skip); (try simp only [nI_clamp d9_b]); (try simp only [nI_clamp d9_b]); (first | done | rfl)); rw [e9]; exact ⟨rfl, rfl⟩) dX11_about_136
      · refine lv_tableIn (tgt := 137) hx hb dX11_about_25 (by rw [w3]; decide) (by rw [w3]; decide) (off := 112) (by rw [w3]; rfl) (by decide) ?_
        refine lv_aload_n hx hb dX11_about_137 rfl (lv_at hl 0 rfl) ?_
        refine g_get C B (0) (by decide) mE_0 rfl gf_11 22 (by decide) wl_749 (v := .ref (α 22)) mF_22 dX11_about_138 ?_
        refine lv_iload_n hx hb dX11_about_141 rfl (lv_at hl 1 rfl) ?_
        refine g_iald C B (22) (by decide) (f := S.2.2.1 22) mE_22 (vp_in_nI (by omega) (by omega)) (j := d9) (nI_clamp (by omega)) dX11_about_142 ?_
        refine lv_i2l (v := (S.2.2.1 22 d9).toInt64) hx hb dX11_about_143 rfl ?_
        exact ge_wl C B hr hlk (by have e9 : sp_about S (nI d9) w = ((S.2.2.1 22 d9).toInt64, S) := (by unfold sp_about; (first | rw [if_pos c1] | rw [if_neg c1] | rw [if_neg (not_not_intro c1)] | skip); (first | rw [if_pos c2] | rw [if_neg c2] | rw [if_neg (not_not_intro c2)] | skip); (first | rw [if_neg (by rw [w3]; decide)] | (rw [if_pos w3]) | (rw [if_neg (sw_ne w3 (by decide))]) | skip); (first | rw [if_neg (by rw [w3]; decide)] | (rw [if_pos w3]) | (rw [if_neg (sw_ne w3 (by decide))]) | skip); (first | rw [if_neg (by rw [w3]; decide)] | (rw [if_pos w3]) | (rw [if_neg (sw_ne w3 (by decide))]) | skip); (first | rw [if_neg (by rw [w3]; decide)] | (rw [if_pos w3]) | (rw [if_neg (sw_ne w3 (by decide))]) | skip); (first | rw [if_neg (by rw [w3]; decide)] | (rw [if_pos w3]) | (rw [if_neg (sw_ne w3 (by decide))]) | skip); (first | rw [if_neg (by rw [w3]; decide)] | (rw [if_pos w3]) | (rw [if_neg (sw_ne w3 (by decide))]) | skip); (first | rw [if_neg (by rw [w3]; decide)] | (rw [if_pos w3]) | (rw [if_neg (sw_ne w3 (by decide))]) | skip); (first | rw [if_neg (by rw [w3]; decide)] | (rw [if_pos w3]) | (rw [if_neg (sw_ne w3 (by decide))]) | skip); (try simp only [nI_clamp d9_b]); (try simp only [nI_clamp d9_b]); (first | done | rfl)); rw [e9]; exact ⟨rfl, rfl⟩) dX11_about_144
      · refine lv_tableIn (tgt := 145) hx hb dX11_about_25 (by rw [w3]; decide) (by rw [w3]; decide) (off := 120) (by rw [w3]; rfl) (by decide) ?_
        refine lv_aload_n hx hb dX11_about_145 rfl (lv_at hl 0 rfl) ?_
        refine g_get C B (0) (by decide) mE_0 rfl gf_11 23 (by decide) wl_750 (v := .ref (α 23)) mF_23 dX11_about_146 ?_
        refine lv_iload_n hx hb dX11_about_149 rfl (lv_at hl 1 rfl) ?_
        refine g_lald C B (23) (by decide) (f := S.2.2.2 23) mE_23 (vp_in_nI (by omega) (by omega)) (j := d9) (nI_clamp (by omega)) dX11_about_150 ?_
        exact ge_wl C B hr hlk (by have e9 : sp_about S (nI d9) w = ((S.2.2.2 23 d9), S) := (by unfold sp_about; (first | rw [if_pos c1] | rw [if_neg c1] | rw [if_neg (not_not_intro c1)] | skip); (first | rw [if_pos c2] | rw [if_neg c2] | rw [if_neg (not_not_intro c2)] | skip); (first | rw [if_neg (by rw [w3]; decide)] | (rw [if_pos w3]) | (rw [if_neg (sw_ne w3 (by decide))]) | skip); (first | rw [if_neg (by rw [w3]; decide)] | (rw [if_pos w3]) | (rw [if_neg (sw_ne w3 (by decide))]) | skip); (first | rw [if_neg (by rw [w3]; decide)] | (rw [if_pos w3]) | (rw [if_neg (sw_ne w3 (by decide))]) | skip); (first | rw [if_neg (by rw [w3]; decide)] | (rw [if_pos w3]) | (rw [if_neg (sw_ne w3 (by decide))]) | skip); (first | rw [if_neg (by rw [w3]; decide)] | (rw [if_pos w3]) | (rw [if_neg (sw_ne w3 (by decide))]) | skip); (first | rw [if_neg (by rw [w3]; decide)] | (rw [if_pos w3]) | (rw [if_neg (sw_ne w3 (by decide))]) | skip); (first | rw [if_neg (by rw [w3]; decide)] | (rw [if_pos w3]) | (rw [if_neg (sw_ne w3 (by decide))]) | skip); (first | rw [if_neg (by rw [w3]; decide)] | (rw [if_pos w3]) | (rw [if_neg (sw_ne w3 (by decide))]) | skip); (try simp only [nI_clamp d9_b]); (try simp only [nI_clamp d9_b]); (first | done | rfl)); rw [e9]; exact ⟨rfl, rfl⟩) dX11_about_151
      · refine lv_tableOut (tgt := 152) hx hb dX11_about_25 w3 (by decide) ?_
        refine lv_aload_n hx hb dX11_about_152 rfl (lv_at hl 0 rfl) ?_
        refine g_get C B (0) (by decide) mE_0 rfl gf_11 24 (by decide) wl_751 (v := .ref (α 24)) mF_24 dX11_about_153 ?_
        refine lv_iload_n hx hb dX11_about_156 rfl (lv_at hl 1 rfl) ?_
        refine g_zald C B (24) (by decide) (f := S.2.2.1 24) mE_24 (vp_in_nI (by omega) (by omega)) (j := d9) (nI_clamp (by omega)) dX11_about_157 ?_
        refine lv_if_eq (tgt := 165) hx hb dX11_about_158 (by decide) (fun c5 => ?_) (fun c5 => ?_)
        · refine lv_lconst (v := 0) hx hb dX11_about_165 (by decide) ?_
          exact ge_wl C B hr hlk (by have e9 : sp_about S (nI d9) w = (0, S) := (by unfold sp_about; (first | rw [if_pos c1] | rw [if_neg c1] | rw [if_neg (not_not_intro c1)] | skip); (first | rw [if_pos c2] | rw [if_neg c2] | rw [if_neg (not_not_intro c2)] | skip); (first | rw [if_neg (by rw [w3]; decide)] | (rw [if_pos w3]) | (rw [if_neg (sw_ne w3 (by decide))]) | skip); (first | rw [if_neg (by rw [w3]; decide)] | (rw [if_pos w3]) | (rw [if_neg (sw_ne w3 (by decide))]) | skip); (first | rw [if_neg (by rw [w3]; decide)] | (rw [if_pos w3]) | (rw [if_neg (sw_ne w3 (by decide))]) | skip); (first | rw [if_neg (by rw [w3]; decide)] | (rw [if_pos w3]) | (rw [if_neg (sw_ne w3 (by decide))]) | skip); (first | rw [if_neg (by rw [w3]; decide)] | (rw [if_pos w3]) | (rw [if_neg (sw_ne w3 (by decide))]) | skip); (first | rw [if_neg (by rw [w3]; decide)] | (rw [if_pos w3]) | (rw [if_neg (sw_ne w3 (by decide))]) | skip); (first | rw [if_neg (by rw [w3]; decide)] | (rw [if_pos w3]) | (rw [if_neg (sw_ne w3 (by decide))]) | skip); (first | rw [if_neg (by rw [w3]; decide)] | (rw [if_pos w3]) | (rw [if_neg (sw_ne w3 (by decide))]) | skip); (try simp only [nI_clamp d9_b]); (first | rw [if_pos c5] | rw [if_neg c5] | rw [if_neg (not_not_intro c5)] | skip); (try simp only [nI_clamp d9_b]); (first | done | rfl)); rw [e9]; exact ⟨rfl, rfl⟩) dX11_about_166
        · refine lv_lconst (v := 1) hx hb dX11_about_161 (by decide) ?_
          refine lv_goto (tgt := 166) hx hb dX11_about_162 (by decide) ?_
          exact ge_wl C B hr hlk (by have e9 : sp_about S (nI d9) w = (1, S) := (by unfold sp_about; (first | rw [if_pos c1] | rw [if_neg c1] | rw [if_neg (not_not_intro c1)] | skip); (first | rw [if_pos c2] | rw [if_neg c2] | rw [if_neg (not_not_intro c2)] | skip); (first | rw [if_neg (by rw [w3]; decide)] | (rw [if_pos w3]) | (rw [if_neg (sw_ne w3 (by decide))]) | skip); (first | rw [if_neg (by rw [w3]; decide)] | (rw [if_pos w3]) | (rw [if_neg (sw_ne w3 (by decide))]) | skip); (first | rw [if_neg (by rw [w3]; decide)] | (rw [if_pos w3]) | (rw [if_neg (sw_ne w3 (by decide))]) | skip); (first | rw [if_neg (by rw [w3]; decide)] | (rw [if_pos w3]) | (rw [if_neg (sw_ne w3 (by decide))]) | skip); (first | rw [if_neg (by rw [w3]; decide)] | (rw [if_pos w3]) | (rw [if_neg (sw_ne w3 (by decide))]) | skip); (first | rw [if_neg (by rw [w3]; decide)] | (rw [if_pos w3]) | (rw [if_neg (sw_ne w3 (by decide))]) | skip); (first | rw [if_neg (by rw [w3]; decide)] | (rw [if_pos w3]) | (rw [if_neg (sw_ne w3 (by decide))]) | skip); (first | rw [if_neg (by rw [w3]; decide)] | (rw [if_pos w3]) | (rw [if_neg (sw_ne w3 (by decide))]) | skip); (try simp only [nI_clamp d9_b]); (first | rw [if_pos c5] | rw [if_neg c5] | rw [if_neg (not_not_intro c5)] | skip); (try simp only [nI_clamp d9_b]); (first | done | rfl)); rw [e9]; exact ⟨rfl, rfl⟩) dX11_about_166
    · refine lv_if_ne (tgt := 24) hx hb dX11_about_15 (by decide) (fun hc => absurd (by decide) hc) (fun _ => ?_)
      refine lv_aload_n hx hb dX11_about_18 rfl (lv_at hl 0 rfl) ?_
      refine lv_iconst (v := 1) hx hb dX11_about_19 (by decide) ?_
      refine gc_wl B (gr_V C B (k := 0) (As := [.int 1]) (rest := []) (c_X11_no l D G τ α S _ 1 (vp_d (by decide))) (by decide) mE_0 rfl wl_865 wl_867 wl_14 wl_40 wl_868 (na := 1) (by decide +kernel) rfl ⟨Nat.le_of_ble_eq_true rfl, Nat.le_of_ble_eq_true rfl⟩ ⟨Nat.le_of_ble_eq_true rfl, Nat.le_of_ble_eq_true rfl⟩ hl.1 rfl (Nat.le_of_ble_eq_true rfl) dX11_about_20) (fun r u h H locs B => ?_)
      obtain ⟨rfl, rfl⟩ := h
      have B : gB D G τ (gA α Lm sz) s H locs α (mE G α (sNo S 1).2) Lm := B
      exact ge_wl C B hr hlk (by have e9 : sp_about S (nI d9) w = ((sNo S 1).1, (sNo S 1).2) := (by unfold sp_about; (first | rw [if_pos c1] | rw [if_neg c1] | rw [if_neg (not_not_intro c1)] | skip); (first | rw [if_pos c2] | rw [if_neg c2] | rw [if_neg (not_not_intro c2)] | skip); (try simp only [nI_clamp d9_b]); (try simp only [nI_clamp d9_b]); (first | done | rfl)); rw [e9]; exact ⟨rfl, rfl⟩) dX11_about_23
  · refine lv_if_eq (tgt := 18) hx hb dX11_about_5 (by decide) (fun _ => ?_) (fun hc => absurd (by decide) hc)
    refine lv_aload_n hx hb dX11_about_18 rfl (lv_at hl 0 rfl) ?_
    refine lv_iconst (v := 1) hx hb dX11_about_19 (by decide) ?_
    refine gc_wl B (gr_V C B (k := 0) (As := [.int 1]) (rest := []) (c_X11_no l D G τ α S _ 1 (vp_d (by decide))) (by decide) mE_0 rfl wl_865 wl_867 wl_14 wl_40 wl_868 (na := 1) (by decide +kernel) rfl ⟨Nat.le_of_ble_eq_true rfl, Nat.le_of_ble_eq_true rfl⟩ ⟨Nat.le_of_ble_eq_true rfl, Nat.le_of_ble_eq_true rfl⟩ hl.1 rfl (Nat.le_of_ble_eq_true rfl) dX11_about_20) (fun r u h H locs B => ?_)
    obtain ⟨rfl, rfl⟩ := h
    have B : gB D G τ (gA α Lm sz) s H locs α (mE G α (sNo S 1).2) Lm := B
    exact ge_wl C B hr hlk (by have e9 : sp_about S d w = ((sNo S 1).1, (sNo S 1).2) := (by unfold sp_about; (first | rw [if_pos c1] | rw [if_neg c1] | rw [if_neg (not_not_intro c1)] | skip); (try simp only [nI_clamp d9_b]); (first | done | rfl)); rw [e9]; exact ⟨rfl, rfl⟩) dX11_about_23
set_option maxHeartbeats 4000000 in
set_option maxRecDepth 100000 in
theorem c_X11_holder (l : Launch) (D : va_G) (G : Nat → ClassId) (τ α : Nat → Nat) (S : St) (sz : Nat) (d mo : Int32) (hN : okN S) (hP : okP S) : Wl l D G τ yX11_holder cX11_holder 4 (some .long) 2 0 0 [.ref (α 0), .int d, .int mo] α (mE G α S) Lm sz (fun r u => r = (sp_holder S d mo).1 ∧ u = (α, mE G α (sp_holder S d mo).2, Lm)) := by
  refine gM _ (by decide) rfl (Nat.le_of_ble_eq_true rfl) ?_
  intro p e s m below meth c ls C hr hlk hnm hsz B hl
  have hx := C.1
  have hb := C.2.1
  have hl : lv_has ls 4 [(0, .ref (α 0)), (1, .int d), (2, .int mo)] := hl
  refine lv_aload_n hx hb dX11_holder_0 rfl (lv_at hl 0 rfl) ?_
  refine lv_iload_n hx hb dX11_holder_1 rfl (lv_at hl 1 rfl) ?_
  refine gc_b (gr_V C B (k := 0) (As := [.int d]) (rest := []) (c_X11_isDeposit l D G τ α S _ d hN) (by decide) mE_0 rfl wl_953 wl_955 wl_25 wl_40 wl_956 (na := 1) (by decide +kernel) rfl ⟨Nat.le_of_ble_eq_true rfl, Nat.le_of_ble_eq_true rfl⟩ ⟨Nat.le_of_ble_eq_true rfl, Nat.le_of_ble_eq_true rfl⟩ hl.1 rfl (Nat.le_of_ble_eq_true rfl) dX11_holder_2) (fun c1 => ?_) (fun c1 => ?_)
  · obtain ⟨d9, d9_d, rfl⟩ := isD_nat c1
    have d9_c : d9 < 30 := Nat.lt_of_lt_of_le d9_d (nOf_le hN.2.2.2.2.1.1 hN.2.2.2.2.1.2 (by decide))
    have d9_b : d9 < 2 ^ 31 := by omega
    have hs9 : 0 ≤ S.2.2.1 25 d9 ∧ S.2.2.1 25 d9 ≤ 7 := okS_7 (hP d9 d9_d).2.2.2.2.2.2.2.2.2
    refine lv_if_eq (tgt := 15) hx hb dX11_holder_5 (by decide) (fun hc => absurd hc (by decide)) (fun _ => ?_)
    refine lv_iload_n hx hb dX11_holder_8 rfl (lv_at hl 2 rfl) ?_
    refine gc_b (gr_S C B (As := [.int mo]) (rest := []) (c_X11_isMonth l D G τ α _ _ _ mo) wl_911 wl_912 wl_40 wl_913 (na := 1) (by decide +kernel) rfl ⟨Nat.le_of_ble_eq_true rfl, Nat.le_of_ble_eq_true rfl⟩ ⟨Nat.le_of_ble_eq_true rfl, Nat.le_of_ble_eq_true rfl⟩ hl.1 rfl (Nat.le_of_ble_eq_true rfl) dX11_holder_9) (fun c2 => ?_) (fun c2 => ?_)
    · refine lv_if_ne (tgt := 21) hx hb dX11_holder_12 (by decide) (fun _ => ?_) (fun hc => absurd hc (by decide))
      refine lv_aload_n hx hb dX11_holder_21 rfl (lv_at hl 0 rfl) ?_
      refine lv_iload_n hx hb dX11_holder_22 rfl (lv_at hl 1 rfl) ?_
      refine lv_iload_n hx hb dX11_holder_23 rfl (lv_at hl 2 rfl) ?_
      refine gc_i (gr_V C B (k := 0) (As := [.int (nI d9), .int mo]) (rest := []) (c_X11_holderIn l D G τ α S _ d9 mo (by omega) hs9) (by decide) mE_0 rfl wl_903 wl_905 wl_23 wl_40 wl_906 (na := 2) (by decide +kernel) rfl ⟨Nat.le_of_ble_eq_true rfl, Nat.le_of_ble_eq_true rfl⟩ ⟨Nat.le_of_ble_eq_true rfl, Nat.le_of_ble_eq_true rfl⟩ hl.1 rfl (Nat.le_of_ble_eq_true rfl) dX11_holder_24) (fun r h => ?_)
      subst h
      refine lv_istore_n (lv' := [(3, .int (sHold S d9 mo)), (0, .ref (α 0)), (1, .int (nI d9)), (2, .int mo)]) hx hb dX11_holder_27 rfl hl (by decide) rfl (fun ls hl => ?_)
      refine lv_iload_n hx hb dX11_holder_28 rfl (lv_at hl 0 rfl) ?_
      refine lv_if_ge (tgt := 40) hx hb dX11_holder_29 (by decide) (fun c3 => ?_) (fun c3 => ?_)
      · refine lv_iload_n hx hb dX11_holder_40 rfl (lv_at hl 0 rfl) ?_
        refine lv_i2l (v := (sHold S d9 mo).toInt64) hx hb dX11_holder_41 rfl ?_
        exact ge_wl C B hr hlk (by have e9 : sp_holder S (nI d9) mo = ((sHold S d9 mo).toInt64, S) := (by unfold sp_holder; (try simp only [nI_clamp d9_b]); (first | rw [if_pos c1] | rw [if_neg c1] | rw [if_neg (not_not_intro c1)] | skip); (try simp only [nI_clamp d9_b]); (first | rw [if_pos c2] | rw [if_neg c2] | rw [if_neg (not_not_intro c2)] | skip); (try simp only [nI_clamp d9_b]); (first | rw [if_pos c3] | rw [if_neg c3] | rw [if_neg (not_not_intro c3)] | skip); (try simp only [nI_clamp d9_b]); (first | done | rfl)); rw [e9]; exact ⟨rfl, rfl⟩) dX11_holder_42
      · refine lv_aload_n hx hb dX11_holder_32 rfl (lv_at hl 1 rfl) ?_
        refine lv_iconst (v := 2) hx hb dX11_holder_33 (by decide) ?_
        refine gc_wl B (gr_V C B (k := 0) (As := [.int 2]) (rest := []) (c_X11_no l D G τ α S _ 2 (vp_d (by decide))) (by decide) mE_0 rfl wl_865 wl_867 wl_14 wl_40 wl_868 (na := 1) (by decide +kernel) rfl ⟨Nat.le_of_ble_eq_true rfl, Nat.le_of_ble_eq_true rfl⟩ ⟨Nat.le_of_ble_eq_true rfl, Nat.le_of_ble_eq_true rfl⟩ hl.1 rfl (Nat.le_of_ble_eq_true rfl) dX11_holder_34) (fun r u h H locs B => ?_)
        obtain ⟨rfl, rfl⟩ := h
        have B : gB D G τ (gA α Lm sz) s H locs α (mE G α (sNo S 2).2) Lm := B
        refine lv_goto (tgt := 42) hx hb dX11_holder_37 (by decide) ?_
        exact ge_wl C B hr hlk (by have e9 : sp_holder S (nI d9) mo = ((sNo S 2).1, (sNo S 2).2) := (by unfold sp_holder; (try simp only [nI_clamp d9_b]); (first | rw [if_pos c1] | rw [if_neg c1] | rw [if_neg (not_not_intro c1)] | skip); (try simp only [nI_clamp d9_b]); (first | rw [if_pos c2] | rw [if_neg c2] | rw [if_neg (not_not_intro c2)] | skip); (try simp only [nI_clamp d9_b]); (first | rw [if_pos c3] | rw [if_neg c3] | rw [if_neg (not_not_intro c3)] | skip); (try simp only [nI_clamp d9_b]); (first | done | rfl)); rw [e9]; exact ⟨rfl, rfl⟩) dX11_holder_42
    · refine lv_if_ne (tgt := 21) hx hb dX11_holder_12 (by decide) (fun hc => absurd (by decide) hc) (fun _ => ?_)
      refine lv_aload_n hx hb dX11_holder_15 rfl (lv_at hl 0 rfl) ?_
      refine lv_iconst (v := 1) hx hb dX11_holder_16 (by decide) ?_
      refine gc_wl B (gr_V C B (k := 0) (As := [.int 1]) (rest := []) (c_X11_no l D G τ α S _ 1 (vp_d (by decide))) (by decide) mE_0 rfl wl_865 wl_867 wl_14 wl_40 wl_868 (na := 1) (by decide +kernel) rfl ⟨Nat.le_of_ble_eq_true rfl, Nat.le_of_ble_eq_true rfl⟩ ⟨Nat.le_of_ble_eq_true rfl, Nat.le_of_ble_eq_true rfl⟩ hl.1 rfl (Nat.le_of_ble_eq_true rfl) dX11_holder_17) (fun r u h H locs B => ?_)
      obtain ⟨rfl, rfl⟩ := h
      have B : gB D G τ (gA α Lm sz) s H locs α (mE G α (sNo S 1).2) Lm := B
      exact ge_wl C B hr hlk (by have e9 : sp_holder S (nI d9) mo = ((sNo S 1).1, (sNo S 1).2) := (by unfold sp_holder; (try simp only [nI_clamp d9_b]); (first | rw [if_pos c1] | rw [if_neg c1] | rw [if_neg (not_not_intro c1)] | skip); (try simp only [nI_clamp d9_b]); (first | rw [if_pos c2] | rw [if_neg c2] | rw [if_neg (not_not_intro c2)] | skip); (try simp only [nI_clamp d9_b]); (first | done | rfl)); rw [e9]; exact ⟨rfl, rfl⟩) dX11_holder_20
  · refine lv_if_eq (tgt := 15) hx hb dX11_holder_5 (by decide) (fun _ => ?_) (fun hc => absurd (by decide) hc)
    refine lv_aload_n hx hb dX11_holder_15 rfl (lv_at hl 0 rfl) ?_
    refine lv_iconst (v := 1) hx hb dX11_holder_16 (by decide) ?_
    refine gc_wl B (gr_V C B (k := 0) (As := [.int 1]) (rest := []) (c_X11_no l D G τ α S _ 1 (vp_d (by decide))) (by decide) mE_0 rfl wl_865 wl_867 wl_14 wl_40 wl_868 (na := 1) (by decide +kernel) rfl ⟨Nat.le_of_ble_eq_true rfl, Nat.le_of_ble_eq_true rfl⟩ ⟨Nat.le_of_ble_eq_true rfl, Nat.le_of_ble_eq_true rfl⟩ hl.1 rfl (Nat.le_of_ble_eq_true rfl) dX11_holder_17) (fun r u h H locs B => ?_)
    obtain ⟨rfl, rfl⟩ := h
    have B : gB D G τ (gA α Lm sz) s H locs α (mE G α (sNo S 1).2) Lm := B
    exact ge_wl C B hr hlk (by have e9 : sp_holder S d mo = ((sNo S 1).1, (sNo S 1).2) := (by unfold sp_holder; (first | rw [if_pos c1] | rw [if_neg c1] | rw [if_neg (not_not_intro c1)] | skip); (first | done | rfl)); rw [e9]; exact ⟨rfl, rfl⟩) dX11_holder_20
set_option maxHeartbeats 4000000 in
set_option maxRecDepth 100000 in
theorem c_X11_due (l : Launch) (D : va_G) (G : Nat → ClassId) (τ α : Nat → Nat) (S : St) (sz : Nat) (d k w : Int32) (hN : okN S) (hD : okD S) (hP : okP S) : Wl l D G τ yX11_due cX11_due 5 (some .long) 3 0 0 [.ref (α 0), .int d, .int k, .int w] α (mE G α S) Lm sz (fun r u => r = (sp_due S d k w).1 ∧ u = (α, mE G α (sp_due S d k w).2, Lm)) := by
  refine gM _ (by decide) rfl (Nat.le_of_ble_eq_true rfl) ?_
  intro p e s m below meth c ls C hr hlk hnm hsz B hl
  have hx := C.1
  have hb := C.2.1
  have hl : lv_has ls 5 [(0, .ref (α 0)), (1, .int d), (2, .int k), (3, .int w)] := hl
  refine lv_aload_n hx hb dX11_due_0 rfl (lv_at hl 0 rfl) ?_
  refine lv_iload_n hx hb dX11_due_1 rfl (lv_at hl 1 rfl) ?_
  refine gc_b (gr_V C B (k := 0) (As := [.int d]) (rest := []) (c_X11_isDeposit l D G τ α S _ d hN) (by decide) mE_0 rfl wl_953 wl_955 wl_25 wl_40 wl_956 (na := 1) (by decide +kernel) rfl ⟨Nat.le_of_ble_eq_true rfl, Nat.le_of_ble_eq_true rfl⟩ ⟨Nat.le_of_ble_eq_true rfl, Nat.le_of_ble_eq_true rfl⟩ hl.1 rfl (Nat.le_of_ble_eq_true rfl) dX11_due_2) (fun c1 => ?_) (fun c1 => ?_)
  · obtain ⟨d9, d9_d, rfl⟩ := isD_nat c1
    have d9_c : d9 < 30 := Nat.lt_of_lt_of_le d9_d (nOf_le hN.2.2.2.2.1.1 hN.2.2.2.2.1.2 (by decide))
    have d9_b : d9 < 2 ^ 31 := by omega
    have hs9 : 0 ≤ S.2.2.1 25 d9 ∧ S.2.2.1 25 d9 ≤ 7 := okS_7 (hP d9 d9_d).2.2.2.2.2.2.2.2.2
    refine lv_if_eq (tgt := 24) hx hb dX11_due_5 (by decide) (fun hc => absurd hc (by decide)) (fun _ => ?_)
    refine lv_iload_n hx hb dX11_due_8 rfl (lv_at hl 2 rfl) ?_
    refine gc_b (gr_S C B (As := [.int k]) (rest := []) (c_X11_isMonth l D G τ α _ _ _ k) wl_911 wl_912 wl_40 wl_913 (na := 1) (by decide +kernel) rfl ⟨Nat.le_of_ble_eq_true rfl, Nat.le_of_ble_eq_true rfl⟩ ⟨Nat.le_of_ble_eq_true rfl, Nat.le_of_ble_eq_true rfl⟩ hl.1 rfl (Nat.le_of_ble_eq_true rfl) dX11_due_9) (fun c2 => ?_) (fun c2 => ?_)
    · refine lv_if_eq (tgt := 24) hx hb dX11_due_12 (by decide) (fun hc => absurd hc (by decide)) (fun _ => ?_)
      refine lv_iload_n hx hb dX11_due_15 rfl (lv_at hl 3 rfl) ?_
      refine lv_iconst (v := 0) hx hb dX11_due_16 (by decide) ?_
      refine lv_iconst (v := 3) hx hb dX11_due_17 (by decide) ?_
      refine gc_b (gr_S C B (As := [.int w, .int 0, .int 3]) (rest := []) (c_X11_in l D G τ α _ _ _ w 0 3) wl_862 wl_863 wl_40 wl_864 (na := 3) (by decide +kernel) rfl ⟨Nat.le_of_ble_eq_true rfl, Nat.le_of_ble_eq_true rfl⟩ ⟨Nat.le_of_ble_eq_true rfl, Nat.le_of_ble_eq_true rfl⟩ hl.1 rfl (Nat.le_of_ble_eq_true rfl) dX11_due_18) (fun c3 => ?_) (fun c3 => ?_)
      · refine lv_if_ne (tgt := 30) hx hb dX11_due_21 (by decide) (fun _ => ?_) (fun hc => absurd hc (by decide))
        refine lv_aload_n hx hb dX11_due_30 rfl (lv_at hl 0 rfl) ?_
        refine lv_iload_n hx hb dX11_due_31 rfl (lv_at hl 1 rfl) ?_
        refine lv_iload_n hx hb dX11_due_32 rfl (lv_at hl 2 rfl) ?_
        refine gc_o (oI := oI) (gr_V C B (k := 0) (As := [.int (nI d9), .int k]) (rest := []) (c_X11_fallOf l D G τ α S _ d9 k (by omega) hN hP) (by decide) mE_0 rfl wl_874 wl_876 wl_16 wl_40 wl_877 (na := 2) (by decide +kernel) rfl ⟨Nat.le_of_ble_eq_true rfl, Nat.le_of_ble_eq_true rfl⟩ ⟨Nat.le_of_ble_eq_true rfl, Nat.le_of_ble_eq_true rfl⟩ hl.1 rfl (Nat.le_of_ble_eq_true rfl) dX11_due_33) (fun o4 => ?_) (fun f5 o4 => ?_)
        · refine lv_istore (lv' := [(4, .int (-1)), (0, .ref (α 0)), (1, .int (nI d9)), (2, .int k), (3, .int w)]) hx hb dX11_due_36 hl (by decide) rfl (fun ls hl => ?_)
          refine lv_iload hx hb dX11_due_38 (lv_at hl 0 rfl) ?_
          refine lv_if_ge (tgt := 49) hx hb dX11_due_40 (by decide) (fun hc => absurd hc (by decide)) (fun _ => ?_)
          refine lv_aload_n hx hb dX11_due_43 rfl (lv_at hl 1 rfl) ?_
          refine lv_iconst (v := 2) hx hb dX11_due_44 (by decide) ?_
          refine gc_wl B (gr_V C B (k := 0) (As := [.int 2]) (rest := []) (c_X11_no l D G τ α S _ 2 (vp_d (by decide))) (by decide) mE_0 rfl wl_865 wl_867 wl_14 wl_40 wl_868 (na := 1) (by decide +kernel) rfl ⟨Nat.le_of_ble_eq_true rfl, Nat.le_of_ble_eq_true rfl⟩ ⟨Nat.le_of_ble_eq_true rfl, Nat.le_of_ble_eq_true rfl⟩ hl.1 rfl (Nat.le_of_ble_eq_true rfl) dX11_due_45) (fun r u h H locs B => ?_)
          obtain ⟨rfl, rfl⟩ := h
          have B : gB D G τ (gA α Lm sz) s H locs α (mE G α (sNo S 2).2) Lm := B
          exact ge_wl C B hr hlk (by have e9 : sp_due S (nI d9) k w = ((sNo S 2).1, (sNo S 2).2) := (by unfold sp_due; (first | rw [if_pos c1] | rw [if_neg c1] | rw [if_neg (not_not_intro c1)] | skip); (first | rw [if_pos c2] | rw [if_neg c2] | rw [if_neg (not_not_intro c2)] | skip); (first | rw [if_pos c3] | rw [if_neg c3] | rw [if_neg (not_not_intro c3)] | skip); (try simp only [nI_clamp d9_b]); (first | rw [o4] | skip); (try dsimp only); (try simp only [nI_clamp d9_b]); (first | done | rfl)); rw [e9]; exact ⟨rfl, rfl⟩) dX11_due_48
        · have f5_b : f5 < 90 := Nat.lt_of_lt_of_le (sFall_lt o4).1 (nOf_le hN.2.2.2.1.1 hN.2.2.2.1.2 (by decide))
          refine lv_istore (lv' := [(4, .int (nI f5)), (0, .ref (α 0)), (1, .int (nI d9)), (2, .int k), (3, .int w)]) hx hb dX11_due_36 hl (by decide) rfl (fun ls hl => ?_)
          refine lv_iload hx hb dX11_due_38 (lv_at hl 0 rfl) ?_
          refine lv_if_ge (tgt := 49) hx hb dX11_due_40 (by decide) (fun _ => ?_) (fun hc => absurd (nI_pos' (by omega)) hc)
          refine lv_iload_n hx hb dX11_due_49 rfl (lv_at hl 4 rfl) ?_
          refine lv_if_ne (tgt := 64) hx hb dX11_due_50 (by decide) (fun c6 => ?_) (fun c6 => ?_)
          · refine lv_iload_n hx hb dX11_due_64 rfl (lv_at hl 4 rfl) ?_
            refine lv_iconst (v := 1) hx hb dX11_due_65 (by decide) ?_
            refine lv_icmp_ne (tgt := 80) hx hb dX11_due_66 (by decide) (fun c7 => ?_) (fun c7 => ?_)
            · refine lv_iload_n hx hb dX11_due_80 rfl (lv_at hl 4 rfl) ?_
              refine lv_iconst (v := 2) hx hb dX11_due_81 (by decide) ?_
              refine lv_icmp_ne (tgt := 96) hx hb dX11_due_82 (by decide) (fun c8 => ?_) (fun c8 => ?_)
              · refine lv_aload_n hx hb dX11_due_96 rfl (lv_at hl 1 rfl) ?_
                refine g_get C B (0) (by decide) mE_0 rfl gf_11 12 (by decide) wl_739 (v := .ref (α 12)) mF_12 dX11_due_97 ?_
                refine lv_iload hx hb dX11_due_100 (lv_at hl 0 rfl) ?_
                refine g_iald C B (12) (by decide) (f := S.2.2.1 12) mE_12 (vp_in_nI (by omega) (by omega)) (j := f5) (nI_clamp (by omega)) dX11_due_102 ?_
                refine lv_i2l (v := (S.2.2.1 12 f5).toInt64) hx hb dX11_due_103 rfl ?_
                exact ge_wl C B hr hlk (by have e9 : sp_due S (nI d9) k w = ((S.2.2.1 12 f5).toInt64, S) := (by unfold sp_due; (first | rw [if_pos c1] | rw [if_neg c1] | rw [if_neg (not_not_intro c1)] | skip); (first | rw [if_pos c2] | rw [if_neg c2] | rw [if_neg (not_not_intro c2)] | skip); (first | rw [if_pos c3] | rw [if_neg c3] | rw [if_neg (not_not_intro c3)] | skip); (try simp only [nI_clamp d9_b]); (first | rw [o4] | skip); (try dsimp only); (first | rw [if_pos c6] | rw [if_neg c6] | rw [if_neg (not_not_intro c6)] | skip); (first | rw [if_pos c7] | rw [if_neg c7] | rw [if_neg (not_not_intro c7)] | skip); (first | rw [if_pos c8] | rw [if_neg c8] | rw [if_neg (not_not_intro c8)] | skip); (try simp only [nI_clamp d9_b]); (first | done | rfl)); rw [e9]; exact ⟨rfl, rfl⟩) dX11_due_104
              · refine lv_aload_n hx hb dX11_due_85 rfl (lv_at hl 1 rfl) ?_
                refine lv_iload_n hx hb dX11_due_86 rfl (lv_at hl 2 rfl) ?_
                refine lv_iload hx hb dX11_due_87 (lv_at hl 0 rfl) ?_
                refine lv_iload_n hx hb dX11_due_89 rfl (lv_at hl 3 rfl) ?_
                refine gc_l (gr_V C B (k := 0) (As := [.int (nI d9), .int (nI f5), .int k]) (rest := []) (c_X11_dueOf l D G τ α S _ d9 f5 k (by omega) (by omega) hN hD) (by decide) mE_0 rfl wl_894 wl_896 wl_21 wl_40 wl_897 (na := 3) (by decide +kernel) rfl ⟨Nat.le_of_ble_eq_true rfl, Nat.le_of_ble_eq_true rfl⟩ ⟨Nat.le_of_ble_eq_true rfl, Nat.le_of_ble_eq_true rfl⟩ hl.1 rfl (Nat.le_of_ble_eq_true rfl) dX11_due_90) (fun r h => ?_)
                subst h
                refine lv_goto (tgt := 104) hx hb dX11_due_93 (by decide) ?_
                exact ge_wl C B hr hlk (by have e9 : sp_due S (nI d9) k w = ((sDue S d9 f5 k), S) := (by unfold sp_due; (first | rw [if_pos c1] | rw [if_neg c1] | rw [if_neg (not_not_intro c1)] | skip); (first | rw [if_pos c2] | rw [if_neg c2] | rw [if_neg (not_not_intro c2)] | skip); (first | rw [if_pos c3] | rw [if_neg c3] | rw [if_neg (not_not_intro c3)] | skip); (try simp only [nI_clamp d9_b]); (first | rw [o4] | skip); (try dsimp only); (first | rw [if_pos c6] | rw [if_neg c6] | rw [if_neg (not_not_intro c6)] | skip); (first | rw [if_pos c7] | rw [if_neg c7] | rw [if_neg (not_not_intro c7)] | skip); (first | rw [if_pos c8] | rw [if_neg c8] | rw [if_neg (not_not_intro c8)] | skip); (try simp only [nI_clamp d9_b]); (first | done | rfl)); rw [e9]; exact ⟨rfl, rfl⟩) dX11_due_104
            · refine lv_aload_n hx hb dX11_due_69 rfl (lv_at hl 1 rfl) ?_
              refine lv_iload hx hb dX11_due_70 (lv_at hl 0 rfl) ?_
              refine lv_iload_n hx hb dX11_due_72 rfl (lv_at hl 3 rfl) ?_
              refine gc_i (gr_V C B (k := 0) (As := [.int (nI f5), .int k]) (rest := []) (c_X11_dueMonth l D G τ α S _ f5 k (by omega) hN hD) (by decide) mE_0 rfl wl_886 wl_888 wl_19 wl_40 wl_889 (na := 2) (by decide +kernel) rfl ⟨Nat.le_of_ble_eq_true rfl, Nat.le_of_ble_eq_true rfl⟩ ⟨Nat.le_of_ble_eq_true rfl, Nat.le_of_ble_eq_true rfl⟩ hl.1 rfl (Nat.le_of_ble_eq_true rfl) dX11_due_73) (fun r h => ?_)
              subst h
              refine lv_i2l (v := (sDueM S f5 k).toInt64) hx hb dX11_due_76 rfl ?_
              refine lv_goto (tgt := 104) hx hb dX11_due_77 (by decide) ?_
              exact ge_wl C B hr hlk (by have e9 : sp_due S (nI d9) k w = ((sDueM S f5 k).toInt64, S) := (by unfold sp_due; (first | rw [if_pos c1] | rw [if_neg c1] | rw [if_neg (not_not_intro c1)] | skip); (first | rw [if_pos c2] | rw [if_neg c2] | rw [if_neg (not_not_intro c2)] | skip); (first | rw [if_pos c3] | rw [if_neg c3] | rw [if_neg (not_not_intro c3)] | skip); (try simp only [nI_clamp d9_b]); (first | rw [o4] | skip); (try dsimp only); (first | rw [if_pos c6] | rw [if_neg c6] | rw [if_neg (not_not_intro c6)] | skip); (first | rw [if_pos c7] | rw [if_neg c7] | rw [if_neg (not_not_intro c7)] | skip); (try simp only [nI_clamp d9_b]); (first | done | rfl)); rw [e9]; exact ⟨rfl, rfl⟩) dX11_due_104
          · refine lv_aload_n hx hb dX11_due_53 rfl (lv_at hl 1 rfl) ?_
            refine g_get C B (0) (by decide) mE_0 rfl gf_11 13 (by decide) wl_740 (v := .ref (α 13)) mF_13 dX11_due_54 ?_
            refine lv_iload hx hb dX11_due_57 (lv_at hl 0 rfl) ?_
            refine g_iald C B (13) (by decide) (f := S.2.2.1 13) mE_13 (vp_in_nI (by omega) (by omega)) (j := f5) (nI_clamp (by omega)) dX11_due_59 ?_
            refine lv_i2l (v := (S.2.2.1 13 f5).toInt64) hx hb dX11_due_60 rfl ?_
            refine lv_goto (tgt := 104) hx hb dX11_due_61 (by decide) ?_
            exact ge_wl C B hr hlk (by have e9 : sp_due S (nI d9) k w = ((S.2.2.1 13 f5).toInt64, S) := (by unfold sp_due; (first | rw [if_pos c1] | rw [if_neg c1] | rw [if_neg (not_not_intro c1)] | skip); (first | rw [if_pos c2] | rw [if_neg c2] | rw [if_neg (not_not_intro c2)] | skip); (first | rw [if_pos c3] | rw [if_neg c3] | rw [if_neg (not_not_intro c3)] | skip); (try simp only [nI_clamp d9_b]); (first | rw [o4] | skip); (try dsimp only); (first | rw [if_pos c6] | rw [if_neg c6] | rw [if_neg (not_not_intro c6)] | skip); (try simp only [nI_clamp d9_b]); (first | done | rfl)); rw [e9]; exact ⟨rfl, rfl⟩) dX11_due_104
      · refine lv_if_ne (tgt := 30) hx hb dX11_due_21 (by decide) (fun hc => absurd (by decide) hc) (fun _ => ?_)
        refine lv_aload_n hx hb dX11_due_24 rfl (lv_at hl 0 rfl) ?_
        refine lv_iconst (v := 1) hx hb dX11_due_25 (by decide) ?_
        refine gc_wl B (gr_V C B (k := 0) (As := [.int 1]) (rest := []) (c_X11_no l D G τ α S _ 1 (vp_d (by decide))) (by decide) mE_0 rfl wl_865 wl_867 wl_14 wl_40 wl_868 (na := 1) (by decide +kernel) rfl ⟨Nat.le_of_ble_eq_true rfl, Nat.le_of_ble_eq_true rfl⟩ ⟨Nat.le_of_ble_eq_true rfl, Nat.le_of_ble_eq_true rfl⟩ hl.1 rfl (Nat.le_of_ble_eq_true rfl) dX11_due_26) (fun r u h H locs B => ?_)
        obtain ⟨rfl, rfl⟩ := h
        have B : gB D G τ (gA α Lm sz) s H locs α (mE G α (sNo S 1).2) Lm := B
        exact ge_wl C B hr hlk (by have e9 : sp_due S (nI d9) k w = ((sNo S 1).1, (sNo S 1).2) := (by unfold sp_due; (first | rw [if_pos c1] | rw [if_neg c1] | rw [if_neg (not_not_intro c1)] | skip); (first | rw [if_pos c2] | rw [if_neg c2] | rw [if_neg (not_not_intro c2)] | skip); (first | rw [if_pos c3] | rw [if_neg c3] | rw [if_neg (not_not_intro c3)] | skip); (try simp only [nI_clamp d9_b]); (try simp only [nI_clamp d9_b]); (first | done | rfl)); rw [e9]; exact ⟨rfl, rfl⟩) dX11_due_29
    · refine lv_if_eq (tgt := 24) hx hb dX11_due_12 (by decide) (fun _ => ?_) (fun hc => absurd (by decide) hc)
      refine lv_aload_n hx hb dX11_due_24 rfl (lv_at hl 0 rfl) ?_
      refine lv_iconst (v := 1) hx hb dX11_due_25 (by decide) ?_
      refine gc_wl B (gr_V C B (k := 0) (As := [.int 1]) (rest := []) (c_X11_no l D G τ α S _ 1 (vp_d (by decide))) (by decide) mE_0 rfl wl_865 wl_867 wl_14 wl_40 wl_868 (na := 1) (by decide +kernel) rfl ⟨Nat.le_of_ble_eq_true rfl, Nat.le_of_ble_eq_true rfl⟩ ⟨Nat.le_of_ble_eq_true rfl, Nat.le_of_ble_eq_true rfl⟩ hl.1 rfl (Nat.le_of_ble_eq_true rfl) dX11_due_26) (fun r u h H locs B => ?_)
      obtain ⟨rfl, rfl⟩ := h
      have B : gB D G τ (gA α Lm sz) s H locs α (mE G α (sNo S 1).2) Lm := B
      exact ge_wl C B hr hlk (by have e9 : sp_due S (nI d9) k w = ((sNo S 1).1, (sNo S 1).2) := (by unfold sp_due; (first | rw [if_pos c1] | rw [if_neg c1] | rw [if_neg (not_not_intro c1)] | skip); (first | rw [if_pos c2] | rw [if_neg c2] | rw [if_neg (not_not_intro c2)] | skip); (try simp only [nI_clamp d9_b]); (try simp only [nI_clamp d9_b]); (first | done | rfl)); rw [e9]; exact ⟨rfl, rfl⟩) dX11_due_29
  · refine lv_if_eq (tgt := 24) hx hb dX11_due_5 (by decide) (fun _ => ?_) (fun hc => absurd (by decide) hc)
    refine lv_aload_n hx hb dX11_due_24 rfl (lv_at hl 0 rfl) ?_
    refine lv_iconst (v := 1) hx hb dX11_due_25 (by decide) ?_
    refine gc_wl B (gr_V C B (k := 0) (As := [.int 1]) (rest := []) (c_X11_no l D G τ α S _ 1 (vp_d (by decide))) (by decide) mE_0 rfl wl_865 wl_867 wl_14 wl_40 wl_868 (na := 1) (by decide +kernel) rfl ⟨Nat.le_of_ble_eq_true rfl, Nat.le_of_ble_eq_true rfl⟩ ⟨Nat.le_of_ble_eq_true rfl, Nat.le_of_ble_eq_true rfl⟩ hl.1 rfl (Nat.le_of_ble_eq_true rfl) dX11_due_26) (fun r u h H locs B => ?_)
    obtain ⟨rfl, rfl⟩ := h
    have B : gB D G τ (gA α Lm sz) s H locs α (mE G α (sNo S 1).2) Lm := B
    exact ge_wl C B hr hlk (by have e9 : sp_due S d k w = ((sNo S 1).1, (sNo S 1).2) := (by unfold sp_due; (first | rw [if_pos c1] | rw [if_neg c1] | rw [if_neg (not_not_intro c1)] | skip); (try simp only [nI_clamp d9_b]); (first | done | rfl)); rw [e9]; exact ⟨rfl, rfl⟩) dX11_due_29
set_option maxHeartbeats 4000000 in
set_option maxRecDepth 100000 in
theorem c_X11_income (l : Launch) (D : va_G) (G : Nat → ClassId) (τ α : Nat → Nat) (S : St) (sz : Nat) (v : Int32) (hN : okN S) : Wl l D G τ yX11_income cX11_income 2 (some .long) 2 0 0 [.ref (α 0), .int v] α (mE G α S) Lm sz (fun r u => r = (sp_income S v).1 ∧ u = (α, mE G α (sp_income S v).2, Lm)) := by
  refine gM _ (by decide) rfl (Nat.le_of_ble_eq_true rfl) ?_
  intro p e s m below meth c ls C hr hlk hnm hsz B hl
  have hx := C.1
  have hb := C.2.1
  have hl : lv_has ls 2 [(0, .ref (α 0)), (1, .int v)] := hl
  refine lv_iload_n hx hb dX11_income_0 rfl (lv_at hl 1 rfl) ?_
  refine lv_iconst (v := 0) hx hb dX11_income_1 (by decide) ?_
  refine g_ldc C wl_981 dX11_income_2 ?_
  refine gc_b (gr_S C B (As := [.int v, .int 0, .int 1000000]) (rest := []) (c_X11_in l D G τ α _ _ _ v 0 1000000) wl_862 wl_863 wl_40 wl_864 (na := 3) (by decide +kernel) rfl ⟨Nat.le_of_ble_eq_true rfl, Nat.le_of_ble_eq_true rfl⟩ ⟨Nat.le_of_ble_eq_true rfl, Nat.le_of_ble_eq_true rfl⟩ hl.1 rfl (Nat.le_of_ble_eq_true rfl) dX11_income_4) (fun c1 => ?_) (fun c1 => ?_)
  · refine lv_if_ne (tgt := 16) hx hb dX11_income_7 (by decide) (fun _ => ?_) (fun hc => absurd hc (by decide))
    refine lv_aload_n hx hb dX11_income_16 rfl (lv_at hl 0 rfl) ?_
    refine g_get C B (0) (by decide) mE_0 rfl gf_11 28 (by decide) wl_755 (v := .long (S.2.1 28)) mF_28 dX11_income_17 ?_
    refine lv_iload_n hx hb dX11_income_20 rfl (lv_at hl 1 rfl) ?_
    refine lv_i2l (v := v.toInt64) hx hb dX11_income_21 rfl ?_
    refine lv_ladd hx hb dX11_income_22 ?_
    refine g_ldc2 C wl_982 dX11_income_23 ?_
    refine gl_le (tgt := 36) hx hb dX11_income_26 dX11_income_27 (by decide) (fun c2 => ?_) (fun c2 => ?_)
    · refine lv_aload_n hx hb dX11_income_36 rfl (lv_at hl 0 rfl) ?_
      refine lv_dup hx hb dX11_income_37 rfl ?_
      refine g_get C B (0) (by decide) mE_0 rfl gf_11 28 (by decide) wl_755 (v := .long (S.2.1 28)) mF_28 dX11_income_38 ?_
      refine lv_iload_n hx hb dX11_income_41 rfl (lv_at hl 1 rfl) ?_
      refine lv_i2l (v := v.toInt64) hx hb dX11_income_42 rfl ?_
      refine lv_ladd hx hb dX11_income_43 ?_
      refine g_put C B (0) (by decide) mE_0 rfl gf_11 tyX11 tyX11_ok nmX11 28 (by decide) wl_755 rfl (ty := .long) (v := .long (S.2.1 28 + v.toInt64)) (by decide +kernel) rfl rfl (Nat.le_of_ble_eq_true rfl) dX11_income_44 mO_28 (fun H locs B => ?_)
      refine lv_aload_n hx hb dX11_income_47 rfl (lv_at hl 0 rfl) ?_
      refine lv_dup hx hb dX11_income_48 rfl ?_
      refine g_get C B (0) (by decide) mE_0 rfl gf_11 29 (by decide) wl_756 (v := .long (S.2.1 29)) mF_29 dX11_income_49 ?_
      refine lv_iload_n hx hb dX11_income_52 rfl (lv_at hl 1 rfl) ?_
      refine lv_i2l (v := v.toInt64) hx hb dX11_income_53 rfl ?_
      refine lv_ladd hx hb dX11_income_54 ?_
      refine g_put C B (0) (by decide) mE_0 rfl gf_11 tyX11 tyX11_ok nmX11 29 (by decide) wl_756 rfl (ty := .long) (v := .long (S.2.1 29 + v.toInt64)) (by decide +kernel) rfl rfl (Nat.le_of_ble_eq_true rfl) dX11_income_55 mO_29 (fun H locs B => ?_)
      refine lv_aload_n hx hb dX11_income_58 rfl (lv_at hl 0 rfl) ?_
      refine g_get C B (0) (by decide) mE_0 rfl gf_11 28 (by decide) wl_755 (v := .long (S.2.1 28 + v.toInt64)) mF_28 dX11_income_59 ?_
      exact ge_wl C B hr hlk (by have e9 : sp_income S v = ((S.2.1 28 + v.toInt64), (uJ (uJ S 28 (S.2.1 28 + v.toInt64)) 29 (S.2.1 29 + v.toInt64))) := (by unfold sp_income; (first | rw [if_pos c1] | rw [if_neg c1] | rw [if_neg (not_not_intro c1)] | skip); (first | rw [if_pos c2] | rw [if_neg c2] | rw [if_neg (not_not_intro c2)] | skip); (first | done | rfl)); rw [e9]; exact ⟨rfl, rfl⟩) dX11_income_62
    · refine lv_aload_n hx hb dX11_income_30 rfl (lv_at hl 0 rfl) ?_
      refine lv_iconst (v := 4) hx hb dX11_income_31 (by decide) ?_
      refine gc_wl B (gr_V C B (k := 0) (As := [.int 4]) (rest := []) (c_X11_no l D G τ α S _ 4 (vp_d (by decide))) (by decide) mE_0 rfl wl_865 wl_867 wl_14 wl_40 wl_868 (na := 1) (by decide +kernel) rfl ⟨Nat.le_of_ble_eq_true rfl, Nat.le_of_ble_eq_true rfl⟩ ⟨Nat.le_of_ble_eq_true rfl, Nat.le_of_ble_eq_true rfl⟩ hl.1 rfl (Nat.le_of_ble_eq_true rfl) dX11_income_32) (fun r u h H locs B => ?_)
      obtain ⟨rfl, rfl⟩ := h
      have B : gB D G τ (gA α Lm sz) s H locs α (mE G α (sNo S 4).2) Lm := B
      exact ge_wl C B hr hlk (by have e9 : sp_income S v = ((sNo S 4).1, (sNo S 4).2) := (by unfold sp_income; (first | rw [if_pos c1] | rw [if_neg c1] | rw [if_neg (not_not_intro c1)] | skip); (first | rw [if_pos c2] | rw [if_neg c2] | rw [if_neg (not_not_intro c2)] | skip); (first | done | rfl)); rw [e9]; exact ⟨rfl, rfl⟩) dX11_income_35
  · refine lv_if_ne (tgt := 16) hx hb dX11_income_7 (by decide) (fun hc => absurd (by decide) hc) (fun _ => ?_)
    refine lv_aload_n hx hb dX11_income_10 rfl (lv_at hl 0 rfl) ?_
    refine lv_iconst (v := 1) hx hb dX11_income_11 (by decide) ?_
    refine gc_wl B (gr_V C B (k := 0) (As := [.int 1]) (rest := []) (c_X11_no l D G τ α S _ 1 (vp_d (by decide))) (by decide) mE_0 rfl wl_865 wl_867 wl_14 wl_40 wl_868 (na := 1) (by decide +kernel) rfl ⟨Nat.le_of_ble_eq_true rfl, Nat.le_of_ble_eq_true rfl⟩ ⟨Nat.le_of_ble_eq_true rfl, Nat.le_of_ble_eq_true rfl⟩ hl.1 rfl (Nat.le_of_ble_eq_true rfl) dX11_income_12) (fun r u h H locs B => ?_)
    obtain ⟨rfl, rfl⟩ := h
    have B : gB D G τ (gA α Lm sz) s H locs α (mE G α (sNo S 1).2) Lm := B
    exact ge_wl C B hr hlk (by have e9 : sp_income S v = ((sNo S 1).1, (sNo S 1).2) := (by unfold sp_income; (first | rw [if_pos c1] | rw [if_neg c1] | rw [if_neg (not_not_intro c1)] | skip); (first | done | rfl)); rw [e9]; exact ⟨rfl, rfl⟩) dX11_income_15
set_option maxHeartbeats 4000000 in
set_option maxRecDepth 100000 in
theorem c_X11_purse (l : Launch) (D : va_G) (G : Nat → ClassId) (τ α : Nat → Nat) (S : St) (sz : Nat) (w : Int32) (hN : okN S) : Wl l D G τ yX11_purse cX11_purse 2 (some .long) 2 0 0 [.ref (α 0), .int w] α (mE G α S) Lm sz (fun r u => r = (sp_purse S w).1 ∧ u = (α, mE G α (sp_purse S w).2, Lm)) := by
  refine gM _ (by decide) rfl (Nat.le_of_ble_eq_true rfl) ?_
  intro p e s m below meth c ls C hr hlk hnm hsz B hl
  have hx := C.1
  have hb := C.2.1
  have hl : lv_has ls 2 [(0, .ref (α 0)), (1, .int w)] := hl
  refine lv_iload_n hx hb dX11_purse_0 rfl (lv_at hl 1 rfl) ?_
  rcases sw_5 w with w1 | w1 | w1 | w1 | w1 | w1 | w1
  · refine lv_tableIn (tgt := 40) hx hb dX11_purse_1 (by rw [w1]; decide) (by rw [w1]; decide) (off := 39) (by rw [w1]; rfl) (by decide) ?_
    refine lv_aload_n hx hb dX11_purse_40 rfl (lv_at hl 0 rfl) ?_
    refine g_get C B (0) (by decide) mE_0 rfl gf_11 28 (by decide) wl_755 (v := .long (S.2.1 28)) mF_28 dX11_purse_41 ?_
    exact ge_wl C B hr hlk (by have e9 : sp_purse S w = (S.2.1 28, S) := (by unfold sp_purse; (first | rw [if_neg (by rw [w1]; decide)] | (rw [if_pos w1]) | (rw [if_neg (sw_ne w1 (by decide))]) | skip); (first | rw [if_neg (by rw [w1]; decide)] | (rw [if_pos w1]) | (rw [if_neg (sw_ne w1 (by decide))]) | skip); (first | rw [if_neg (by rw [w1]; decide)] | (rw [if_pos w1]) | (rw [if_neg (sw_ne w1 (by decide))]) | skip); (first | rw [if_neg (by rw [w1]; decide)] | (rw [if_pos w1]) | (rw [if_neg (sw_ne w1 (by decide))]) | skip); (first | rw [if_neg (by rw [w1]; decide)] | (rw [if_pos w1]) | (rw [if_neg (sw_ne w1 (by decide))]) | skip); (first | rw [if_neg (by rw [w1]; decide)] | (rw [if_pos w1]) | (rw [if_neg (sw_ne w1 (by decide))]) | skip); (first | done | rfl)); rw [e9]; exact ⟨rfl, rfl⟩) dX11_purse_44
  · refine lv_tableIn (tgt := 45) hx hb dX11_purse_1 (by rw [w1]; decide) (by rw [w1]; decide) (off := 44) (by rw [w1]; rfl) (by decide) ?_
    refine lv_aload_n hx hb dX11_purse_45 rfl (lv_at hl 0 rfl) ?_
    refine g_get C B (0) (by decide) mE_0 rfl gf_11 29 (by decide) wl_756 (v := .long (S.2.1 29)) mF_29 dX11_purse_46 ?_
    exact ge_wl C B hr hlk (by have e9 : sp_purse S w = (S.2.1 29, S) := (by unfold sp_purse; (first | rw [if_neg (by rw [w1]; decide)] | (rw [if_pos w1]) | (rw [if_neg (sw_ne w1 (by decide))]) | skip); (first | rw [if_neg (by rw [w1]; decide)] | (rw [if_pos w1]) | (rw [if_neg (sw_ne w1 (by decide))]) | skip); (first | rw [if_neg (by rw [w1]; decide)] | (rw [if_pos w1]) | (rw [if_neg (sw_ne w1 (by decide))]) | skip); (first | rw [if_neg (by rw [w1]; decide)] | (rw [if_pos w1]) | (rw [if_neg (sw_ne w1 (by decide))]) | skip); (first | rw [if_neg (by rw [w1]; decide)] | (rw [if_pos w1]) | (rw [if_neg (sw_ne w1 (by decide))]) | skip); (first | rw [if_neg (by rw [w1]; decide)] | (rw [if_pos w1]) | (rw [if_neg (sw_ne w1 (by decide))]) | skip); (first | done | rfl)); rw [e9]; exact ⟨rfl, rfl⟩) dX11_purse_49
  · refine lv_tableIn (tgt := 50) hx hb dX11_purse_1 (by rw [w1]; decide) (by rw [w1]; decide) (off := 49) (by rw [w1]; rfl) (by decide) ?_
    refine lv_aload_n hx hb dX11_purse_50 rfl (lv_at hl 0 rfl) ?_
    refine g_get C B (0) (by decide) mE_0 rfl gf_11 30 (by decide) wl_757 (v := .long (S.2.1 30)) mF_30 dX11_purse_51 ?_
    exact ge_wl C B hr hlk (by have e9 : sp_purse S w = (S.2.1 30, S) := (by unfold sp_purse; (first | rw [if_neg (by rw [w1]; decide)] | (rw [if_pos w1]) | (rw [if_neg (sw_ne w1 (by decide))]) | skip); (first | rw [if_neg (by rw [w1]; decide)] | (rw [if_pos w1]) | (rw [if_neg (sw_ne w1 (by decide))]) | skip); (first | rw [if_neg (by rw [w1]; decide)] | (rw [if_pos w1]) | (rw [if_neg (sw_ne w1 (by decide))]) | skip); (first | rw [if_neg (by rw [w1]; decide)] | (rw [if_pos w1]) | (rw [if_neg (sw_ne w1 (by decide))]) | skip); (first | rw [if_neg (by rw [w1]; decide)] | (rw [if_pos w1]) | (rw [if_neg (sw_ne w1 (by decide))]) | skip); (first | rw [if_neg (by rw [w1]; decide)] | (rw [if_pos w1]) | (rw [if_neg (sw_ne w1 (by decide))]) | skip); (first | done | rfl)); rw [e9]; exact ⟨rfl, rfl⟩) dX11_purse_54
  · refine lv_tableIn (tgt := 55) hx hb dX11_purse_1 (by rw [w1]; decide) (by rw [w1]; decide) (off := 54) (by rw [w1]; rfl) (by decide) ?_
    refine lv_aload_n hx hb dX11_purse_55 rfl (lv_at hl 0 rfl) ?_
    refine g_get C B (0) (by decide) mE_0 rfl gf_11 31 (by decide) wl_758 (v := .long (S.2.1 31)) mF_31 dX11_purse_56 ?_
    exact ge_wl C B hr hlk (by have e9 : sp_purse S w = (S.2.1 31, S) := (by unfold sp_purse; (first | rw [if_neg (by rw [w1]; decide)] | (rw [if_pos w1]) | (rw [if_neg (sw_ne w1 (by decide))]) | skip); (first | rw [if_neg (by rw [w1]; decide)] | (rw [if_pos w1]) | (rw [if_neg (sw_ne w1 (by decide))]) | skip); (first | rw [if_neg (by rw [w1]; decide)] | (rw [if_pos w1]) | (rw [if_neg (sw_ne w1 (by decide))]) | skip); (first | rw [if_neg (by rw [w1]; decide)] | (rw [if_pos w1]) | (rw [if_neg (sw_ne w1 (by decide))]) | skip); (first | rw [if_neg (by rw [w1]; decide)] | (rw [if_pos w1]) | (rw [if_neg (sw_ne w1 (by decide))]) | skip); (first | rw [if_neg (by rw [w1]; decide)] | (rw [if_pos w1]) | (rw [if_neg (sw_ne w1 (by decide))]) | skip); (first | done | rfl)); rw [e9]; exact ⟨rfl, rfl⟩) dX11_purse_59
  · refine lv_tableIn (tgt := 60) hx hb dX11_purse_1 (by rw [w1]; decide) (by rw [w1]; decide) (off := 59) (by rw [w1]; rfl) (by decide) ?_
    refine lv_aload_n hx hb dX11_purse_60 rfl (lv_at hl 0 rfl) ?_
    refine g_get C B (0) (by decide) mE_0 rfl gf_11 32 (by decide) wl_759 (v := .int (S.1 32)) mF_32 dX11_purse_61 ?_
    refine lv_i2l (v := (S.1 32).toInt64) hx hb dX11_purse_64 rfl ?_
    exact ge_wl C B hr hlk (by have e9 : sp_purse S w = ((S.1 32).toInt64, S) := (by unfold sp_purse; (first | rw [if_neg (by rw [w1]; decide)] | (rw [if_pos w1]) | (rw [if_neg (sw_ne w1 (by decide))]) | skip); (first | rw [if_neg (by rw [w1]; decide)] | (rw [if_pos w1]) | (rw [if_neg (sw_ne w1 (by decide))]) | skip); (first | rw [if_neg (by rw [w1]; decide)] | (rw [if_pos w1]) | (rw [if_neg (sw_ne w1 (by decide))]) | skip); (first | rw [if_neg (by rw [w1]; decide)] | (rw [if_pos w1]) | (rw [if_neg (sw_ne w1 (by decide))]) | skip); (first | rw [if_neg (by rw [w1]; decide)] | (rw [if_pos w1]) | (rw [if_neg (sw_ne w1 (by decide))]) | skip); (first | rw [if_neg (by rw [w1]; decide)] | (rw [if_pos w1]) | (rw [if_neg (sw_ne w1 (by decide))]) | skip); (first | done | rfl)); rw [e9]; exact ⟨rfl, rfl⟩) dX11_purse_65
  · refine lv_tableIn (tgt := 66) hx hb dX11_purse_1 (by rw [w1]; decide) (by rw [w1]; decide) (off := 65) (by rw [w1]; rfl) (by decide) ?_
    refine lv_aload_n hx hb dX11_purse_66 rfl (lv_at hl 0 rfl) ?_
    refine gc_i (gr_V C B (k := 0) (As := []) (rest := []) (c_X11_outMany l D G τ α S _ hN) (by decide) mE_0 rfl wl_987 wl_989 wl_26 wl_40 wl_990 (na := 0) (by decide +kernel) rfl ⟨Nat.le_of_ble_eq_true rfl, Nat.le_of_ble_eq_true rfl⟩ ⟨Nat.le_of_ble_eq_true rfl, Nat.le_of_ble_eq_true rfl⟩ hl.1 rfl (Nat.le_of_ble_eq_true rfl) dX11_purse_67) (fun r h => ?_)
    subst h
    refine lv_i2l (v := (outL S (nOf S 15)).toInt64) hx hb dX11_purse_70 rfl ?_
    exact ge_wl C B hr hlk (by have e9 : sp_purse S w = ((outL S (nOf S 15)).toInt64, S) := (by unfold sp_purse; (first | rw [if_neg (by rw [w1]; decide)] | (rw [if_pos w1]) | (rw [if_neg (sw_ne w1 (by decide))]) | skip); (first | rw [if_neg (by rw [w1]; decide)] | (rw [if_pos w1]) | (rw [if_neg (sw_ne w1 (by decide))]) | skip); (first | rw [if_neg (by rw [w1]; decide)] | (rw [if_pos w1]) | (rw [if_neg (sw_ne w1 (by decide))]) | skip); (first | rw [if_neg (by rw [w1]; decide)] | (rw [if_pos w1]) | (rw [if_neg (sw_ne w1 (by decide))]) | skip); (first | rw [if_neg (by rw [w1]; decide)] | (rw [if_pos w1]) | (rw [if_neg (sw_ne w1 (by decide))]) | skip); (first | rw [if_neg (by rw [w1]; decide)] | (rw [if_pos w1]) | (rw [if_neg (sw_ne w1 (by decide))]) | skip); (first | done | rfl)); rw [e9]; exact ⟨rfl, rfl⟩) dX11_purse_71
  · refine lv_tableOut (tgt := 72) hx hb dX11_purse_1 w1 (by decide) ?_
    refine lv_aload_n hx hb dX11_purse_72 rfl (lv_at hl 0 rfl) ?_
    refine lv_iconst (v := 1) hx hb dX11_purse_73 (by decide) ?_
    refine gc_wl B (gr_V C B (k := 0) (As := [.int 1]) (rest := []) (c_X11_no l D G τ α S _ 1 (vp_d (by decide))) (by decide) mE_0 rfl wl_865 wl_867 wl_14 wl_40 wl_868 (na := 1) (by decide +kernel) rfl ⟨Nat.le_of_ble_eq_true rfl, Nat.le_of_ble_eq_true rfl⟩ ⟨Nat.le_of_ble_eq_true rfl, Nat.le_of_ble_eq_true rfl⟩ hl.1 rfl (Nat.le_of_ble_eq_true rfl) dX11_purse_74) (fun r u h H locs B => ?_)
    obtain ⟨rfl, rfl⟩ := h
    have B : gB D G τ (gA α Lm sz) s H locs α (mE G α (sNo S 1).2) Lm := B
    exact ge_wl C B hr hlk (by have e9 : sp_purse S w = ((sNo S 1).1, (sNo S 1).2) := (by unfold sp_purse; (first | rw [if_neg (by rw [w1]; decide)] | (rw [if_pos w1]) | (rw [if_neg (sw_ne w1 (by decide))]) | skip); (first | rw [if_neg (by rw [w1]; decide)] | (rw [if_pos w1]) | (rw [if_neg (sw_ne w1 (by decide))]) | skip); (first | rw [if_neg (by rw [w1]; decide)] | (rw [if_pos w1]) | (rw [if_neg (sw_ne w1 (by decide))]) | skip); (first | rw [if_neg (by rw [w1]; decide)] | (rw [if_pos w1]) | (rw [if_neg (sw_ne w1 (by decide))]) | skip); (first | rw [if_neg (by rw [w1]; decide)] | (rw [if_pos w1]) | (rw [if_neg (sw_ne w1 (by decide))]) | skip); (first | rw [if_neg (by rw [w1]; decide)] | (rw [if_pos w1]) | (rw [if_neg (sw_ne w1 (by decide))]) | skip); (first | done | rfl)); rw [e9]; exact ⟨rfl, rfl⟩) dX11_purse_77
set_option maxHeartbeats 4000000 in
set_option maxRecDepth 100000 in
theorem c_X11_count (l : Launch) (D : va_G) (G : Nat → ClassId) (τ α : Nat → Nat) (S : St) (sz : Nat) (w : Int32) (hN : okN S) : Wl l D G τ yX11_count cX11_count 2 (some .long) 2 0 0 [.ref (α 0), .int w] α (mE G α S) Lm sz (fun r u => r = (sp_count S w).1 ∧ u = (α, mE G α (sp_count S w).2, Lm)) := by
  refine gM _ (by decide) rfl (Nat.le_of_ble_eq_true rfl) ?_
  intro p e s m below meth c ls C hr hlk hnm hsz B hl
  have hx := C.1
  have hb := C.2.1
  have hl : lv_has ls 2 [(0, .ref (α 0)), (1, .int w)] := hl
  refine lv_iload_n hx hb dX11_count_0 rfl (lv_at hl 1 rfl) ?_
  rcases sw_5 w with w1 | w1 | w1 | w1 | w1 | w1 | w1
  · refine lv_tableIn (tgt := 40) hx hb dX11_count_1 (by rw [w1]; decide) (by rw [w1]; decide) (off := 39) (by rw [w1]; rfl) (by decide) ?_
    refine lv_aload_n hx hb dX11_count_40 rfl (lv_at hl 0 rfl) ?_
    refine g_get C B (0) (by decide) mE_0 rfl gf_11 0 (by decide) wl_727 (v := .int (S.1 0)) mF_0 dX11_count_41 ?_
    refine lv_i2l (v := (S.1 0).toInt64) hx hb dX11_count_44 rfl ?_
    exact ge_wl C B hr hlk (by have e9 : sp_count S w = ((S.1 0).toInt64, S) := (by unfold sp_count; (first | rw [if_neg (by rw [w1]; decide)] | (rw [if_pos w1]) | (rw [if_neg (sw_ne w1 (by decide))]) | skip); (first | rw [if_neg (by rw [w1]; decide)] | (rw [if_pos w1]) | (rw [if_neg (sw_ne w1 (by decide))]) | skip); (first | rw [if_neg (by rw [w1]; decide)] | (rw [if_pos w1]) | (rw [if_neg (sw_ne w1 (by decide))]) | skip); (first | rw [if_neg (by rw [w1]; decide)] | (rw [if_pos w1]) | (rw [if_neg (sw_ne w1 (by decide))]) | skip); (first | rw [if_neg (by rw [w1]; decide)] | (rw [if_pos w1]) | (rw [if_neg (sw_ne w1 (by decide))]) | skip); (first | rw [if_neg (by rw [w1]; decide)] | (rw [if_pos w1]) | (rw [if_neg (sw_ne w1 (by decide))]) | skip); (first | done | rfl)); rw [e9]; exact ⟨rfl, rfl⟩) dX11_count_45
  · refine lv_tableIn (tgt := 46) hx hb dX11_count_1 (by rw [w1]; decide) (by rw [w1]; decide) (off := 45) (by rw [w1]; rfl) (by decide) ?_
    refine lv_aload_n hx hb dX11_count_46 rfl (lv_at hl 0 rfl) ?_
    refine g_get C B (0) (by decide) mE_0 rfl gf_11 2 (by decide) wl_729 (v := .int (S.1 2)) mF_2 dX11_count_47 ?_
    refine lv_i2l (v := (S.1 2).toInt64) hx hb dX11_count_50 rfl ?_
    exact ge_wl C B hr hlk (by have e9 : sp_count S w = ((S.1 2).toInt64, S) := (by unfold sp_count; (first | rw [if_neg (by rw [w1]; decide)] | (rw [if_pos w1]) | (rw [if_neg (sw_ne w1 (by decide))]) | skip); (first | rw [if_neg (by rw [w1]; decide)] | (rw [if_pos w1]) | (rw [if_neg (sw_ne w1 (by decide))]) | skip); (first | rw [if_neg (by rw [w1]; decide)] | (rw [if_pos w1]) | (rw [if_neg (sw_ne w1 (by decide))]) | skip); (first | rw [if_neg (by rw [w1]; decide)] | (rw [if_pos w1]) | (rw [if_neg (sw_ne w1 (by decide))]) | skip); (first | rw [if_neg (by rw [w1]; decide)] | (rw [if_pos w1]) | (rw [if_neg (sw_ne w1 (by decide))]) | skip); (first | rw [if_neg (by rw [w1]; decide)] | (rw [if_pos w1]) | (rw [if_neg (sw_ne w1 (by decide))]) | skip); (first | done | rfl)); rw [e9]; exact ⟨rfl, rfl⟩) dX11_count_51
  · refine lv_tableIn (tgt := 52) hx hb dX11_count_1 (by rw [w1]; decide) (by rw [w1]; decide) (off := 51) (by rw [w1]; rfl) (by decide) ?_
    refine lv_aload_n hx hb dX11_count_52 rfl (lv_at hl 0 rfl) ?_
    refine g_get C B (0) (by decide) mE_0 rfl gf_11 8 (by decide) wl_735 (v := .int (S.1 8)) mF_8 dX11_count_53 ?_
    refine lv_i2l (v := (S.1 8).toInt64) hx hb dX11_count_56 rfl ?_
    exact ge_wl C B hr hlk (by have e9 : sp_count S w = ((S.1 8).toInt64, S) := (by unfold sp_count; (first | rw [if_neg (by rw [w1]; decide)] | (rw [if_pos w1]) | (rw [if_neg (sw_ne w1 (by decide))]) | skip); (first | rw [if_neg (by rw [w1]; decide)] | (rw [if_pos w1]) | (rw [if_neg (sw_ne w1 (by decide))]) | skip); (first | rw [if_neg (by rw [w1]; decide)] | (rw [if_pos w1]) | (rw [if_neg (sw_ne w1 (by decide))]) | skip); (first | rw [if_neg (by rw [w1]; decide)] | (rw [if_pos w1]) | (rw [if_neg (sw_ne w1 (by decide))]) | skip); (first | rw [if_neg (by rw [w1]; decide)] | (rw [if_pos w1]) | (rw [if_neg (sw_ne w1 (by decide))]) | skip); (first | rw [if_neg (by rw [w1]; decide)] | (rw [if_pos w1]) | (rw [if_neg (sw_ne w1 (by decide))]) | skip); (first | done | rfl)); rw [e9]; exact ⟨rfl, rfl⟩) dX11_count_57
  · refine lv_tableIn (tgt := 58) hx hb dX11_count_1 (by rw [w1]; decide) (by rw [w1]; decide) (off := 57) (by rw [w1]; rfl) (by decide) ?_
    refine lv_aload_n hx hb dX11_count_58 rfl (lv_at hl 0 rfl) ?_
    refine g_get C B (0) (by decide) mE_0 rfl gf_11 10 (by decide) wl_737 (v := .int (S.1 10)) mF_10 dX11_count_59 ?_
    refine lv_i2l (v := (S.1 10).toInt64) hx hb dX11_count_62 rfl ?_
    exact ge_wl C B hr hlk (by have e9 : sp_count S w = ((S.1 10).toInt64, S) := (by unfold sp_count; (first | rw [if_neg (by rw [w1]; decide)] | (rw [if_pos w1]) | (rw [if_neg (sw_ne w1 (by decide))]) | skip); (first | rw [if_neg (by rw [w1]; decide)] | (rw [if_pos w1]) | (rw [if_neg (sw_ne w1 (by decide))]) | skip); (first | rw [if_neg (by rw [w1]; decide)] | (rw [if_pos w1]) | (rw [if_neg (sw_ne w1 (by decide))]) | skip); (first | rw [if_neg (by rw [w1]; decide)] | (rw [if_pos w1]) | (rw [if_neg (sw_ne w1 (by decide))]) | skip); (first | rw [if_neg (by rw [w1]; decide)] | (rw [if_pos w1]) | (rw [if_neg (sw_ne w1 (by decide))]) | skip); (first | rw [if_neg (by rw [w1]; decide)] | (rw [if_pos w1]) | (rw [if_neg (sw_ne w1 (by decide))]) | skip); (first | done | rfl)); rw [e9]; exact ⟨rfl, rfl⟩) dX11_count_63
  · refine lv_tableIn (tgt := 64) hx hb dX11_count_1 (by rw [w1]; decide) (by rw [w1]; decide) (off := 63) (by rw [w1]; rfl) (by decide) ?_
    refine lv_aload_n hx hb dX11_count_64 rfl (lv_at hl 0 rfl) ?_
    refine g_get C B (0) (by decide) mE_0 rfl gf_11 15 (by decide) wl_742 (v := .int (S.1 15)) mF_15 dX11_count_65 ?_
    refine lv_i2l (v := (S.1 15).toInt64) hx hb dX11_count_68 rfl ?_
    exact ge_wl C B hr hlk (by have e9 : sp_count S w = ((S.1 15).toInt64, S) := (by unfold sp_count; (first | rw [if_neg (by rw [w1]; decide)] | (rw [if_pos w1]) | (rw [if_neg (sw_ne w1 (by decide))]) | skip); (first | rw [if_neg (by rw [w1]; decide)] | (rw [if_pos w1]) | (rw [if_neg (sw_ne w1 (by decide))]) | skip); (first | rw [if_neg (by rw [w1]; decide)] | (rw [if_pos w1]) | (rw [if_neg (sw_ne w1 (by decide))]) | skip); (first | rw [if_neg (by rw [w1]; decide)] | (rw [if_pos w1]) | (rw [if_neg (sw_ne w1 (by decide))]) | skip); (first | rw [if_neg (by rw [w1]; decide)] | (rw [if_pos w1]) | (rw [if_neg (sw_ne w1 (by decide))]) | skip); (first | rw [if_neg (by rw [w1]; decide)] | (rw [if_pos w1]) | (rw [if_neg (sw_ne w1 (by decide))]) | skip); (first | done | rfl)); rw [e9]; exact ⟨rfl, rfl⟩) dX11_count_69
  · refine lv_tableIn (tgt := 70) hx hb dX11_count_1 (by rw [w1]; decide) (by rw [w1]; decide) (off := 69) (by rw [w1]; rfl) (by decide) ?_
    refine lv_aload_n hx hb dX11_count_70 rfl (lv_at hl 0 rfl) ?_
    refine g_get C B (0) (by decide) mE_0 rfl gf_11 37 (by decide) wl_764 (v := .int (S.1 37)) mF_37 dX11_count_71 ?_
    refine lv_i2l (v := (S.1 37).toInt64) hx hb dX11_count_74 rfl ?_
    exact ge_wl C B hr hlk (by have e9 : sp_count S w = ((S.1 37).toInt64, S) := (by unfold sp_count; (first | rw [if_neg (by rw [w1]; decide)] | (rw [if_pos w1]) | (rw [if_neg (sw_ne w1 (by decide))]) | skip); (first | rw [if_neg (by rw [w1]; decide)] | (rw [if_pos w1]) | (rw [if_neg (sw_ne w1 (by decide))]) | skip); (first | rw [if_neg (by rw [w1]; decide)] | (rw [if_pos w1]) | (rw [if_neg (sw_ne w1 (by decide))]) | skip); (first | rw [if_neg (by rw [w1]; decide)] | (rw [if_pos w1]) | (rw [if_neg (sw_ne w1 (by decide))]) | skip); (first | rw [if_neg (by rw [w1]; decide)] | (rw [if_pos w1]) | (rw [if_neg (sw_ne w1 (by decide))]) | skip); (first | rw [if_neg (by rw [w1]; decide)] | (rw [if_pos w1]) | (rw [if_neg (sw_ne w1 (by decide))]) | skip); (first | done | rfl)); rw [e9]; exact ⟨rfl, rfl⟩) dX11_count_75
  · refine lv_tableOut (tgt := 76) hx hb dX11_count_1 w1 (by decide) ?_
    refine lv_aload_n hx hb dX11_count_76 rfl (lv_at hl 0 rfl) ?_
    refine lv_iconst (v := 1) hx hb dX11_count_77 (by decide) ?_
    refine gc_wl B (gr_V C B (k := 0) (As := [.int 1]) (rest := []) (c_X11_no l D G τ α S _ 1 (vp_d (by decide))) (by decide) mE_0 rfl wl_865 wl_867 wl_14 wl_40 wl_868 (na := 1) (by decide +kernel) rfl ⟨Nat.le_of_ble_eq_true rfl, Nat.le_of_ble_eq_true rfl⟩ ⟨Nat.le_of_ble_eq_true rfl, Nat.le_of_ble_eq_true rfl⟩ hl.1 rfl (Nat.le_of_ble_eq_true rfl) dX11_count_78) (fun r u h H locs B => ?_)
    obtain ⟨rfl, rfl⟩ := h
    have B : gB D G τ (gA α Lm sz) s H locs α (mE G α (sNo S 1).2) Lm := B
    exact ge_wl C B hr hlk (by have e9 : sp_count S w = ((sNo S 1).1, (sNo S 1).2) := (by unfold sp_count; (first | rw [if_neg (by rw [w1]; decide)] | (rw [if_pos w1]) | (rw [if_neg (sw_ne w1 (by decide))]) | skip); (first | rw [if_neg (by rw [w1]; decide)] | (rw [if_pos w1]) | (rw [if_neg (sw_ne w1 (by decide))]) | skip); (first | rw [if_neg (by rw [w1]; decide)] | (rw [if_pos w1]) | (rw [if_neg (sw_ne w1 (by decide))]) | skip); (first | rw [if_neg (by rw [w1]; decide)] | (rw [if_pos w1]) | (rw [if_neg (sw_ne w1 (by decide))]) | skip); (first | rw [if_neg (by rw [w1]; decide)] | (rw [if_pos w1]) | (rw [if_neg (sw_ne w1 (by decide))]) | skip); (first | rw [if_neg (by rw [w1]; decide)] | (rw [if_pos w1]) | (rw [if_neg (sw_ne w1 (by decide))]) | skip); (first | done | rfl)); rw [e9]; exact ⟨rfl, rfl⟩) dX11_count_81
set_option maxHeartbeats 4000000 in
set_option maxRecDepth 100000 in
theorem c_X11_paid (l : Launch) (D : va_G) (G : Nat → ClassId) (τ α : Nat → Nat) (S : St) (sz : Nat) (h : Int32) (hN : okN S) : Wl l D G τ yX11_paid cX11_paid 2 (some .long) 2 0 0 [.ref (α 0), .int h] α (mE G α S) Lm sz (fun r u => r = (sp_paid S h).1 ∧ u = (α, mE G α (sp_paid S h).2, Lm)) := by
  refine gM _ (by decide) rfl (Nat.le_of_ble_eq_true rfl) ?_
  intro p e s m below meth c ls C hr hlk hnm hsz B hl
  have hx := C.1
  have hb := C.2.1
  have hl : lv_has ls 2 [(0, .ref (α 0)), (1, .int h)] := hl
  refine lv_iload_n hx hb dX11_paid_0 rfl (lv_at hl 1 rfl) ?_
  refine gc_b (gr_S C B (As := [.int h]) (rest := []) (c_X11_isHolder l D G τ α _ _ _ h) wl_945 wl_946 wl_40 wl_947 (na := 1) (by decide +kernel) rfl ⟨Nat.le_of_ble_eq_true rfl, Nat.le_of_ble_eq_true rfl⟩ ⟨Nat.le_of_ble_eq_true rfl, Nat.le_of_ble_eq_true rfl⟩ hl.1 rfl (Nat.le_of_ble_eq_true rfl) dX11_paid_1) (fun c1 => ?_) (fun c1 => ?_)
  · refine lv_if_eq (tgt := 16) hx hb dX11_paid_4 (by decide) (fun hc => absurd hc (by decide)) (fun _ => ?_)
    refine lv_aload_n hx hb dX11_paid_7 rfl (lv_at hl 0 rfl) ?_
    refine g_get C B (0) (by decide) mE_0 rfl gf_11 33 (by decide) wl_760 (v := .ref (α 33)) mF_33 dX11_paid_8 ?_
    refine lv_iload_n hx hb dX11_paid_11 rfl (lv_at hl 1 rfl) ?_
    refine g_lald C B (33) (by decide) (f := S.2.2.2 33) mE_33 (vp_rng c1 (by decide) (by decide)) (j := h.toNatClampNeg) rfl dX11_paid_12 ?_
    refine lv_goto (tgt := 21) hx hb dX11_paid_13 (by decide) ?_
    exact ge_wl C B hr hlk (by have e9 : sp_paid S h = ((S.2.2.2 33 h.toNatClampNeg), S) := (by unfold sp_paid; (first | rw [if_pos c1] | rw [if_neg c1] | rw [if_neg (not_not_intro c1)] | skip); (first | done | rfl)); rw [e9]; exact ⟨rfl, rfl⟩) dX11_paid_21
  · refine lv_if_eq (tgt := 16) hx hb dX11_paid_4 (by decide) (fun _ => ?_) (fun hc => absurd (by decide) hc)
    refine lv_aload_n hx hb dX11_paid_16 rfl (lv_at hl 0 rfl) ?_
    refine lv_iconst (v := 1) hx hb dX11_paid_17 (by decide) ?_
    refine gc_wl B (gr_V C B (k := 0) (As := [.int 1]) (rest := []) (c_X11_no l D G τ α S _ 1 (vp_d (by decide))) (by decide) mE_0 rfl wl_865 wl_867 wl_14 wl_40 wl_868 (na := 1) (by decide +kernel) rfl ⟨Nat.le_of_ble_eq_true rfl, Nat.le_of_ble_eq_true rfl⟩ ⟨Nat.le_of_ble_eq_true rfl, Nat.le_of_ble_eq_true rfl⟩ hl.1 rfl (Nat.le_of_ble_eq_true rfl) dX11_paid_18) (fun r u h H locs B => ?_)
    obtain ⟨rfl, rfl⟩ := h
    have B : gB D G τ (gA α Lm sz) s H locs α (mE G α (sNo S 1).2) Lm := B
    exact ge_wl C B hr hlk (by have e9 : sp_paid S h = ((sNo S 1).1, (sNo S 1).2) := (by unfold sp_paid; (first | rw [if_pos c1] | rw [if_neg c1] | rw [if_neg (not_not_intro c1)] | skip); (first | done | rfl)); rw [e9]; exact ⟨rfl, rfl⟩) dX11_paid_21
set_option maxHeartbeats 4000000 in
set_option maxRecDepth 100000 in
theorem c_X11_found (l : Launch) (D : va_G) (G : Nat → ClassId) (τ α : Nat → Nat) (S : St) (sz : Nat) (k : Int32) (hN : okN S) : Wl l D G τ yX11_found cX11_found 2 (some .long) 2 0 0 [.ref (α 0), .int k] α (mE G α S) Lm sz (fun r u => r = (sp_found S k).1 ∧ u = (α, mE G α (sp_found S k).2, Lm)) := by
  refine gM _ (by decide) rfl (Nat.le_of_ble_eq_true rfl) ?_
  intro p e s m below meth c ls C hr hlk hnm hsz B hl
  have hx := C.1
  have hb := C.2.1
  have hl : lv_has ls 2 [(0, .ref (α 0)), (1, .int k)] := hl
  refine lv_iload_n hx hb dX11_found_0 rfl (lv_at hl 1 rfl) ?_
  refine lv_iconst (v := 1) hx hb dX11_found_1 (by decide) ?_
  refine lv_iconst (v := 5) hx hb dX11_found_2 (by decide) ?_
  refine gc_b (gr_S C B (As := [.int k, .int 1, .int 5]) (rest := []) (c_X11_in l D G τ α _ _ _ k 1 5) wl_862 wl_863 wl_40 wl_864 (na := 3) (by decide +kernel) rfl ⟨Nat.le_of_ble_eq_true rfl, Nat.le_of_ble_eq_true rfl⟩ ⟨Nat.le_of_ble_eq_true rfl, Nat.le_of_ble_eq_true rfl⟩ hl.1 rfl (Nat.le_of_ble_eq_true rfl) dX11_found_3) (fun c1 => ?_) (fun c1 => ?_)
  · refine lv_if_eq (tgt := 19) hx hb dX11_found_6 (by decide) (fun hc => absurd hc (by decide)) (fun _ => ?_)
    refine lv_aload_n hx hb dX11_found_9 rfl (lv_at hl 0 rfl) ?_
    refine g_get C B (0) (by decide) mE_0 rfl gf_11 1 (by decide) wl_728 (v := .ref (α 1)) mF_1 dX11_found_10 ?_
    refine lv_iload_n hx hb dX11_found_13 rfl (lv_at hl 1 rfl) ?_
    refine g_iald C B (1) (by decide) (f := S.2.2.1 1) mE_1 (vp_rng c1 (by decide) (by decide)) (j := k.toNatClampNeg) rfl dX11_found_14 ?_
    refine lv_i2l (v := (S.2.2.1 1 k.toNatClampNeg).toInt64) hx hb dX11_found_15 rfl ?_
    refine lv_goto (tgt := 24) hx hb dX11_found_16 (by decide) ?_
    exact ge_wl C B hr hlk (by have e9 : sp_found S k = ((S.2.2.1 1 k.toNatClampNeg).toInt64, S) := (by unfold sp_found; (first | rw [if_pos c1] | rw [if_neg c1] | rw [if_neg (not_not_intro c1)] | skip); (first | done | rfl)); rw [e9]; exact ⟨rfl, rfl⟩) dX11_found_24
  · refine lv_if_eq (tgt := 19) hx hb dX11_found_6 (by decide) (fun _ => ?_) (fun hc => absurd (by decide) hc)
    refine lv_aload_n hx hb dX11_found_19 rfl (lv_at hl 0 rfl) ?_
    refine lv_iconst (v := 1) hx hb dX11_found_20 (by decide) ?_
    refine gc_wl B (gr_V C B (k := 0) (As := [.int 1]) (rest := []) (c_X11_no l D G τ α S _ 1 (vp_d (by decide))) (by decide) mE_0 rfl wl_865 wl_867 wl_14 wl_40 wl_868 (na := 1) (by decide +kernel) rfl ⟨Nat.le_of_ble_eq_true rfl, Nat.le_of_ble_eq_true rfl⟩ ⟨Nat.le_of_ble_eq_true rfl, Nat.le_of_ble_eq_true rfl⟩ hl.1 rfl (Nat.le_of_ble_eq_true rfl) dX11_found_21) (fun r u h H locs B => ?_)
    obtain ⟨rfl, rfl⟩ := h
    have B : gB D G τ (gA α Lm sz) s H locs α (mE G α (sNo S 1).2) Lm := B
    exact ge_wl C B hr hlk (by have e9 : sp_found S k = ((sNo S 1).1, (sNo S 1).2) := (by unfold sp_found; (first | rw [if_pos c1] | rw [if_neg c1] | rw [if_neg (not_not_intro c1)] | skip); (first | done | rfl)); rw [e9]; exact ⟨rfl, rfl⟩) dX11_found_24
set_option maxHeartbeats 4000000 in
set_option maxRecDepth 100000 in
theorem c_X11_lives (l : Launch) (D : va_G) (G : Nat → ClassId) (τ α : Nat → Nat) (S : St) (sz : Nat) (a x y z : Int32) (hN : okN S) : Wl l D G τ yX11_lives cX11_lives 5 (some .long) 2 0 0 [.ref (α 0), .int a, .int x, .int y, .int z] α (mE G α S) Lm sz (fun r u => r = (sp_lives S a x y z).1 ∧ u = (α, mE G α (sp_lives S a x y z).2, Lm)) := by
  refine gM _ (by decide) rfl (Nat.le_of_ble_eq_true rfl) ?_
  intro p e s m below meth c ls C hr hlk hnm hsz B hl
  have hx := C.1
  have hb := C.2.1
  have hl : lv_has ls 5 [(0, .ref (α 0)), (1, .int a), (2, .int x), (3, .int y), (4, .int z)] := hl
  refine lv_iload_n hx hb dX11_lives_0 rfl (lv_at hl 1 rfl) ?_
  refine lv_iconst (v := 0) hx hb dX11_lives_1 (by decide) ?_
  refine lv_bipush (v := 20) hx hb dX11_lives_2 (by decide) ?_
  refine gc_b (gr_S C B (As := [.int a, .int 0, .int 20]) (rest := []) (c_X11_in l D G τ α _ _ _ a 0 20) wl_862 wl_863 wl_40 wl_864 (na := 3) (by decide +kernel) rfl ⟨Nat.le_of_ble_eq_true rfl, Nat.le_of_ble_eq_true rfl⟩ ⟨Nat.le_of_ble_eq_true rfl, Nat.le_of_ble_eq_true rfl⟩ hl.1 rfl (Nat.le_of_ble_eq_true rfl) dX11_lives_4) (fun c1 => ?_) (fun c1 => ?_)
  · refine lv_if_eq (tgt := 56) hx hb dX11_lives_7 (by decide) (fun hc => absurd hc (by decide)) (fun _ => ?_)
    refine lv_iload_n hx hb dX11_lives_10 rfl (lv_at hl 2 rfl) ?_
    refine lv_iconst (v := 0) hx hb dX11_lives_11 (by decide) ?_
    refine lv_sipush (v := 1000) hx hb dX11_lives_12 (by decide) ?_
    refine gc_b (gr_S C B (As := [.int x, .int 0, .int 1000]) (rest := []) (c_X11_in l D G τ α _ _ _ x 0 1000) wl_862 wl_863 wl_40 wl_864 (na := 3) (by decide +kernel) rfl ⟨Nat.le_of_ble_eq_true rfl, Nat.le_of_ble_eq_true rfl⟩ ⟨Nat.le_of_ble_eq_true rfl, Nat.le_of_ble_eq_true rfl⟩ hl.1 rfl (Nat.le_of_ble_eq_true rfl) dX11_lives_15) (fun c2 => ?_) (fun c2 => ?_)
    · refine lv_if_eq (tgt := 56) hx hb dX11_lives_18 (by decide) (fun hc => absurd hc (by decide)) (fun _ => ?_)
      refine lv_iload_n hx hb dX11_lives_21 rfl (lv_at hl 3 rfl) ?_
      refine lv_iconst (v := 0) hx hb dX11_lives_22 (by decide) ?_
      refine lv_sipush (v := 1000) hx hb dX11_lives_23 (by decide) ?_
      refine gc_b (gr_S C B (As := [.int y, .int 0, .int 1000]) (rest := []) (c_X11_in l D G τ α _ _ _ y 0 1000) wl_862 wl_863 wl_40 wl_864 (na := 3) (by decide +kernel) rfl ⟨Nat.le_of_ble_eq_true rfl, Nat.le_of_ble_eq_true rfl⟩ ⟨Nat.le_of_ble_eq_true rfl, Nat.le_of_ble_eq_true rfl⟩ hl.1 rfl (Nat.le_of_ble_eq_true rfl) dX11_lives_26) (fun c3 => ?_) (fun c3 => ?_)
      · refine lv_if_eq (tgt := 56) hx hb dX11_lives_29 (by decide) (fun hc => absurd hc (by decide)) (fun _ => ?_)
        refine lv_iload hx hb dX11_lives_32 (lv_at hl 4 rfl) ?_
        refine lv_iconst (v := 0) hx hb dX11_lives_34 (by decide) ?_
        refine lv_sipush (v := 1000) hx hb dX11_lives_35 (by decide) ?_
        refine gc_b (gr_S C B (As := [.int z, .int 0, .int 1000]) (rest := []) (c_X11_in l D G τ α _ _ _ z 0 1000) wl_862 wl_863 wl_40 wl_864 (na := 3) (by decide +kernel) rfl ⟨Nat.le_of_ble_eq_true rfl, Nat.le_of_ble_eq_true rfl⟩ ⟨Nat.le_of_ble_eq_true rfl, Nat.le_of_ble_eq_true rfl⟩ hl.1 rfl (Nat.le_of_ble_eq_true rfl) dX11_lives_38) (fun c4 => ?_) (fun c4 => ?_)
        · refine lv_if_eq (tgt := 56) hx hb dX11_lives_41 (by decide) (fun hc => absurd hc (by decide)) (fun _ => ?_)
          refine lv_iload_n hx hb dX11_lives_44 rfl (lv_at hl 2 rfl) ?_
          refine lv_iload_n hx hb dX11_lives_45 rfl (lv_at hl 3 rfl) ?_
          refine lv_iadd hx hb dX11_lives_46 ?_
          refine lv_iload hx hb dX11_lives_47 (lv_at hl 4 rfl) ?_
          refine lv_iadd hx hb dX11_lives_49 ?_
          refine lv_sipush (v := 1000) hx hb dX11_lives_50 (by decide) ?_
          refine lv_icmp_le (tgt := 62) hx hb dX11_lives_53 (by decide) (fun c5 => ?_) (fun c5 => ?_)
          · refine lv_aload_n hx hb dX11_lives_62 rfl (lv_at hl 0 rfl) ?_
            refine g_get C B (0) (by decide) mE_0 rfl gf_11 34 (by decide) wl_761 (v := .ref (α 34)) mF_34 dX11_lives_63 ?_
            refine lv_iload_n hx hb dX11_lives_66 rfl (lv_at hl 1 rfl) ?_
            refine lv_iload_n hx hb dX11_lives_67 rfl (lv_at hl 2 rfl) ?_
            refine g_iast C B (34) (by decide) (f := S.2.2.1 34) mE_34 (vp_rng c1 (by decide) (by decide)) (j := a.toNatClampNeg) rfl dX11_lives_68 mU_34 (fun H locs B => ?_)
            refine lv_aload_n hx hb dX11_lives_69 rfl (lv_at hl 0 rfl) ?_
            refine g_get C B (0) (by decide) mE_0 rfl gf_11 35 (by decide) wl_762 (v := .ref (α 35)) mF_35 dX11_lives_70 ?_
            refine lv_iload_n hx hb dX11_lives_73 rfl (lv_at hl 1 rfl) ?_
            refine lv_iload_n hx hb dX11_lives_74 rfl (lv_at hl 3 rfl) ?_
            refine g_iast C B (35) (by decide) (f := S.2.2.1 35) mE_35 (vp_rng c1 (by decide) (by decide)) (j := a.toNatClampNeg) rfl dX11_lives_75 mU_35 (fun H locs B => ?_)
            refine lv_aload_n hx hb dX11_lives_76 rfl (lv_at hl 0 rfl) ?_
            refine g_get C B (0) (by decide) mE_0 rfl gf_11 36 (by decide) wl_763 (v := .ref (α 36)) mF_36 dX11_lives_77 ?_
            refine lv_iload_n hx hb dX11_lives_80 rfl (lv_at hl 1 rfl) ?_
            refine lv_iload hx hb dX11_lives_81 (lv_at hl 4 rfl) ?_
            refine g_iast C B (36) (by decide) (f := S.2.2.1 36) mE_36 (vp_rng c1 (by decide) (by decide)) (j := a.toNatClampNeg) rfl dX11_lives_83 mU_36 (fun H locs B => ?_)
            refine lv_sipush (v := 1000) hx hb dX11_lives_84 (by decide) ?_
            refine lv_iload_n hx hb dX11_lives_87 rfl (lv_at hl 2 rfl) ?_
            refine lv_isub hx hb dX11_lives_88 ?_
            refine lv_iload_n hx hb dX11_lives_89 rfl (lv_at hl 3 rfl) ?_
            refine lv_isub hx hb dX11_lives_90 ?_
            refine lv_iload hx hb dX11_lives_91 (lv_at hl 4 rfl) ?_
            refine lv_isub hx hb dX11_lives_93 ?_
            refine lv_i2l (v := (((1000 - x) - y) - z).toInt64) hx hb dX11_lives_94 rfl ?_
            exact ge_wl C B hr hlk (by have e9 : sp_lives S a x y z = ((((1000 - x) - y) - z).toInt64, (uA (uA (uA S 34 (upd (S.2.2.1 34) a.toNatClampNeg x)) 35 (upd (S.2.2.1 35) a.toNatClampNeg y)) 36 (upd (S.2.2.1 36) a.toNatClampNeg z))) := (by unfold sp_lives; (first | rw [if_pos c1] | rw [if_neg c1] | rw [if_neg (not_not_intro c1)] | skip); (first | rw [if_pos c2] | rw [if_neg c2] | rw [if_neg (not_not_intro c2)] | skip); (first | rw [if_pos c3] | rw [if_neg c3] | rw [if_neg (not_not_intro c3)] | skip); (first | rw [if_pos c4] | rw [if_neg c4] | rw [if_neg (not_not_intro c4)] | skip); (first | rw [if_pos c5] | rw [if_neg c5] | rw [if_neg (not_not_intro c5)] | skip); (first | done | rfl)); rw [e9]; exact ⟨rfl, rfl⟩) dX11_lives_95
          · refine lv_aload_n hx hb dX11_lives_56 rfl (lv_at hl 0 rfl) ?_
            refine lv_iconst (v := 1) hx hb dX11_lives_57 (by decide) ?_
            refine gc_wl B (gr_V C B (k := 0) (As := [.int 1]) (rest := []) (c_X11_no l D G τ α S _ 1 (vp_d (by decide))) (by decide) mE_0 rfl wl_865 wl_867 wl_14 wl_40 wl_868 (na := 1) (by decide +kernel) rfl ⟨Nat.le_of_ble_eq_true rfl, Nat.le_of_ble_eq_true rfl⟩ ⟨Nat.le_of_ble_eq_true rfl, Nat.le_of_ble_eq_true rfl⟩ hl.1 rfl (Nat.le_of_ble_eq_true rfl) dX11_lives_58) (fun r u h H locs B => ?_)
            obtain ⟨rfl, rfl⟩ := h
            have B : gB D G τ (gA α Lm sz) s H locs α (mE G α (sNo S 1).2) Lm := B
            exact ge_wl C B hr hlk (by have e9 : sp_lives S a x y z = ((sNo S 1).1, (sNo S 1).2) := (by unfold sp_lives; (first | rw [if_pos c1] | rw [if_neg c1] | rw [if_neg (not_not_intro c1)] | skip); (first | rw [if_pos c2] | rw [if_neg c2] | rw [if_neg (not_not_intro c2)] | skip); (first | rw [if_pos c3] | rw [if_neg c3] | rw [if_neg (not_not_intro c3)] | skip); (first | rw [if_pos c4] | rw [if_neg c4] | rw [if_neg (not_not_intro c4)] | skip); (first | rw [if_pos c5] | rw [if_neg c5] | rw [if_neg (not_not_intro c5)] | skip); (first | done | rfl)); rw [e9]; exact ⟨rfl, rfl⟩) dX11_lives_61
        · refine lv_if_eq (tgt := 56) hx hb dX11_lives_41 (by decide) (fun _ => ?_) (fun hc => absurd (by decide) hc)
          refine lv_aload_n hx hb dX11_lives_56 rfl (lv_at hl 0 rfl) ?_
          refine lv_iconst (v := 1) hx hb dX11_lives_57 (by decide) ?_
          refine gc_wl B (gr_V C B (k := 0) (As := [.int 1]) (rest := []) (c_X11_no l D G τ α S _ 1 (vp_d (by decide))) (by decide) mE_0 rfl wl_865 wl_867 wl_14 wl_40 wl_868 (na := 1) (by decide +kernel) rfl ⟨Nat.le_of_ble_eq_true rfl, Nat.le_of_ble_eq_true rfl⟩ ⟨Nat.le_of_ble_eq_true rfl, Nat.le_of_ble_eq_true rfl⟩ hl.1 rfl (Nat.le_of_ble_eq_true rfl) dX11_lives_58) (fun r u h H locs B => ?_)
          obtain ⟨rfl, rfl⟩ := h
          have B : gB D G τ (gA α Lm sz) s H locs α (mE G α (sNo S 1).2) Lm := B
          exact ge_wl C B hr hlk (by have e9 : sp_lives S a x y z = ((sNo S 1).1, (sNo S 1).2) := (by unfold sp_lives; (first | rw [if_pos c1] | rw [if_neg c1] | rw [if_neg (not_not_intro c1)] | skip); (first | rw [if_pos c2] | rw [if_neg c2] | rw [if_neg (not_not_intro c2)] | skip); (first | rw [if_pos c3] | rw [if_neg c3] | rw [if_neg (not_not_intro c3)] | skip); (first | rw [if_pos c4] | rw [if_neg c4] | rw [if_neg (not_not_intro c4)] | skip); (first | done | rfl)); rw [e9]; exact ⟨rfl, rfl⟩) dX11_lives_61
      · refine lv_if_eq (tgt := 56) hx hb dX11_lives_29 (by decide) (fun _ => ?_) (fun hc => absurd (by decide) hc)
        refine lv_aload_n hx hb dX11_lives_56 rfl (lv_at hl 0 rfl) ?_
        refine lv_iconst (v := 1) hx hb dX11_lives_57 (by decide) ?_
        refine gc_wl B (gr_V C B (k := 0) (As := [.int 1]) (rest := []) (c_X11_no l D G τ α S _ 1 (vp_d (by decide))) (by decide) mE_0 rfl wl_865 wl_867 wl_14 wl_40 wl_868 (na := 1) (by decide +kernel) rfl ⟨Nat.le_of_ble_eq_true rfl, Nat.le_of_ble_eq_true rfl⟩ ⟨Nat.le_of_ble_eq_true rfl, Nat.le_of_ble_eq_true rfl⟩ hl.1 rfl (Nat.le_of_ble_eq_true rfl) dX11_lives_58) (fun r u h H locs B => ?_)
        obtain ⟨rfl, rfl⟩ := h
        have B : gB D G τ (gA α Lm sz) s H locs α (mE G α (sNo S 1).2) Lm := B
        exact ge_wl C B hr hlk (by have e9 : sp_lives S a x y z = ((sNo S 1).1, (sNo S 1).2) := (by unfold sp_lives; (first | rw [if_pos c1] | rw [if_neg c1] | rw [if_neg (not_not_intro c1)] | skip); (first | rw [if_pos c2] | rw [if_neg c2] | rw [if_neg (not_not_intro c2)] | skip); (first | rw [if_pos c3] | rw [if_neg c3] | rw [if_neg (not_not_intro c3)] | skip); (first | done | rfl)); rw [e9]; exact ⟨rfl, rfl⟩) dX11_lives_61
    · refine lv_if_eq (tgt := 56) hx hb dX11_lives_18 (by decide) (fun _ => ?_) (fun hc => absurd (by decide) hc)
      refine lv_aload_n hx hb dX11_lives_56 rfl (lv_at hl 0 rfl) ?_
      refine lv_iconst (v := 1) hx hb dX11_lives_57 (by decide) ?_
      refine gc_wl B (gr_V C B (k := 0) (As := [.int 1]) (rest := []) (c_X11_no l D G τ α S _ 1 (vp_d (by decide))) (by decide) mE_0 rfl wl_865 wl_867 wl_14 wl_40 wl_868 (na := 1) (by decide +kernel) rfl ⟨Nat.le_of_ble_eq_true rfl, Nat.le_of_ble_eq_true rfl⟩ ⟨Nat.le_of_ble_eq_true rfl, Nat.le_of_ble_eq_true rfl⟩ hl.1 rfl (Nat.le_of_ble_eq_true rfl) dX11_lives_58) (fun r u h H locs B => ?_)
      obtain ⟨rfl, rfl⟩ := h
      have B : gB D G τ (gA α Lm sz) s H locs α (mE G α (sNo S 1).2) Lm := B
      exact ge_wl C B hr hlk (by have e9 : sp_lives S a x y z = ((sNo S 1).1, (sNo S 1).2) := (by unfold sp_lives; (first | rw [if_pos c1] | rw [if_neg c1] | rw [if_neg (not_not_intro c1)] | skip); (first | rw [if_pos c2] | rw [if_neg c2] | rw [if_neg (not_not_intro c2)] | skip); (first | done | rfl)); rw [e9]; exact ⟨rfl, rfl⟩) dX11_lives_61
  · refine lv_if_eq (tgt := 56) hx hb dX11_lives_7 (by decide) (fun _ => ?_) (fun hc => absurd (by decide) hc)
    refine lv_aload_n hx hb dX11_lives_56 rfl (lv_at hl 0 rfl) ?_
    refine lv_iconst (v := 1) hx hb dX11_lives_57 (by decide) ?_
    refine gc_wl B (gr_V C B (k := 0) (As := [.int 1]) (rest := []) (c_X11_no l D G τ α S _ 1 (vp_d (by decide))) (by decide) mE_0 rfl wl_865 wl_867 wl_14 wl_40 wl_868 (na := 1) (by decide +kernel) rfl ⟨Nat.le_of_ble_eq_true rfl, Nat.le_of_ble_eq_true rfl⟩ ⟨Nat.le_of_ble_eq_true rfl, Nat.le_of_ble_eq_true rfl⟩ hl.1 rfl (Nat.le_of_ble_eq_true rfl) dX11_lives_58) (fun r u h H locs B => ?_)
    obtain ⟨rfl, rfl⟩ := h
    have B : gB D G τ (gA α Lm sz) s H locs α (mE G α (sNo S 1).2) Lm := B
    exact ge_wl C B hr hlk (by have e9 : sp_lives S a x y z = ((sNo S 1).1, (sNo S 1).2) := (by unfold sp_lives; (first | rw [if_pos c1] | rw [if_neg c1] | rw [if_neg (not_not_intro c1)] | skip); (first | done | rfl)); rw [e9]; exact ⟨rfl, rfl⟩) dX11_lives_61
set_option maxHeartbeats 4000000 in
set_option maxRecDepth 100000 in
theorem c_X11_tell (l : Launch) (D : va_G) (G : Nat → ClassId) (τ α : Nat → Nat) (S : St) (sz : Nat) (v : Int32) (hN : okN S) : Wl l D G τ yX11_tell cX11_tell 2 (some .long) 2 0 0 [.ref (α 0), .int v] α (mE G α S) Lm sz (fun r u => r = (sp_tell S v).1 ∧ u = (α, mE G α (sp_tell S v).2, Lm)) := by
  refine gM _ (by decide) rfl (Nat.le_of_ble_eq_true rfl) ?_
  intro p e s m below meth c ls C hr hlk hnm hsz B hl
  have hx := C.1
  have hb := C.2.1
  have hl : lv_has ls 2 [(0, .ref (α 0)), (1, .int v)] := hl
  refine lv_aload_n hx hb dX11_tell_0 rfl (lv_at hl 0 rfl) ?_
  refine g_get C B (0) (by decide) mE_0 rfl gf_11 37 (by decide) wl_764 (v := .int (S.1 37)) mF_37 dX11_tell_1 ?_
  refine lv_bipush (v := 30) hx hb dX11_tell_4 (by decide) ?_
  refine lv_icmp_ne (tgt := 15) hx hb dX11_tell_6 (by decide) (fun c1 => ?_) (fun c1 => ?_)
  · refine lv_aload_n hx hb dX11_tell_15 rfl (lv_at hl 0 rfl) ?_
    refine g_get C B (0) (by decide) mE_0 rfl gf_11 38 (by decide) wl_765 (v := .ref (α 38)) mF_38 dX11_tell_16 ?_
    refine lv_aload_n hx hb dX11_tell_19 rfl (lv_at hl 0 rfl) ?_
    refine g_get C B (0) (by decide) mE_0 rfl gf_11 37 (by decide) wl_764 (v := .int (S.1 37)) mF_37 dX11_tell_20 ?_
    refine lv_iload_n hx hb dX11_tell_23 rfl (lv_at hl 1 rfl) ?_
    refine g_iast C B (38) (by decide) (f := S.2.2.1 38) mE_38 (vp_ne hN.2.2.2.2.2 c1 rfl) (j := (S.1 37).toNatClampNeg) rfl dX11_tell_24 mU_38 (fun H locs B => ?_)
    refine lv_aload_n hx hb dX11_tell_25 rfl (lv_at hl 0 rfl) ?_
    refine lv_dup hx hb dX11_tell_26 rfl ?_
    refine g_get C B (0) (by decide) mE_0 rfl gf_11 37 (by decide) wl_764 (v := .int (S.1 37)) mF_37 dX11_tell_27 ?_
    refine lv_iconst (v := 1) hx hb dX11_tell_30 (by decide) ?_
    refine lv_iadd hx hb dX11_tell_31 ?_
    refine g_put C B (0) (by decide) mE_0 rfl gf_11 tyX11 tyX11_ok nmX11 37 (by decide) wl_764 rfl (ty := .int) (v := .int (S.1 37 + 1)) (by decide +kernel) rfl rfl (Nat.le_of_ble_eq_true rfl) dX11_tell_32 mO_37 (fun H locs B => ?_)
    refine lv_aload_n hx hb dX11_tell_35 rfl (lv_at hl 0 rfl) ?_
    refine g_get C B (0) (by decide) mE_0 rfl gf_11 37 (by decide) wl_764 (v := .int (S.1 37 + 1)) mF_37 dX11_tell_36 ?_
    refine lv_i2l (v := (S.1 37 + 1).toInt64) hx hb dX11_tell_39 rfl ?_
    exact ge_wl C B hr hlk (by have e9 : sp_tell S v = ((S.1 37 + 1).toInt64, (uI (uA S 38 (upd (S.2.2.1 38) ((S.1 37).toNatClampNeg) v)) 37 (S.1 37 + 1))) := (by unfold sp_tell; (first | rw [if_pos c1] | rw [if_neg c1] | rw [if_neg (not_not_intro c1)] | skip); (first | done | rfl)); rw [e9]; exact ⟨rfl, rfl⟩) dX11_tell_40
  · refine lv_aload_n hx hb dX11_tell_9 rfl (lv_at hl 0 rfl) ?_
    refine lv_iconst (v := 4) hx hb dX11_tell_10 (by decide) ?_
    refine gc_wl B (gr_V C B (k := 0) (As := [.int 4]) (rest := []) (c_X11_no l D G τ α S _ 4 (vp_d (by decide))) (by decide) mE_0 rfl wl_865 wl_867 wl_14 wl_40 wl_868 (na := 1) (by decide +kernel) rfl ⟨Nat.le_of_ble_eq_true rfl, Nat.le_of_ble_eq_true rfl⟩ ⟨Nat.le_of_ble_eq_true rfl, Nat.le_of_ble_eq_true rfl⟩ hl.1 rfl (Nat.le_of_ble_eq_true rfl) dX11_tell_11) (fun r u h H locs B => ?_)
    obtain ⟨rfl, rfl⟩ := h
    have B : gB D G τ (gA α Lm sz) s H locs α (mE G α (sNo S 4).2) Lm := B
    exact ge_wl C B hr hlk (by have e9 : sp_tell S v = ((sNo S 4).1, (sNo S 4).2) := (by unfold sp_tell; (first | rw [if_pos c1] | rw [if_neg c1] | rw [if_neg (not_not_intro c1)] | skip); (first | done | rfl)); rw [e9]; exact ⟨rfl, rfl⟩) dX11_tell_14
set_option maxHeartbeats 4000000 in
set_option maxRecDepth 100000 in
theorem c_X11_foretold (l : Launch) (D : va_G) (G : Nat → ClassId) (τ α : Nat → Nat) (S : St) (sz : Nat) (mo : Int32) (hN : okN S) (hD : okD S) (hP : okP S) : Wl l D G τ yX11_foretold cX11_foretold 6 (some .long) 3 0 0 [.ref (α 0), .int mo] α (mE G α S) Lm sz (fun r u => r = (sp_foretold S mo).1 ∧ u = (α, mE G α (sp_foretold S mo).2, Lm)) := by
  refine gM _ (by decide) rfl (Nat.le_of_ble_eq_true rfl) ?_
  intro p e s m below meth c ls C hr hlk hnm hsz B hl
  have hx := C.1
  have hb := C.2.1
  have hl : lv_has ls 6 [(0, .ref (α 0)), (1, .int mo)] := hl
  have hNe := nOf_eq hN.2.2.2.2.1.1
  have hNl : nOf S 15 ≤ 30 := nOf_le hN.2.2.2.2.1.1 hN.2.2.2.2.1.2 (by decide)
  by_cases hmo : ¬ inR mo 0 1199
  · refine lv_iload_n hx hb dX11_foretold_0 rfl (lv_at hl 1 rfl) ?_
    refine gc_b (gr_S C B (As := [.int mo]) (rest := []) (c_X11_isMonth l D G τ α _ _ _ mo) wl_911 wl_912 wl_40 wl_913 (na := 1) (by decide +kernel) rfl ⟨Nat.le_of_ble_eq_true rfl, Nat.le_of_ble_eq_true rfl⟩ ⟨Nat.le_of_ble_eq_true rfl, Nat.le_of_ble_eq_true rfl⟩ hl.1 rfl (Nat.le_of_ble_eq_true rfl) dX11_foretold_1) (fun c1 => ?_) (fun c1 => ?_)
    · refine lv_if_ne (tgt := 13) hx hb dX11_foretold_4 (by decide) (fun _ => ?_) (fun hc => absurd hc (by decide))
      exact absurd c1 hmo
    · refine lv_if_ne (tgt := 13) hx hb dX11_foretold_4 (by decide) (fun hc => absurd (by decide) hc) (fun _ => ?_)
      refine lv_aload_n hx hb dX11_foretold_7 rfl (lv_at hl 0 rfl) ?_
      refine lv_iconst (v := 1) hx hb dX11_foretold_8 (by decide) ?_
      refine gc_wl B (gr_V C B (k := 0) (As := [.int 1]) (rest := []) (c_X11_no l D G τ α S _ 1 (vp_d (by decide))) (by decide) mE_0 rfl wl_865 wl_867 wl_14 wl_40 wl_868 (na := 1) (by decide +kernel) rfl ⟨Nat.le_of_ble_eq_true rfl, Nat.le_of_ble_eq_true rfl⟩ ⟨Nat.le_of_ble_eq_true rfl, Nat.le_of_ble_eq_true rfl⟩ hl.1 rfl (Nat.le_of_ble_eq_true rfl) dX11_foretold_9) (fun r u h H locs B => ?_)
      obtain ⟨rfl, rfl⟩ := h
      have B : gB D G τ (gA α Lm sz) s H locs α (mE G α (sNo S 1).2) Lm := B
      exact ge_wl C B hr hlk (by have e9 : sp_foretold S mo = ((sNo S 1).1, (sNo S 1).2) := (by unfold sp_foretold; (first | rw [if_pos c1] | rw [if_neg c1] | rw [if_neg (not_not_intro c1)] | skip); (first | done | rfl)); rw [e9]; exact ⟨rfl, rfl⟩) dX11_foretold_12
  have hmo : inR mo 0 1199 := Decidable.not_not.mp hmo
  have loop : ∀ (nn kk : Nat) (x : Int64) (ls : Array Slot), nn + kk = nOf S 15 → (forL S mo kk = x) → lv_has ls 6 [(4, .int (nI kk)), (2, .long x), (0, .ref (α 0)), (1, .int mo)] → W p l e (rmd 3 0 0) s m [.ref (α 0), .int mo].toArray below meth c s.heap [] 0 0 (MQ below (va_Ql (fun r u => r = (sp_foretold S mo).1 ∧ u = (α, mE G α (sp_foretold S mo).2, Lm)) (gAt D (gA α Lm sz)) (gA α Lm sz)) [.ref (α 0), .int mo].toArray s 0 0 (gA α Lm sz)) (F0 m 18 ls []) := by
    intro nn
    induction nn with
    | zero =>
      intro kk x ls hk hI hl
      refine lv_iload hx hb dX11_foretold_18 (lv_at hl 0 rfl) ?_
      refine lv_aload_n hx hb dX11_foretold_20 rfl (lv_at hl 2 rfl) ?_
      refine g_get C B (0) (by decide) mE_0 rfl gf_11 15 (by decide) wl_742 (v := .int (S.1 15)) mF_15 dX11_foretold_21 ?_
      refine lv_icmp_ge (tgt := 70) hx hb dX11_foretold_24 (by decide) (fun _ => ?_) (fun hc => absurd (by rw [hNe]; exact nI_le (by omega) (by omega)) hc)
      refine lv_lload_n hx hb dX11_foretold_70 rfl (lv_at hl 1 rfl) ?_
      exact ge_wl C B hr hlk (by have e9 : sp_foretold S mo = (x, S) := (by unfold sp_foretold; rw [if_neg (not_not_intro hmo), show nOf S 15 = kk by omega, hI]); rw [e9]; exact ⟨rfl, rfl⟩) dX11_foretold_71
    | succ nn ih =>
      intro kk x ls hk hI hl
      refine lv_iload hx hb dX11_foretold_18 (lv_at hl 0 rfl) ?_
      refine lv_aload_n hx hb dX11_foretold_20 rfl (lv_at hl 2 rfl) ?_
      refine g_get C B (0) (by decide) mE_0 rfl gf_11 15 (by decide) wl_742 (v := .int (S.1 15)) mF_15 dX11_foretold_21 ?_
      refine lv_icmp_ge (tgt := 70) hx hb dX11_foretold_24 (by decide) (fun hc => absurd hc (by rw [hNe]; exact nI_ge (by omega) (by omega))) (fun _ => ?_)
      refine lv_aload_n hx hb dX11_foretold_27 rfl (lv_at hl 2 rfl) ?_
      refine lv_iload hx hb dX11_foretold_28 (lv_at hl 0 rfl) ?_
      refine lv_iload_n hx hb dX11_foretold_30 rfl (lv_at hl 3 rfl) ?_
      refine gc_o (oI := oI) (gr_V C B (k := 0) (As := [.int (nI kk), .int mo]) (rest := []) (c_X11_fallOf l D G τ α S _ kk mo (by omega) hN hP) (by decide) mE_0 rfl wl_874 wl_876 wl_16 wl_40 wl_877 (na := 2) (by decide +kernel) rfl ⟨Nat.le_of_ble_eq_true rfl, Nat.le_of_ble_eq_true rfl⟩ ⟨Nat.le_of_ble_eq_true rfl, Nat.le_of_ble_eq_true rfl⟩ hl.1 rfl (Nat.le_of_ble_eq_true rfl) dX11_foretold_31) (fun o2 => ?_) (fun f3 o2 => ?_)
      · refine lv_istore (lv' := [(5, .int (-1)), (4, .int (nI kk)), (2, .long x), (0, .ref (α 0)), (1, .int mo)]) hx hb dX11_foretold_34 hl (by decide) rfl (fun ls hl => ?_)
        refine lv_iload hx hb dX11_foretold_36 (lv_at hl 0 rfl) ?_
        refine lv_if_lt (tgt := 64) hx hb dX11_foretold_38 (by decide) (fun _ => ?_) (fun hc => absurd (by decide) hc)
        refine lv_iinc (v := ((nI kk) + 1)) (lv' := [(4, .int ((nI kk) + 1)), (5, .int (-1)), (2, .long x), (0, .ref (α 0)), (1, .int mo)]) hx hb dX11_foretold_64 hl (k := 1) rfl rfl (by decide) rfl (fun ls hl => ?_)
        refine lv_goto (tgt := 18) hx hb dX11_foretold_67 (by decide) ?_
        exact ih (kk + 1) x ls (by omega) (by rw [forL, o2]; exact hI) (by have h9 := lv_sub (l' := [(4, .int ((nI kk) + 1)), (2, .long x), (0, .ref (α 0)), (1, .int mo)]) hl [0, 2, 3, 4] rfl; rw [nI_1] at h9; exact h9)
      · have f3_b : f3 < 90 := Nat.lt_of_lt_of_le (sFall_lt o2).1 (nOf_le hN.2.2.2.1.1 hN.2.2.2.1.2 (by decide))
        refine lv_istore (lv' := [(5, .int (nI f3)), (4, .int (nI kk)), (2, .long x), (0, .ref (α 0)), (1, .int mo)]) hx hb dX11_foretold_34 hl (by decide) rfl (fun ls hl => ?_)
        refine lv_iload hx hb dX11_foretold_36 (lv_at hl 0 rfl) ?_
        refine lv_if_lt (tgt := 64) hx hb dX11_foretold_38 (by decide) (fun hc => absurd hc (nI_pos (by omega))) (fun _ => ?_)
        refine lv_aload_n hx hb dX11_foretold_41 rfl (lv_at hl 3 rfl) ?_
        refine lv_iload hx hb dX11_foretold_42 (lv_at hl 0 rfl) ?_
        refine lv_iload_n hx hb dX11_foretold_44 rfl (lv_at hl 4 rfl) ?_
        refine gc_i (gr_V C B (k := 0) (As := [.int (nI f3), .int mo]) (rest := []) (c_X11_dueMonth l D G τ α S _ f3 mo (by omega) hN hD) (by decide) mE_0 rfl wl_886 wl_888 wl_19 wl_40 wl_889 (na := 2) (by decide +kernel) rfl ⟨Nat.le_of_ble_eq_true rfl, Nat.le_of_ble_eq_true rfl⟩ ⟨Nat.le_of_ble_eq_true rfl, Nat.le_of_ble_eq_true rfl⟩ hl.1 rfl (Nat.le_of_ble_eq_true rfl) dX11_foretold_45) (fun r h => ?_)
        subst h
        refine lv_iload_n hx hb dX11_foretold_48 rfl (lv_at hl 4 rfl) ?_
        refine lv_icmp_ne (tgt := 64) hx hb dX11_foretold_49 (by decide) (fun c4 => ?_) (fun c4 => ?_)
        · refine lv_iinc (v := ((nI kk) + 1)) (lv' := [(4, .int ((nI kk) + 1)), (5, .int (nI f3)), (2, .long x), (0, .ref (α 0)), (1, .int mo)]) hx hb dX11_foretold_64 hl (k := 1) rfl rfl (by decide) rfl (fun ls hl => ?_)
          refine lv_goto (tgt := 18) hx hb dX11_foretold_67 (by decide) ?_
          exact ih (kk + 1) x ls (by omega) (by rw [forL, o2]; dsimp only; (first | rw [if_pos c4] | rw [if_neg c4]); rw [hI]) (by have h9 := lv_sub (l' := [(4, .int ((nI kk) + 1)), (2, .long x), (0, .ref (α 0)), (1, .int mo)]) hl [0, 2, 3, 4] rfl; rw [nI_1] at h9; exact h9)
        · refine lv_lload_n hx hb dX11_foretold_52 rfl (lv_at hl 2 rfl) ?_
          refine lv_aload_n hx hb dX11_foretold_53 rfl (lv_at hl 3 rfl) ?_
          refine lv_iload hx hb dX11_foretold_54 (lv_at hl 1 rfl) ?_
          refine lv_iload hx hb dX11_foretold_56 (lv_at hl 0 rfl) ?_
          refine lv_iload_n hx hb dX11_foretold_58 rfl (lv_at hl 4 rfl) ?_
          refine gc_l (gr_V C B (k := 0) (As := [.int (nI kk), .int (nI f3), .int mo]) (rest := [.long x]) (c_X11_dueOf l D G τ α S _ kk f3 mo (by omega) (by omega) hN hD) (by decide) mE_0 rfl wl_894 wl_896 wl_21 wl_40 wl_897 (na := 3) (by decide +kernel) rfl ⟨Nat.le_of_ble_eq_true rfl, Nat.le_of_ble_eq_true rfl⟩ ⟨Nat.le_of_ble_eq_true rfl, Nat.le_of_ble_eq_true rfl⟩ hl.1 rfl (Nat.le_of_ble_eq_true rfl) dX11_foretold_59) (fun r h => ?_)
          subst h
          refine lv_ladd hx hb dX11_foretold_62 ?_
          refine lv_lstore_n (lv' := [(2, .long (x + (sDue S kk f3 mo))), (5, .int (nI f3)), (4, .int (nI kk)), (0, .ref (α 0)), (1, .int mo)]) hx hb dX11_foretold_63 rfl hl (by decide) rfl (fun ls hl => ?_)
          refine lv_iinc (v := ((nI kk) + 1)) (lv' := [(4, .int ((nI kk) + 1)), (2, .long (x + (sDue S kk f3 mo))), (5, .int (nI f3)), (0, .ref (α 0)), (1, .int mo)]) hx hb dX11_foretold_64 hl (k := 2) rfl rfl (by decide) rfl (fun ls hl => ?_)
          refine lv_goto (tgt := 18) hx hb dX11_foretold_67 (by decide) ?_
          exact ih (kk + 1) (x + (sDue S kk f3 mo)) ls (by omega) (by rw [forL, o2]; dsimp only; (first | rw [if_pos c4] | rw [if_neg c4]); rw [hI]) (by have h9 := lv_sub (l' := [(4, .int ((nI kk) + 1)), (2, .long (x + (sDue S kk f3 mo))), (0, .ref (α 0)), (1, .int mo)]) hl [0, 1, 3, 4] rfl; rw [nI_1] at h9; exact h9)
  refine lv_iload_n hx hb dX11_foretold_0 rfl (lv_at hl 1 rfl) ?_
  refine gc_b (gr_S C B (As := [.int mo]) (rest := []) (c_X11_isMonth l D G τ α _ _ _ mo) wl_911 wl_912 wl_40 wl_913 (na := 1) (by decide +kernel) rfl ⟨Nat.le_of_ble_eq_true rfl, Nat.le_of_ble_eq_true rfl⟩ ⟨Nat.le_of_ble_eq_true rfl, Nat.le_of_ble_eq_true rfl⟩ hl.1 rfl (Nat.le_of_ble_eq_true rfl) dX11_foretold_1) (fun c5 => ?_) (fun c5 => ?_)
  · refine lv_if_ne (tgt := 13) hx hb dX11_foretold_4 (by decide) (fun _ => ?_) (fun hc => absurd hc (by decide))
    refine lv_lconst (v := 0) hx hb dX11_foretold_13 (by decide) ?_
    refine lv_lstore_n (lv' := [(2, .long 0), (0, .ref (α 0)), (1, .int mo)]) hx hb dX11_foretold_14 rfl hl (by decide) rfl (fun ls hl => ?_)
    refine lv_iconst (v := 0) hx hb dX11_foretold_15 (by decide) ?_
    refine lv_istore (lv' := [(4, .int 0), (2, .long 0), (0, .ref (α 0)), (1, .int mo)]) hx hb dX11_foretold_16 hl (by decide) rfl (fun ls hl => ?_)
    exact loop (nOf S 15) 0 0 ls (by omega) rfl (lv_sub hl [0, 1, 2, 3] rfl)
  · refine lv_if_ne (tgt := 13) hx hb dX11_foretold_4 (by decide) (fun hc => absurd (by decide) hc) (fun _ => ?_)
    exact absurd hmo c5
theorem ages_nat {a b : Int32} (h : inR a 0 20 ∧ inR b a 21) : ∃ a9 b9 : Nat, a9 ≤ b9 ∧ b9 ≤ 21 ∧ a = nI a9 ∧ b = nI b9 := by
  obtain ⟨⟨h1, h2⟩, h3, h4⟩ := h
  have hb : 0 ≤ b := by simp only [i3e] at h1 h3 ⊢; omega
  have e1 := cl_int h1
  have e2 := cl_int hb
  refine ⟨a.toNatClampNeg, b.toNatClampNeg, ?_, ?_, cl_eq h1, cl_eq hb⟩
  · simp only [i3e] at h3; omega
  · simp only [i3e, zi_21] at h4; omega
set_option maxHeartbeats 4000000 in
set_option maxRecDepth 100000 in
theorem c_X11_value (l : Launch) (D : va_G) (G : Nat → ClassId) (τ α : Nat → Nat) (S : St) (sz : Nat) (a b d : Int32) (hN : okN S) : Wl l D G τ yX11_value cX11_value 4 (some .long) 2 0 0 [.ref (α 0), .int a, .int b, .int d] α (mE G α S) Lm sz (fun r u => r = (sp_value S a b d).1 ∧ u = (α, mE G α (sp_value S a b d).2, Lm)) := by
  refine gM _ (by decide) rfl (Nat.le_of_ble_eq_true rfl) ?_
  intro p e s m below meth c ls C hr hlk hnm hsz B hl
  have hx := C.1
  have hb := C.2.1
  have hl : lv_has ls 4 [(0, .ref (α 0)), (1, .int a), (2, .int b), (3, .int d)] := hl
  refine lv_iload_n hx hb dX11_value_0 rfl (lv_at hl 1 rfl) ?_
  refine lv_iload_n hx hb dX11_value_1 rfl (lv_at hl 2 rfl) ?_
  refine gc_b (gr_S C B (As := [.int a, .int b]) (rest := []) (c_X11_areAges l D G τ α _ _ _ a b) wl_1003 wl_1004 wl_40 wl_1005 (na := 2) (by decide +kernel) rfl ⟨Nat.le_of_ble_eq_true rfl, Nat.le_of_ble_eq_true rfl⟩ ⟨Nat.le_of_ble_eq_true rfl, Nat.le_of_ble_eq_true rfl⟩ hl.1 rfl (Nat.le_of_ble_eq_true rfl) dX11_value_2) (fun c1 => ?_) (fun c1 => ?_)
  · obtain ⟨a9, b9, hab9, hb21, rfl, rfl⟩ := ages_nat c1
    have a9_b : a9 < 2 ^ 31 := by omega
    have b9_b : b9 < 2 ^ 31 := by omega
    refine lv_if_eq (tgt := 18) hx hb dX11_value_5 (by decide) (fun hc => absurd hc (by decide)) (fun _ => ?_)
    refine lv_iload_n hx hb dX11_value_8 rfl (lv_at hl 3 rfl) ?_
    refine lv_iconst (v := 0) hx hb dX11_value_9 (by decide) ?_
    refine g_ldc C wl_1006 dX11_value_10 ?_
    refine gc_b (gr_S C B (As := [.int d, .int 0, .int 100000]) (rest := []) (c_X11_in l D G τ α _ _ _ d 0 100000) wl_862 wl_863 wl_40 wl_864 (na := 3) (by decide +kernel) rfl ⟨Nat.le_of_ble_eq_true rfl, Nat.le_of_ble_eq_true rfl⟩ ⟨Nat.le_of_ble_eq_true rfl, Nat.le_of_ble_eq_true rfl⟩ hl.1 rfl (Nat.le_of_ble_eq_true rfl) dX11_value_12) (fun c2 => ?_) (fun c2 => ?_)
    · refine lv_if_ne (tgt := 24) hx hb dX11_value_15 (by decide) (fun _ => ?_) (fun hc => absurd hc (by decide))
      refine lv_aload_n hx hb dX11_value_24 rfl (lv_at hl 0 rfl) ?_
      refine lv_iload_n hx hb dX11_value_25 rfl (lv_at hl 1 rfl) ?_
      refine lv_iload_n hx hb dX11_value_26 rfl (lv_at hl 2 rfl) ?_
      refine gc_wv B (gr_V C B (k := 0) (As := [.int (nI a9), .int (nI b9)]) (rest := []) (c_X11_live l D G τ α S _ a9 b9 (by omega) (by omega)) (by decide) mE_0 rfl wl_1007 wl_1009 wl_27 wl_40 wl_1010 (na := 2) (by decide +kernel) rfl ⟨Nat.le_of_ble_eq_true rfl, Nat.le_of_ble_eq_true rfl⟩ ⟨Nat.le_of_ble_eq_true rfl, Nat.le_of_ble_eq_true rfl⟩ hl.1 rfl (Nat.le_of_ble_eq_true rfl) dX11_value_27) (fun u h H locs B => ?_)
      subst h
      have B : gB D G τ (gA α Lm sz) s H locs α (mE G α (uJ (uJ S 41 ((liveL S a9 (b9 - a9)).1)) 42 ((liveL S a9 (b9 - a9)).2))) Lm := B
      refine lv_iload_n hx hb dX11_value_30 rfl (lv_at hl 3 rfl) ?_
      refine lv_i2l (v := d.toInt64) hx hb dX11_value_31 rfl ?_
      refine lv_aload_n hx hb dX11_value_32 rfl (lv_at hl 0 rfl) ?_
      refine g_get C B (0) (by decide) mE_0 rfl gf_11 42 (by decide) wl_769 (v := .long ((liveL S a9 (b9 - a9)).2)) mF_42 dX11_value_33 ?_
      refine lv_lmul hx hb dX11_value_36 ?_
      refine g_ldc2 C wl_1011 dX11_value_37 ?_
      refine lv_ldiv hx hb dX11_value_40 (by decide) ?_
      exact ge_wl C B hr hlk (by have e9 : sp_value S (nI a9) (nI b9) d = (((d.toInt64 * (liveL S a9 (b9 - a9)).2) / 1000000), (uJ (uJ S 41 ((liveL S a9 (b9 - a9)).1)) 42 ((liveL S a9 (b9 - a9)).2))) := (by unfold sp_value sLv; (try simp only [nI_clamp a9_b, nI_clamp b9_b]); (first | rw [if_pos c1] | rw [if_neg c1] | rw [if_neg (not_not_intro c1)] | skip); (try simp only [nI_clamp a9_b, nI_clamp b9_b]); (first | rw [if_pos c2] | rw [if_neg c2] | rw [if_neg (not_not_intro c2)] | skip); (try simp only [nI_clamp a9_b, nI_clamp b9_b]); (first | done | rfl)); rw [e9]; exact ⟨rfl, rfl⟩) dX11_value_41
    · refine lv_if_ne (tgt := 24) hx hb dX11_value_15 (by decide) (fun hc => absurd (by decide) hc) (fun _ => ?_)
      refine lv_aload_n hx hb dX11_value_18 rfl (lv_at hl 0 rfl) ?_
      refine lv_iconst (v := 1) hx hb dX11_value_19 (by decide) ?_
      refine gc_wl B (gr_V C B (k := 0) (As := [.int 1]) (rest := []) (c_X11_no l D G τ α S _ 1 (vp_d (by decide))) (by decide) mE_0 rfl wl_865 wl_867 wl_14 wl_40 wl_868 (na := 1) (by decide +kernel) rfl ⟨Nat.le_of_ble_eq_true rfl, Nat.le_of_ble_eq_true rfl⟩ ⟨Nat.le_of_ble_eq_true rfl, Nat.le_of_ble_eq_true rfl⟩ hl.1 rfl (Nat.le_of_ble_eq_true rfl) dX11_value_20) (fun r u h H locs B => ?_)
      obtain ⟨rfl, rfl⟩ := h
      have B : gB D G τ (gA α Lm sz) s H locs α (mE G α (sNo S 1).2) Lm := B
      exact ge_wl C B hr hlk (by have e9 : sp_value S (nI a9) (nI b9) d = ((sNo S 1).1, (sNo S 1).2) := (by unfold sp_value sLv; (try simp only [nI_clamp a9_b, nI_clamp b9_b]); (first | rw [if_pos c1] | rw [if_neg c1] | rw [if_neg (not_not_intro c1)] | skip); (try simp only [nI_clamp a9_b, nI_clamp b9_b]); (first | rw [if_pos c2] | rw [if_neg c2] | rw [if_neg (not_not_intro c2)] | skip); (try simp only [nI_clamp a9_b, nI_clamp b9_b]); (first | done | rfl)); rw [e9]; exact ⟨rfl, rfl⟩) dX11_value_23
  · refine lv_if_eq (tgt := 18) hx hb dX11_value_5 (by decide) (fun _ => ?_) (fun hc => absurd (by decide) hc)
    refine lv_aload_n hx hb dX11_value_18 rfl (lv_at hl 0 rfl) ?_
    refine lv_iconst (v := 1) hx hb dX11_value_19 (by decide) ?_
    refine gc_wl B (gr_V C B (k := 0) (As := [.int 1]) (rest := []) (c_X11_no l D G τ α S _ 1 (vp_d (by decide))) (by decide) mE_0 rfl wl_865 wl_867 wl_14 wl_40 wl_868 (na := 1) (by decide +kernel) rfl ⟨Nat.le_of_ble_eq_true rfl, Nat.le_of_ble_eq_true rfl⟩ ⟨Nat.le_of_ble_eq_true rfl, Nat.le_of_ble_eq_true rfl⟩ hl.1 rfl (Nat.le_of_ble_eq_true rfl) dX11_value_20) (fun r u h H locs B => ?_)
    obtain ⟨rfl, rfl⟩ := h
    have B : gB D G τ (gA α Lm sz) s H locs α (mE G α (sNo S 1).2) Lm := B
    exact ge_wl C B hr hlk (by have e9 : sp_value S a b d = ((sNo S 1).1, (sNo S 1).2) := (by unfold sp_value sLv; (first | rw [if_pos c1] | rw [if_neg c1] | rw [if_neg (not_not_intro c1)] | skip); (first | done | rfl)); rw [e9]; exact ⟨rfl, rfl⟩) dX11_value_23
set_option maxHeartbeats 4000000 in
set_option maxRecDepth 100000 in
theorem c_X11_left (l : Launch) (D : va_G) (G : Nat → ClassId) (τ α : Nat → Nat) (S : St) (sz : Nat) (a b : Int32) (hN : okN S) : Wl l D G τ yX11_left cX11_left 3 (some .long) 2 0 0 [.ref (α 0), .int a, .int b] α (mE G α S) Lm sz (fun r u => r = (sp_left S a b).1 ∧ u = (α, mE G α (sp_left S a b).2, Lm)) := by
  refine gM _ (by decide) rfl (Nat.le_of_ble_eq_true rfl) ?_
  intro p e s m below meth c ls C hr hlk hnm hsz B hl
  have hx := C.1
  have hb := C.2.1
  have hl : lv_has ls 3 [(0, .ref (α 0)), (1, .int a), (2, .int b)] := hl
  refine lv_iload_n hx hb dX11_left_0 rfl (lv_at hl 1 rfl) ?_
  refine lv_iload_n hx hb dX11_left_1 rfl (lv_at hl 2 rfl) ?_
  refine gc_b (gr_S C B (As := [.int a, .int b]) (rest := []) (c_X11_areAges l D G τ α _ _ _ a b) wl_1003 wl_1004 wl_40 wl_1005 (na := 2) (by decide +kernel) rfl ⟨Nat.le_of_ble_eq_true rfl, Nat.le_of_ble_eq_true rfl⟩ ⟨Nat.le_of_ble_eq_true rfl, Nat.le_of_ble_eq_true rfl⟩ hl.1 rfl (Nat.le_of_ble_eq_true rfl) dX11_left_2) (fun c1 => ?_) (fun c1 => ?_)
  · obtain ⟨a9, b9, hab9, hb21, rfl, rfl⟩ := ages_nat c1
    have a9_b : a9 < 2 ^ 31 := by omega
    have b9_b : b9 < 2 ^ 31 := by omega
    refine lv_if_ne (tgt := 14) hx hb dX11_left_5 (by decide) (fun _ => ?_) (fun hc => absurd hc (by decide))
    refine lv_aload_n hx hb dX11_left_14 rfl (lv_at hl 0 rfl) ?_
    refine lv_iload_n hx hb dX11_left_15 rfl (lv_at hl 1 rfl) ?_
    refine lv_iload_n hx hb dX11_left_16 rfl (lv_at hl 2 rfl) ?_
    refine gc_wv B (gr_V C B (k := 0) (As := [.int (nI a9), .int (nI b9)]) (rest := []) (c_X11_live l D G τ α S _ a9 b9 (by omega) (by omega)) (by decide) mE_0 rfl wl_1007 wl_1009 wl_27 wl_40 wl_1010 (na := 2) (by decide +kernel) rfl ⟨Nat.le_of_ble_eq_true rfl, Nat.le_of_ble_eq_true rfl⟩ ⟨Nat.le_of_ble_eq_true rfl, Nat.le_of_ble_eq_true rfl⟩ hl.1 rfl (Nat.le_of_ble_eq_true rfl) dX11_left_17) (fun u h H locs B => ?_)
    subst h
    have B : gB D G τ (gA α Lm sz) s H locs α (mE G α (uJ (uJ S 41 ((liveL S a9 (b9 - a9)).1)) 42 ((liveL S a9 (b9 - a9)).2))) Lm := B
    refine lv_aload_n hx hb dX11_left_20 rfl (lv_at hl 0 rfl) ?_
    refine g_get C B (0) (by decide) mE_0 rfl gf_11 41 (by decide) wl_768 (v := .long ((liveL S a9 (b9 - a9)).1)) mF_41 dX11_left_21 ?_
    exact ge_wl C B hr hlk (by have e9 : sp_left S (nI a9) (nI b9) = ((liveL S a9 (b9 - a9)).1, (uJ (uJ S 41 ((liveL S a9 (b9 - a9)).1)) 42 ((liveL S a9 (b9 - a9)).2))) := (by unfold sp_left sLv; (try simp only [nI_clamp a9_b, nI_clamp b9_b]); (first | rw [if_pos c1] | rw [if_neg c1] | rw [if_neg (not_not_intro c1)] | skip); (try simp only [nI_clamp a9_b, nI_clamp b9_b]); (first | done | rfl)); rw [e9]; exact ⟨rfl, rfl⟩) dX11_left_24
  · refine lv_if_ne (tgt := 14) hx hb dX11_left_5 (by decide) (fun hc => absurd (by decide) hc) (fun _ => ?_)
    refine lv_aload_n hx hb dX11_left_8 rfl (lv_at hl 0 rfl) ?_
    refine lv_iconst (v := 1) hx hb dX11_left_9 (by decide) ?_
    refine gc_wl B (gr_V C B (k := 0) (As := [.int 1]) (rest := []) (c_X11_no l D G τ α S _ 1 (vp_d (by decide))) (by decide) mE_0 rfl wl_865 wl_867 wl_14 wl_40 wl_868 (na := 1) (by decide +kernel) rfl ⟨Nat.le_of_ble_eq_true rfl, Nat.le_of_ble_eq_true rfl⟩ ⟨Nat.le_of_ble_eq_true rfl, Nat.le_of_ble_eq_true rfl⟩ hl.1 rfl (Nat.le_of_ble_eq_true rfl) dX11_left_10) (fun r u h H locs B => ?_)
    obtain ⟨rfl, rfl⟩ := h
    have B : gB D G τ (gA α Lm sz) s H locs α (mE G α (sNo S 1).2) Lm := B
    exact ge_wl C B hr hlk (by have e9 : sp_left S a b = ((sNo S 1).1, (sNo S 1).2) := (by unfold sp_left sLv; (first | rw [if_pos c1] | rw [if_neg c1] | rw [if_neg (not_not_intro c1)] | skip); (first | done | rfl)); rw [e9]; exact ⟨rfl, rfl⟩) dX11_left_13
/-- two states that are the same in all that falls and dues are read from -/
def sameT (S T : St) : Prop := T.1 2 = S.1 2 ∧ T.1 10 = S.1 10 ∧ T.2.2.1 3 = S.2.2.1 3 ∧ T.2.2.1 4 = S.2.2.1 4 ∧ T.2.2.1 5 = S.2.2.1 5 ∧ T.2.2.1 6 = S.2.2.1 6 ∧ T.2.2.1 11 = S.2.2.1 11 ∧ T.2.2.1 12 = S.2.2.1 12 ∧ T.2.2.1 13 = S.2.2.1 13 ∧ T.2.2.1 14 = S.2.2.1 14 ∧ T.2.2.1 16 = S.2.2.1 16 ∧ T.2.2.1 17 = S.2.2.1 17 ∧ T.2.2.1 18 = S.2.2.1 18 ∧ T.2.2.1 19 = S.2.2.1 19 ∧ T.2.2.1 21 = S.2.2.1 21 ∧ T.2.2.1 22 = S.2.2.1 22 ∧ T.2.2.2 20 = S.2.2.2 20
theorem infL_c {S T : St} (h : sameT S T) (a b c : Int32) : ∀ n, infL T a b c n = infL S a b c n
  | 0 => rfl
  | n + 1 => by
    obtain ⟨h2, h10, h3, h4, h5, h6, h11, h12, h13, h14, h16, h17, h18, h19, h21, h22, h20⟩ := id h
    rw [infL, infL, infL_c h a b c n, h3, h4, h5, h6]
theorem sInf_c {S T : St} (h : sameT S T) (a b c : Int32) : sInf T a b c = sInf S a b c := by
  rw [sInf, sInf, infL_c h, nOf, nOf, h.1]
theorem lastF_c {S T : St} (h : sameT S T) (a b : Int32) : ∀ n, lastF T a b n = lastF S a b n
  | 0 => rfl
  | n + 1 => by
    obtain ⟨h2, h10, h3, h4, h5, h6, h11, h12, h13, h14, h16, h17, h18, h19, h21, h22, h20⟩ := id h
    rw [lastF, lastF, lastF_c h a b n, h11, h14]
theorem sFate_c {S T : St} (h : sameT S T) (a b : Int32) : sFate T a b = sFate S a b := by
  obtain ⟨h2, h10, h3, h4, h5, h6, h11, h12, h13, h14, h16, h17, h18, h19, h21, h22, h20⟩ := id h
  rw [sFate, sFate, lastF_c h, nOf, nOf, h10, h12]
theorem sCnt_c {S T : St} (h : sameT S T) (a b c : Int32) : sCnt T a b c = sCnt S a b c := by
  obtain ⟨h2, h10, h3, h4, h5, h6, h11, h12, h13, h14, h16, h17, h18, h19, h21, h22, h20⟩ := id h
  rw [sCnt, sCnt, sFate_c h, h13]
theorem sFall_c {S T : St} (h : sameT S T) (d : Nat) (b : Int32) : sFall T d b = sFall S d b := by
  obtain ⟨h2, h10, h3, h4, h5, h6, h11, h12, h13, h14, h16, h17, h18, h19, h21, h22, h20⟩ := id h
  rw [sFall, sFall, sCnt_c h, sCnt_c h, sAhead.eq_def, sAhead.eq_def, h12, h13, h16, h17, h18, h22]
theorem sDueM_c {S T : St} (h : sameT S T) (f : Nat) (b : Int32) : sDueM T f b = sDueM S f b := by
  obtain ⟨h2, h10, h3, h4, h5, h6, h11, h12, h13, h14, h16, h17, h18, h19, h21, h22, h20⟩ := id h
  rw [sDueM, sDueM, sInf_c h, h13]
theorem sPre_c {S T : St} (h : sameT S T) (d f : Nat) (b : Int32) : sPre T d f b = sPre S d f b := by
  obtain ⟨h2, h10, h3, h4, h5, h6, h11, h12, h13, h14, h16, h17, h18, h19, h21, h22, h20⟩ := id h
  rw [sPre, sPre, sInf_c h, sInf_c h, sInf_c h, h12, h13, h16, h19, h20, h21]
theorem sDue_c {S T : St} (h : sameT S T) (d f : Nat) (b : Int32) : sDue T d f b = sDue S d f b := by
  rw [sDue, sDue, sPre_c h, sInf_c h, sDueM_c h]
theorem same37 (S : St) (x : Int32) : sameT S (uI S 37 x) := ⟨rfl, rfl, rfl, rfl, rfl, rfl, rfl, rfl, rfl, rfl, rfl, rfl, rfl, rfl, rfl, rfl, rfl⟩
theorem okN_37 {S : St} (h : okN S) : okN (uI S 37 0) := ⟨h.1, h.2.1, h.2.2.1, h.2.2.2.1, h.2.2.2.2.1, (show (0 : Int32) ≤ 0 by decide), (show (0 : Int32) ≤ 30 by decide)⟩
set_option maxHeartbeats 4000000 in
set_option maxRecDepth 100000 in
theorem c_X11_check (l : Launch) (D : va_G) (G : Nat → ClassId) (τ α : Nat → Nat) (S : St) (sz : Nat) (hN : okN S) (hD : okD S) (hP : okP S) : Wl l D G τ yX11_check cX11_check 6 (some .long) 3 0 0 [.ref (α 0)] α (mE G α S) Lm sz (fun r u => r = (sp_check S).1 ∧ u = (α, mE G α (sp_check S).2, Lm)) := by
  refine gM _ (by decide) rfl (Nat.le_of_ble_eq_true rfl) ?_
  intro p e s m below meth c ls C hr hlk hnm hsz B hl
  have hx := C.1
  have hb := C.2.1
  have hl : lv_has ls 6 [(0, .ref (α 0))] := hl
  have hNe := nOf_eq hN.2.2.2.2.1.1
  have hNl : nOf S 15 ≤ 30 := nOf_le hN.2.2.2.2.1.1 hN.2.2.2.2.1.2 (by decide)
  have loop : ∀ (nn kk : Nat)  (H : Heap) (locs : List Loc) (ls : Array Slot), nn + kk = nOf S 15 → (chkL S (S.1 37) (nOf S 15) 0 = chkL S (S.1 37) nn kk) → gB D G τ (gA α Lm sz) s H locs α (mE G α (uI S 37 0)) Lm → lv_has ls 6 [(2, .int (nI kk)), (1, .int (S.1 37)), (0, .ref (α 0))] → W p l e (rmd 3 0 0) s m [.ref (α 0)].toArray below meth c H locs 0 0 (MQ below (va_Ql (fun r u => r = (sp_check S).1 ∧ u = (α, mE G α (sp_check S).2, Lm)) (gAt D (gA α Lm sz)) (gA α Lm sz)) [.ref (α 0)].toArray s 0 0 (gA α Lm sz)) (F0 m 12 ls []) := by
    intro nn
    induction nn with
    | zero =>
      intro kk  H locs ls hk hI B hl
      refine lv_iload_n hx hb dX11_check_12 rfl (lv_at hl 0 rfl) ?_
      refine lv_aload_n hx hb dX11_check_13 rfl (lv_at hl 2 rfl) ?_
      refine g_get C B (0) (by decide) mE_0 rfl gf_11 15 (by decide) wl_742 (v := .int (S.1 15)) mF_15 dX11_check_14 ?_
      refine lv_icmp_ge (tgt := 79) hx hb dX11_check_17 (by decide) (fun _ => ?_) (fun hc => absurd (by rw [hNe]; exact nI_le (by omega) (by omega)) hc)
      refine lv_iload_n hx hb dX11_check_79 rfl (lv_at hl 1 rfl) ?_
      refine lv_aload_n hx hb dX11_check_80 rfl (lv_at hl 2 rfl) ?_
      refine g_get C B (0) (by decide) mE_0 rfl gf_11 15 (by decide) wl_742 (v := .int (S.1 15)) mF_15 dX11_check_81 ?_
      refine lv_icmp_le (tgt := 93) hx hb dX11_check_84 (by decide) (fun c1 => ?_) (fun c1 => ?_)
      · refine lv_lconst (v := 0) hx hb dX11_check_93 (by decide) ?_
        exact ge_wl C B hr hlk (by have e9 : chkL S (S.1 37) (nOf S 15) 0 = 0 := (by rw [hI, chkL]; (first | rw [if_pos (by simp only [i3l, i3e, i3q, inR, isC, isD, zi_0, zi_1, zi_2, zi_3, zi_4, zi_5, zi_6, zi_7, zi_8, zi_9, zi_10, zi_12, zi_20, zi_21, zi_30, zi_60, zi_90, zi_99, zi_100, zi_180, zi_240, zi_400, zi_500, zi_1000, zi_1199, zi_10000, zi_100000, zi_1000000, i3m1] at c1 ⊢; omega)] | rw [if_neg (by simp only [i3l, i3e, i3q, inR, isC, isD, zi_0, zi_1, zi_2, zi_3, zi_4, zi_5, zi_6, zi_7, zi_8, zi_9, zi_10, zi_12, zi_20, zi_21, zi_30, zi_60, zi_90, zi_99, zi_100, zi_180, zi_240, zi_400, zi_500, zi_1000, zi_1199, zi_10000, zi_100000, zi_1000000, i3m1] at c1 ⊢; omega)])); refine ⟨e9.symm, rfl⟩) dX11_check_94
      · refine g_ldc2 C wl_1024 dX11_check_87 ?_
        refine lv_goto (tgt := 94) hx hb dX11_check_90 (by decide) ?_
        exact ge_wl C B hr hlk (by have e9 : chkL S (S.1 37) (nOf S 15) 0 = 99 := (by rw [hI, chkL]; (first | rw [if_pos (by simp only [i3l, i3e, i3q, inR, isC, isD, zi_0, zi_1, zi_2, zi_3, zi_4, zi_5, zi_6, zi_7, zi_8, zi_9, zi_10, zi_12, zi_20, zi_21, zi_30, zi_60, zi_90, zi_99, zi_100, zi_180, zi_240, zi_400, zi_500, zi_1000, zi_1199, zi_10000, zi_100000, zi_1000000, i3m1] at c1 ⊢; omega)] | rw [if_neg (by simp only [i3l, i3e, i3q, inR, isC, isD, zi_0, zi_1, zi_2, zi_3, zi_4, zi_5, zi_6, zi_7, zi_8, zi_9, zi_10, zi_12, zi_20, zi_21, zi_30, zi_60, zi_90, zi_99, zi_100, zi_180, zi_240, zi_400, zi_500, zi_1000, zi_1199, zi_10000, zi_100000, zi_1000000, i3m1] at c1 ⊢; omega)])); refine ⟨e9.symm, rfl⟩) dX11_check_94
    | succ nn ih =>
      intro kk  H locs ls hk hI B hl
      refine lv_iload_n hx hb dX11_check_12 rfl (lv_at hl 0 rfl) ?_
      refine lv_aload_n hx hb dX11_check_13 rfl (lv_at hl 2 rfl) ?_
      refine g_get C B (0) (by decide) mE_0 rfl gf_11 15 (by decide) wl_742 (v := .int (S.1 15)) mF_15 dX11_check_14 ?_
      refine lv_icmp_ge (tgt := 79) hx hb dX11_check_17 (by decide) (fun hc => absurd hc (by rw [hNe]; exact nI_ge (by omega) (by omega))) (fun _ => ?_)
      refine lv_aload_n hx hb dX11_check_20 rfl (lv_at hl 2 rfl) ?_
      refine lv_iload_n hx hb dX11_check_21 rfl (lv_at hl 0 rfl) ?_
      refine lv_aload_n hx hb dX11_check_22 rfl (lv_at hl 2 rfl) ?_
      refine g_get C B (0) (by decide) mE_0 rfl gf_11 0 (by decide) wl_727 (v := .int (S.1 0)) mF_0 dX11_check_23 ?_
      refine gc_o (oI := oI) (gr_V C B (k := 0) (As := [.int (nI kk), .int (S.1 0)]) (rest := []) (c_X11_fallOf l D G τ α (uI S 37 0) _ kk (S.1 0) (show kk < nOf (uI S 37 0) 15 from by show kk < nOf S 15; omega) (okN_37 hN) (show okP (uI S 37 0) from hP)) (by decide) mE_0 rfl wl_874 wl_876 wl_16 wl_40 wl_877 (na := 2) (by decide +kernel) rfl ⟨Nat.le_of_ble_eq_true rfl, Nat.le_of_ble_eq_true rfl⟩ ⟨Nat.le_of_ble_eq_true rfl, Nat.le_of_ble_eq_true rfl⟩ hl.1 rfl (Nat.le_of_ble_eq_true rfl) dX11_check_26) (fun o2 => ?_) (fun f3 o2 => ?_)
      · refine lv_istore_n (lv' := [(3, .int (-1)), (2, .int (nI kk)), (1, .int (S.1 37)), (0, .ref (α 0))]) hx hb dX11_check_29 rfl hl (by decide) rfl (fun ls hl => ?_)
        refine lv_iload_n hx hb dX11_check_30 rfl (lv_at hl 0 rfl) ?_
        refine lv_if_ge (tgt := 38) hx hb dX11_check_31 (by decide) (fun hc => absurd hc (by decide)) (fun _ => ?_)
        refine lv_lconst (v := 0) hx hb dX11_check_34 (by decide) ?_
        refine lv_goto (tgt := 48) hx hb dX11_check_35 (by decide) ?_
        refine lv_lstore (lv' := [(4, .long 0), (3, .int (-1)), (2, .int (nI kk)), (1, .int (S.1 37)), (0, .ref (α 0))]) hx hb dX11_check_48 hl (by decide) rfl (fun ls hl => ?_)
        refine lv_iload_n hx hb dX11_check_50 rfl (lv_at hl 2 rfl) ?_
        refine lv_iload_n hx hb dX11_check_51 rfl (lv_at hl 3 rfl) ?_
        refine lv_icmp_ge (tgt := 68) hx hb dX11_check_52 (by decide) (fun c4 => ?_) (fun c4 => ?_)
        · refine lv_iconst (v := 1) hx hb dX11_check_68 (by decide) ?_
          refine lv_iload_n hx hb dX11_check_69 rfl (lv_at hl 2 rfl) ?_
          refine lv_iadd hx hb dX11_check_70 ?_
          refine lv_i2l (v := (1 + (nI kk)).toInt64) hx hb dX11_check_71 rfl ?_
          exact ge_wl C B hr hlk (by have e9 : chkL S (S.1 37) (nOf S 15) 0 = (1 + (nI kk)).toInt64 := (by rw [hI, chkL, if_pos c4]); exact ⟨e9.symm, rfl⟩) dX11_check_72
        · refine lv_aload_n hx hb dX11_check_55 rfl (lv_at hl 4 rfl) ?_
          refine g_get C B (0) (by decide) mE_0 rfl gf_11 38 (by decide) wl_765 (v := .ref (α 38)) mF_38 dX11_check_56 ?_
          refine lv_iload_n hx hb dX11_check_59 rfl (lv_at hl 2 rfl) ?_
          refine g_iald C B (38) (by decide) (f := S.2.2.1 38) mE_38 (vp_in_nI (by omega) (by omega)) (j := kk) (nI_clamp (by omega)) dX11_check_60 ?_
          refine lv_i2l (v := (S.2.2.1 38 kk).toInt64) hx hb dX11_check_61 rfl ?_
          refine lv_lload hx hb dX11_check_62 (lv_at hl 0 rfl) ?_
          refine gl_eq (tgt := 73) hx hb dX11_check_64 dX11_check_65 (by decide) (fun c5 => ?_) (fun c5 => ?_)
          · refine lv_iinc (v := ((nI kk) + 1)) (lv' := [(2, .int ((nI kk) + 1)), (4, .long 0), (3, .int (-1)), (1, .int (S.1 37)), (0, .ref (α 0))]) hx hb dX11_check_73 hl (k := 2) rfl rfl (by decide) rfl (fun ls hl => ?_)
            refine lv_goto (tgt := 12) hx hb dX11_check_76 (by decide) ?_
            have h9 : sNow S kk = 0 := by rw [sNow, (sFall_c (same37 S 0) kk (S.1 0)).symm.trans o2]
            exact ih (kk + 1)  H locs ls (by omega) (by rw [hI, chkL, if_neg c4, if_pos (by rw [h9]; exact c5)]) B (by have h9 := lv_sub (l' := [(2, .int ((nI kk) + 1)), (1, .int (S.1 37)), (0, .ref (α 0))]) hl [0, 3, 4] rfl; rw [nI_1] at h9; exact h9)
          · refine lv_iconst (v := 1) hx hb dX11_check_68 (by decide) ?_
            refine lv_iload_n hx hb dX11_check_69 rfl (lv_at hl 2 rfl) ?_
            refine lv_iadd hx hb dX11_check_70 ?_
            refine lv_i2l (v := (1 + (nI kk)).toInt64) hx hb dX11_check_71 rfl ?_
            exact ge_wl C B hr hlk (by have h9 : sNow S kk = 0 := (by rw [sNow, (sFall_c (same37 S 0) kk (S.1 0)).symm.trans o2]); have e9 : chkL S (S.1 37) (nOf S 15) 0 = (1 + (nI kk)).toInt64 := (by rw [hI, chkL, if_neg c4, if_neg (by rw [h9]; exact c5)]); exact ⟨e9.symm, rfl⟩) dX11_check_72
      · have f3_b : f3 < 90 := Nat.lt_of_lt_of_le (sFall_lt o2).1 (nOf_le (okN_37 hN).2.2.2.1.1 (okN_37 hN).2.2.2.1.2 (by decide))
        refine lv_istore_n (lv' := [(3, .int (nI f3)), (2, .int (nI kk)), (1, .int (S.1 37)), (0, .ref (α 0))]) hx hb dX11_check_29 rfl hl (by decide) rfl (fun ls hl => ?_)
        refine lv_iload_n hx hb dX11_check_30 rfl (lv_at hl 0 rfl) ?_
        refine lv_if_ge (tgt := 38) hx hb dX11_check_31 (by decide) (fun _ => ?_) (fun hc => absurd (nI_pos' (by omega)) hc)
        refine lv_aload_n hx hb dX11_check_38 rfl (lv_at hl 3 rfl) ?_
        refine lv_iload_n hx hb dX11_check_39 rfl (lv_at hl 1 rfl) ?_
        refine lv_iload_n hx hb dX11_check_40 rfl (lv_at hl 0 rfl) ?_
        refine lv_aload_n hx hb dX11_check_41 rfl (lv_at hl 3 rfl) ?_
        refine g_get C B (0) (by decide) mE_0 rfl gf_11 0 (by decide) wl_727 (v := .int (S.1 0)) mF_0 dX11_check_42 ?_
        refine gc_l (gr_V C B (k := 0) (As := [.int (nI kk), .int (nI f3), .int (S.1 0)]) (rest := []) (c_X11_dueOf l D G τ α (uI S 37 0) _ kk f3 (S.1 0) (by omega) (by omega) (okN_37 hN) (show okD (uI S 37 0) from hD)) (by decide) mE_0 rfl wl_894 wl_896 wl_21 wl_40 wl_897 (na := 3) (by decide +kernel) rfl ⟨Nat.le_of_ble_eq_true rfl, Nat.le_of_ble_eq_true rfl⟩ ⟨Nat.le_of_ble_eq_true rfl, Nat.le_of_ble_eq_true rfl⟩ hl.1 rfl (Nat.le_of_ble_eq_true rfl) dX11_check_45) (fun r h => ?_)
        subst h
        refine lv_lstore (lv' := [(4, .long (sDue (uI S 37 0) kk f3 (S.1 0))), (3, .int (nI f3)), (2, .int (nI kk)), (1, .int (S.1 37)), (0, .ref (α 0))]) hx hb dX11_check_48 hl (by decide) rfl (fun ls hl => ?_)
        refine lv_iload_n hx hb dX11_check_50 rfl (lv_at hl 2 rfl) ?_
        refine lv_iload_n hx hb dX11_check_51 rfl (lv_at hl 3 rfl) ?_
        refine lv_icmp_ge (tgt := 68) hx hb dX11_check_52 (by decide) (fun c6 => ?_) (fun c6 => ?_)
        · refine lv_iconst (v := 1) hx hb dX11_check_68 (by decide) ?_
          refine lv_iload_n hx hb dX11_check_69 rfl (lv_at hl 2 rfl) ?_
          refine lv_iadd hx hb dX11_check_70 ?_
          refine lv_i2l (v := (1 + (nI kk)).toInt64) hx hb dX11_check_71 rfl ?_
          exact ge_wl C B hr hlk (by have e9 : chkL S (S.1 37) (nOf S 15) 0 = (1 + (nI kk)).toInt64 := (by rw [hI, chkL, if_pos c6]); exact ⟨e9.symm, rfl⟩) dX11_check_72
        · refine lv_aload_n hx hb dX11_check_55 rfl (lv_at hl 4 rfl) ?_
          refine g_get C B (0) (by decide) mE_0 rfl gf_11 38 (by decide) wl_765 (v := .ref (α 38)) mF_38 dX11_check_56 ?_
          refine lv_iload_n hx hb dX11_check_59 rfl (lv_at hl 2 rfl) ?_
          refine g_iald C B (38) (by decide) (f := S.2.2.1 38) mE_38 (vp_in_nI (by omega) (by omega)) (j := kk) (nI_clamp (by omega)) dX11_check_60 ?_
          refine lv_i2l (v := (S.2.2.1 38 kk).toInt64) hx hb dX11_check_61 rfl ?_
          refine lv_lload hx hb dX11_check_62 (lv_at hl 0 rfl) ?_
          refine gl_eq (tgt := 73) hx hb dX11_check_64 dX11_check_65 (by decide) (fun c7 => ?_) (fun c7 => ?_)
          · refine lv_iinc (v := ((nI kk) + 1)) (lv' := [(2, .int ((nI kk) + 1)), (4, .long (sDue (uI S 37 0) kk f3 (S.1 0))), (3, .int (nI f3)), (1, .int (S.1 37)), (0, .ref (α 0))]) hx hb dX11_check_73 hl (k := 2) rfl rfl (by decide) rfl (fun ls hl => ?_)
            refine lv_goto (tgt := 12) hx hb dX11_check_76 (by decide) ?_
            have h9 : sNow S kk = (sDue (uI S 37 0) kk f3 (S.1 0)) := by rw [sNow, (sFall_c (same37 S 0) kk (S.1 0)).symm.trans o2]; exact (sDue_c (same37 S 0) _ _ _).symm
            exact ih (kk + 1)  H locs ls (by omega) (by rw [hI, chkL, if_neg c6, if_pos (by rw [h9]; exact c7)]) B (by have h9 := lv_sub (l' := [(2, .int ((nI kk) + 1)), (1, .int (S.1 37)), (0, .ref (α 0))]) hl [0, 3, 4] rfl; rw [nI_1] at h9; exact h9)
          · refine lv_iconst (v := 1) hx hb dX11_check_68 (by decide) ?_
            refine lv_iload_n hx hb dX11_check_69 rfl (lv_at hl 2 rfl) ?_
            refine lv_iadd hx hb dX11_check_70 ?_
            refine lv_i2l (v := (1 + (nI kk)).toInt64) hx hb dX11_check_71 rfl ?_
            exact ge_wl C B hr hlk (by have h9 : sNow S kk = (sDue (uI S 37 0) kk f3 (S.1 0)) := (by rw [sNow, (sFall_c (same37 S 0) kk (S.1 0)).symm.trans o2]; exact (sDue_c (same37 S 0) _ _ _).symm); have e9 : chkL S (S.1 37) (nOf S 15) 0 = (1 + (nI kk)).toInt64 := (by rw [hI, chkL, if_neg c6, if_neg (by rw [h9]; exact c7)]); exact ⟨e9.symm, rfl⟩) dX11_check_72
  refine lv_aload_n hx hb dX11_check_0 rfl (lv_at hl 0 rfl) ?_
  refine g_get C B (0) (by decide) mE_0 rfl gf_11 37 (by decide) wl_764 (v := .int (S.1 37)) mF_37 dX11_check_1 ?_
  refine lv_istore_n (lv' := [(1, .int (S.1 37)), (0, .ref (α 0))]) hx hb dX11_check_4 rfl hl (by decide) rfl (fun ls hl => ?_)
  refine lv_aload_n hx hb dX11_check_5 rfl (lv_at hl 1 rfl) ?_
  refine lv_iconst (v := 0) hx hb dX11_check_6 (by decide) ?_
  refine g_put C B (0) (by decide) mE_0 rfl gf_11 tyX11 tyX11_ok nmX11 37 (by decide) wl_764 rfl (ty := .int) (v := .int 0) (by decide +kernel) rfl rfl (Nat.le_of_ble_eq_true rfl) dX11_check_7 mO_37 (fun H locs B => ?_)
  refine lv_iconst (v := 0) hx hb dX11_check_10 (by decide) ?_
  refine lv_istore_n (lv' := [(2, .int 0), (1, .int (S.1 37)), (0, .ref (α 0))]) hx hb dX11_check_11 rfl hl (by decide) rfl (fun ls hl => ?_)
  exact loop (nOf S 15) 0 _ _ ls (by omega) rfl B (lv_sub hl [0, 1, 2] rfl)
