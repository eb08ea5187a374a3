/-! ===== months go ===== -/
theorem mo_no {S : St} {mo : Int32} (h : ¬ (inR mo 1 240 ∧ S.1 0 + mo ≤ 1199)) : sp_months S mo = sNo S 1 := by
  unfold sp_months
  split
  · rfl
  · rename_i h1
    rw [if_pos]
    have h2 : ¬ S.1 0 + mo ≤ 1199 := fun h9 => h ⟨Decidable.not_not.mp h1, h9⟩
    rw [i3e] at h2
    rw [i3l]
    omega
theorem mo_nat {S : St} {mo : Int32} (hN : okN S) (h : inR mo 1 240 ∧ S.1 0 + mo ≤ 1199) : ∃ N : Nat, N ≤ 240 ∧ (S.1 0).toInt + N ≤ 1199 ∧ mo = nI N ∧ sp_months S mo = (((goN N S).1 0).toInt64, goN N S) := by
  obtain ⟨h1, h2⟩ := h
  have h3 := inR_nat h1 (by decide)
  have h4 := hN.1
  refine ⟨mo.toNatClampNeg, ?_, ?_, h3.1, ?_⟩
  · rw [zi_240] at h3; omega
  · simp only [i3e, zi_0, zi_1199] at h2 h4
    rw [zi_1, zi_240] at h3
    rw [Jvm.Kit.i32_add (by omega) (by omega)] at h2
    omega
  · unfold sp_months
    rw [if_neg (not_not_intro h1), if_neg (by rw [i3l]; rw [i3e] at h2; omega)]
theorem lrn_row (S J : St) (known : Int32) : ∀ n k, k < n → (lrn S J known n).2.2.1 1 k = (match sFall S k known with
    | none => 1000000
    | some f => sDueM S f known) ∧ (lrn S J known n).2.2.2 0 k = (match sFall S k known with
    | none => 0
    | some f => sDue S k f known)
  | 0, k, h => by omega
  | n + 1, k, h => by
    by_cases hk : k = n
    · subst hk
      exact ⟨upd_self, updL_self⟩
    · obtain ⟨h1, h2⟩ := lrn_row S J known n k (by omega)
      rw [← h1, ← h2]
      exact ⟨upd_ne hk, updL_ne hk⟩
theorem lrd_of {S T J K : St} {n : Nat} (hO : Ok S) (hn : nOf S 15 = n) (hs : sameT S T) (h0 : S.1 0 ≤ T.1 0) (h1 : T.1 0 ≤ 1199) (hk : keepJ (lrn S J (S.1 0) n) K) : lrd T K n := by
  intro k hkn
  obtain ⟨hN, hD, hR, hC, hF, hP, hZ, hM⟩ := hO
  obtain ⟨r1, r2⟩ := lrn_row S J (S.1 0) n k hkn
  have q22 := (hP k (by omega)).2.2.2.2.2.2.1.2
  have hr : S.1 0 ≤ S.1 0 := Int32.le_refl _
  rw [sRoll, sFall_c hs, sFall_k hF q22 h0 hr, hk.2.1, hk.2.2, r1, r2]
  cases hf : sFall S k (S.1 0) with
  | none =>
    dsimp only
    have n9 : ¬ (T.2.2.1 24 k = 0 ∧ (1000000 : Int32) ≤ T.1 0) := fun h9 => by have h8 := h9.2; simp only [i3e, zi_1199, zi_1000000] at h1 h8; omega
    rw [if_neg n9, ite_self]
  | some f =>
    dsimp only
    rw [sDueM_c hs, sDueM_k hD h0 hr, sOwe, sDue_c hs, sDue_k hD h0 hr]
    by_cases h24 : T.2.2.1 24 k = 0
    · rw [if_pos h24]
      by_cases hm : sDueM S f (S.1 0) ≤ T.1 0
      · rw [if_pos hm, if_pos (And.intro h24 hm)]
        by_cases hp : 0 ≤ sDue S k f (S.1 0) - T.2.2.2 23 k
        · have hp2 : ¬ sDue S k f (S.1 0) - T.2.2.2 23 k < 0 := by rw [i6l]; rw [i6e] at hp; omega
          rw [if_pos hp, if_neg hp2]
        · have hp2 : sDue S k f (S.1 0) - T.2.2.2 23 k < 0 := by rw [i6l]; rw [i6e] at hp; omega
          rw [if_neg hp, if_pos hp2]
      · have hp3 : ¬ (T.2.2.1 24 k = 0 ∧ sDueM S f (S.1 0) ≤ T.1 0) := fun h9 => hm h9.2
        rw [if_neg hm, if_neg hp3]
    · have hp3 : ¬ (T.2.2.1 24 k = 0 ∧ sDueM S f (S.1 0) ≤ T.1 0) := fun h9 => h24 h9.1
      rw [if_neg h24, if_neg hp3]
set_option maxHeartbeats 4000000 in
set_option maxRecDepth 100000 in
theorem c_X11_months (l : Launch) (D : va_G) (G : Nat → ClassId) (τ α : Nat → Nat) (S : St) (sz : Nat) (mo : Int32) (hO : Ok S) : Wl l D G τ yX11_months cX11_months 3 (some .long) 4 0 0 [.ref (α 0), .int mo] α (mE G α S) Lm sz (fun r u => r = (sp_months S mo).1 ∧ u = (α, mE G α (sp_months S mo).2, Lm)) := by
  refine gM _ (by decide) rfl (Nat.le_of_ble_eq_true rfl) ?_
  intro p e s m below meth c ls C hr hlk hnm hsz B hl
  have hx := C.1
  have hb := C.2.1
  have hl : lv_has ls 3 [(0, .ref (α 0)), (1, .int mo)] := hl
  have hN := hO.1
  have hD := hO.2.1
  have hF := hO.2.2.2.2.1
  by_cases hz : ¬ (inR mo 1 240 ∧ S.1 0 + mo ≤ 1199)
  · refine lv_iload_n hx hb dX11_months_0 rfl (lv_at hl 1 rfl) ?_
    refine lv_iconst (v := 1) hx hb dX11_months_1 (by decide) ?_
    refine lv_sipush (v := 240) hx hb dX11_months_2 (by decide) ?_
    refine gc_b (gr_S C B (As := [.int mo, .int 1, .int 240]) (rest := []) (c_X11_in l D G τ α _ _ _ mo 1 240) wl_862 wl_863 wl_40 wl_864 (na := 3) (by decide +kernel) rfl ⟨Nat.le_of_ble_eq_true rfl, Nat.le_of_ble_eq_true rfl⟩ ⟨Nat.le_of_ble_eq_true rfl, Nat.le_of_ble_eq_true rfl⟩ hl.1 rfl (Nat.le_of_ble_eq_true rfl) dX11_months_5) (fun c1 => ?_) (fun c1 => ?_)
    · refine lv_if_eq (tgt := 23) hx hb dX11_months_8 (by decide) (fun hc => absurd hc (by decide)) (fun _ => ?_)
      refine lv_aload_n hx hb dX11_months_11 rfl (lv_at hl 0 rfl) ?_
      refine g_get C B (0) (by decide) mE_0 rfl gf_11 0 (by decide) wl_727 (v := .int (S.1 0)) mF_0 dX11_months_12 ?_
      refine lv_iload_n hx hb dX11_months_15 rfl (lv_at hl 1 rfl) ?_
      refine lv_iadd hx hb dX11_months_16 ?_
      refine lv_sipush (v := 1199) hx hb dX11_months_17 (by decide) ?_
      refine lv_icmp_le (tgt := 29) hx hb dX11_months_20 (by decide) (fun hc => absurd hc (fun h9 => hz ⟨c1, h9⟩)) (fun _ => ?_)
      refine lv_aload_n hx hb dX11_months_23 rfl (lv_at hl 0 rfl) ?_
      refine lv_iconst (v := 1) hx hb dX11_months_24 (by decide) ?_
      refine gc_wl B (gr_V C B (k := 0) (As := [.int 1]) (rest := []) (c_X11_no l D G τ α S _ 1 (vp_d (by decide))) (by decide) mE_0 rfl wl_865 wl_867 wl_14 wl_40 wl_868 (na := 1) (by decide +kernel) rfl ⟨Nat.le_of_ble_eq_true rfl, Nat.le_of_ble_eq_true rfl⟩ ⟨Nat.le_of_ble_eq_true rfl, Nat.le_of_ble_eq_true rfl⟩ hl.1 rfl (Nat.le_of_ble_eq_true rfl) dX11_months_25) (fun r u h H locs B => ?_)
      obtain ⟨rfl, rfl⟩ := h
      have B : gB D G τ (gA α Lm sz) s H locs α (mE G α (sNo S 1).2) Lm := B
      exact ge_wl C B hr hlk (by have e9 : sp_months S mo = ((sNo S 1).1, (sNo S 1).2) := mo_no hz; rw [e9]; exact ⟨rfl, rfl⟩) dX11_months_28
    · refine lv_if_eq (tgt := 23) hx hb dX11_months_8 (by decide) (fun _ => ?_) (fun hc => absurd (by decide) hc)
      refine lv_aload_n hx hb dX11_months_23 rfl (lv_at hl 0 rfl) ?_
      refine lv_iconst (v := 1) hx hb dX11_months_24 (by decide) ?_
      refine gc_wl B (gr_V C B (k := 0) (As := [.int 1]) (rest := []) (c_X11_no l D G τ α S _ 1 (vp_d (by decide))) (by decide) mE_0 rfl wl_865 wl_867 wl_14 wl_40 wl_868 (na := 1) (by decide +kernel) rfl ⟨Nat.le_of_ble_eq_true rfl, Nat.le_of_ble_eq_true rfl⟩ ⟨Nat.le_of_ble_eq_true rfl, Nat.le_of_ble_eq_true rfl⟩ hl.1 rfl (Nat.le_of_ble_eq_true rfl) dX11_months_25) (fun r u h H locs B => ?_)
      obtain ⟨rfl, rfl⟩ := h
      have B : gB D G τ (gA α Lm sz) s H locs α (mE G α (sNo S 1).2) Lm := B
      exact ge_wl C B hr hlk (by have e9 : sp_months S mo = ((sNo S 1).1, (sNo S 1).2) := mo_no hz; rw [e9]; exact ⟨rfl, rfl⟩) dX11_months_28
  have hz := Decidable.not_not.mp hz
  obtain ⟨N, hN1, hN2, hmo, e9⟩ := mo_nat hN hz
  have hgo := goN_ok hO hN2
  have loop : ∀ (nn kk : Nat) (Q : St) (H : Heap) (locs : List Loc) (ls : Array Slot), nn + kk = N → (goN kk S = Q) → gB D G τ (gA α Lm sz) s H locs α (mE G α Q) Lm → lv_has ls 3 [(2, .int (nI kk)), (0, .ref (α 0)), (1, .int mo)] → W p l e (rmd 4 0 0) s m [.ref (α 0), .int mo].toArray below meth c H locs 0 0 (MQ below (va_Ql (fun r u => r = (sp_months S mo).1 ∧ u = (α, mE G α (sp_months S mo).2, Lm)) (gAt D (gA α Lm sz)) (gA α Lm sz)) [.ref (α 0), .int mo].toArray s 0 0 (gA α Lm sz)) (F0 m 31 ls []) := by
    intro nn
    induction nn with
    | zero =>
      intro kk Q H locs ls hk hI B hl
      have hg := hgo kk (by omega)
      rw [hI] at hg
      refine lv_iload_n hx hb dX11_months_31 rfl (lv_at hl 0 rfl) ?_
      refine lv_iload_n hx hb dX11_months_32 rfl (lv_at hl 2 rfl) ?_
      refine lv_icmp_ge (tgt := 46) hx hb dX11_months_33 (by decide) (fun _ => ?_) (fun hc => absurd (by rw [hmo]; exact nI_le (by omega) (by omega)) hc)
      refine lv_aload_n hx hb dX11_months_46 rfl (lv_at hl 1 rfl) ?_
      refine g_get C B (0) (by decide) mE_0 rfl gf_11 0 (by decide) wl_727 (v := .int (Q.1 0)) mF_0 dX11_months_47 ?_
      refine lv_i2l (v := (Q.1 0).toInt64) hx hb dX11_months_50 rfl ?_
      exact ge_wl C B hr hlk (by rw [e9, show N = kk by omega, hI]; exact ⟨rfl, rfl⟩) dX11_months_51
    | succ nn ih =>
      intro kk Q H locs ls hk hI B hl
      have hg := hgo kk (by omega)
      rw [hI] at hg
      refine lv_iload_n hx hb dX11_months_31 rfl (lv_at hl 0 rfl) ?_
      refine lv_iload_n hx hb dX11_months_32 rfl (lv_at hl 2 rfl) ?_
      refine lv_icmp_ge (tgt := 46) hx hb dX11_months_33 (by decide) (fun hc => absurd hc (by rw [hmo]; exact nI_ge (by omega) (by omega))) (fun _ => ?_)
      refine lv_aload_n hx hb dX11_months_36 rfl (lv_at hl 1 rfl) ?_
      refine gc_wv B (gr_V C B (k := 0) (As := []) (rest := []) (c_X11_goOn l D G τ α Q _ hg.1.1 hg.1.2.1 hg.1.2.2.2.2.2.1 hg.1.2.2.2.2.2.2.2) (by decide) mE_0 rfl wl_870 wl_872 wl_15 wl_40 wl_873 (na := 0) (by decide +kernel) rfl ⟨Nat.le_of_ble_eq_true rfl, Nat.le_of_ble_eq_true rfl⟩ ⟨Nat.le_of_ble_eq_true rfl, Nat.le_of_ble_eq_true rfl⟩ hl.1 rfl (Nat.le_of_ble_eq_true rfl) dX11_months_37) (fun u h H locs B => ?_)
      subst h
      have B : gB D G τ (gA α Lm sz) s H locs α (mE G α (sGo Q)) Lm := B
      refine lv_iinc (v := ((nI kk) + 1)) (lv' := [(2, .int ((nI kk) + 1)), (0, .ref (α 0)), (1, .int mo)]) hx hb dX11_months_40 hl (k := 0) rfl rfl (by decide) rfl (fun ls hl => ?_)
      refine lv_goto (tgt := 31) hx hb dX11_months_43 (by decide) ?_
      exact ih (kk + 1) (sGo Q) H locs ls (by omega) (by rw [goN, hI]) B (by have h9 := lv_sub (l' := [(2, .int ((nI kk) + 1)), (0, .ref (α 0)), (1, .int mo)]) hl [0, 1, 2] rfl; rw [nI_1] at h9; exact h9)
  refine lv_iload_n hx hb dX11_months_0 rfl (lv_at hl 1 rfl) ?_
  refine lv_iconst (v := 1) hx hb dX11_months_1 (by decide) ?_
  refine lv_sipush (v := 240) hx hb dX11_months_2 (by decide) ?_
  refine gc_b (gr_S C B (As := [.int mo, .int 1, .int 240]) (rest := []) (c_X11_in l D G τ α _ _ _ mo 1 240) wl_862 wl_863 wl_40 wl_864 (na := 3) (by decide +kernel) rfl ⟨Nat.le_of_ble_eq_true rfl, Nat.le_of_ble_eq_true rfl⟩ ⟨Nat.le_of_ble_eq_true rfl, Nat.le_of_ble_eq_true rfl⟩ hl.1 rfl (Nat.le_of_ble_eq_true rfl) dX11_months_5) (fun _ => ?_) (fun hc => absurd hz.1 hc)
  refine lv_if_eq (tgt := 23) hx hb dX11_months_8 (by decide) (fun hc => absurd hc (by decide)) (fun _ => ?_)
  refine lv_aload_n hx hb dX11_months_11 rfl (lv_at hl 0 rfl) ?_
  refine g_get C B (0) (by decide) mE_0 rfl gf_11 0 (by decide) wl_727 (v := .int (S.1 0)) mF_0 dX11_months_12 ?_
  refine lv_iload_n hx hb dX11_months_15 rfl (lv_at hl 1 rfl) ?_
  refine lv_iadd hx hb dX11_months_16 ?_
  refine lv_sipush (v := 1199) hx hb dX11_months_17 (by decide) ?_
  refine lv_icmp_le (tgt := 29) hx hb dX11_months_20 (by decide) (fun _ => ?_) (fun hc => absurd hz.2 hc)
  refine lv_iconst (v := 0) hx hb dX11_months_29 (by decide) ?_
  refine lv_istore_n (lv' := [(2, .int 0), (0, .ref (α 0)), (1, .int mo)]) hx hb dX11_months_30 rfl hl (by decide) rfl (fun ls hl => ?_)
  exact loop N 0 S _ _ ls (by omega) rfl B (lv_sub hl [0, 1, 2] rfl)
set_option maxHeartbeats 4000000 in
set_option maxRecDepth 100000 in
theorem c_X10_months (l : Launch) (D : va_G) (G : Nat → ClassId) (τ α : Nat → Nat) (S J : St) (n sz : Nat) (mo : Int32) (hO : Ok S) (hI0 : cInv S J n) : Wl l D G τ yX10_months cX10_months 3 (some .long) 7 0 0 [.ref (α 0), .int mo] α (cE G α S J n) (Lc n) sz (fun r u => r = (sp_months S mo).1 ∧ ∃ J9 : St, u = (α, cE G α (sp_months S mo).2 J9 n, Lc n) ∧ cInv (sp_months S mo).2 J9 n) := by
  refine gM _ (by decide) rfl (Nat.le_of_ble_eq_true rfl) ?_
  intro p e s m below meth c ls C hr hlk hnm hsz B hl
  have hx := C.1
  have hb := C.2.1
  have hl : lv_has ls 3 [(0, .ref (α 0)), (1, .int mo)] := hl
  have hN := hO.1
  have hD := hO.2.1
  have hF := hO.2.2.2.2.1
  have hn := hI0.1
  have hn30 := hI0.2.1
  have hJ9 := hI0.2.2
  by_cases hz : ¬ (inR mo 1 240 ∧ S.1 0 + mo ≤ 1199)
  · refine lv_iload_n hx hb dX10_months_0 rfl (lv_at hl 1 rfl) ?_
    refine lv_iconst (v := 1) hx hb dX10_months_1 (by decide) ?_
    refine lv_sipush (v := 240) hx hb dX10_months_2 (by decide) ?_
    refine gc_b (gr_S C B (As := [.int mo, .int 1, .int 240]) (rest := []) (c_X10_isWithin l D G τ α _ _ _ mo 1 240) wl_264 wl_265 wl_29 wl_266 (na := 3) (by decide +kernel) rfl ⟨Nat.le_of_ble_eq_true rfl, Nat.le_of_ble_eq_true rfl⟩ ⟨Nat.le_of_ble_eq_true rfl, Nat.le_of_ble_eq_true rfl⟩ hl.1 rfl (Nat.le_of_ble_eq_true rfl) dX10_months_5) (fun c1 => ?_) (fun c1 => ?_)
    · refine lv_if_eq (tgt := 23) hx hb dX10_months_8 (by decide) (fun hc => absurd hc (by decide)) (fun _ => ?_)
      refine lv_aload_n hx hb dX10_months_11 rfl (lv_at hl 0 rfl) ?_
      refine g_get C B (0) (Lc_in (by decide)) cE_0 rfl gf_10 10 (by decide) wl_236 (v := .int (S.1 0)) cF_0_10 dX10_months_12 ?_
      refine lv_iload_n hx hb dX10_months_15 rfl (lv_at hl 1 rfl) ?_
      refine lv_iadd hx hb dX10_months_16 ?_
      refine lv_sipush (v := 1199) hx hb dX10_months_17 (by decide) ?_
      refine lv_icmp_le (tgt := 32) hx hb dX10_months_20 (by decide) (fun hc => absurd hc (fun h9 => hz ⟨c1, h9⟩)) (fun _ => ?_)
      refine lv_aload_n hx hb dX10_months_23 rfl (lv_at hl 0 rfl) ?_
      refine g_get C B (0) (Lc_in (by decide)) cE_0 rfl gf_10 0 (by decide) wl_226 (v := .ref (α 1)) cF_0_0 dX10_months_24 ?_
      refine lv_iconst (v := 1) hx hb dX10_months_27 (by decide) ?_
      refine gc_wl B (gr_V C B (k := 1) (As := [.int 1]) (rest := []) (c_X5_answer l D G τ α S J n _ 1 (by decide)) (Lc_in (by decide)) cE_1 rfl wl_267 wl_268 wl_269 wl_30 wl_270 (na := 1) (by decide +kernel) rfl ⟨Nat.le_of_ble_eq_true rfl, Nat.le_of_ble_eq_true rfl⟩ ⟨Nat.le_of_ble_eq_true rfl, Nat.le_of_ble_eq_true rfl⟩ hl.1 rfl (Nat.le_of_ble_eq_true rfl) dX10_months_28) (fun r u h H locs B => ?_)
      obtain ⟨rfl, rfl⟩ := h
      have B : gB D G τ (gA α (Lc n) sz) s H locs α (cE G α (sNo S 1).2 J n) (Lc n) := B
      exact ge_wl C B hr hlk (by have e9 : sp_months S mo = ((sNo S 1).1, (sNo S 1).2) := mo_no hz; rw [e9]; exact ⟨rfl, J, rfl, hI0⟩) dX10_months_31
    · refine lv_if_eq (tgt := 23) hx hb dX10_months_8 (by decide) (fun _ => ?_) (fun hc => absurd (by decide) hc)
      refine lv_aload_n hx hb dX10_months_23 rfl (lv_at hl 0 rfl) ?_
      refine g_get C B (0) (Lc_in (by decide)) cE_0 rfl gf_10 0 (by decide) wl_226 (v := .ref (α 1)) cF_0_0 dX10_months_24 ?_
      refine lv_iconst (v := 1) hx hb dX10_months_27 (by decide) ?_
      refine gc_wl B (gr_V C B (k := 1) (As := [.int 1]) (rest := []) (c_X5_answer l D G τ α S J n _ 1 (by decide)) (Lc_in (by decide)) cE_1 rfl wl_267 wl_268 wl_269 wl_30 wl_270 (na := 1) (by decide +kernel) rfl ⟨Nat.le_of_ble_eq_true rfl, Nat.le_of_ble_eq_true rfl⟩ ⟨Nat.le_of_ble_eq_true rfl, Nat.le_of_ble_eq_true rfl⟩ hl.1 rfl (Nat.le_of_ble_eq_true rfl) dX10_months_28) (fun r u h H locs B => ?_)
      obtain ⟨rfl, rfl⟩ := h
      have B : gB D G τ (gA α (Lc n) sz) s H locs α (cE G α (sNo S 1).2 J n) (Lc n) := B
      exact ge_wl C B hr hlk (by have e9 : sp_months S mo = ((sNo S 1).1, (sNo S 1).2) := mo_no hz; rw [e9]; exact ⟨rfl, J, rfl, hI0⟩) dX10_months_31
  have hz := Decidable.not_not.mp hz
  obtain ⟨N, hN1, hN2, hmo, e9⟩ := mo_nat hN hz
  have hgo := goN_ok hO hN2
  have loop : ∀ (nn kk : Nat) (Q : St) (K : St) (H : Heap) (locs : List Loc) (ls : Array Slot), nn + kk = N → (goN kk S = Q ∧ keepJ (lrn S J (S.1 0) n) K) → gB D G τ (gA α (Lc n) sz) s H locs α (cE G α Q K n) (Lc n) → lv_has ls 3 [(2, .int (nI kk)), (0, .ref (α 0)), (1, .int mo)] → W p l e (rmd 7 0 0) s m [.ref (α 0), .int mo].toArray below meth c H locs 0 0 (MQ below (va_Ql (fun r u => r = (sp_months S mo).1 ∧ ∃ J9 : St, u = (α, cE G α (sp_months S mo).2 J9 n, Lc n) ∧ cInv (sp_months S mo).2 J9 n) (gAt D (gA α (Lc n) sz)) (gA α (Lc n) sz)) [.ref (α 0), .int mo].toArray s 0 0 (gA α (Lc n) sz)) (F0 m 49 ls []) := by
    intro nn
    induction nn with
    | zero =>
      intro kk Q K H locs ls hk hI B hl
      obtain ⟨hI1, hI2⟩ := hI
      have hg := hgo kk (by omega)
      rw [hI1] at hg
      have hqn : Q.1 15 = nI n := hg.2.2.2.trans hn
      have hqo : nOf Q 15 = n := by rw [nOf, hqn, nI_clamp (by omega)]
      have hL : lrd Q K n := lrd_of hO (by rw [nOf, hn, nI_clamp (by omega)]) hg.2.1 (by rw [i3e]; omega) hg.1.1.1.2 hI2
      have hci : cInv Q K n := ⟨hqn, hn30, fun i hi h16 => by rw [hI2.1, lrn_0, hg.2.1.2.2.2.2.2.2.2.2.2.2.2.2.1]; rw [hg.2.1.2.2.2.2.2.2.2.2.2.2.1] at h16; exact hJ9 i hi h16⟩
      refine lv_iload_n hx hb dX10_months_49 rfl (lv_at hl 0 rfl) ?_
      refine lv_iload_n hx hb dX10_months_50 rfl (lv_at hl 2 rfl) ?_
      refine lv_icmp_ge (tgt := 81) hx hb dX10_months_51 (by decide) (fun _ => ?_) (fun hc => absurd (by rw [hmo]; exact nI_le (by omega) (by omega)) hc)
      refine lv_aload_n hx hb dX10_months_81 rfl (lv_at hl 1 rfl) ?_
      refine g_get C B (0) (Lc_in (by decide)) cE_0 rfl gf_10 10 (by decide) wl_236 (v := .int (Q.1 0)) cF_0_10 dX10_months_82 ?_
      refine lv_i2l (v := (Q.1 0).toInt64) hx hb dX10_months_85 rfl ?_
      exact ge_wl C B hr hlk (by rw [e9, show N = kk by omega, hI1]; exact ⟨rfl, K, rfl, hci⟩) dX10_months_86
    | succ nn ih =>
      intro kk Q K H locs ls hk hI B hl
      obtain ⟨hI1, hI2⟩ := hI
      have hg := hgo kk (by omega)
      rw [hI1] at hg
      have hqn : Q.1 15 = nI n := hg.2.2.2.trans hn
      have hqo : nOf Q 15 = n := by rw [nOf, hqn, nI_clamp (by omega)]
      have hL : lrd Q K n := lrd_of hO (by rw [nOf, hn, nI_clamp (by omega)]) hg.2.1 (by rw [i3e]; omega) hg.1.1.1.2 hI2
      have hci : cInv Q K n := ⟨hqn, hn30, fun i hi h16 => by rw [hI2.1, lrn_0, hg.2.1.2.2.2.2.2.2.2.2.2.2.2.2.1]; rw [hg.2.1.2.2.2.2.2.2.2.2.2.2.1] at h16; exact hJ9 i hi h16⟩
      refine lv_iload_n hx hb dX10_months_49 rfl (lv_at hl 0 rfl) ?_
      refine lv_iload_n hx hb dX10_months_50 rfl (lv_at hl 2 rfl) ?_
      refine lv_icmp_ge (tgt := 81) hx hb dX10_months_51 (by decide) (fun hc => absurd hc (by rw [hmo]; exact nI_ge (by omega) (by omega))) (fun _ => ?_)
      refine lv_aload_n hx hb dX10_months_54 rfl (lv_at hl 1 rfl) ?_
      refine g_get C B (0) (Lc_in (by decide)) cE_0 rfl gf_10 7 (by decide) wl_233 (v := .ref (α 20)) cF_0_7 dX10_months_55 ?_
      refine lv_aload_n hx hb dX10_months_58 rfl (lv_at hl 1 rfl) ?_
      refine g_get C B (0) (Lc_in (by decide)) cE_0 rfl gf_10 10 (by decide) wl_236 (v := .int (Q.1 0)) cF_0_10 dX10_months_59 ?_
      refine gc_wv B (gr_V C B (k := 20) (As := [.int (Q.1 0)]) (rest := []) (c_X8_payFor l D G τ α Q K n _ (Q.1 0) hqn hn30 (fun d hd => (hg.1.2.2.2.2.2.1 d (by omega)).2.2.2.2.2.2.2.2.2) hg.1.2.2.2.2.2.2.2.1) (Lc_in (by decide)) cE_20 rfl wl_337 wl_338 wl_339 wl_37 wl_340 (na := 1) (by decide +kernel) rfl ⟨Nat.le_of_ble_eq_true rfl, Nat.le_of_ble_eq_true rfl⟩ ⟨Nat.le_of_ble_eq_true rfl, Nat.le_of_ble_eq_true rfl⟩ hl.1 rfl (Nat.le_of_ble_eq_true rfl) dX10_months_62) (fun u h H locs B => ?_)
      subst h
      have hc := cGo_eq hg.1.2.1 hg.1.2.2.2.2.2.1 hg.1.2.2.2.2.2.2.2 hqo hn30 hL
      have B : gB D G τ (gA α (Lc n) sz) s H locs α (cE G α (sPaid Q) (cGo Q K (Q.1 0) n).2 n) (Lc n) := by rw [← cE_congr hc.1.1 (fun j _ _ => congrFun hc.1.2.1 j) (fun j _ h => hc.1.2.2.1 j h) (fun j h => hc.1.2.2.2 j h)]; exact B
      refine lv_aload_n hx hb dX10_months_65 rfl (lv_at hl 1 rfl) ?_
      refine lv_dup hx hb dX10_months_66 rfl ?_
      refine g_get C B (0) (Lc_in (by decide)) cE_0 rfl gf_10 10 (by decide) wl_236 (v := .int ((sPaid Q).1 0)) cF_0_10 dX10_months_67 ?_
      refine lv_iconst (v := 1) hx hb dX10_months_70 (by decide) ?_
      refine lv_iadd hx hb dX10_months_71 ?_
      refine g_put C B (0) (Lc_in (by decide)) cE_0 rfl gf_10 tyX10 tyX10_ok nmX10 10 (by decide) wl_236 rfl (ty := .int) (v := .int ((sPaid Q).1 0 + 1)) (by decide +kernel) rfl rfl (Nat.le_of_ble_eq_true rfl) dX10_months_72 cO_0_10 (fun H locs B => ?_)
      refine lv_iinc (v := ((nI kk) + 1)) (lv' := [(2, .int ((nI kk) + 1)), (0, .ref (α 0)), (1, .int mo)]) hx hb dX10_months_75 hl (k := 0) rfl rfl (by decide) rfl (fun ls hl => ?_)
      refine lv_goto (tgt := 49) hx hb dX10_months_78 (by decide) ?_
      rw [← sGo_eq] at B
      exact ih (kk + 1) (sGo Q) ((cGo Q K (Q.1 0) n).2) H locs ls (by omega) (⟨by rw [goN, hI1], hc.2.1.trans hI2.1, hc.2.2.1.trans hI2.2.1, hc.2.2.2.trans hI2.2.2⟩) B (by have h9 := lv_sub (l' := [(2, .int ((nI kk) + 1)), (0, .ref (α 0)), (1, .int mo)]) hl [0, 1, 2] rfl; rw [nI_1] at h9; exact h9)
  refine lv_iload_n hx hb dX10_months_0 rfl (lv_at hl 1 rfl) ?_
  refine lv_iconst (v := 1) hx hb dX10_months_1 (by decide) ?_
  refine lv_sipush (v := 240) hx hb dX10_months_2 (by decide) ?_
  refine gc_b (gr_S C B (As := [.int mo, .int 1, .int 240]) (rest := []) (c_X10_isWithin l D G τ α _ _ _ mo 1 240) wl_264 wl_265 wl_29 wl_266 (na := 3) (by decide +kernel) rfl ⟨Nat.le_of_ble_eq_true rfl, Nat.le_of_ble_eq_true rfl⟩ ⟨Nat.le_of_ble_eq_true rfl, Nat.le_of_ble_eq_true rfl⟩ hl.1 rfl (Nat.le_of_ble_eq_true rfl) dX10_months_5) (fun _ => ?_) (fun hc => absurd hz.1 hc)
  refine lv_if_eq (tgt := 23) hx hb dX10_months_8 (by decide) (fun hc => absurd hc (by decide)) (fun _ => ?_)
  refine lv_aload_n hx hb dX10_months_11 rfl (lv_at hl 0 rfl) ?_
  refine g_get C B (0) (Lc_in (by decide)) cE_0 rfl gf_10 10 (by decide) wl_236 (v := .int (S.1 0)) cF_0_10 dX10_months_12 ?_
  refine lv_iload_n hx hb dX10_months_15 rfl (lv_at hl 1 rfl) ?_
  refine lv_iadd hx hb dX10_months_16 ?_
  refine lv_sipush (v := 1199) hx hb dX10_months_17 (by decide) ?_
  refine lv_icmp_le (tgt := 32) hx hb dX10_months_20 (by decide) (fun _ => ?_) (fun hc => absurd hz.2 hc)
  refine lv_aload_n hx hb dX10_months_32 rfl (lv_at hl 0 rfl) ?_
  refine g_get C B (0) (Lc_in (by decide)) cE_0 rfl gf_10 7 (by decide) wl_233 (v := .ref (α 20)) cF_0_7 dX10_months_33 ?_
  refine lv_aload_n hx hb dX10_months_36 rfl (lv_at hl 0 rfl) ?_
  refine g_get C B (0) (Lc_in (by decide)) cE_0 rfl gf_10 5 (by decide) wl_231 (v := .ref (α 17)) cF_0_5 dX10_months_37 ?_
  refine lv_aload_n hx hb dX10_months_40 rfl (lv_at hl 0 rfl) ?_
  refine g_get C B (0) (Lc_in (by decide)) cE_0 rfl gf_10 10 (by decide) wl_236 (v := .int (S.1 0)) cF_0_10 dX10_months_41 ?_
  refine gc_wv B (gr_V C B (k := 20) (As := [.ref (α 17), .int (S.1 0)]) (rest := []) (c_X8_learn l D G τ α S J n _ (S.1 0) hn hn30 hN hF hJ9) (Lc_in (by decide)) cE_20 rfl wl_273 wl_274 wl_275 wl_37 wl_276 (na := 2) (by decide +kernel) rfl ⟨Nat.le_of_ble_eq_true rfl, Nat.le_of_ble_eq_true rfl⟩ ⟨Nat.le_of_ble_eq_true rfl, Nat.le_of_ble_eq_true rfl⟩ hl.1 rfl (Nat.le_of_ble_eq_true rfl) dX10_months_44) (fun u h H locs B => ?_)
  subst h
  have B : gB D G τ (gA α (Lc n) sz) s H locs α (cE G α S (lrn S J (S.1 0) n) n) (Lc n) := B
  refine lv_iconst (v := 0) hx hb dX10_months_47 (by decide) ?_
  refine lv_istore_n (lv' := [(2, .int 0), (0, .ref (α 0)), (1, .int mo)]) hx hb dX10_months_48 rfl hl (by decide) rfl (fun ls hl => ?_)
  exact loop N 0 S _ _ _ ls (by omega) ⟨rfl, rfl, rfl, rfl⟩ B (lv_sub hl [0, 1, 2] rfl)
