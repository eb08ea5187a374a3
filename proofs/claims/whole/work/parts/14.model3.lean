theorem sInf_5 {S : St} (hD : okD S) (m k : Int32) : 12 ≤ sInf S 5 m k ∧ sInf S 5 m k ≤ 240 := by
  have h : ∀ n, n ≤ nOf S 2 → 12 ≤ (infL S 5 m k n).1 ∧ (infL S 5 m k n).1 ≤ 240 := by
    intro n
    induction n with
    | zero => intro _; rw [infL]; exact ⟨by decide, by decide⟩
    | succ n ih =>
      intro hn
      rw [infL]
      split
      · rename_i h9
        exact (hD n (by omega)).2.2.2.2.2 h9.1
      · exact ih (by omega)
  exact h _ (Nat.le_refl _)
theorem yr_eq {t : Int32} (h : 12 ≤ t ∧ t ≤ 240) : t / 12 = nI (t.toNatClampNeg / 12) ∧ 1 ≤ t.toNatClampNeg / 12 ∧ t.toNatClampNeg / 12 ≤ 20 := by
  obtain ⟨h1, h2⟩ := h
  have h0 : 0 ≤ t := by simp only [i3e, zi_0, zi_12] at h1 ⊢; omega
  have e := cl_int h0
  simp only [i3e, zi_12, zi_240] at h1 h2
  refine ⟨?_, by omega, by omega⟩
  conv => lhs; rw [cl_eq h0, show (12 : Int32) = nI 12 from rfl, pk_div cl_lt (by decide) (by decide)]
theorem yr_le {t : Int32} (h : 12 ≤ t ∧ t ≤ 240) : t / 12 ≤ 20 := by
  obtain ⟨h1, h2, h3⟩ := yr_eq h
  rw [h1, show (20 : Int32) = nI 20 from rfl]
  exact nI_le h3 (by decide)
theorem yr_in {t : Int32} (h : 12 ≤ t ∧ t ≤ 240) : vp_in (t / 12) 21 := by
  obtain ⟨h1, h2, h3⟩ := yr_eq h
  rw [h1]
  exact vp_in_nI (by omega) (by decide)
theorem i7 {x : Int32} (h : 0 ≤ x ∧ x ≤ 30) : (7 * x).toNatClampNeg = 7 * x.toNatClampNeg := by
  obtain ⟨h1, h2⟩ := h
  have e := cl_int h1
  simp only [i3e, zi_30] at h2
  conv => lhs; rw [cl_eq h1, show (7 : Int32) = nI 7 from rfl, pk_mul]
  rw [nI_clamp (by omega)]
theorem vp7 {x : Int32} (h : 0 ≤ x ∧ x ≤ 30) (h2 : ¬ x = 30) : vp_in (7 * x) 210 := by
  obtain ⟨h1, h3⟩ := h
  have e := cl_int h1
  simp only [i3e, i3q, zi_30] at h2 h3
  rw [cl_eq h1, show (7 : Int32) = nI 7 from rfl, pk_mul]
  exact vp_in_nI (by omega) (by decide)
theorem sl_ix {S : St} {d : Nat} (h : 1 ≤ S.2.2.1 25 d ∧ S.2.2.1 25 d ≤ 7) : (7 : Int32) * nI d + S.2.2.1 25 d - 1 = nI (sLast S d) := by
  obtain ⟨h1, h2⟩ := h
  have h0 : 0 ≤ S.2.2.1 25 d := by simp only [i3e, zi_0, zi_1] at h1 ⊢; omega
  have e := cl_int h0
  simp only [i3e, zi_1, zi_7] at h1 h2
  conv => lhs; rw [cl_eq h0]
  rw [n7, show (1 : Int32) = nI 1 from rfl, pk_sub (by omega), sLast]
  congr 1
  omega
theorem sl_lt {S : St} {d : Nat} (hd : d < 30) (h : 1 ≤ S.2.2.1 25 d ∧ S.2.2.1 25 d ≤ 7) : sLast S d < 210 ∧ (¬ S.2.2.1 25 d = 7 → sLast S d + 1 < 210) := by
  obtain ⟨h1, h2⟩ := h
  have h0 : 0 ≤ S.2.2.1 25 d := by simp only [i3e, zi_0, zi_1] at h1 ⊢; omega
  have e := cl_int h0
  simp only [i3e, i3q, zi_1, zi_7] at h1 h2 ⊢
  rw [sLast]
  constructor
  · omega
  · intro h9; omega
theorem sHold_last {S : St} {d : Nat} (h : okS S d) : sHold S d (S.1 0) = S.2.2.1 27 (sLast S d) ∧ 0 ≤ S.2.2.1 27 (sLast S d) ∧ S.2.2.1 27 (sLast S d) ≤ 9 := by
  obtain ⟨⟨h1, h2⟩, h3, h4, h5, h6⟩ := h
  have h0 : 0 ≤ S.2.2.1 25 d := by simp only [i3e, zi_0, zi_1] at h1 ⊢; omega
  have e := cl_int h0
  simp only [i3e, zi_1, zi_7] at h1 h2
  obtain ⟨k, hk⟩ : ∃ k, (S.2.2.1 25 d).toNatClampNeg = k + 1 := ⟨(S.2.2.1 25 d).toNatClampNeg - 1, by omega⟩
  rw [sHold, sLast, hk, holdL]
  rw [hk] at h5
  have h7 := h6 k (by omega)
  rw [show k + 1 - 1 = k by omega] at h5 ⊢
  rw [if_pos h5]
  exact ⟨rfl, h7⟩
theorem holdL_c {S T : St} (h26 : T.2.2.1 26 = S.2.2.1 26) (h27 : T.2.2.1 27 = S.2.2.1 27) (d : Nat) (m : Int32) : ∀ n, holdL T d m n = holdL S d m n
  | 0 => rfl
  | n + 1 => by rw [holdL, holdL, holdL_c h26 h27 d m n, h26, h27]
theorem sHold_c {S T : St} (h25 : T.2.2.1 25 = S.2.2.1 25) (h26 : T.2.2.1 26 = S.2.2.1 26) (h27 : T.2.2.1 27 = S.2.2.1 27) (d : Nat) (m : Int32) : sHold T d m = sHold S d m := by
  rw [sHold, sHold, holdL_c h26 h27, h25]
/-- v is paid to deposit d -/
def sPay (S : St) (d : Nat) (v : Int64) : St := uB (uJ (uJ (uB (uB S 23 (vp_updL (S.2.2.2 23) d (S.2.2.2 23 d + v))) 40 (vp_updL (S.2.2.2 40) d (S.2.2.2 40 d - v))) 28 (S.2.1 28 - v)) 30 (S.2.1 30 + v)) 33 (vp_updL (S.2.2.2 33) (sHold S d (S.1 0)).toNatClampNeg (S.2.2.2 33 (sHold S d (S.1 0)).toNatClampNeg + v))
set_option maxHeartbeats 4000000 in
set_option maxRecDepth 100000 in
theorem c_X11_deposit (l : Launch) (D : va_G) (G : Nat → ClassId) (τ α : Nat → Nat) (S : St) (sz : Nat) (kind ch o su ho : Int32) (hN : okN S) (hD : okD S) : Wl l D G τ yX11_deposit cX11_deposit 9 (some .long) 2 0 0 [.ref (α 0), .int kind, .int ch, .int o, .int su, .int ho] α (mE G α S) Lm sz (fun r u => r = (sp_deposit S kind ch o su ho).1 ∧ u = (α, mE G α (sp_deposit S kind ch o su ho).2, Lm)) := by
  refine gM _ (by decide) rfl (Nat.le_of_ble_eq_true rfl) ?_
  intro p e s m below meth c ls C hr hlk hnm hsz B hl
  have hx := C.1
  have hb := C.2.1
  have hl : lv_has ls 9 [(0, .ref (α 0)), (1, .int kind), (2, .int ch), (3, .int o), (4, .int su), (5, .int ho)] := hl
  have ht9 := sInf_5 hD (S.1 0) (S.1 0)
  have hy9 : sYear (sInf S 5 (S.1 0) (S.1 0)) = (sInf S 5 (S.1 0) (S.1 0)) / 12 := if_pos (yr_le ht9)
  refine lv_iload_n hx hb dX11_deposit_0 rfl (lv_at hl 1 rfl) ?_
  refine lv_iconst (v := 0) hx hb dX11_deposit_1 (by decide) ?_
  refine lv_iconst (v := 2) hx hb dX11_deposit_2 (by decide) ?_
  refine gc_b (gr_S C B (As := [.int kind, .int 0, .int 2]) (rest := []) (c_X11_in l D G τ α _ _ _ kind 0 2) wl_862 wl_863 wl_40 wl_864 (na := 3) (by decide +kernel) rfl ⟨Nat.le_of_ble_eq_true rfl, Nat.le_of_ble_eq_true rfl⟩ ⟨Nat.le_of_ble_eq_true rfl, Nat.le_of_ble_eq_true rfl⟩ hl.1 rfl (Nat.le_of_ble_eq_true rfl) dX11_deposit_3) (fun c1 => ?_) (fun c1 => ?_)
  · refine lv_if_eq (tgt := 50) hx hb dX11_deposit_6 (by decide) (fun hc => absurd hc (by decide)) (fun _ => ?_)
    refine lv_aload_n hx hb dX11_deposit_9 rfl (lv_at hl 0 rfl) ?_
    refine lv_iload_n hx hb dX11_deposit_10 rfl (lv_at hl 2 rfl) ?_
    refine gc_b (gr_V C B (k := 0) (As := [.int ch]) (rest := []) (c_X11_isChild l D G τ α S _ ch hN) (by decide) mE_0 rfl wl_933 wl_935 wl_24 wl_40 wl_936 (na := 1) (by decide +kernel) rfl ⟨Nat.le_of_ble_eq_true rfl, Nat.le_of_ble_eq_true rfl⟩ ⟨Nat.le_of_ble_eq_true rfl, Nat.le_of_ble_eq_true rfl⟩ hl.1 rfl (Nat.le_of_ble_eq_true rfl) dX11_deposit_11) (fun c2 => ?_) (fun c2 => ?_)
    · refine lv_if_eq (tgt := 50) hx hb dX11_deposit_14 (by decide) (fun hc => absurd hc (by decide)) (fun _ => ?_)
      refine lv_iload_n hx hb dX11_deposit_17 rfl (lv_at hl 1 rfl) ?_
      refine lv_iconst (v := 1) hx hb dX11_deposit_18 (by decide) ?_
      refine lv_icmp_ne (tgt := 30) hx hb dX11_deposit_19 (by decide) (fun c3 => ?_) (fun c3 => ?_)
      · refine lv_iload hx hb dX11_deposit_30 (lv_at hl 5 rfl) ?_
        refine gc_b (gr_S C B (As := [.int ho]) (rest := []) (c_X11_isHolder l D G τ α _ _ _ ho) wl_945 wl_946 wl_40 wl_947 (na := 1) (by decide +kernel) rfl ⟨Nat.le_of_ble_eq_true rfl, Nat.le_of_ble_eq_true rfl⟩ ⟨Nat.le_of_ble_eq_true rfl, Nat.le_of_ble_eq_true rfl⟩ hl.1 rfl (Nat.le_of_ble_eq_true rfl) dX11_deposit_32) (fun c4 => ?_) (fun c4 => ?_)
        · refine lv_if_eq (tgt := 50) hx hb dX11_deposit_35 (by decide) (fun hc => absurd hc (by decide)) (fun _ => ?_)
          refine lv_iload hx hb dX11_deposit_38 (lv_at hl 4 rfl) ?_
          refine lv_iconst (v := 1) hx hb dX11_deposit_40 (by decide) ?_
          refine lv_sipush (v := 10000) hx hb dX11_deposit_41 (by decide) ?_
          refine gc_b (gr_S C B (As := [.int su, .int 1, .int 10000]) (rest := []) (c_X11_in l D G τ α _ _ _ su 1 10000) wl_862 wl_863 wl_40 wl_864 (na := 3) (by decide +kernel) rfl ⟨Nat.le_of_ble_eq_true rfl, Nat.le_of_ble_eq_true rfl⟩ ⟨Nat.le_of_ble_eq_true rfl, Nat.le_of_ble_eq_true rfl⟩ hl.1 rfl (Nat.le_of_ble_eq_true rfl) dX11_deposit_44) (fun c5 => ?_) (fun c5 => ?_)
          · refine lv_if_ne (tgt := 56) hx hb dX11_deposit_47 (by decide) (fun _ => ?_) (fun hc => absurd hc (by decide))
            refine lv_iload_n hx hb dX11_deposit_56 rfl (lv_at hl 1 rfl) ?_
            refine lv_iconst (v := 1) hx hb dX11_deposit_57 (by decide) ?_
            refine lv_icmp_ne (tgt := 72) hx hb dX11_deposit_58 (by decide) (fun _ => ?_) (fun hc => absurd hc c3)
            refine lv_aload_n hx hb dX11_deposit_72 rfl (lv_at hl 0 rfl) ?_
            refine lv_iload_n hx hb dX11_deposit_73 rfl (lv_at hl 2 rfl) ?_
            refine lv_aload_n hx hb dX11_deposit_74 rfl (lv_at hl 0 rfl) ?_
            refine g_get C B (0) (by decide) mE_0 rfl gf_11 0 (by decide) wl_727 (v := .int (S.1 0)) mF_0 dX11_deposit_75 ?_
            refine gc_o (oI := oI) (gr_V C B (k := 0) (As := [.int ch, .int (S.1 0)]) (rest := []) (c_X11_fateAt l D G τ α S _ ch (S.1 0) hN) (by decide) mE_0 rfl wl_882 wl_884 wl_18 wl_40 wl_885 (na := 2) (by decide +kernel) rfl ⟨Nat.le_of_ble_eq_true rfl, Nat.le_of_ble_eq_true rfl⟩ ⟨Nat.le_of_ble_eq_true rfl, Nat.le_of_ble_eq_true rfl⟩ hl.1 rfl (Nat.le_of_ble_eq_true rfl) dX11_deposit_78) (fun o6 => ?_) (fun f7 o6 => ?_)
            · refine lv_if_ge (tgt := 101) hx hb dX11_deposit_81 (by decide) (fun hc => absurd hc (by decide)) (fun _ => ?_)
              refine lv_iload_n hx hb dX11_deposit_84 rfl (lv_at hl 1 rfl) ?_
              refine lv_iconst (v := 1) hx hb dX11_deposit_85 (by decide) ?_
              refine lv_icmp_ne (tgt := 107) hx hb dX11_deposit_86 (by decide) (fun _ => ?_) (fun hc => absurd hc c3)
              refine lv_aload_n hx hb dX11_deposit_107 rfl (lv_at hl 0 rfl) ?_
              refine g_get C B (0) (by decide) mE_0 rfl gf_11 15 (by decide) wl_742 (v := .int (S.1 15)) mF_15 dX11_deposit_108 ?_
              refine lv_bipush (v := 30) hx hb dX11_deposit_111 (by decide) ?_
              refine lv_icmp_ne (tgt := 122) hx hb dX11_deposit_113 (by decide) (fun c8 => ?_) (fun c8 => ?_)
              · refine lv_aload_n hx hb dX11_deposit_122 rfl (lv_at hl 0 rfl) ?_
                refine g_get C B (0) (by decide) mE_0 rfl gf_11 15 (by decide) wl_742 (v := .int (S.1 15)) mF_15 dX11_deposit_123 ?_
                refine lv_istore (lv' := [(6, .int (S.1 15)), (0, .ref (α 0)), (1, .int kind), (2, .int ch), (3, .int o), (4, .int su), (5, .int ho)]) hx hb dX11_deposit_126 hl (by decide) rfl (fun ls hl => ?_)
                refine lv_aload_n hx hb dX11_deposit_128 rfl (lv_at hl 1 rfl) ?_
                refine lv_iconst (v := 5) hx hb dX11_deposit_129 (by decide) ?_
                refine lv_aload_n hx hb dX11_deposit_130 rfl (lv_at hl 1 rfl) ?_
                refine g_get C B (0) (by decide) mE_0 rfl gf_11 0 (by decide) wl_727 (v := .int (S.1 0)) mF_0 dX11_deposit_131 ?_
                refine lv_aload_n hx hb dX11_deposit_134 rfl (lv_at hl 1 rfl) ?_
                refine g_get C B (0) (by decide) mE_0 rfl gf_11 0 (by decide) wl_727 (v := .int (S.1 0)) mF_0 dX11_deposit_135 ?_
                refine gc_i (gr_V C B (k := 0) (As := [.int 5, .int (S.1 0), .int (S.1 0)]) (rest := []) (c_X11_inForce l D G τ α S _ 5 (S.1 0) (S.1 0) hN hD) (by decide) mE_0 rfl wl_890 wl_892 wl_20 wl_40 wl_893 (na := 3) (by decide +kernel) rfl ⟨Nat.le_of_ble_eq_true rfl, Nat.le_of_ble_eq_true rfl⟩ ⟨Nat.le_of_ble_eq_true rfl, Nat.le_of_ble_eq_true rfl⟩ hl.1 rfl (Nat.le_of_ble_eq_true rfl) dX11_deposit_138) (fun r h => ?_)
                subst h
                refine lv_istore (lv' := [(7, .int (sInf S 5 (S.1 0) (S.1 0))), (6, .int (S.1 15)), (0, .ref (α 0)), (1, .int kind), (2, .int ch), (3, .int o), (4, .int su), (5, .int ho)]) hx hb dX11_deposit_141 hl (by decide) rfl (fun ls hl => ?_)
                refine lv_iload hx hb dX11_deposit_143 (lv_at hl 0 rfl) ?_
                refine lv_bipush (v := 12) hx hb dX11_deposit_145 (by decide) ?_
                refine lv_idiv hx hb dX11_deposit_147 (by decide) ?_
                refine lv_bipush (v := 20) hx hb dX11_deposit_148 (by decide) ?_
                refine lv_icmp_le (tgt := 158) hx hb dX11_deposit_150 (by decide) (fun _ => ?_) (fun hc => absurd (yr_le ht9) hc)
                refine lv_iload hx hb dX11_deposit_158 (lv_at hl 0 rfl) ?_
                refine lv_bipush (v := 12) hx hb dX11_deposit_160 (by decide) ?_
                refine lv_idiv hx hb dX11_deposit_162 (by decide) ?_
                refine lv_istore (lv' := [(8, .int ((sInf S 5 (S.1 0) (S.1 0)) / 12)), (7, .int (sInf S 5 (S.1 0) (S.1 0))), (6, .int (S.1 15)), (0, .ref (α 0)), (1, .int kind), (2, .int ch), (3, .int o), (4, .int su), (5, .int ho)]) hx hb dX11_deposit_163 hl (by decide) rfl (fun ls hl => ?_)
                refine lv_aload_n hx hb dX11_deposit_165 rfl (lv_at hl 3 rfl) ?_
                refine g_get C B (0) (by decide) mE_0 rfl gf_11 16 (by decide) wl_743 (v := .ref (α 16)) mF_16 dX11_deposit_166 ?_
                refine lv_iload hx hb dX11_deposit_169 (lv_at hl 2 rfl) ?_
                refine lv_iload_n hx hb dX11_deposit_171 rfl (lv_at hl 4 rfl) ?_
                refine g_iast C B (16) (by decide) (f := S.2.2.1 16) mE_16 (vp_ne hN.2.2.2.2.1 c8 rfl) (j := (S.1 15).toNatClampNeg) rfl dX11_deposit_172 mU_16 (fun H locs B => ?_)
                refine lv_aload_n hx hb dX11_deposit_173 rfl (lv_at hl 3 rfl) ?_
                refine g_get C B (0) (by decide) mE_0 rfl gf_11 17 (by decide) wl_744 (v := .ref (α 17)) mF_17 dX11_deposit_174 ?_
                refine lv_iload hx hb dX11_deposit_177 (lv_at hl 2 rfl) ?_
                refine lv_iload_n hx hb dX11_deposit_179 rfl (lv_at hl 5 rfl) ?_
                refine g_iast C B (17) (by decide) (f := S.2.2.1 17) mE_17 (vp_ne hN.2.2.2.2.1 c8 rfl) (j := (S.1 15).toNatClampNeg) rfl dX11_deposit_180 mU_17 (fun H locs B => ?_)
                refine lv_aload_n hx hb dX11_deposit_181 rfl (lv_at hl 3 rfl) ?_
                refine g_get C B (0) (by decide) mE_0 rfl gf_11 18 (by decide) wl_745 (v := .ref (α 18)) mF_18 dX11_deposit_182 ?_
                refine lv_iload hx hb dX11_deposit_185 (lv_at hl 2 rfl) ?_
                refine lv_iload_n hx hb dX11_deposit_187 rfl (lv_at hl 4 rfl) ?_
                refine lv_iconst (v := 1) hx hb dX11_deposit_188 (by decide) ?_
                refine lv_icmp_ne (tgt := 196) hx hb dX11_deposit_189 (by decide) (fun _ => ?_) (fun hc => absurd hc c3)
                refine lv_iconst (v := (-1)) hx hb dX11_deposit_196 (by decide) ?_
                refine g_iast C B (18) (by decide) (f := S.2.2.1 18) mE_18 (vp_ne hN.2.2.2.2.1 c8 rfl) (j := (S.1 15).toNatClampNeg) rfl dX11_deposit_197 mU_18 (fun H locs B => ?_)
                refine lv_aload_n hx hb dX11_deposit_198 rfl (lv_at hl 3 rfl) ?_
                refine g_get C B (0) (by decide) mE_0 rfl gf_11 19 (by decide) wl_746 (v := .ref (α 19)) mF_19 dX11_deposit_199 ?_
                refine lv_iload hx hb dX11_deposit_202 (lv_at hl 2 rfl) ?_
                refine lv_iload hx hb dX11_deposit_204 (lv_at hl 7 rfl) ?_
                refine g_iast C B (19) (by decide) (f := S.2.2.1 19) mE_19 (vp_ne hN.2.2.2.2.1 c8 rfl) (j := (S.1 15).toNatClampNeg) rfl dX11_deposit_206 mU_19 (fun H locs B => ?_)
                refine lv_aload_n hx hb dX11_deposit_207 rfl (lv_at hl 3 rfl) ?_
                refine g_get C B (0) (by decide) mE_0 rfl gf_11 20 (by decide) wl_747 (v := .ref (α 20)) mF_20 dX11_deposit_208 ?_
                refine lv_iload hx hb dX11_deposit_211 (lv_at hl 2 rfl) ?_
                refine lv_iload hx hb dX11_deposit_213 (lv_at hl 7 rfl) ?_
                refine lv_i2l (v := su.toInt64) hx hb dX11_deposit_215 rfl ?_
                refine lv_aload_n hx hb dX11_deposit_216 rfl (lv_at hl 3 rfl) ?_
                refine g_get C B (0) (by decide) mE_0 rfl gf_11 7 (by decide) wl_734 (v := .ref (α 7)) mF_7 dX11_deposit_217 ?_
                refine lv_iload hx hb dX11_deposit_220 (lv_at hl 0 rfl) ?_
                refine g_iald C B (7) (by decide) (f := S.2.2.1 7) mE_7 (yr_in ht9) (j := ((sInf S 5 (S.1 0) (S.1 0)) / 12).toNatClampNeg) rfl dX11_deposit_222 ?_
                refine lv_i2l (v := (S.2.2.1 7 ((sInf S 5 (S.1 0) (S.1 0)) / 12).toNatClampNeg).toInt64) hx hb dX11_deposit_223 rfl ?_
                refine lv_lmul hx hb dX11_deposit_224 ?_
                refine g_ldc2 C wl_948 dX11_deposit_225 ?_
                refine lv_ldiv hx hb dX11_deposit_228 (by decide) ?_
                refine g_last C B (20) (by decide) (f := S.2.2.2 20) mE_20 (vp_ne hN.2.2.2.2.1 c8 rfl) (j := (S.1 15).toNatClampNeg) rfl dX11_deposit_229 mU_20 (fun H locs B => ?_)
                refine lv_aload_n hx hb dX11_deposit_230 rfl (lv_at hl 3 rfl) ?_
                refine g_get C B (0) (by decide) mE_0 rfl gf_11 21 (by decide) wl_748 (v := .ref (α 21)) mF_21 dX11_deposit_231 ?_
                refine lv_iload hx hb dX11_deposit_234 (lv_at hl 2 rfl) ?_
                refine lv_aload_n hx hb dX11_deposit_236 rfl (lv_at hl 3 rfl) ?_
                refine g_get C B (0) (by decide) mE_0 rfl gf_11 0 (by decide) wl_727 (v := .int (S.1 0)) mF_0 dX11_deposit_237 ?_
                refine lv_iload hx hb dX11_deposit_240 (lv_at hl 1 rfl) ?_
                refine lv_iadd hx hb dX11_deposit_242 ?_
                refine g_iast C B (21) (by decide) (f := S.2.2.1 21) mE_21 (vp_ne hN.2.2.2.2.1 c8 rfl) (j := (S.1 15).toNatClampNeg) rfl dX11_deposit_243 mU_21 (fun H locs B => ?_)
                refine lv_aload_n hx hb dX11_deposit_244 rfl (lv_at hl 3 rfl) ?_
                refine g_get C B (0) (by decide) mE_0 rfl gf_11 22 (by decide) wl_749 (v := .ref (α 22)) mF_22 dX11_deposit_245 ?_
                refine lv_iload hx hb dX11_deposit_248 (lv_at hl 2 rfl) ?_
                refine lv_aload_n hx hb dX11_deposit_250 rfl (lv_at hl 3 rfl) ?_
                refine g_get C B (0) (by decide) mE_0 rfl gf_11 0 (by decide) wl_727 (v := .int (S.1 0)) mF_0 dX11_deposit_251 ?_
                refine g_iast C B (22) (by decide) (f := S.2.2.1 22) mE_22 (vp_ne hN.2.2.2.2.1 c8 rfl) (j := (S.1 15).toNatClampNeg) rfl dX11_deposit_254 mU_22 (fun H locs B => ?_)
                refine lv_aload_n hx hb dX11_deposit_255 rfl (lv_at hl 3 rfl) ?_
                refine g_get C B (0) (by decide) mE_0 rfl gf_11 23 (by decide) wl_750 (v := .ref (α 23)) mF_23 dX11_deposit_256 ?_
                refine lv_iload hx hb dX11_deposit_259 (lv_at hl 2 rfl) ?_
                refine lv_lconst (v := 0) hx hb dX11_deposit_261 (by decide) ?_
                refine g_last C B (23) (by decide) (f := S.2.2.2 23) mE_23 (vp_ne hN.2.2.2.2.1 c8 rfl) (j := (S.1 15).toNatClampNeg) rfl dX11_deposit_262 mU_23 (fun H locs B => ?_)
                refine lv_aload_n hx hb dX11_deposit_263 rfl (lv_at hl 3 rfl) ?_
                refine g_get C B (0) (by decide) mE_0 rfl gf_11 24 (by decide) wl_751 (v := .ref (α 24)) mF_24 dX11_deposit_264 ?_
                refine lv_iload hx hb dX11_deposit_267 (lv_at hl 2 rfl) ?_
                refine lv_iconst (v := 0) hx hb dX11_deposit_269 (by decide) ?_
                refine g_zast C B (24) (by decide) (f := S.2.2.1 24) mE_24 (vp_ne hN.2.2.2.2.1 c8 rfl) (j := (S.1 15).toNatClampNeg) rfl dX11_deposit_270 mU_24 (fun H locs B => ?_)
                refine lv_aload_n hx hb dX11_deposit_271 rfl (lv_at hl 3 rfl) ?_
                refine g_get C B (0) (by decide) mE_0 rfl gf_11 25 (by decide) wl_752 (v := .ref (α 25)) mF_25 dX11_deposit_272 ?_
                refine lv_iload hx hb dX11_deposit_275 (lv_at hl 2 rfl) ?_
                refine lv_iconst (v := 1) hx hb dX11_deposit_277 (by decide) ?_
                refine g_iast C B (25) (by decide) (f := S.2.2.1 25) mE_25 (vp_ne hN.2.2.2.2.1 c8 rfl) (j := (S.1 15).toNatClampNeg) rfl dX11_deposit_278 mU_25 (fun H locs B => ?_)
                refine lv_aload_n hx hb dX11_deposit_279 rfl (lv_at hl 3 rfl) ?_
                refine g_get C B (0) (by decide) mE_0 rfl gf_11 26 (by decide) wl_753 (v := .ref (α 26)) mF_26 dX11_deposit_280 ?_
                refine lv_bipush (v := 7) hx hb dX11_deposit_283 (by decide) ?_
                refine lv_iload hx hb dX11_deposit_285 (lv_at hl 2 rfl) ?_
                refine lv_imul hx hb dX11_deposit_287 ?_
                refine lv_aload_n hx hb dX11_deposit_288 rfl (lv_at hl 3 rfl) ?_
                refine g_get C B (0) (by decide) mE_0 rfl gf_11 0 (by decide) wl_727 (v := .int (S.1 0)) mF_0 dX11_deposit_289 ?_
                refine g_iast C B (26) (by decide) (f := S.2.2.1 26) mE_26 (vp7 hN.2.2.2.2.1 c8) (j := (7 * (S.1 15).toNatClampNeg)) (i7 hN.2.2.2.2.1) dX11_deposit_292 mU_26 (fun H locs B => ?_)
                refine lv_aload_n hx hb dX11_deposit_293 rfl (lv_at hl 3 rfl) ?_
                refine g_get C B (0) (by decide) mE_0 rfl gf_11 27 (by decide) wl_754 (v := .ref (α 27)) mF_27 dX11_deposit_294 ?_
                refine lv_bipush (v := 7) hx hb dX11_deposit_297 (by decide) ?_
                refine lv_iload hx hb dX11_deposit_299 (lv_at hl 2 rfl) ?_
                refine lv_imul hx hb dX11_deposit_301 ?_
                refine lv_iload hx hb dX11_deposit_302 (lv_at hl 8 rfl) ?_
                refine g_iast C B (27) (by decide) (f := S.2.2.1 27) mE_27 (vp7 hN.2.2.2.2.1 c8) (j := (7 * (S.1 15).toNatClampNeg)) (i7 hN.2.2.2.2.1) dX11_deposit_304 mU_27 (fun H locs B => ?_)
                refine lv_aload_n hx hb dX11_deposit_305 rfl (lv_at hl 3 rfl) ?_
                refine lv_dup hx hb dX11_deposit_306 rfl ?_
                refine g_get C B (0) (by decide) mE_0 rfl gf_11 15 (by decide) wl_742 (v := .int (S.1 15)) mF_15 dX11_deposit_307 ?_
                refine lv_iconst (v := 1) hx hb dX11_deposit_310 (by decide) ?_
                refine lv_iadd hx hb dX11_deposit_311 ?_
                refine g_put C B (0) (by decide) mE_0 rfl gf_11 tyX11 tyX11_ok nmX11 15 (by decide) wl_742 rfl (ty := .int) (v := .int (S.1 15 + 1)) (by decide +kernel) rfl rfl (Nat.le_of_ble_eq_true rfl) dX11_deposit_312 mO_15 (fun H locs B => ?_)
                refine lv_iload hx hb dX11_deposit_315 (lv_at hl 2 rfl) ?_
                refine lv_i2l (v := (S.1 15).toInt64) hx hb dX11_deposit_317 rfl ?_
                exact ge_wl C B hr hlk (by have e9 : sp_deposit S kind ch o su ho = ((S.1 15).toInt64, (uI (uA (uA (uA (uA (uB (uA (uA (uB (uA (uA (uA (uA S 16 (upd (S.2.2.1 16) ((S.1 15).toNatClampNeg) kind)) 17 (upd (S.2.2.1 17) ((S.1 15).toNatClampNeg) ch)) 18 (upd (S.2.2.1 18) ((S.1 15).toNatClampNeg) (-1))) 19 (upd (S.2.2.1 19) ((S.1 15).toNatClampNeg) su)) 20 (vp_updL (S.2.2.2 20) ((S.1 15).toNatClampNeg) ((su.toInt64 * (S.2.2.1 7 ((sInf S 5 (S.1 0) (S.1 0)) / 12).toNatClampNeg).toInt64) / 100))) 21 (upd (S.2.2.1 21) ((S.1 15).toNatClampNeg) (S.1 0 + (sInf S 5 (S.1 0) (S.1 0))))) 22 (upd (S.2.2.1 22) ((S.1 15).toNatClampNeg) (S.1 0))) 23 (vp_updL (S.2.2.2 23) ((S.1 15).toNatClampNeg) 0)) 24 (upd (S.2.2.1 24) ((S.1 15).toNatClampNeg) 0)) 25 (upd (S.2.2.1 25) ((S.1 15).toNatClampNeg) 1)) 26 (upd (S.2.2.1 26) (7 * (S.1 15).toNatClampNeg) (S.1 0))) 27 (upd (S.2.2.1 27) (7 * (S.1 15).toNatClampNeg) ho)) 15 (S.1 15 + 1))) := (by unfold sp_deposit sp_dep2 sp_dep3 sp_dep4 sp_dep5; (first | rw [if_pos c1] | rw [if_neg c1] | rw [if_neg (not_not_intro c1)] | skip); (first | rw [if_pos c2] | rw [if_neg c2] | rw [if_neg (not_not_intro c2)] | skip); (first | rw [if_pos c3] | rw [if_neg c3] | rw [if_neg (not_not_intro c3)] | skip); (first | rw [if_pos c4] | rw [if_neg c4] | rw [if_neg (not_not_intro c4)] | skip); (first | rw [if_pos c5] | rw [if_neg c5] | rw [if_neg (not_not_intro c5)] | skip); (first | rw [o6] | skip); (try dsimp only); (first | rw [if_pos c8] | rw [if_neg c8] | rw [if_neg (not_not_intro c8)] | skip); (first | rw [if_pos c1] | rw [if_neg c1] | rw [if_neg (not_not_intro c1)] | skip); (first | rw [if_pos c2] | rw [if_neg c2] | rw [if_neg (not_not_intro c2)] | skip); (first | rw [if_pos c3] | rw [if_neg c3] | rw [if_neg (not_not_intro c3)] | skip); (first | rw [if_pos c4] | rw [if_neg c4] | rw [if_neg (not_not_intro c4)] | skip); (first | rw [if_pos c5] | rw [if_neg c5] | rw [if_neg (not_not_intro c5)] | skip); (first | rw [o6] | skip); (try dsimp only); (first | rw [if_pos c8] | rw [if_neg c8] | rw [if_neg (not_not_intro c8)] | skip); (first | rw [if_pos c1] | rw [if_neg c1] | rw [if_neg (not_not_intro c1)] | skip); (first | rw [if_pos c2] | rw [if_neg c2] | rw [if_neg (not_not_intro c2)] | skip); (first | rw [if_pos c3] | rw [if_neg c3] | rw [if_neg (not_not_intro c3)] | skip); (first | rw [if_pos c4] | rw [if_neg c4] | rw [if_neg (not_not_intro c4)] | skip); (first | rw [if_pos c5] | rw [if_neg c5] | rw [if_neg (not_not_intro c5)] | skip); (first | rw [o6] | skip); (try dsimp only); (first | rw [if_pos c8] | rw [if_neg c8] | rw [if_neg (not_not_intro c8)] | skip); (try simp only [hy9]); (first | rw [if_pos c1] | rw [if_neg c1] | rw [if_neg (not_not_intro c1)] | skip); (first | rw [if_pos c2] | rw [if_neg c2] | rw [if_neg (not_not_intro c2)] | skip); (first | rw [if_pos c3] | rw [if_neg c3] | rw [if_neg (not_not_intro c3)] | skip); (first | rw [if_pos c4] | rw [if_neg c4] | rw [if_neg (not_not_intro c4)] | skip); (first | rw [if_pos c5] | rw [if_neg c5] | rw [if_neg (not_not_intro c5)] | skip); (first | rw [o6] | skip); (try dsimp only); (first | rw [if_pos c8] | rw [if_neg c8] | rw [if_neg (not_not_intro c8)] | skip); (first | rw [if_pos c1] | rw [if_neg c1] | rw [if_neg (not_not_intro c1)] | skip); (first | rw [if_pos c2] | rw [if_neg c2] | rw [if_neg (not_not_intro c2)] | skip); (first | rw [if_pos c3] | rw [if_neg c3] | rw [if_neg (not_not_intro c3)] | skip); (first | rw [if_pos c4] | rw [if_neg c4] | rw [if_neg (not_not_intro c4)] | skip); (first | rw [if_pos c5] | rw [if_neg c5] | rw [if_neg (not_not_intro c5)] | skip); (first | rw [o6] | skip); (try dsimp only); (first | rw [if_pos c8] | rw [if_neg c8] | rw [if_neg (not_not_intro c8)] | skip); (first | rw [if_pos c1] | rw [if_neg c1] | rw [if_neg (not_not_intro c1)] | skip); (first | rw [if_pos c2] | rw [if_neg c2] | rw [if_neg (not_not_intro c2)] | skip); (first | rw [if_pos c3] | rw [if_neg c3] | rw [if_neg (not_not_intro c3)] | skip); (first | rw [if_pos c4] | rw [if_neg c4] | rw [if_neg (not_not_intro c4)] | skip); (first | rw [if_pos c5] | rw [if_neg c5] | rw [if_neg (not_not_intro c5)] | skip); (first | rw [o6] | skip); (try dsimp only); (first | rw [if_pos c8] | rw [if_neg c8] | rw [if_neg (not_not_intro c8)] | skip); (first | done | rfl)); rw [e9]; exact ⟨rfl, rfl⟩) dX11_deposit_318
              · refine lv_aload_n hx hb dX11_deposit_116 rfl (lv_at hl 0 rfl) ?_
                refine lv_iconst (v := 4) hx hb dX11_deposit_117 (by decide) ?_
                refine gc_wl B (gr_V C B (k := 0) (As := [.int 4]) (rest := []) (c_X11_no l D G τ α S _ 4 (vp_d (by decide))) (by decide) mE_0 rfl wl_865 wl_867 wl_14 wl_40 wl_868 (na := 1) (by decide +kernel) rfl ⟨Nat.le_of_ble_eq_true rfl, Nat.le_of_ble_eq_true rfl⟩ ⟨Nat.le_of_ble_eq_true rfl, Nat.le_of_ble_eq_true rfl⟩ hl.1 rfl (Nat.le_of_ble_eq_true rfl) dX11_deposit_118) (fun r u h H locs B => ?_)
                obtain ⟨rfl, rfl⟩ := h
                have B : gB D G τ (gA α Lm sz) s H locs α (mE G α (sNo S 4).2) Lm := B
                exact ge_wl C B hr hlk (by have e9 : sp_deposit S kind ch o su ho = ((sNo S 4).1, (sNo S 4).2) := (by unfold sp_deposit sp_dep2 sp_dep3 sp_dep4 sp_dep5; (first | rw [if_pos c1] | rw [if_neg c1] | rw [if_neg (not_not_intro c1)] | skip); (first | rw [if_pos c2] | rw [if_neg c2] | rw [if_neg (not_not_intro c2)] | skip); (first | rw [if_pos c3] | rw [if_neg c3] | rw [if_neg (not_not_intro c3)] | skip); (first | rw [if_pos c4] | rw [if_neg c4] | rw [if_neg (not_not_intro c4)] | skip); (first | rw [if_pos c5] | rw [if_neg c5] | rw [if_neg (not_not_intro c5)] | skip); (first | rw [o6] | skip); (try dsimp only); (first | rw [if_pos c8] | rw [if_neg c8] | rw [if_neg (not_not_intro c8)] | skip); (first | rw [if_pos c1] | rw [if_neg c1] | rw [if_neg (not_not_intro c1)] | skip); (first | rw [if_pos c2] | rw [if_neg c2] | rw [if_neg (not_not_intro c2)] | skip); (first | rw [if_pos c3] | rw [if_neg c3] | rw [if_neg (not_not_intro c3)] | skip); (first | rw [if_pos c4] | rw [if_neg c4] | rw [if_neg (not_not_intro c4)] | skip); (first | rw [if_pos c5] | rw [if_neg c5] | rw [if_neg (not_not_intro c5)] | skip); (first | rw [o6] | skip); (try dsimp only); (first | rw [if_pos c8] | rw [if_neg c8] | rw [if_neg (not_not_intro c8)] | skip); (first | rw [if_pos c1] | rw [if_neg c1] | rw [if_neg (not_not_intro c1)] | skip); (first | rw [if_pos c2] | rw [if_neg c2] | rw [if_neg (not_not_intro c2)] | skip); (first | rw [if_pos c3] | rw [if_neg c3] | rw [if_neg (not_not_intro c3)] | skip); (first | rw [if_pos c4] | rw [if_neg c4] | rw [if_neg (not_not_intro c4)] | skip); (first | rw [if_pos c5] | rw [if_neg c5] | rw [if_neg (not_not_intro c5)] | skip); (first | rw [o6] | skip); (try dsimp only); (first | rw [if_pos c8] | rw [if_neg c8] | rw [if_neg (not_not_intro c8)] | skip); (try simp only [hy9]); (first | rw [if_pos c1] | rw [if_neg c1] | rw [if_neg (not_not_intro c1)] | skip); (first | rw [if_pos c2] | rw [if_neg c2] | rw [if_neg (not_not_intro c2)] | skip); (first | rw [if_pos c3] | rw [if_neg c3] | rw [if_neg (not_not_intro c3)] | skip); (first | rw [if_pos c4] | rw [if_neg c4] | rw [if_neg (not_not_intro c4)] | skip); (first | rw [if_pos c5] | rw [if_neg c5] | rw [if_neg (not_not_intro c5)] | skip); (first | rw [o6] | skip); (try dsimp only); (first | rw [if_pos c8] | rw [if_neg c8] | rw [if_neg (not_not_intro c8)] | skip); (first | rw [if_pos c1] | rw [if_neg c1] | rw [if_neg (not_not_intro c1)] | skip); (first | rw [if_pos c2] | rw [if_neg c2] | rw [if_neg (not_not_intro c2)] | skip); (first | rw [if_pos c3] | rw [if_neg c3] | rw [if_neg (not_not_intro c3)] | skip); (first | rw [if_pos c4] | rw [if_neg c4] | rw [if_neg (not_not_intro c4)] | skip); (first | rw [if_pos c5] | rw [if_neg c5] | rw [if_neg (not_not_intro c5)] | skip); (first | rw [o6] | skip); (try dsimp only); (first | rw [if_pos c8] | rw [if_neg c8] | rw [if_neg (not_not_intro c8)] | skip); (first | rw [if_pos c1] | rw [if_neg c1] | rw [if_neg (not_not_intro c1)] | skip); (first | rw [if_pos c2] | rw [if_neg c2] | rw [if_neg (not_not_intro c2)] | skip); (first | rw [if_pos c3] | rw [if_neg c3] | rw [if_neg (not_not_intro c3)] | skip); (first | rw [if_pos c4] | rw [if_neg c4] | rw [if_neg (not_not_intro c4)] | skip); (first | rw [if_pos c5] | rw [if_neg c5] | rw [if_neg (not_not_intro c5)] | skip); (first | rw [o6] | skip); (try dsimp only); (first | rw [if_pos c8] | rw [if_neg c8] | rw [if_neg (not_not_intro c8)] | skip); (first | done | rfl)); rw [e9]; exact ⟨rfl, rfl⟩) dX11_deposit_121
            · have f7_b : f7 < 90 := Nat.lt_of_lt_of_le (sFate_lt o6).1 (nOf_le hN.2.2.2.1.1 hN.2.2.2.1.2 (by decide))
              refine lv_if_ge (tgt := 101) hx hb dX11_deposit_81 (by decide) (fun _ => ?_) (fun hc => absurd (nI_pos' (by omega)) hc)
              refine lv_aload_n hx hb dX11_deposit_101 rfl (lv_at hl 0 rfl) ?_
              refine lv_iconst (v := 3) hx hb dX11_deposit_102 (by decide) ?_
              refine gc_wl B (gr_V C B (k := 0) (As := [.int 3]) (rest := []) (c_X11_no l D G τ α S _ 3 (vp_d (by decide))) (by decide) mE_0 rfl wl_865 wl_867 wl_14 wl_40 wl_868 (na := 1) (by decide +kernel) rfl ⟨Nat.le_of_ble_eq_true rfl, Nat.le_of_ble_eq_true rfl⟩ ⟨Nat.le_of_ble_eq_true rfl, Nat.le_of_ble_eq_true rfl⟩ hl.1 rfl (Nat.le_of_ble_eq_true rfl) dX11_deposit_103) (fun r u h H locs B => ?_)
              obtain ⟨rfl, rfl⟩ := h
              have B : gB D G τ (gA α Lm sz) s H locs α (mE G α (sNo S 3).2) Lm := B
              exact ge_wl C B hr hlk (by have e9 : sp_deposit S kind ch o su ho = ((sNo S 3).1, (sNo S 3).2) := (by unfold sp_deposit sp_dep2 sp_dep3 sp_dep4 sp_dep5; (first | rw [if_pos c1] | rw [if_neg c1] | rw [if_neg (not_not_intro c1)] | skip); (first | rw [if_pos c2] | rw [if_neg c2] | rw [if_neg (not_not_intro c2)] | skip); (first | rw [if_pos c3] | rw [if_neg c3] | rw [if_neg (not_not_intro c3)] | skip); (first | rw [if_pos c4] | rw [if_neg c4] | rw [if_neg (not_not_intro c4)] | skip); (first | rw [if_pos c5] | rw [if_neg c5] | rw [if_neg (not_not_intro c5)] | skip); (first | rw [o6] | skip); (try dsimp only); (first | rw [if_pos c1] | rw [if_neg c1] | rw [if_neg (not_not_intro c1)] | skip); (first | rw [if_pos c2] | rw [if_neg c2] | rw [if_neg (not_not_intro c2)] | skip); (first | rw [if_pos c3] | rw [if_neg c3] | rw [if_neg (not_not_intro c3)] | skip); (first | rw [if_pos c4] | rw [if_neg c4] | rw [if_neg (not_not_intro c4)] | skip); (first | rw [if_pos c5] | rw [if_neg c5] | rw [if_neg (not_not_intro c5)] | skip); (first | rw [o6] | skip); (try dsimp only); (first | rw [if_pos c1] | rw [if_neg c1] | rw [if_neg (not_not_intro c1)] | skip); (first | rw [if_pos c2] | rw [if_neg c2] | rw [if_neg (not_not_intro c2)] | skip); (first | rw [if_pos c3] | rw [if_neg c3] | rw [if_neg (not_not_intro c3)] | skip); (first | rw [if_pos c4] | rw [if_neg c4] | rw [if_neg (not_not_intro c4)] | skip); (first | rw [if_pos c5] | rw [if_neg c5] | rw [if_neg (not_not_intro c5)] | skip); (first | rw [o6] | skip); (try dsimp only); (try simp only [hy9]); (first | rw [if_pos c1] | rw [if_neg c1] | rw [if_neg (not_not_intro c1)] | skip); (first | rw [if_pos c2] | rw [if_neg c2] | rw [if_neg (not_not_intro c2)] | skip); (first | rw [if_pos c3] | rw [if_neg c3] | rw [if_neg (not_not_intro c3)] | skip); (first | rw [if_pos c4] | rw [if_neg c4] | rw [if_neg (not_not_intro c4)] | skip); (first | rw [if_pos c5] | rw [if_neg c5] | rw [if_neg (not_not_intro c5)] | skip); (first | rw [o6] | skip); (try dsimp only); (first | rw [if_pos c1] | rw [if_neg c1] | rw [if_neg (not_not_intro c1)] | skip); (first | rw [if_pos c2] | rw [if_neg c2] | rw [if_neg (not_not_intro c2)] | skip); (first | rw [if_pos c3] | rw [if_neg c3] | rw [if_neg (not_not_intro c3)] | skip); (first | rw [if_pos c4] | rw [if_neg c4] | rw [if_neg (not_not_intro c4)] | skip); (first | rw [if_pos c5] | rw [if_neg c5] | rw [if_neg (not_not_intro c5)] | skip); (first | rw [o6] | skip); (try dsimp only); (first | rw [if_pos c1] | rw [if_neg c1] | rw [if_neg (not_not_intro c1)] | skip); (first | rw [if_pos c2] | rw [if_neg c2] | rw [if_neg (not_not_intro c2)] | skip); (first | rw [if_pos c3] | rw [if_neg c3] | rw [if_neg (not_not_intro c3)] | skip); (first | rw [if_pos c4] | rw [if_neg c4] | rw [if_neg (not_not_intro c4)] | skip); (first | rw [if_pos c5] | rw [if_neg c5] | rw [if_neg (not_not_intro c5)] | skip); (first | rw [o6] | skip); (try dsimp only); (first | done | rfl)); rw [e9]; exact ⟨rfl, rfl⟩) dX11_deposit_106
          · refine lv_if_ne (tgt := 56) hx hb dX11_deposit_47 (by decide) (fun hc => absurd (by decide) hc) (fun _ => ?_)
            refine lv_aload_n hx hb dX11_deposit_50 rfl (lv_at hl 0 rfl) ?_
            refine lv_iconst (v := 1) hx hb dX11_deposit_51 (by decide) ?_
            refine gc_wl B (gr_V C B (k := 0) (As := [.int 1]) (rest := []) (c_X11_no l D G τ α S _ 1 (vp_d (by decide))) (by decide) mE_0 rfl wl_865 wl_867 wl_14 wl_40 wl_868 (na := 1) (by decide +kernel) rfl ⟨Nat.le_of_ble_eq_true rfl, Nat.le_of_ble_eq_true rfl⟩ ⟨Nat.le_of_ble_eq_true rfl, Nat.le_of_ble_eq_true rfl⟩ hl.1 rfl (Nat.le_of_ble_eq_true rfl) dX11_deposit_52) (fun r u h H locs B => ?_)
            obtain ⟨rfl, rfl⟩ := h
            have B : gB D G τ (gA α Lm sz) s H locs α (mE G α (sNo S 1).2) Lm := B
            exact ge_wl C B hr hlk (by have e9 : sp_deposit S kind ch o su ho = ((sNo S 1).1, (sNo S 1).2) := (by unfold sp_deposit sp_dep2 sp_dep3 sp_dep4 sp_dep5; (first | rw [if_pos c1] | rw [if_neg c1] | rw [if_neg (not_not_intro c1)] | skip); (first | rw [if_pos c2] | rw [if_neg c2] | rw [if_neg (not_not_intro c2)] | skip); (first | rw [if_pos c3] | rw [if_neg c3] | rw [if_neg (not_not_intro c3)] | skip); (first | rw [if_pos c4] | rw [if_neg c4] | rw [if_neg (not_not_intro c4)] | skip); (first | rw [if_pos c5] | rw [if_neg c5] | rw [if_neg (not_not_intro c5)] | skip); (first | rw [if_pos c1] | rw [if_neg c1] | rw [if_neg (not_not_intro c1)] | skip); (first | rw [if_pos c2] | rw [if_neg c2] | rw [if_neg (not_not_intro c2)] | skip); (first | rw [if_pos c3] | rw [if_neg c3] | rw [if_neg (not_not_intro c3)] | skip); (first | rw [if_pos c4] | rw [if_neg c4] | rw [if_neg (not_not_intro c4)] | skip); (first | rw [if_pos c5] | rw [if_neg c5] | rw [if_neg (not_not_intro c5)] | skip); (first | rw [if_pos c1] | rw [if_neg c1] | rw [if_neg (not_not_intro c1)] | skip); (first | rw [if_pos c2] | rw [if_neg c2] | rw [if_neg (not_not_intro c2)] | skip); (first | rw [if_pos c3] | rw [if_neg c3] | rw [if_neg (not_not_intro c3)] | skip); (first | rw [if_pos c4] | rw [if_neg c4] | rw [if_neg (not_not_intro c4)] | skip); (first | rw [if_pos c5] | rw [if_neg c5] | rw [if_neg (not_not_intro c5)] | skip); (try simp only [hy9]); (first | rw [if_pos c1] | rw [if_neg c1] | rw [if_neg (not_not_intro c1)] | skip); (first | rw [if_pos c2] | rw [if_neg c2] | rw [if_neg (not_not_intro c2)] | skip); (first | rw [if_pos c3] | rw [if_neg c3] | rw [if_neg (not_not_intro c3)] | skip); (first | rw [if_pos c4] | rw [if_neg c4] | rw [if_neg (not_not_intro c4)] | skip); (first | rw [if_pos c5] | rw [if_neg c5] | rw [if_neg (not_not_intro c5)] | skip); (first | rw [if_pos c1] | rw [if_neg c1] | rw [if_neg (not_not_intro c1)] | skip); (first | rw [if_pos c2] | rw [if_neg c2] | rw [if_neg (not_not_intro c2)] | skip); (first | rw [if_pos c3] | rw [if_neg c3] | rw [if_neg (not_not_intro c3)] | skip); (first | rw [if_pos c4] | rw [if_neg c4] | rw [if_neg (not_not_intro c4)] | skip); (first | rw [if_pos c5] | rw [if_neg c5] | rw [if_neg (not_not_intro c5)] | skip); (first | rw [if_pos c1] | rw [if_neg c1] | rw [if_neg (not_not_intro c1)] | skip); (first | rw [if_pos c2] | rw [if_neg c2] | rw [if_neg (not_not_intro c2)] | skip); (first | rw [if_pos c3] | rw [if_neg c3] | rw [if_neg (not_not_intro c3)] | skip); (first | rw [if_pos c4] | rw [if_neg c4] | rw [if_neg (not_not_intro c4)] | skip); (first | rw [if_pos c5] | rw [if_neg c5] | rw [if_neg (not_not_intro c5)] | skip); (first | done | rfl)); rw [e9]; exact ⟨rfl, rfl⟩) dX11_deposit_55
        · refine lv_if_eq (tgt := 50) hx hb dX11_deposit_35 (by decide) (fun _ => ?_) (fun hc => absurd (by decide) hc)
          refine lv_aload_n hx hb dX11_deposit_50 rfl (lv_at hl 0 rfl) ?_
          refine lv_iconst (v := 1) hx hb dX11_deposit_51 (by decide) ?_
          refine gc_wl B (gr_V C B (k := 0) (As := [.int 1]) (rest := []) (c_X11_no l D G τ α S _ 1 (vp_d (by decide))) (by decide) mE_0 rfl wl_865 wl_867 wl_14 wl_40 wl_868 (na := 1) (by decide +kernel) rfl ⟨Nat.le_of_ble_eq_true rfl, Nat.le_of_ble_eq_true rfl⟩ ⟨Nat.le_of_ble_eq_true rfl, Nat.le_of_ble_eq_true rfl⟩ hl.1 rfl (Nat.le_of_ble_eq_true rfl) dX11_deposit_52) (fun r u h H locs B => ?_)
          obtain ⟨rfl, rfl⟩ := h
          have B : gB D G τ (gA α Lm sz) s H locs α (mE G α (sNo S 1).2) Lm := B
          exact ge_wl C B hr hlk (by have e9 : sp_deposit S kind ch o su ho = ((sNo S 1).1, (sNo S 1).2) := (by unfold sp_deposit sp_dep2 sp_dep3 sp_dep4 sp_dep5; (first | rw [if_pos c1] | rw [if_neg c1] | rw [if_neg (not_not_intro c1)] | skip); (first | rw [if_pos c2] | rw [if_neg c2] | rw [if_neg (not_not_intro c2)] | skip); (first | rw [if_pos c3] | rw [if_neg c3] | rw [if_neg (not_not_intro c3)] | skip); (first | rw [if_pos c4] | rw [if_neg c4] | rw [if_neg (not_not_intro c4)] | skip); (first | rw [if_pos c1] | rw [if_neg c1] | rw [if_neg (not_not_intro c1)] | skip); (first | rw [if_pos c2] | rw [if_neg c2] | rw [if_neg (not_not_intro c2)] | skip); (first | rw [if_pos c3] | rw [if_neg c3] | rw [if_neg (not_not_intro c3)] | skip); (first | rw [if_pos c4] | rw [if_neg c4] | rw [if_neg (not_not_intro c4)] | skip); (first | rw [if_pos c1] | rw [if_neg c1] | rw [if_neg (not_not_intro c1)] | skip); (first | rw [if_pos c2] | rw [if_neg c2] | rw [if_neg (not_not_intro c2)] | skip); (first | rw [if_pos c3] | rw [if_neg c3] | rw [if_neg (not_not_intro c3)] | skip); (first | rw [if_pos c4] | rw [if_neg c4] | rw [if_neg (not_not_intro c4)] | skip); (try simp only [hy9]); (first | rw [if_pos c1] | rw [if_neg c1] | rw [if_neg (not_not_intro c1)] | skip); (first | rw [if_pos c2] | rw [if_neg c2] | rw [if_neg (not_not_intro c2)] | skip); (first | rw [if_pos c3] | rw [if_neg c3] | rw [if_neg (not_not_intro c3)] | skip); (first | rw [if_pos c4] | rw [if_neg c4] | rw [if_neg (not_not_intro c4)] | skip); (first | rw [if_pos c1] | rw [if_neg c1] | rw [if_neg (not_not_intro c1)] | skip); (first | rw [if_pos c2] | rw [if_neg c2] | rw [if_neg (not_not_intro c2)] | skip); (first | rw [if_pos c3] | rw [if_neg c3] | rw [if_neg (not_not_intro c3)] | skip); (first | rw [if_pos c4] | rw [if_neg c4] | rw [if_neg (not_not_intro c4)] | skip); (first | rw [if_pos c1] | rw [if_neg c1] | rw [if_neg (not_not_intro c1)] | skip); (first | rw [if_pos c2] | rw [if_neg c2] | rw [if_neg (not_not_intro c2)] | skip); (first | rw [if_pos c3] | rw [if_neg c3] | rw [if_neg (not_not_intro c3)] | skip); (first | rw [if_pos c4] | rw [if_neg c4] | rw [if_neg (not_not_intro c4)] | skip); (first | done | rfl)); rw [e9]; exact ⟨rfl, rfl⟩) dX11_deposit_55
      · refine lv_aload_n hx hb dX11_deposit_22 rfl (lv_at hl 0 rfl) ?_
        refine lv_iload_n hx hb dX11_deposit_23 rfl (lv_at hl 3 rfl) ?_
        refine gc_b (gr_V C B (k := 0) (As := [.int o]) (rest := []) (c_X11_isChild l D G τ α S _ o hN) (by decide) mE_0 rfl wl_933 wl_935 wl_24 wl_40 wl_936 (na := 1) (by decide +kernel) rfl ⟨Nat.le_of_ble_eq_true rfl, Nat.le_of_ble_eq_true rfl⟩ ⟨Nat.le_of_ble_eq_true rfl, Nat.le_of_ble_eq_true rfl⟩ hl.1 rfl (Nat.le_of_ble_eq_true rfl) dX11_deposit_24) (fun c9 => ?_) (fun c9 => ?_)
        · refine lv_if_eq (tgt := 50) hx hb dX11_deposit_27 (by decide) (fun hc => absurd hc (by decide)) (fun _ => ?_)
          refine lv_iload hx hb dX11_deposit_30 (lv_at hl 5 rfl) ?_
          refine gc_b (gr_S C B (As := [.int ho]) (rest := []) (c_X11_isHolder l D G τ α _ _ _ ho) wl_945 wl_946 wl_40 wl_947 (na := 1) (by decide +kernel) rfl ⟨Nat.le_of_ble_eq_true rfl, Nat.le_of_ble_eq_true rfl⟩ ⟨Nat.le_of_ble_eq_true rfl, Nat.le_of_ble_eq_true rfl⟩ hl.1 rfl (Nat.le_of_ble_eq_true rfl) dX11_deposit_32) (fun c10 => ?_) (fun c10 => ?_)
          · refine lv_if_eq (tgt := 50) hx hb dX11_deposit_35 (by decide) (fun hc => absurd hc (by decide)) (fun _ => ?_)
            refine lv_iload hx hb dX11_deposit_38 (lv_at hl 4 rfl) ?_
            refine lv_iconst (v := 1) hx hb dX11_deposit_40 (by decide) ?_
            refine lv_sipush (v := 10000) hx hb dX11_deposit_41 (by decide) ?_
            refine gc_b (gr_S C B (As := [.int su, .int 1, .int 10000]) (rest := []) (c_X11_in l D G τ α _ _ _ su 1 10000) wl_862 wl_863 wl_40 wl_864 (na := 3) (by decide +kernel) rfl ⟨Nat.le_of_ble_eq_true rfl, Nat.le_of_ble_eq_true rfl⟩ ⟨Nat.le_of_ble_eq_true rfl, Nat.le_of_ble_eq_true rfl⟩ hl.1 rfl (Nat.le_of_ble_eq_true rfl) dX11_deposit_44) (fun c11 => ?_) (fun c11 => ?_)
            · refine lv_if_ne (tgt := 56) hx hb dX11_deposit_47 (by decide) (fun _ => ?_) (fun hc => absurd hc (by decide))
              refine lv_iload_n hx hb dX11_deposit_56 rfl (lv_at hl 1 rfl) ?_
              refine lv_iconst (v := 1) hx hb dX11_deposit_57 (by decide) ?_
              refine lv_icmp_ne (tgt := 72) hx hb dX11_deposit_58 (by decide) (fun hc => absurd c3 hc) (fun _ => ?_)
              refine lv_iload_n hx hb dX11_deposit_61 rfl (lv_at hl 2 rfl) ?_
              refine lv_iload_n hx hb dX11_deposit_62 rfl (lv_at hl 3 rfl) ?_
              refine lv_icmp_ne (tgt := 72) hx hb dX11_deposit_63 (by decide) (fun c12 => ?_) (fun c12 => ?_)
              · refine lv_aload_n hx hb dX11_deposit_72 rfl (lv_at hl 0 rfl) ?_
                refine lv_iload_n hx hb dX11_deposit_73 rfl (lv_at hl 2 rfl) ?_
                refine lv_aload_n hx hb dX11_deposit_74 rfl (lv_at hl 0 rfl) ?_
                refine g_get C B (0) (by decide) mE_0 rfl gf_11 0 (by decide) wl_727 (v := .int (S.1 0)) mF_0 dX11_deposit_75 ?_
                refine gc_o (oI := oI) (gr_V C B (k := 0) (As := [.int ch, .int (S.1 0)]) (rest := []) (c_X11_fateAt l D G τ α S _ ch (S.1 0) hN) (by decide) mE_0 rfl wl_882 wl_884 wl_18 wl_40 wl_885 (na := 2) (by decide +kernel) rfl ⟨Nat.le_of_ble_eq_true rfl, Nat.le_of_ble_eq_true rfl⟩ ⟨Nat.le_of_ble_eq_true rfl, Nat.le_of_ble_eq_true rfl⟩ hl.1 rfl (Nat.le_of_ble_eq_true rfl) dX11_deposit_78) (fun o13 => ?_) (fun f14 o13 => ?_)
                · refine lv_if_ge (tgt := 101) hx hb dX11_deposit_81 (by decide) (fun hc => absurd hc (by decide)) (fun _ => ?_)
                  refine lv_iload_n hx hb dX11_deposit_84 rfl (lv_at hl 1 rfl) ?_
                  refine lv_iconst (v := 1) hx hb dX11_deposit_85 (by decide) ?_
                  refine lv_icmp_ne (tgt := 107) hx hb dX11_deposit_86 (by decide) (fun hc => absurd c3 hc) (fun _ => ?_)
                  refine lv_aload_n hx hb dX11_deposit_89 rfl (lv_at hl 0 rfl) ?_
                  refine lv_iload_n hx hb dX11_deposit_90 rfl (lv_at hl 3 rfl) ?_
                  refine lv_aload_n hx hb dX11_deposit_91 rfl (lv_at hl 0 rfl) ?_
                  refine g_get C B (0) (by decide) mE_0 rfl gf_11 0 (by decide) wl_727 (v := .int (S.1 0)) mF_0 dX11_deposit_92 ?_
                  refine gc_o (oI := oI) (gr_V C B (k := 0) (As := [.int o, .int (S.1 0)]) (rest := []) (c_X11_fateAt l D G τ α S _ o (S.1 0) hN) (by decide) mE_0 rfl wl_882 wl_884 wl_18 wl_40 wl_885 (na := 2) (by decide +kernel) rfl ⟨Nat.le_of_ble_eq_true rfl, Nat.le_of_ble_eq_true rfl⟩ ⟨Nat.le_of_ble_eq_true rfl, Nat.le_of_ble_eq_true rfl⟩ hl.1 rfl (Nat.le_of_ble_eq_true rfl) dX11_deposit_95) (fun o15 => ?_) (fun f16 o15 => ?_)
                  · refine lv_if_lt (tgt := 107) hx hb dX11_deposit_98 (by decide) (fun _ => ?_) (fun hc => absurd (by decide) hc)
                    refine lv_aload_n hx hb dX11_deposit_107 rfl (lv_at hl 0 rfl) ?_
                    refine g_get C B (0) (by decide) mE_0 rfl gf_11 15 (by decide) wl_742 (v := .int (S.1 15)) mF_15 dX11_deposit_108 ?_
                    refine lv_bipush (v := 30) hx hb dX11_deposit_111 (by decide) ?_
                    refine lv_icmp_ne (tgt := 122) hx hb dX11_deposit_113 (by decide) (fun c17 => ?_) (fun c17 => ?_)
                    · refine lv_aload_n hx hb dX11_deposit_122 rfl (lv_at hl 0 rfl) ?_
                      refine g_get C B (0) (by decide) mE_0 rfl gf_11 15 (by decide) wl_742 (v := .int (S.1 15)) mF_15 dX11_deposit_123 ?_
                      refine lv_istore (lv' := [(6, .int (S.1 15)), (0, .ref (α 0)), (1, .int kind), (2, .int ch), (3, .int o), (4, .int su), (5, .int ho)]) hx hb dX11_deposit_126 hl (by decide) rfl (fun ls hl => ?_)
                      refine lv_aload_n hx hb dX11_deposit_128 rfl (lv_at hl 1 rfl) ?_
                      refine lv_iconst (v := 5) hx hb dX11_deposit_129 (by decide) ?_
                      refine lv_aload_n hx hb dX11_deposit_130 rfl (lv_at hl 1 rfl) ?_
                      refine g_get C B (0) (by decide) mE_0 rfl gf_11 0 (by decide) wl_727 (v := .int (S.1 0)) mF_0 dX11_deposit_131 ?_
                      refine lv_aload_n hx hb dX11_deposit_134 rfl (lv_at hl 1 rfl) ?_
                      refine g_get C B (0) (by decide) mE_0 rfl gf_11 0 (by decide) wl_727 (v := .int (S.1 0)) mF_0 dX11_deposit_135 ?_
                      refine gc_i (gr_V C B (k := 0) (As := [.int 5, .int (S.1 0), .int (S.1 0)]) (rest := []) (c_X11_inForce l D G τ α S _ 5 (S.1 0) (S.1 0) hN hD) (by decide) mE_0 rfl wl_890 wl_892 wl_20 wl_40 wl_893 (na := 3) (by decide +kernel) rfl ⟨Nat.le_of_ble_eq_true rfl, Nat.le_of_ble_eq_true rfl⟩ ⟨Nat.le_of_ble_eq_true rfl, Nat.le_of_ble_eq_true rfl⟩ hl.1 rfl (Nat.le_of_ble_eq_true rfl) dX11_deposit_138) (fun r h => ?_)
                      subst h
                      refine lv_istore (lv' := [(7, .int (sInf S 5 (S.1 0) (S.1 0))), (6, .int (S.1 15)), (0, .ref (α 0)), (1, .int kind), (2, .int ch), (3, .int o), (4, .int su), (5, .int ho)]) hx hb dX11_deposit_141 hl (by decide) rfl (fun ls hl => ?_)
                      refine lv_iload hx hb dX11_deposit_143 (lv_at hl 0 rfl) ?_
                      refine lv_bipush (v := 12) hx hb dX11_deposit_145 (by decide) ?_
                      refine lv_idiv hx hb dX11_deposit_147 (by decide) ?_
                      refine lv_bipush (v := 20) hx hb dX11_deposit_148 (by decide) ?_
                      refine lv_icmp_le (tgt := 158) hx hb dX11_deposit_150 (by decide) (fun _ => ?_) (fun hc => absurd (yr_le ht9) hc)
                      refine lv_iload hx hb dX11_deposit_158 (lv_at hl 0 rfl) ?_
                      refine lv_bipush (v := 12) hx hb dX11_deposit_160 (by decide) ?_
                      refine lv_idiv hx hb dX11_deposit_162 (by decide) ?_
                      refine lv_istore (lv' := [(8, .int ((sInf S 5 (S.1 0) (S.1 0)) / 12)), (7, .int (sInf S 5 (S.1 0) (S.1 0))), (6, .int (S.1 15)), (0, .ref (α 0)), (1, .int kind), (2, .int ch), (3, .int o), (4, .int su), (5, .int ho)]) hx hb dX11_deposit_163 hl (by decide) rfl (fun ls hl => ?_)
                      refine lv_aload_n hx hb dX11_deposit_165 rfl (lv_at hl 3 rfl) ?_
                      refine g_get C B (0) (by decide) mE_0 rfl gf_11 16 (by decide) wl_743 (v := .ref (α 16)) mF_16 dX11_deposit_166 ?_
                      refine lv_iload hx hb dX11_deposit_169 (lv_at hl 2 rfl) ?_
                      refine lv_iload_n hx hb dX11_deposit_171 rfl (lv_at hl 4 rfl) ?_
                      refine g_iast C B (16) (by decide) (f := S.2.2.1 16) mE_16 (vp_ne hN.2.2.2.2.1 c17 rfl) (j := (S.1 15).toNatClampNeg) rfl dX11_deposit_172 mU_16 (fun H locs B => ?_)
                      refine lv_aload_n hx hb dX11_deposit_173 rfl (lv_at hl 3 rfl) ?_
                      refine g_get C B (0) (by decide) mE_0 rfl gf_11 17 (by decide) wl_744 (v := .ref (α 17)) mF_17 dX11_deposit_174 ?_
                      refine lv_iload hx hb dX11_deposit_177 (lv_at hl 2 rfl) ?_
                      refine lv_iload_n hx hb dX11_deposit_179 rfl (lv_at hl 5 rfl) ?_
                      refine g_iast C B (17) (by decide) (f := S.2.2.1 17) mE_17 (vp_ne hN.2.2.2.2.1 c17 rfl) (j := (S.1 15).toNatClampNeg) rfl dX11_deposit_180 mU_17 (fun H locs B => ?_)
                      refine lv_aload_n hx hb dX11_deposit_181 rfl (lv_at hl 3 rfl) ?_
                      refine g_get C B (0) (by decide) mE_0 rfl gf_11 18 (by decide) wl_745 (v := .ref (α 18)) mF_18 dX11_deposit_182 ?_
                      refine lv_iload hx hb dX11_deposit_185 (lv_at hl 2 rfl) ?_
                      refine lv_iload_n hx hb dX11_deposit_187 rfl (lv_at hl 4 rfl) ?_
                      refine lv_iconst (v := 1) hx hb dX11_deposit_188 (by decide) ?_
                      refine lv_icmp_ne (tgt := 196) hx hb dX11_deposit_189 (by decide) (fun hc => absurd c3 hc) (fun _ => ?_)
                      refine lv_iload_n hx hb dX11_deposit_192 rfl (lv_at hl 6 rfl) ?_
                      refine lv_goto (tgt := 197) hx hb dX11_deposit_193 (by decide) ?_
                      refine g_iast C B (18) (by decide) (f := S.2.2.1 18) mE_18 (vp_ne hN.2.2.2.2.1 c17 rfl) (j := (S.1 15).toNatClampNeg) rfl dX11_deposit_197 mU_18 (fun H locs B => ?_)
                      refine lv_aload_n hx hb dX11_deposit_198 rfl (lv_at hl 3 rfl) ?_
                      refine g_get C B (0) (by decide) mE_0 rfl gf_11 19 (by decide) wl_746 (v := .ref (α 19)) mF_19 dX11_deposit_199 ?_
                      refine lv_iload hx hb dX11_deposit_202 (lv_at hl 2 rfl) ?_
                      refine lv_iload hx hb dX11_deposit_204 (lv_at hl 7 rfl) ?_
                      refine g_iast C B (19) (by decide) (f := S.2.2.1 19) mE_19 (vp_ne hN.2.2.2.2.1 c17 rfl) (j := (S.1 15).toNatClampNeg) rfl dX11_deposit_206 mU_19 (fun H locs B => ?_)
                      refine lv_aload_n hx hb dX11_deposit_207 rfl (lv_at hl 3 rfl) ?_
                      refine g_get C B (0) (by decide) mE_0 rfl gf_11 20 (by decide) wl_747 (v := .ref (α 20)) mF_20 dX11_deposit_208 ?_
                      refine lv_iload hx hb dX11_deposit_211 (lv_at hl 2 rfl) ?_
                      refine lv_iload hx hb dX11_deposit_213 (lv_at hl 7 rfl) ?_
                      refine lv_i2l (v := su.toInt64) hx hb dX11_deposit_215 rfl ?_
                      refine lv_aload_n hx hb dX11_deposit_216 rfl (lv_at hl 3 rfl) ?_
                      refine g_get C B (0) (by decide) mE_0 rfl gf_11 7 (by decide) wl_734 (v := .ref (α 7)) mF_7 dX11_deposit_217 ?_
                      refine lv_iload hx hb dX11_deposit_220 (lv_at hl 0 rfl) ?_
                      refine g_iald C B (7) (by decide) (f := S.2.2.1 7) mE_7 (yr_in ht9) (j := ((sInf S 5 (S.1 0) (S.1 0)) / 12).toNatClampNeg) rfl dX11_deposit_222 ?_
                      refine lv_i2l (v := (S.2.2.1 7 ((sInf S 5 (S.1 0) (S.1 0)) / 12).toNatClampNeg).toInt64) hx hb dX11_deposit_223 rfl ?_
                      refine lv_lmul hx hb dX11_deposit_224 ?_
                      refine g_ldc2 C wl_948 dX11_deposit_225 ?_
                      refine lv_ldiv hx hb dX11_deposit_228 (by decide) ?_
                      refine g_last C B (20) (by decide) (f := S.2.2.2 20) mE_20 (vp_ne hN.2.2.2.2.1 c17 rfl) (j := (S.1 15).toNatClampNeg) rfl dX11_deposit_229 mU_20 (fun H locs B => ?_)
                      refine lv_aload_n hx hb dX11_deposit_230 rfl (lv_at hl 3 rfl) ?_
                      refine g_get C B (0) (by decide) mE_0 rfl gf_11 21 (by decide) wl_748 (v := .ref (α 21)) mF_21 dX11_deposit_231 ?_
                      refine lv_iload hx hb dX11_deposit_234 (lv_at hl 2 rfl) ?_
                      refine lv_aload_n hx hb dX11_deposit_236 rfl (lv_at hl 3 rfl) ?_
                      refine g_get C B (0) (by decide) mE_0 rfl gf_11 0 (by decide) wl_727 (v := .int (S.1 0)) mF_0 dX11_deposit_237 ?_
                      refine lv_iload hx hb dX11_deposit_240 (lv_at hl 1 rfl) ?_
                      refine lv_iadd hx hb dX11_deposit_242 ?_
                      refine g_iast C B (21) (by decide) (f := S.2.2.1 21) mE_21 (vp_ne hN.2.2.2.2.1 c17 rfl) (j := (S.1 15).toNatClampNeg) rfl dX11_deposit_243 mU_21 (fun H locs B => ?_)
                      refine lv_aload_n hx hb dX11_deposit_244 rfl (lv_at hl 3 rfl) ?_
                      refine g_get C B (0) (by decide) mE_0 rfl gf_11 22 (by decide) wl_749 (v := .ref (α 22)) mF_22 dX11_deposit_245 ?_
                      refine lv_iload hx hb dX11_deposit_248 (lv_at hl 2 rfl) ?_
                      refine lv_aload_n hx hb dX11_deposit_250 rfl (lv_at hl 3 rfl) ?_
                      refine g_get C B (0) (by decide) mE_0 rfl gf_11 0 (by decide) wl_727 (v := .int (S.1 0)) mF_0 dX11_deposit_251 ?_
                      refine g_iast C B (22) (by decide) (f := S.2.2.1 22) mE_22 (vp_ne hN.2.2.2.2.1 c17 rfl) (j := (S.1 15).toNatClampNeg) rfl dX11_deposit_254 mU_22 (fun H locs B => ?_)
                      refine lv_aload_n hx hb dX11_deposit_255 rfl (lv_at hl 3 rfl) ?_
                      refine g_get C B (0) (by decide) mE_0 rfl gf_11 23 (by decide) wl_750 (v := .ref (α 23)) mF_23 dX11_deposit_256 ?_
                      refine lv_iload hx hb dX11_deposit_259 (lv_at hl 2 rfl) ?_
                      refine lv_lconst (v := 0) hx hb dX11_deposit_261 (by decide) ?_
                      refine g_last C B (23) (by decide) (f := S.2.2.2 23) mE_23 (vp_ne hN.2.2.2.2.1 c17 rfl) (j := (S.1 15).toNatClampNeg) rfl dX11_deposit_262 mU_23 (fun H locs B => ?_)
                      refine lv_aload_n hx hb dX11_deposit_263 rfl (lv_at hl 3 rfl) ?_
                      refine g_get C B (0) (by decide) mE_0 rfl gf_11 24 (by decide) wl_751 (v := .ref (α 24)) mF_24 dX11_deposit_264 ?_
                      refine lv_iload hx hb dX11_deposit_267 (lv_at hl 2 rfl) ?_
                      refine lv_iconst (v := 0) hx hb dX11_deposit_269 (by decide) ?_
                      refine g_zast C B (24) (by decide) (f := S.2.2.1 24) mE_24 (vp_ne hN.2.2.2.2.1 c17 rfl) (j := (S.1 15).toNatClampNeg) rfl dX11_deposit_270 mU_24 (fun H locs B => ?_)
                      refine lv_aload_n hx hb dX11_deposit_271 rfl (lv_at hl 3 rfl) ?_
                      refine g_get C B (0) (by decide) mE_0 rfl gf_11 25 (by decide) wl_752 (v := .ref (α 25)) mF_25 dX11_deposit_272 ?_
                      refine lv_iload hx hb dX11_deposit_275 (lv_at hl 2 rfl) ?_
                      refine lv_iconst (v := 1) hx hb dX11_deposit_277 (by decide) ?_
                      refine g_iast C B (25) (by decide) (f := S.2.2.1 25) mE_25 (vp_ne hN.2.2.2.2.1 c17 rfl) (j := (S.1 15).toNatClampNeg) rfl dX11_deposit_278 mU_25 (fun H locs B => ?_)
                      refine lv_aload_n hx hb dX11_deposit_279 rfl (lv_at hl 3 rfl) ?_
                      refine g_get C B (0) (by decide) mE_0 rfl gf_11 26 (by decide) wl_753 (v := .ref (α 26)) mF_26 dX11_deposit_280 ?_
                      refine lv_bipush (v := 7) hx hb dX11_deposit_283 (by decide) ?_
                      refine lv_iload hx hb dX11_deposit_285 (lv_at hl 2 rfl) ?_
                      refine lv_imul hx hb dX11_deposit_287 ?_
                      refine lv_aload_n hx hb dX11_deposit_288 rfl (lv_at hl 3 rfl) ?_
                      refine g_get C B (0) (by decide) mE_0 rfl gf_11 0 (by decide) wl_727 (v := .int (S.1 0)) mF_0 dX11_deposit_289 ?_
                      refine g_iast C B (26) (by decide) (f := S.2.2.1 26) mE_26 (vp7 hN.2.2.2.2.1 c17) (j := (7 * (S.1 15).toNatClampNeg)) (i7 hN.2.2.2.2.1) dX11_deposit_292 mU_26 (fun H locs B => ?_)
                      refine lv_aload_n hx hb dX11_deposit_293 rfl (lv_at hl 3 rfl) ?_
                      refine g_get C B (0) (by decide) mE_0 rfl gf_11 27 (by decide) wl_754 (v := .ref (α 27)) mF_27 dX11_deposit_294 ?_
                      refine lv_bipush (v := 7) hx hb dX11_deposit_297 (by decide) ?_
                      refine lv_iload hx hb dX11_deposit_299 (lv_at hl 2 rfl) ?_
                      refine lv_imul hx hb dX11_deposit_301 ?_
                      refine lv_iload hx hb dX11_deposit_302 (lv_at hl 8 rfl) ?_
                      refine g_iast C B (27) (by decide) (f := S.2.2.1 27) mE_27 (vp7 hN.2.2.2.2.1 c17) (j := (7 * (S.1 15).toNatClampNeg)) (i7 hN.2.2.2.2.1) dX11_deposit_304 mU_27 (fun H locs B => ?_)
                      refine lv_aload_n hx hb dX11_deposit_305 rfl (lv_at hl 3 rfl) ?_
                      refine lv_dup hx hb dX11_deposit_306 rfl ?_
                      refine g_get C B (0) (by decide) mE_0 rfl gf_11 15 (by decide) wl_742 (v := .int (S.1 15)) mF_15 dX11_deposit_307 ?_
                      refine lv_iconst (v := 1) hx hb dX11_deposit_310 (by decide) ?_
                      refine lv_iadd hx hb dX11_deposit_311 ?_
                      refine g_put C B (0) (by decide) mE_0 rfl gf_11 tyX11 tyX11_ok nmX11 15 (by decide) wl_742 rfl (ty := .int) (v := .int (S.1 15 + 1)) (by decide +kernel) rfl rfl (Nat.le_of_ble_eq_true rfl) dX11_deposit_312 mO_15 (fun H locs B => ?_)
                      refine lv_iload hx hb dX11_deposit_315 (lv_at hl 2 rfl) ?_
                      refine lv_i2l (v := (S.1 15).toInt64) hx hb dX11_deposit_317 rfl ?_
                      exact ge_wl C B hr hlk (by have e9 : sp_deposit S kind ch o su ho = ((S.1 15).toInt64, (uI (uA (uA (uA (uA (uB (uA (uA (uB (uA (uA (uA (uA S 16 (upd (S.2.2.1 16) ((S.1 15).toNatClampNeg) kind)) 17 (upd (S.2.2.1 17) ((S.1 15).toNatClampNeg) ch)) 18 (upd (S.2.2.1 18) ((S.1 15).toNatClampNeg) o)) 19 (upd (S.2.2.1 19) ((S.1 15).toNatClampNeg) su)) 20 (vp_updL (S.2.2.2 20) ((S.1 15).toNatClampNeg) ((su.toInt64 * (S.2.2.1 7 ((sInf S 5 (S.1 0) (S.1 0)) / 12).toNatClampNeg).toInt64) / 100))) 21 (upd (S.2.2.1 21) ((S.1 15).toNatClampNeg) (S.1 0 + (sInf S 5 (S.1 0) (S.1 0))))) 22 (upd (S.2.2.1 22) ((S.1 15).toNatClampNeg) (S.1 0))) 23 (vp_updL (S.2.2.2 23) ((S.1 15).toNatClampNeg) 0)) 24 (upd (S.2.2.1 24) ((S.1 15).toNatClampNeg) 0)) 25 (upd (S.2.2.1 25) ((S.1 15).toNatClampNeg) 1)) 26 (upd (S.2.2.1 26) (7 * (S.1 15).toNatClampNeg) (S.1 0))) 27 (upd (S.2.2.1 27) (7 * (S.1 15).toNatClampNeg) ho)) 15 (S.1 15 + 1))) := (by unfold sp_deposit sp_dep2 sp_dep3 sp_dep4 sp_dep5; (first | rw [if_pos c1] | rw [if_neg c1] | rw [if_neg (not_not_intro c1)] | skip); (first | rw [if_pos c2] | rw [if_neg c2] | rw [if_neg (not_not_intro c2)] | skip); (first | rw [if_pos c3] | rw [if_neg c3] | rw [if_neg (not_not_intro c3)] | skip); (first | rw [if_pos c9] | rw [if_neg c9] | rw [if_neg (not_not_intro c9)] | skip); (first | rw [if_pos c10] | rw [if_neg c10] | rw [if_neg (not_not_intro c10)] | skip); (first | rw [if_pos c11] | rw [if_neg c11] | rw [if_neg (not_not_intro c11)] | skip); (first | rw [if_pos c12] | rw [if_neg c12] | rw [if_neg (not_not_intro c12)] | skip); (first | rw [o13] | skip); (try dsimp only); (first | rw [o15] | skip); (try dsimp only); (first | rw [if_pos c17] | rw [if_neg c17] | rw [if_neg (not_not_intro c17)] | skip); (first | rw [if_pos c1] | rw [if_neg c1] | rw [if_neg (not_not_intro c1)] | skip); (first | rw [if_pos c2] | rw [if_neg c2] | rw [if_neg (not_not_intro c2)] | skip); (first | rw [if_pos c3] | rw [if_neg c3] | rw [if_neg (not_not_intro c3)] | skip); (first | rw [if_pos c9] | rw [if_neg c9] | rw [if_neg (not_not_intro c9)] | skip); (first | rw [if_pos c10] | rw [if_neg c10] | rw [if_neg (not_not_intro c10)] | skip); (first | rw [if_pos c11] | rw [if_neg c11] | rw [if_neg (not_not_intro c11)] | skip); (first | rw [if_pos c12] | rw [if_neg c12] | rw [if_neg (not_not_intro c12)] | skip); (first | rw [o13] | skip); (try dsimp only); (first | rw [o15] | skip); (try dsimp only); (first | rw [if_pos c17] | rw [if_neg c17] | rw [if_neg (not_not_intro c17)] | skip); (first | rw [if_pos c1] | rw [if_neg c1] | rw [if_neg (not_not_intro c1)] | skip); (first | rw [if_pos c2] | rw [if_neg c2] | rw [if_neg (not_not_intro c2)] | skip); (first | rw [if_pos c3] | rw [if_neg c3] | rw [if_neg (not_not_intro c3)] | skip); (first | rw [if_pos c9] | rw [if_neg c9] | rw [if_neg (not_not_intro c9)] | skip); (first | rw [if_pos c10] | rw [if_neg c10] | rw [if_neg (not_not_intro c10)] | skip); (first | rw [if_pos c11] | rw [if_neg c11] | rw [if_neg (not_not_intro c11)] | skip); (first | rw [if_pos c12] | rw [if_neg c12] | rw [if_neg (not_not_intro c12)] | skip); (first | rw [o13] | skip); (try dsimp only); (first | rw [o15] | skip); (try dsimp only); (first | rw [if_pos c17] | rw [if_neg c17] | rw [if_neg (not_not_intro c17)] | skip); (try simp only [hy9]); (first | rw [if_pos c1] | rw [if_neg c1] | rw [if_neg (not_not_intro c1)] | skip); (first | rw [if_pos c2] | rw [if_neg c2] | rw [if_neg (not_not_intro c2)] | skip); (first | rw [if_pos c3] | rw [if_neg c3] | rw [if_neg (not_not_intro c3)] | skip); (first | rw [if_pos c9] | rw [if_neg c9] | rw [if_neg (not_not_intro c9)] | skip); (first | rw [if_pos c10] | rw [if_neg c10] | rw [if_neg (not_not_intro c10)] | skip); (first | rw [if_pos c11] | rw [if_neg c11] | rw [if_neg (not_not_intro c11)] | skip); (first | rw [if_pos c12] | rw [if_neg c12] | rw [if_neg (not_not_intro c12)] | skip); (first | rw [o13] | skip); (try dsimp only); (first | rw [o15] | skip); (try dsimp only); (first | rw [if_pos c17] | rw [if_neg c17] | rw [if_neg (not_not_intro c17)] | skip); (first | rw [if_pos c1] | rw [if_neg c1] | rw [if_neg (not_not_intro c1)] | skip); (first | rw [if_pos c2] | rw [if_neg c2] | rw [if_neg (not_not_intro c2)] | skip); (first | rw [if_pos c3] | rw [if_neg c3] | rw [if_neg (not_not_intro c3)] | skip); (first | rw [if_pos c9] | rw [if_neg c9] | rw [if_neg (not_not_intro c9)] | skip); (first | rw [if_pos c10] | rw [if_neg c10] | rw [if_neg (not_not_intro c10)] | skip); (first | rw [if_pos c11] | rw [if_neg c11] | rw [if_neg (not_not_intro c11)] | skip); (first | rw [if_pos c12] | rw [if_neg c12] | rw [if_neg (not_not_intro c12)] | skip); (first | rw [o13] | skip); (try dsimp only); (first | rw [o15] | skip); (try dsimp only); (first | rw [if_pos c17] | rw [if_neg c17] | rw [if_neg (not_not_intro c17)] | skip); (first | rw [if_pos c1] | rw [if_neg c1] | rw [if_neg (not_not_intro c1)] | skip); (first | rw [if_pos c2] | rw [if_neg c2] | rw [if_neg (not_not_intro c2)] | skip); (first | rw [if_pos c3] | rw [if_neg c3] | rw [if_neg (not_not_intro c3)] | skip); (first | rw [if_pos c9] | rw [if_neg c9] | rw [if_neg (not_not_intro c9)] | skip); (first | rw [if_pos c10] | rw [if_neg c10] | rw [if_neg (not_not_intro c10)] | skip); (first | rw [if_pos c11] | rw [if_neg c11] | rw [if_neg (not_not_intro c11)] | skip); (first | rw [if_pos c12] | rw [if_neg c12] | rw [if_neg (not_not_intro c12)] | skip); (first | rw [o13] | skip); (try dsimp only); (first | rw [o15] | skip); (try dsimp only); (first | rw [if_pos c17] | rw [if_neg c17] | rw [if_neg (not_not_intro c17)] | skip); (first | done | rfl)); rw [e9]; exact ⟨rfl, rfl⟩) dX11_deposit_318
                    · refine lv_aload_n hx hb dX11_deposit_116 rfl (lv_at hl 0 rfl) ?_
                      refine lv_iconst (v := 4) hx hb dX11_deposit_117 (by decide) ?_
                      refine gc_wl B (gr_V C B (k := 0) (As := [.int 4]) (rest := []) (c_X11_no l D G τ α S _ 4 (vp_d (by decide))) (by decide) mE_0 rfl wl_865 wl_867 wl_14 wl_40 wl_868 (na := 1) (by decide +kernel) rfl ⟨Nat.le_of_ble_eq_true rfl, Nat.le_of_ble_eq_true rfl⟩ ⟨Nat.le_of_ble_eq_true rfl, Nat.le_of_ble_eq_true rfl⟩ hl.1 rfl (Nat.le_of_ble_eq_true rfl) dX11_deposit_118) (fun r u h H locs B => ?_)
                      obtain ⟨rfl, rfl⟩ := h
                      have B : gB D G τ (gA α Lm sz) s H locs α (mE G α (sNo S 4).2) Lm := B
                      exact ge_wl C B hr hlk (by have e9 : sp_deposit S kind ch o su ho = ((sNo S 4).1, (sNo S 4).2) := (by unfold sp_deposit sp_dep2 sp_dep3 sp_dep4 sp_dep5; (first | rw [if_pos c1] | rw [if_neg c1] | rw [if_neg (not_not_intro c1)] | skip); (first | rw [if_pos c2] | rw [if_neg c2] | rw [if_neg (not_not_intro c2)] | skip); (first | rw [if_pos c3] | rw [if_neg c3] | rw [if_neg (not_not_intro c3)] | skip); (first | rw [if_pos c9] | rw [if_neg c9] | rw [if_neg (not_not_intro c9)] | skip); (first | rw [if_pos c10] | rw [if_neg c10] | rw [if_neg (not_not_intro c10)] | skip); (first | rw [if_pos c11] | rw [if_neg c11] | rw [if_neg (not_not_intro c11)] | skip); (first | rw [if_pos c12] | rw [if_neg c12] | rw [if_neg (not_not_intro c12)] | skip); (first | rw [o13] | skip); (try dsimp only); (first | rw [o15] | skip); (try dsimp only); (first | rw [if_pos c17] | rw [if_neg c17] | rw [if_neg (not_not_intro c17)] | skip); (first | rw [if_pos c1] | rw [if_neg c1] | rw [if_neg (not_not_intro c1)] | skip); (first | rw [if_pos c2] | rw [if_neg c2] | rw [if_neg (not_not_intro c2)] | skip); (first | rw [if_pos c3] | rw [if_neg c3] | rw [if_neg (not_not_intro c3)] | skip); (first | rw [if_pos c9] | rw [if_neg c9] | rw [if_neg (not_not_intro c9)] | skip); (first | rw [if_pos c10] | rw [if_neg c10] | rw [if_neg (not_not_intro c10)] | skip); (first | rw [if_pos c11] | rw [if_neg c11] | rw [if_neg (not_not_intro c11)] | skip); (first | rw [if_pos c12] | rw [if_neg c12] | rw [if_neg (not_not_intro c12)] | skip); (first | rw [o13] | skip); (try dsimp only); (first | rw [o15] | skip); (try dsimp only); (first | rw [if_pos c17] | rw [if_neg c17] | rw [if_neg (not_not_intro c17)] | skip); (first | rw [if_pos c1] | rw [if_neg c1] | rw [if_neg (not_not_intro c1)] | skip); (first | rw [if_pos c2] | rw [if_neg c2] | rw [if_neg (not_not_intro c2)] | skip); (first | rw [if_pos c3] | rw [if_neg c3] | rw [if_neg (not_not_intro c3)] | skip); (first | rw [if_pos c9] | rw [if_neg c9] | rw [if_neg (not_not_intro c9)] | skip); (first | rw [if_pos c10] | rw [if_neg c10] | rw [if_neg (not_not_intro c10)] | skip); (first | rw [if_pos c11] | rw [if_neg c11] | rw [if_neg (not_not_intro c11)] | skip); (first | rw [if_pos c12] | rw [if_neg c12] | rw [if_neg (not_not_intro c12)] | skip); (first | rw [o13] | skip); (try dsimp only); (first | rw [o15] | skip); (try dsimp only); (first | rw [if_pos c17] | rw [if_neg c17] | rw [if_neg (not_not_intro c17)] | skip); (try simp only [hy9]); (first | rw [if_pos c1] | rw [if_neg c1] | rw [if_neg (not_not_intro c1)] | skip); (first | rw [if_pos c2] | rw [if_neg c2] | rw [if_neg (not_not_intro c2)] | skip); (first | rw [if_pos c3] | rw [if_neg c3] | rw [if_neg (not_not_intro c3)] | skip); (first | rw [if_pos c9] | rw [if_neg c9] | rw [if_neg (not_not_intro c9)] | skip); (first | rw [if_pos c10] | rw [if_neg c10] | rw [if_neg (not_not_intro c10)] | skip); (first | rw [if_pos c11] | rw [if_neg c11] | rw [if_neg (not_not_intro c11)] | skip); (first | rw [if_pos c12] | rw [if_neg c12] | rw [if_neg (not_not_intro c12)] | skip); (first | rw [o13] | skip); (try dsimp only); (first | rw [o15] | skip); (try dsimp only); (first | rw [if_pos c17] | rw [if_neg c17] | rw [if_neg (not_not_intro c17)] | skip); (first | rw [if_pos c1] | rw [if_neg c1] | rw [if_neg (not_not_intro c1)] | skip); (first | rw [if_pos c2] | rw [if_neg c2] | rw [if_neg (not_not_intro c2)] | skip); (first | rw [if_pos c3] | rw [if_neg c3] | rw [if_neg (not_not_intro c3)] | skip); (first | rw [if_pos c9] | rw [if_neg c9] | rw [if_neg (not_not_intro c9)] | skip); (first | rw [if_pos c10] | rw [if_neg c10] | rw [if_neg (not_not_intro c10)] | skip); (first | rw [if_pos c11] | rw [if_neg c11] | rw [if_neg (not_not_intro c11)] | skip); (first | rw [if_pos c12] | rw [if_neg c12] | rw [if_neg (not_not_intro c12)] | skip); (first | rw [o13] | skip); (try dsimp only); (first | rw [o15] | skip); (try dsimp only); (first | rw [if_pos c17] | rw [if_neg c17] | rw [if_neg (not_not_intro c17)] | skip); (first | rw [if_pos c1] | rw [if_neg c1] | rw [if_neg (not_not_intro c1)] | skip); (first | rw [if_pos c2] | rw [if_neg c2] | rw [if_neg (not_not_intro c2)] | skip); (first | rw [if_pos c3] | rw [if_neg c3] | rw [if_neg (not_not_intro c3)] | skip); (first | rw [if_pos c9] | rw [if_neg c9] | rw [if_neg (not_not_intro c9)] | skip); (first | rw [if_pos c10] | rw [if_neg c10] | rw [if_neg (not_not_intro c10)] | skip); (first | rw [if_pos c11] | rw [if_neg c11] | rw [if_neg (not_not_intro c11)] | skip); (first | rw [if_pos c12] | rw [if_neg c12] | rw [if_neg (not_not_intro c12)] | skip); (first | rw [o13] | skip); (try dsimp only); (first | rw [o15] | skip); (try dsimp only); (first | rw [if_pos c17] | rw [if_neg c17] | rw [if_neg (not_not_intro c17)] | skip); (first | done | rfl)); rw [e9]; exact ⟨rfl, rfl⟩) dX11_deposit_121
                  · have f16_b : f16 < 90 := Nat.lt_of_lt_of_le (sFate_lt o15).1 (nOf_le hN.2.2.2.1.1 hN.2.2.2.1.2 (by decide))
                    refine lv_if_lt (tgt := 107) hx hb dX11_deposit_98 (by decide) (fun hc => absurd hc (nI_pos (by omega))) (fun _ => ?_)
                    refine lv_aload_n hx hb dX11_deposit_101 rfl (lv_at hl 0 rfl) ?_
                    refine lv_iconst (v := 3) hx hb dX11_deposit_102 (by decide) ?_
                    refine gc_wl B (gr_V C B (k := 0) (As := [.int 3]) (rest := []) (c_X11_no l D G τ α S _ 3 (vp_d (by decide))) (by decide) mE_0 rfl wl_865 wl_867 wl_14 wl_40 wl_868 (na := 1) (by decide +kernel) rfl ⟨Nat.le_of_ble_eq_true rfl, Nat.le_of_ble_eq_true rfl⟩ ⟨Nat.le_of_ble_eq_true rfl, Nat.le_of_ble_eq_true rfl⟩ hl.1 rfl (Nat.le_of_ble_eq_true rfl) dX11_deposit_103) (fun r u h H locs B => ?_)
                    obtain ⟨rfl, rfl⟩ := h
                    have B : gB D G τ (gA α Lm sz) s H locs α (mE G α (sNo S 3).2) Lm := B
                    exact ge_wl C B hr hlk (by have e9 : sp_deposit S kind ch o su ho = ((sNo S 3).1, (sNo S 3).2) := (by unfold sp_deposit sp_dep2 sp_dep3 sp_dep4 sp_dep5; (first | rw [if_pos c1] | rw [if_neg c1] | rw [if_neg (not_not_intro c1)] | skip); (first | rw [if_pos c2] | rw [if_neg c2] | rw [if_neg (not_not_intro c2)] | skip); (first | rw [if_pos c3] | rw [if_neg c3] | rw [if_neg (not_not_intro c3)] | skip); (first | rw [if_pos c9] | rw [if_neg c9] | rw [if_neg (not_not_intro c9)] | skip); (first | rw [if_pos c10] | rw [if_neg c10] | rw [if_neg (not_not_intro c10)] | skip); (first | rw [if_pos c11] | rw [if_neg c11] | rw [if_neg (not_not_intro c11)] | skip); (first | rw [if_pos c12] | rw [if_neg c12] | rw [if_neg (not_not_intro c12)] | skip); (first | rw [o13] | skip); (try dsimp only); (first | rw [o15] | skip); (try dsimp only); (first | rw [if_pos c1] | rw [if_neg c1] | rw [if_neg (not_not_intro c1)] | skip); (first | rw [if_pos c2] | rw [if_neg c2] | rw [if_neg (not_not_intro c2)] | skip); (first | rw [if_pos c3] | rw [if_neg c3] | rw [if_neg (not_not_intro c3)] | skip); (first | rw [if_pos c9] | rw [if_neg c9] | rw [if_neg (not_not_intro c9)] | skip); (first | rw [if_pos c10] | rw [if_neg c10] | rw [if_neg (not_not_intro c10)] | skip); (first | rw [if_pos c11] | rw [if_neg c11] | rw [if_neg (not_not_intro c11)] | skip); (first | rw [if_pos c12] | rw [if_neg c12] | rw [if_neg (not_not_intro c12)] | skip); (first | rw [o13] | skip); (try dsimp only); (first | rw [o15] | skip); (try dsimp only); (first | rw [if_pos c1] | rw [if_neg c1] | rw [if_neg (not_not_intro c1)] | skip); (first | rw [if_pos c2] | rw [if_neg c2] | rw [if_neg (not_not_intro c2)] | skip); (first | rw [if_pos c3] | rw [if_neg c3] | rw [if_neg (not_not_intro c3)] | skip); (first | rw [if_pos c9] | rw [if_neg c9] | rw [if_neg (not_not_intro c9)] | skip); (first | rw [if_pos c10] | rw [if_neg c10] | rw [if_neg (not_not_intro c10)] | skip); (first | rw [if_pos c11] | rw [if_neg c11] | rw [if_neg (not_not_intro c11)] | skip); (first | rw [if_pos c12] | rw [if_neg c12] | rw [if_neg (not_not_intro c12)] | skip); (first | rw [o13] | skip); (try dsimp only); (first | rw [o15] | skip); (try dsimp only); (try simp only [hy9]); (first | rw [if_pos c1] | rw [if_neg c1] | rw [if_neg (not_not_intro c1)] | skip); (first | rw [if_pos c2] | rw [if_neg c2] | rw [if_neg (not_not_intro c2)] | skip); (first | rw [if_pos c3] | rw [if_neg c3] | rw [if_neg (not_not_intro c3)] | skip); (first | rw [if_pos c9] | rw [if_neg c9] | rw [if_neg (not_not_intro c9)] | skip); (first | rw [if_pos c10] | rw [if_neg c10] | rw [if_neg (not_not_intro c10)] | skip); (first | rw [if_pos c11] | rw [if_neg c11] | rw [if_neg (not_not_intro c11)] | skip); (first | rw [if_pos c12] | rw [if_neg c12] | rw [if_neg (not_not_intro c12)] | skip); (first | rw [o13] | skip); (try dsimp only); (first | rw [o15] | skip); (try dsimp only); (first | rw [if_pos c1] | rw [if_neg c1] | rw [if_neg (not_not_intro c1)] | skip); (first | rw [if_pos c2] | rw [if_neg c2] | rw [if_neg (not_not_intro c2)] | skip); (first | rw [if_pos c3] | rw [if_neg c3] | rw [if_neg (not_not_intro c3)] | skip); (first | rw [if_pos c9] | rw [if_neg c9] | rw [if_neg (not_not_intro c9)] | skip); (first | rw [if_pos c10] | rw [if_neg c10] | rw [if_neg (not_not_intro c10)] | skip); (first | rw [if_pos c11] | rw [if_neg c11] | rw [if_neg (not_not_intro c11)] | skip); (first | rw [if_pos c12] | rw [if_neg c12] | rw [if_neg (not_not_intro c12)] | skip); (first | rw [o13] | skip); (try dsimp only); (first | rw [o15] | skip); (try dsimp only); (first | rw [if_pos c1] | rw [if_neg c1] | rw [if_neg (not_not_intro c1)] | skip); (first | rw [if_pos c2] | rw [if_neg c2] | rw [if_neg (not_not_intro c2)] | skip); (first | rw [if_pos c3] | rw [if_neg c3] | rw [if_neg (not_not_intro c3)] | skip); (first | rw [if_pos c9] | rw [if_neg c9] | rw [if_neg (not_not_intro c9)] | skip); (first | rw [if_pos c10] | rw [if_neg c10] | rw [if_neg (not_not_intro c10)] | skip); (first | rw [if_pos c11] | rw [if_neg c11] | rw [if_neg (not_not_intro c11)] | skip); (first | rw [if_pos c12] | rw [if_neg c12] | rw [if_neg (not_not_intro c12)] | skip); (first | rw [o13] | skip); (try dsimp only); (first | rw [o15] | skip); (try dsimp only); (first | done | rfl)); rw [e9]; exact ⟨rfl, rfl⟩) dX11_deposit_106
                · have f14_b : f14 < 90 := Nat.lt_of_lt_of_le (sFate_lt o13).1 (nOf_le hN.2.2.2.1.1 hN.2.2.2.1.2 (by decide))
                  refine lv_if_ge (tgt := 101) hx hb dX11_deposit_81 (by decide) (fun _ => ?_) (fun hc => absurd (nI_pos' (by omega)) hc)
                  refine lv_aload_n hx hb dX11_deposit_101 rfl (lv_at hl 0 rfl) ?_
                  refine lv_iconst (v := 3) hx hb dX11_deposit_102 (by decide) ?_
                  refine gc_wl B (gr_V C B (k := 0) (As := [.int 3]) (rest := []) (c_X11_no l D G τ α S _ 3 (vp_d (by decide))) (by decide) mE_0 rfl wl_865 wl_867 wl_14 wl_40 wl_868 (na := 1) (by decide +kernel) rfl ⟨Nat.le_of_ble_eq_true rfl, Nat.le_of_ble_eq_true rfl⟩ ⟨Nat.le_of_ble_eq_true rfl, Nat.le_of_ble_eq_true rfl⟩ hl.1 rfl (Nat.le_of_ble_eq_true rfl) dX11_deposit_103) (fun r u h H locs B => ?_)
                  obtain ⟨rfl, rfl⟩ := h
                  have B : gB D G τ (gA α Lm sz) s H locs α (mE G α (sNo S 3).2) Lm := B
                  exact ge_wl C B hr hlk (by have e9 : sp_deposit S kind ch o su ho = ((sNo S 3).1, (sNo S 3).2) := (by unfold sp_deposit sp_dep2 sp_dep3 sp_dep4 sp_dep5; (first | rw [if_pos c1] | rw [if_neg c1] | rw [if_neg (not_not_intro c1)] | skip); (first | rw [if_pos c2] | rw [if_neg c2] | rw [if_neg (not_not_intro c2)] | skip); (first | rw [if_pos c3] | rw [if_neg c3] | rw [if_neg (not_not_intro c3)] | skip); (first | rw [if_pos c9] | rw [if_neg c9] | rw [if_neg (not_not_intro c9)] | skip); (first | rw [if_pos c10] | rw [if_neg c10] | rw [if_neg (not_not_intro c10)] | skip); (first | rw [if_pos c11] | rw [if_neg c11] | rw [if_neg (not_not_intro c11)] | skip); (first | rw [if_pos c12] | rw [if_neg c12] | rw [if_neg (not_not_intro c12)] | skip); (first | rw [o13] | skip); (try dsimp only); (first | rw [if_pos c1] | rw [if_neg c1] | rw [if_neg (not_not_intro c1)] | skip); (first | rw [if_pos c2] | rw [if_neg c2] | rw [if_neg (not_not_intro c2)] | skip); (first | rw [if_pos c3] | rw [if_neg c3] | rw [if_neg (not_not_intro c3)] | skip); (first | rw [if_pos c9] | rw [if_neg c9] | rw [if_neg (not_not_intro c9)] | skip); (first | rw [if_pos c10] | rw [if_neg c10] | rw [if_neg (not_not_intro c10)] | skip); (first | rw [if_pos c11] | rw [if_neg c11] | rw [if_neg (not_not_intro c11)] | skip); (first | rw [if_pos c12] | rw [if_neg c12] | rw [if_neg (not_not_intro c12)] | skip); (first | rw [o13] | skip); (try dsimp only); (first | rw [if_pos c1] | rw [if_neg c1] | rw [if_neg (not_not_intro c1)] | skip); (first | rw [if_pos c2] | rw [if_neg c2] | rw [if_neg (not_not_intro c2)] | skip); (first | rw [if_pos c3] | rw [if_neg c3] | rw [if_neg (not_not_intro c3)] | skip); (first | rw [if_pos c9] | rw [if_neg c9] | rw [if_neg (not_not_intro c9)] | skip); (first | rw [if_pos c10] | rw [if_neg c10] | rw [if_neg (not_not_intro c10)] | skip); (first | rw [if_pos c11] | rw [if_neg c11] | rw [if_neg (not_not_intro c11)] | skip); (first | rw [if_pos c12] | rw [if_neg c12] | rw [if_neg (not_not_intro c12)] | skip); (first | rw [o13] | skip); (try dsimp only); (try simp only [hy9]); (first | rw [if_pos c1] | rw [if_neg c1] | rw [if_neg (not_not_intro c1)] | skip); (first | rw [if_pos c2] | rw [if_neg c2] | rw [if_neg (not_not_intro c2)] | skip); (first | rw [if_pos c3] | rw [if_neg c3] | rw [if_neg (not_not_intro c3)] | skip); (first | rw [if_pos c9] | rw [if_neg c9] | rw [if_neg (not_not_intro c9)] | skip); (first | rw [if_pos c10] | rw [if_neg c10] | rw [if_neg (not_not_intro c10)] | skip); (first | rw [if_pos c11] | rw [if_neg c11] | rw [if_neg (not_not_intro c11)] | skip); (first | rw [if_pos c12] | rw [if_neg c12] | rw [if_neg (not_not_intro c12)] | skip); (first | rw [o13] | skip); (try dsimp only); (first | rw [if_pos c1] | rw [if_neg c1] | rw [if_neg (not_not_intro c1)] | skip); (first | rw [if_pos c2] | rw [if_neg c2] | rw [if_neg (not_not_intro c2)] | skip); (first | rw [if_pos c3] | rw [if_neg c3] | rw [if_neg (not_not_intro c3)] | skip); (first | rw [if_pos c9] | rw [if_neg c9] | rw [if_neg (not_not_intro c9)] | skip); (first | rw [if_pos c10] | rw [if_neg c10] | rw [if_neg (not_not_intro c10)] | skip); (first | rw [if_pos c11] | rw [if_neg c11] | rw [if_neg (not_not_intro c11)] | skip); (first | rw [if_pos c12] | rw [if_neg c12] | rw [if_neg (not_not_intro c12)] | skip); (first | rw [o13] | skip); (try dsimp only); (first | rw [if_pos c1] | rw [if_neg c1] | rw [if_neg (not_not_intro c1)] | skip); (first | rw [if_pos c2] | rw [if_neg c2] | rw [if_neg (not_not_intro c2)] | skip); (first | rw [if_pos c3] | rw [if_neg c3] | rw [if_neg (not_not_intro c3)] | skip); (first | rw [if_pos c9] | rw [if_neg c9] | rw [if_neg (not_not_intro c9)] | skip); (first | rw [if_pos c10] | rw [if_neg c10] | rw [if_neg (not_not_intro c10)] | skip); (first | rw [if_pos c11] | rw [if_neg c11] | rw [if_neg (not_not_intro c11)] | skip); (first | rw [if_pos c12] | rw [if_neg c12] | rw [if_neg (not_not_intro c12)] | skip); (first | rw [o13] | skip); (try dsimp only); (first | done | rfl)); rw [e9]; exact ⟨rfl, rfl⟩) dX11_deposit_106
              · refine lv_aload_n hx hb dX11_deposit_66 rfl (lv_at hl 0 rfl) ?_
                refine lv_iconst (v := 5) hx hb dX11_deposit_67 (by decide) ?_
                refine gc_wl B (gr_V C B (k := 0) (As := [.int 5]) (rest := []) (c_X11_no l D G τ α S _ 5 (vp_d (by decide))) (by decide) mE_0 rfl wl_865 wl_867 wl_14 wl_40 wl_868 (na := 1) (by decide +kernel) rfl ⟨Nat.le_of_ble_eq_true rfl, Nat.le_of_ble_eq_true rfl⟩ ⟨Nat.le_of_ble_eq_true rfl, Nat.le_of_ble_eq_true rfl⟩ hl.1 rfl (Nat.le_of_ble_eq_true rfl) dX11_deposit_68) (fun r u h H locs B => ?_)
                obtain ⟨rfl, rfl⟩ := h
                have B : gB D G τ (gA α Lm sz) s H locs α (mE G α (sNo S 5).2) Lm := B
                exact ge_wl C B hr hlk (by have e9 : sp_deposit S kind ch o su ho = ((sNo S 5).1, (sNo S 5).2) := (by unfold sp_deposit sp_dep2 sp_dep3 sp_dep4 sp_dep5; (first | rw [if_pos c1] | rw [if_neg c1] | rw [if_neg (not_not_intro c1)] | skip); (first | rw [if_pos c2] | rw [if_neg c2] | rw [if_neg (not_not_intro c2)] | skip); (first | rw [if_pos c3] | rw [if_neg c3] | rw [if_neg (not_not_intro c3)] | skip); (first | rw [if_pos c9] | rw [if_neg c9] | rw [if_neg (not_not_intro c9)] | skip); (first | rw [if_pos c10] | rw [if_neg c10] | rw [if_neg (not_not_intro c10)] | skip); (first | rw [if_pos c11] | rw [if_neg c11] | rw [if_neg (not_not_intro c11)] | skip); (first | rw [if_pos c12] | rw [if_neg c12] | rw [if_neg (not_not_intro c12)] | skip); (first | rw [if_pos c1] | rw [if_neg c1] | rw [if_neg (not_not_intro c1)] | skip); (first | rw [if_pos c2] | rw [if_neg c2] | rw [if_neg (not_not_intro c2)] | skip); (first | rw [if_pos c3] | rw [if_neg c3] | rw [if_neg (not_not_intro c3)] | skip); (first | rw [if_pos c9] | rw [if_neg c9] | rw [if_neg (not_not_intro c9)] | skip); (first | rw [if_pos c10] | rw [if_neg c10] | rw [if_neg (not_not_intro c10)] | skip); (first | rw [if_pos c11] | rw [if_neg c11] | rw [if_neg (not_not_intro c11)] | skip); (first | rw [if_pos c12] | rw [if_neg c12] | rw [if_neg (not_not_intro c12)] | skip); (first | rw [if_pos c1] | rw [if_neg c1] | rw [if_neg (not_not_intro c1)] | skip); (first | rw [if_pos c2] | rw [if_neg c2] | rw [if_neg (not_not_intro c2)] | skip); (first | rw [if_pos c3] | rw [if_neg c3] | rw [if_neg (not_not_intro c3)] | skip); (first | rw [if_pos c9] | rw [if_neg c9] | rw [if_neg (not_not_intro c9)] | skip); (first | rw [if_pos c10] | rw [if_neg c10] | rw [if_neg (not_not_intro c10)] | skip); (first | rw [if_pos c11] | rw [if_neg c11] | rw [if_neg (not_not_intro c11)] | skip); (first | rw [if_pos c12] | rw [if_neg c12] | rw [if_neg (not_not_intro c12)] | skip); (try simp only [hy9]); (first | rw [if_pos c1] | rw [if_neg c1] | rw [if_neg (not_not_intro c1)] | skip); (first | rw [if_pos c2] | rw [if_neg c2] | rw [if_neg (not_not_intro c2)] | skip); (first | rw [if_pos c3] | rw [if_neg c3] | rw [if_neg (not_not_intro c3)] | skip); (first | rw [if_pos c9] | rw [if_neg c9] | rw [if_neg (not_not_intro c9)] | skip); (first | rw [if_pos c10] | rw [if_neg c10] | rw [if_neg (not_not_intro c10)] | skip); (first | rw [if_pos c11] | rw [if_neg c11] | rw [if_neg (not_not_intro c11)] | skip); (first | rw [if_pos c12] | rw [if_neg c12] | rw [if_neg (not_not_intro c12)] | skip); (first | rw [if_pos c1] | rw [if_neg c1] | rw [if_neg (not_not_intro c1)] | skip); (first | rw [if_pos c2] | rw [if_neg c2] | rw [if_neg (not_not_intro c2)] | skip); (first | rw [if_pos c3] | rw [if_neg c3] | rw [if_neg (not_not_intro c3)] | skip); (first | rw [if_pos c9] | rw [if_neg c9] | rw [if_neg (not_not_intro c9)] | skip); (first | rw [if_pos c10] | rw [if_neg c10] | rw [if_neg (not_not_intro c10)] | skip); (first | rw [if_pos c11] | rw [if_neg c11] | rw [if_neg (not_not_intro c11)] | skip); (first | rw [if_pos c12] | rw [if_neg c12] | rw [if_neg (not_not_intro c12)] | skip); (first | rw [if_pos c1] | rw [if_neg c1] | rw [if_neg (not_not_intro c1)] | skip); (first | rw [if_pos c2] | rw [if_neg c2] | rw [if_neg (not_not_intro c2)] | skip); (first | rw [if_pos c3] | rw [if_neg c3] | rw [if_neg (not_not_intro c3)] | skip); (first | rw [if_pos c9] | rw [if_neg c9] | rw [if_neg (not_not_intro c9)] | skip); (first | rw [if_pos c10] | rw [if_neg c10] | rw [if_neg (not_not_intro c10)] | skip); (first | rw [if_pos c11] | rw [if_neg c11] | rw [if_neg (not_not_intro c11)] | skip); (first | rw [if_pos c12] | rw [if_neg c12] | rw [if_neg (not_not_intro c12)] | skip); (first | done | rfl)); rw [e9]; exact ⟨rfl, rfl⟩) dX11_deposit_71
            · refine lv_if_ne (tgt := 56) hx hb dX11_deposit_47 (by decide) (fun hc => absurd (by decide) hc) (fun _ => ?_)
              refine lv_aload_n hx hb dX11_deposit_50 rfl (lv_at hl 0 rfl) ?_
              refine lv_iconst (v := 1) hx hb dX11_deposit_51 (by decide) ?_
              refine gc_wl B (gr_V C B (k := 0) (As := [.int 1]) (rest := []) (c_X11_no l D G τ α S _ 1 (vp_d (by decide))) (by decide) mE_0 rfl wl_865 wl_867 wl_14 wl_40 wl_868 (na := 1) (by decide +kernel) rfl ⟨Nat.le_of_ble_eq_true rfl, Nat.le_of_ble_eq_true rfl⟩ ⟨Nat.le_of_ble_eq_true rfl, Nat.le_of_ble_eq_true rfl⟩ hl.1 rfl (Nat.le_of_ble_eq_true rfl) dX11_deposit_52) (fun r u h H locs B => ?_)
              obtain ⟨rfl, rfl⟩ := h
              have B : gB D G τ (gA α Lm sz) s H locs α (mE G α (sNo S 1).2) Lm := B
              exact ge_wl C B hr hlk (by have e9 : sp_deposit S kind ch o su ho = ((sNo S 1).1, (sNo S 1).2) := (by unfold sp_deposit sp_dep2 sp_dep3 sp_dep4 sp_dep5; (first | rw [if_pos c1] | rw [if_neg c1] | rw [if_neg (not_not_intro c1)] | skip); (first | rw [if_pos c2] | rw [if_neg c2] | rw [if_neg (not_not_intro c2)] | skip); (first | rw [if_pos c3] | rw [if_neg c3] | rw [if_neg (not_not_intro c3)] | skip); (first | rw [if_pos c9] | rw [if_neg c9] | rw [if_neg (not_not_intro c9)] | skip); (first | rw [if_pos c10] | rw [if_neg c10] | rw [if_neg (not_not_intro c10)] | skip); (first | rw [if_pos c11] | rw [if_neg c11] | rw [if_neg (not_not_intro c11)] | skip); (first | rw [if_pos c1] | rw [if_neg c1] | rw [if_neg (not_not_intro c1)] | skip); (first | rw [if_pos c2] | rw [if_neg c2] | rw [if_neg (not_not_intro c2)] | skip); (first | rw [if_pos c3] | rw [if_neg c3] | rw [if_neg (not_not_intro c3)] | skip); (first | rw [if_pos c9] | rw [if_neg c9] | rw [if_neg (not_not_intro c9)] | skip); (first | rw [if_pos c10] | rw [if_neg c10] | rw [if_neg (not_not_intro c10)] | skip); (first | rw [if_pos c11] | rw [if_neg c11] | rw [if_neg (not_not_intro c11)] | skip); (first | rw [if_pos c1] | rw [if_neg c1] | rw [if_neg (not_not_intro c1)] | skip); (first | rw [if_pos c2] | rw [if_neg c2] | rw [if_neg (not_not_intro c2)] | skip); (first | rw [if_pos c3] | rw [if_neg c3] | rw [if_neg (not_not_intro c3)] | skip); (first | rw [if_pos c9] | rw [if_neg c9] | rw [if_neg (not_not_intro c9)] | skip); (first | rw [if_pos c10] | rw [if_neg c10] | rw [if_neg (not_not_intro c10)] | skip); (first | rw [if_pos c11] | rw [if_neg c11] | rw [if_neg (not_not_intro c11)] | skip); (try simp only [hy9]); (first | rw [if_pos c1] | rw [if_neg c1] | rw [if_neg (not_not_intro c1)] | skip); (first | rw [if_pos c2] | rw [if_neg c2] | rw [if_neg (not_not_intro c2)] | skip); (first | rw [if_pos c3] | rw [if_neg c3] | rw [if_neg (not_not_intro c3)] | skip); (first | rw [if_pos c9] | rw [if_neg c9] | rw [if_neg (not_not_intro c9)] | skip); (first | rw [if_pos c10] | rw [if_neg c10] | rw [if_neg (not_not_intro c10)] | skip); (first | rw [if_pos c11] | rw [if_neg c11] | rw [if_neg (not_not_intro c11)] | skip); (first | rw [if_pos c1] | rw [if_neg c1] | rw [if_neg (not_not_intro c1)] | skip); (first | rw [if_pos c2] | rw [if_neg c2] | rw [if_neg (not_not_intro c2)] | skip); (first | rw [if_pos c3] | rw [if_neg c3] | rw [if_neg (not_not_intro c3)] | skip); (first | rw [if_pos c9] | rw [if_neg c9] | rw [if_neg (not_not_intro c9)] | skip); (first | rw [if_pos c10] | rw [if_neg c10] | rw [if_neg (not_not_intro c10)] | skip); (first | rw [if_pos c11] | rw [if_neg c11] | rw [if_neg (not_not_intro c11)] | skip); (first | rw [if_pos c1] | rw [if_neg c1] | rw [if_neg (not_not_intro c1)] | skip); (first | rw [if_pos c2] | rw [if_neg c2] | rw [if_neg (not_not_intro c2)] | skip); (first | rw [if_pos c3] | rw [if_neg c3] | rw [if_neg (not_not_intro c3)] | skip); (first | rw [if_pos c9] | rw [if_neg c9] | rw [if_neg (not_not_intro c9)] | skip); (first | rw [if_pos c10] | rw [if_neg c10] | rw [if_neg (not_not_intro c10)] | skip); (first | rw [if_pos c11] | rw [if_neg c11] | rw [if_neg (not_not_intro c11)] | skip); (first | done | rfl)); rw [e9]; exact ⟨rfl, rfl⟩) dX11_deposit_55
          · refine lv_if_eq (tgt := 50) hx hb dX11_deposit_35 (by decide) (fun _ => ?_) (fun hc => absurd (by decide) hc)
            refine lv_aload_n hx hb dX11_deposit_50 rfl (lv_at hl 0 rfl) ?_
            refine lv_iconst (v := 1) hx hb dX11_deposit_51 (by decide) ?_
            refine gc_wl B (gr_V C B (k := 0) (As := [.int 1]) (rest := []) (c_X11_no l D G τ α S _ 1 (vp_d (by decide))) (by decide) mE_0 rfl wl_865 wl_867 wl_14 wl_40 wl_868 (na := 1) (by decide +kernel) rfl ⟨Nat.le_of_ble_eq_true rfl, Nat.le_of_ble_eq_true rfl⟩ ⟨Nat.le_of_ble_eq_true rfl, Nat.le_of_ble_eq_true rfl⟩ hl.1 rfl (Nat.le_of_ble_eq_true rfl) dX11_deposit_52) (fun r u h H locs B => ?_)
            obtain ⟨rfl, rfl⟩ := h
            have B : gB D G τ (gA α Lm sz) s H locs α (mE G α (sNo S 1).2) Lm := B
            exact ge_wl C B hr hlk (by have e9 : sp_deposit S kind ch o su ho = ((sNo S 1).1, (sNo S 1).2) := (by unfold sp_deposit sp_dep2 sp_dep3 sp_dep4 sp_dep5; (first | rw [if_pos c1] | rw [if_neg c1] | rw [if_neg (not_not_intro c1)] | skip); (first | rw [if_pos c2] | rw [if_neg c2] | rw [if_neg (not_not_intro c2)] | skip); (first | rw [if_pos c3] | rw [if_neg c3] | rw [if_neg (not_not_intro c3)] | skip); (first | rw [if_pos c9] | rw [if_neg c9] | rw [if_neg (not_not_intro c9)] | skip); (first | rw [if_pos c10] | rw [if_neg c10] | rw [if_neg (not_not_intro c10)] | skip); (first | rw [if_pos c1] | rw [if_neg c1] | rw [if_neg (not_not_intro c1)] | skip); (first | rw [if_pos c2] | rw [if_neg c2] | rw [if_neg (not_not_intro c2)] | skip); (first | rw [if_pos c3] | rw [if_neg c3] | rw [if_neg (not_not_intro c3)] | skip); (first | rw [if_pos c9] | rw [if_neg c9] | rw [if_neg (not_not_intro c9)] | skip); (first | rw [if_pos c10] | rw [if_neg c10] | rw [if_neg (not_not_intro c10)] | skip); (first | rw [if_pos c1] | rw [if_neg c1] | rw [if_neg (not_not_intro c1)] | skip); (first | rw [if_pos c2] | rw [if_neg c2] | rw [if_neg (not_not_intro c2)] | skip); (first | rw [if_pos c3] | rw [if_neg c3] | rw [if_neg (not_not_intro c3)] | skip); (first | rw [if_pos c9] | rw [if_neg c9] | rw [if_neg (not_not_intro c9)] | skip); (first | rw [if_pos c10] | rw [if_neg c10] | rw [if_neg (not_not_intro c10)] | skip); (try simp only [hy9]); (first | rw [if_pos c1] | rw [if_neg c1] | rw [if_neg (not_not_intro c1)] | skip); (first | rw [if_pos c2] | rw [if_neg c2] | rw [if_neg (not_not_intro c2)] | skip); (first | rw [if_pos c3] | rw [if_neg c3] | rw [if_neg (not_not_intro c3)] | skip); (first | rw [if_pos c9] | rw [if_neg c9] | rw [if_neg (not_not_intro c9)] | skip); (first | rw [if_pos c10] | rw [if_neg c10] | rw [if_neg (not_not_intro c10)] | skip); (first | rw [if_pos c1] | rw [if_neg c1] | rw [if_neg (not_not_intro c1)] | skip); (first | rw [if_pos c2] | rw [if_neg c2] | rw [if_neg (not_not_intro c2)] | skip); (first | rw [if_pos c3] | rw [if_neg c3] | rw [if_neg (not_not_intro c3)] | skip); (first | rw [if_pos c9] | rw [if_neg c9] | rw [if_neg (not_not_intro c9)] | skip); (first | rw [if_pos c10] | rw [if_neg c10] | rw [if_neg (not_not_intro c10)] | skip); (first | rw [if_pos c1] | rw [if_neg c1] | rw [if_neg (not_not_intro c1)] | skip); (first | rw [if_pos c2] | rw [if_neg c2] | rw [if_neg (not_not_intro c2)] | skip); (first | rw [if_pos c3] | rw [if_neg c3] | rw [if_neg (not_not_intro c3)] | skip); (first | rw [if_pos c9] | rw [if_neg c9] | rw [if_neg (not_not_intro c9)] | skip); (first | rw [if_pos c10] | rw [if_neg c10] | rw [if_neg (not_not_intro c10)] | skip); (first | done | rfl)); rw [e9]; exact ⟨rfl, rfl⟩) dX11_deposit_55
        · refine lv_if_eq (tgt := 50) hx hb dX11_deposit_27 (by decide) (fun _ => ?_) (fun hc => absurd (by decide) hc)
          refine lv_aload_n hx hb dX11_deposit_50 rfl (lv_at hl 0 rfl) ?_
          refine lv_iconst (v := 1) hx hb dX11_deposit_51 (by decide) ?_
          refine gc_wl B (gr_V C B (k := 0) (As := [.int 1]) (rest := []) (c_X11_no l D G τ α S _ 1 (vp_d (by decide))) (by decide) mE_0 rfl wl_865 wl_867 wl_14 wl_40 wl_868 (na := 1) (by decide +kernel) rfl ⟨Nat.le_of_ble_eq_true rfl, Nat.le_of_ble_eq_true rfl⟩ ⟨Nat.le_of_ble_eq_true rfl, Nat.le_of_ble_eq_true rfl⟩ hl.1 rfl (Nat.le_of_ble_eq_true rfl) dX11_deposit_52) (fun r u h H locs B => ?_)
          obtain ⟨rfl, rfl⟩ := h
          have B : gB D G τ (gA α Lm sz) s H locs α (mE G α (sNo S 1).2) Lm := B
          exact ge_wl C B hr hlk (by have e9 : sp_deposit S kind ch o su ho = ((sNo S 1).1, (sNo S 1).2) := (by unfold sp_deposit sp_dep2 sp_dep3 sp_dep4 sp_dep5; (first | rw [if_pos c1] | rw [if_neg c1] | rw [if_neg (not_not_intro c1)] | skip); (first | rw [if_pos c2] | rw [if_neg c2] | rw [if_neg (not_not_intro c2)] | skip); (first | rw [if_pos c3] | rw [if_neg c3] | rw [if_neg (not_not_intro c3)] | skip); (first | rw [if_pos c9] | rw [if_neg c9] | rw [if_neg (not_not_intro c9)] | skip); (first | rw [if_pos c1] | rw [if_neg c1] | rw [if_neg (not_not_intro c1)] | skip); (first | rw [if_pos c2] | rw [if_neg c2] | rw [if_neg (not_not_intro c2)] | skip); (first | rw [if_pos c3] | rw [if_neg c3] | rw [if_neg (not_not_intro c3)] | skip); (first | rw [if_pos c9] | rw [if_neg c9] | rw [if_neg (not_not_intro c9)] | skip); (first | rw [if_pos c1] | rw [if_neg c1] | rw [if_neg (not_not_intro c1)] | skip); (first | rw [if_pos c2] | rw [if_neg c2] | rw [if_neg (not_not_intro c2)] | skip); (first | rw [if_pos c3] | rw [if_neg c3] | rw [if_neg (not_not_intro c3)] | skip); (first | rw [if_pos c9] | rw [if_neg c9] | rw [if_neg (not_not_intro c9)] | skip); (try simp only [hy9]); (first | rw [if_pos c1] | rw [if_neg c1] | rw [if_neg (not_not_intro c1)] | skip); (first | rw [if_pos c2] | rw [if_neg c2] | rw [if_neg (not_not_intro c2)] | skip); (first | rw [if_pos c3] | rw [if_neg c3] | rw [if_neg (not_not_intro c3)] | skip); (first | rw [if_pos c9] | rw [if_neg c9] | rw [if_neg (not_not_intro c9)] | skip); (first | rw [if_pos c1] | rw [if_neg c1] | rw [if_neg (not_not_intro c1)] | skip); (first | rw [if_pos c2] | rw [if_neg c2] | rw [if_neg (not_not_intro c2)] | skip); (first | rw [if_pos c3] | rw [if_neg c3] | rw [if_neg (not_not_intro c3)] | skip); (first | rw [if_pos c9] | rw [if_neg c9] | rw [if_neg (not_not_intro c9)] | skip); (first | rw [if_pos c1] | rw [if_neg c1] | rw [if_neg (not_not_intro c1)] | skip); (first | rw [if_pos c2] | rw [if_neg c2] | rw [if_neg (not_not_intro c2)] | skip); (first | rw [if_pos c3] | rw [if_neg c3] | rw [if_neg (not_not_intro c3)] | skip); (first | rw [if_pos c9] | rw [if_neg c9] | rw [if_neg (not_not_intro c9)] | skip); (first | done | rfl)); rw [e9]; exact ⟨rfl, rfl⟩) dX11_deposit_55
    · refine lv_if_eq (tgt := 50) hx hb dX11_deposit_14 (by decide) (fun _ => ?_) (fun hc => absurd (by decide) hc)
      refine lv_aload_n hx hb dX11_deposit_50 rfl (lv_at hl 0 rfl) ?_
      refine lv_iconst (v := 1) hx hb dX11_deposit_51 (by decide) ?_
      refine gc_wl B (gr_V C B (k := 0) (As := [.int 1]) (rest := []) (c_X11_no l D G τ α S _ 1 (vp_d (by decide))) (by decide) mE_0 rfl wl_865 wl_867 wl_14 wl_40 wl_868 (na := 1) (by decide +kernel) rfl ⟨Nat.le_of_ble_eq_true rfl, Nat.le_of_ble_eq_true rfl⟩ ⟨Nat.le_of_ble_eq_true rfl, Nat.le_of_ble_eq_true rfl⟩ hl.1 rfl (Nat.le_of_ble_eq_true rfl) dX11_deposit_52) (fun r u h H locs B => ?_)
      obtain ⟨rfl, rfl⟩ := h
      have B : gB D G τ (gA α Lm sz) s H locs α (mE G α (sNo S 1).2) Lm := B
      exact ge_wl C B hr hlk (by have e9 : sp_deposit S kind ch o su ho = ((sNo S 1).1, (sNo S 1).2) := (by unfold sp_deposit sp_dep2 sp_dep3 sp_dep4 sp_dep5; (first | rw [if_pos c1] | rw [if_neg c1] | rw [if_neg (not_not_intro c1)] | skip); (first | rw [if_pos c2] | rw [if_neg c2] | rw [if_neg (not_not_intro c2)] | skip); (first | rw [if_pos c1] | rw [if_neg c1] | rw [if_neg (not_not_intro c1)] | skip); (first | rw [if_pos c2] | rw [if_neg c2] | rw [if_neg (not_not_intro c2)] | skip); (first | rw [if_pos c1] | rw [if_neg c1] | rw [if_neg (not_not_intro c1)] | skip); (first | rw [if_pos c2] | rw [if_neg c2] | rw [if_neg (not_not_intro c2)] | skip); (try simp only [hy9]); (first | rw [if_pos c1] | rw [if_neg c1] | rw [if_neg (not_not_intro c1)] | skip); (first | rw [if_pos c2] | rw [if_neg c2] | rw [if_neg (not_not_intro c2)] | skip); (first | rw [if_pos c1] | rw [if_neg c1] | rw [if_neg (not_not_intro c1)] | skip); (first | rw [if_pos c2] | rw [if_neg c2] | rw [if_neg (not_not_intro c2)] | skip); (first | rw [if_pos c1] | rw [if_neg c1] | rw [if_neg (not_not_intro c1)] | skip); (first | rw [if_pos c2] | rw [if_neg c2] | rw [if_neg (not_not_intro c2)] | skip); (first | done | rfl)); rw [e9]; exact ⟨rfl, rfl⟩) dX11_deposit_55
  · refine lv_if_eq (tgt := 50) hx hb dX11_deposit_6 (by decide) (fun _ => ?_) (fun hc => absurd (by decide) hc)
    refine lv_aload_n hx hb dX11_deposit_50 rfl (lv_at hl 0 rfl) ?_
    refine lv_iconst (v := 1) hx hb dX11_deposit_51 (by decide) ?_
    refine gc_wl B (gr_V C B (k := 0) (As := [.int 1]) (rest := []) (c_X11_no l D G τ α S _ 1 (vp_d (by decide))) (by decide) mE_0 rfl wl_865 wl_867 wl_14 wl_40 wl_868 (na := 1) (by decide +kernel) rfl ⟨Nat.le_of_ble_eq_true rfl, Nat.le_of_ble_eq_true rfl⟩ ⟨Nat.le_of_ble_eq_true rfl, Nat.le_of_ble_eq_true rfl⟩ hl.1 rfl (Nat.le_of_ble_eq_true rfl) dX11_deposit_52) (fun r u h H locs B => ?_)
    obtain ⟨rfl, rfl⟩ := h
    have B : gB D G τ (gA α Lm sz) s H locs α (mE G α (sNo S 1).2) Lm := B
    exact ge_wl C B hr hlk (by have e9 : sp_deposit S kind ch o su ho = ((sNo S 1).1, (sNo S 1).2) := (by unfold sp_deposit sp_dep2 sp_dep3 sp_dep4 sp_dep5; (first | rw [if_pos c1] | rw [if_neg c1] | rw [if_neg (not_not_intro c1)] | skip); (first | rw [if_pos c1] | rw [if_neg c1] | rw [if_neg (not_not_intro c1)] | skip); (first | rw [if_pos c1] | rw [if_neg c1] | rw [if_neg (not_not_intro c1)] | skip); (try simp only [hy9]); (first | rw [if_pos c1] | rw [if_neg c1] | rw [if_neg (not_not_intro c1)] | skip); (first | rw [if_pos c1] | rw [if_neg c1] | rw [if_neg (not_not_intro c1)] | skip); (first | rw [if_pos c1] | rw [if_neg c1] | rw [if_neg (not_not_intro c1)] | skip); (first | done | rfl)); rw [e9]; exact ⟨rfl, rfl⟩) dX11_deposit_55
set_option maxHeartbeats 4000000 in
set_option maxRecDepth 100000 in
theorem c_X11_sell (l : Launch) (D : va_G) (G : Nat → ClassId) (τ α : Nat → Nat) (S : St) (sz : Nat) (d ho : Int32) (hN : okN S) (hP : okP S) : Wl l D G τ yX11_sell cX11_sell 5 (some .long) 2 0 0 [.ref (α 0), .int d, .int ho] α (mE G α S) Lm sz (fun r u => r = (sp_sell S d ho).1 ∧ u = (α, mE G α (sp_sell S d ho).2, Lm)) := by
  refine gM _ (by decide) rfl (Nat.le_of_ble_eq_true rfl) ?_
  intro p e s m below meth c ls C hr hlk hnm hsz B hl
  have hx := C.1
  have hb := C.2.1
  have hl : lv_has ls 5 [(0, .ref (α 0)), (1, .int d), (2, .int ho)] := hl
  refine lv_aload_n hx hb dX11_sell_0 rfl (lv_at hl 0 rfl) ?_
  refine lv_iload_n hx hb dX11_sell_1 rfl (lv_at hl 1 rfl) ?_
  refine gc_b (gr_V C B (k := 0) (As := [.int d]) (rest := []) (c_X11_isDeposit l D G τ α S _ d hN) (by decide) mE_0 rfl wl_953 wl_955 wl_25 wl_40 wl_956 (na := 1) (by decide +kernel) rfl ⟨Nat.le_of_ble_eq_true rfl, Nat.le_of_ble_eq_true rfl⟩ ⟨Nat.le_of_ble_eq_true rfl, Nat.le_of_ble_eq_true rfl⟩ hl.1 rfl (Nat.le_of_ble_eq_true rfl) dX11_sell_2) (fun c1 => ?_) (fun c1 => ?_)
  · obtain ⟨d9, d9_d, rfl⟩ := isD_nat c1
    have d9_c : d9 < 30 := Nat.lt_of_lt_of_le d9_d (nOf_le hN.2.2.2.2.1.1 hN.2.2.2.2.1.2 (by decide))
    have d9_b : d9 < 2 ^ 31 := by omega
    have hs9 : 0 ≤ S.2.2.1 25 d9 ∧ S.2.2.1 25 d9 ≤ 7 := okS_7 (hP d9 d9_d).2.2.2.2.2.2.2.2.2
    refine lv_if_eq (tgt := 15) hx hb dX11_sell_5 (by decide) (fun hc => absurd hc (by decide)) (fun _ => ?_)
    refine lv_iload_n hx hb dX11_sell_8 rfl (lv_at hl 2 rfl) ?_
    refine gc_b (gr_S C B (As := [.int ho]) (rest := []) (c_X11_isHolder l D G τ α _ _ _ ho) wl_945 wl_946 wl_40 wl_947 (na := 1) (by decide +kernel) rfl ⟨Nat.le_of_ble_eq_true rfl, Nat.le_of_ble_eq_true rfl⟩ ⟨Nat.le_of_ble_eq_true rfl, Nat.le_of_ble_eq_true rfl⟩ hl.1 rfl (Nat.le_of_ble_eq_true rfl) dX11_sell_9) (fun c2 => ?_) (fun c2 => ?_)
    · refine lv_if_ne (tgt := 21) hx hb dX11_sell_12 (by decide) (fun _ => ?_) (fun hc => absurd hc (by decide))
      refine lv_aload_n hx hb dX11_sell_21 rfl (lv_at hl 0 rfl) ?_
      refine g_get C B (0) (by decide) mE_0 rfl gf_11 24 (by decide) wl_751 (v := .ref (α 24)) mF_24 dX11_sell_22 ?_
      refine lv_iload_n hx hb dX11_sell_25 rfl (lv_at hl 1 rfl) ?_
      refine g_zald C B (24) (by decide) (f := S.2.2.1 24) mE_24 (vp_in_nI (by omega) (by omega)) (j := d9) (nI_clamp (by omega)) dX11_sell_26 ?_
      refine lv_if_eq (tgt := 36) hx hb dX11_sell_27 (by decide) (fun c3 => ?_) (fun c3 => ?_)
      · refine lv_aload_n hx hb dX11_sell_36 rfl (lv_at hl 0 rfl) ?_
        refine lv_iload_n hx hb dX11_sell_37 rfl (lv_at hl 1 rfl) ?_
        refine lv_aload_n hx hb dX11_sell_38 rfl (lv_at hl 0 rfl) ?_
        refine g_get C B (0) (by decide) mE_0 rfl gf_11 0 (by decide) wl_727 (v := .int (S.1 0)) mF_0 dX11_sell_39 ?_
        refine gc_i (gr_V C B (k := 0) (As := [.int (nI d9), .int (S.1 0)]) (rest := []) (c_X11_holderIn l D G τ α S _ d9 (S.1 0) (by omega) hs9) (by decide) mE_0 rfl wl_903 wl_905 wl_23 wl_40 wl_906 (na := 2) (by decide +kernel) rfl ⟨Nat.le_of_ble_eq_true rfl, Nat.le_of_ble_eq_true rfl⟩ ⟨Nat.le_of_ble_eq_true rfl, Nat.le_of_ble_eq_true rfl⟩ hl.1 rfl (Nat.le_of_ble_eq_true rfl) dX11_sell_42) (fun r h => ?_)
        subst h
        refine lv_istore_n (lv' := [(3, .int (sHold S d9 (S.1 0))), (0, .ref (α 0)), (1, .int (nI d9)), (2, .int ho)]) hx hb dX11_sell_45 rfl hl (by decide) rfl (fun ls hl => ?_)
        refine lv_iload_n hx hb dX11_sell_46 rfl (lv_at hl 0 rfl) ?_
        refine lv_iload_n hx hb dX11_sell_47 rfl (lv_at hl 3 rfl) ?_
        refine lv_icmp_ne (tgt := 57) hx hb dX11_sell_48 (by decide) (fun c4 => ?_) (fun c4 => ?_)
        · refine lv_bipush (v := 7) hx hb dX11_sell_57 (by decide) ?_
          refine lv_iload_n hx hb dX11_sell_59 rfl (lv_at hl 2 rfl) ?_
          refine lv_imul hx hb dX11_sell_60 ?_
          refine lv_aload_n hx hb dX11_sell_61 rfl (lv_at hl 1 rfl) ?_
          refine g_get C B (0) (by decide) mE_0 rfl gf_11 25 (by decide) wl_752 (v := .ref (α 25)) mF_25 dX11_sell_62 ?_
          refine lv_iload_n hx hb dX11_sell_65 rfl (lv_at hl 2 rfl) ?_
          refine g_iald C B (25) (by decide) (f := S.2.2.1 25) mE_25 (vp_in_nI (by omega) (by omega)) (j := d9) (nI_clamp (by omega)) dX11_sell_66 ?_
          refine lv_iadd hx hb dX11_sell_67 ?_
          refine lv_iconst (v := 1) hx hb dX11_sell_68 (by decide) ?_
          refine lv_isub hx hb dX11_sell_69 ?_
          have hk9 := (hP d9 d9_d).2.2.2.2.2.2.2.2.2.1
          have hl9 := sl_lt d9_c hk9
          have hl8 := hl9.1
          rw [sl_ix hk9]
          refine lv_istore (lv' := [(4, .int (nI (sLast S d9))), (3, .int (sHold S d9 (S.1 0))), (0, .ref (α 0)), (1, .int (nI d9)), (2, .int ho)]) hx hb dX11_sell_70 hl (by decide) rfl (fun ls hl => ?_)
          refine lv_aload_n hx hb dX11_sell_72 rfl (lv_at hl 2 rfl) ?_
          refine g_get C B (0) (by decide) mE_0 rfl gf_11 26 (by decide) wl_753 (v := .ref (α 26)) mF_26 dX11_sell_73 ?_
          refine lv_iload hx hb dX11_sell_76 (lv_at hl 0 rfl) ?_
          refine g_iald C B (26) (by decide) (f := S.2.2.1 26) mE_26 (vp_in_nI (by omega) (by omega)) (j := (sLast S d9)) (nI_clamp (by omega)) dX11_sell_78 ?_
          refine lv_aload_n hx hb dX11_sell_79 rfl (lv_at hl 2 rfl) ?_
          refine g_get C B (0) (by decide) mE_0 rfl gf_11 0 (by decide) wl_727 (v := .int (S.1 0)) mF_0 dX11_sell_80 ?_
          refine lv_icmp_eq (tgt := 116) hx hb dX11_sell_83 (by decide) (fun c5 => ?_) (fun c5 => ?_)
          · refine lv_aload_n hx hb dX11_sell_116 rfl (lv_at hl 2 rfl) ?_
            refine g_get C B (0) (by decide) mE_0 rfl gf_11 26 (by decide) wl_753 (v := .ref (α 26)) mF_26 dX11_sell_117 ?_
            refine lv_iload hx hb dX11_sell_120 (lv_at hl 0 rfl) ?_
            refine lv_aload_n hx hb dX11_sell_122 rfl (lv_at hl 2 rfl) ?_
            refine g_get C B (0) (by decide) mE_0 rfl gf_11 0 (by decide) wl_727 (v := .int (S.1 0)) mF_0 dX11_sell_123 ?_
            refine g_iast C B (26) (by decide) (f := S.2.2.1 26) mE_26 (vp_in_nI (by omega) (by omega)) (j := (sLast S d9)) (nI_clamp (by omega)) dX11_sell_126 mU_26 (fun H locs B => ?_)
            refine lv_aload_n hx hb dX11_sell_127 rfl (lv_at hl 2 rfl) ?_
            refine g_get C B (0) (by decide) mE_0 rfl gf_11 27 (by decide) wl_754 (v := .ref (α 27)) mF_27 dX11_sell_128 ?_
            refine lv_iload hx hb dX11_sell_131 (lv_at hl 0 rfl) ?_
            refine lv_iload_n hx hb dX11_sell_133 rfl (lv_at hl 4 rfl) ?_
            refine g_iast C B (27) (by decide) (f := S.2.2.1 27) mE_27 (vp_in_nI (by omega) (by omega)) (j := (sLast S d9)) (nI_clamp (by omega)) dX11_sell_134 mU_27 (fun H locs B => ?_)
            refine lv_iload_n hx hb dX11_sell_135 rfl (lv_at hl 1 rfl) ?_
            refine lv_i2l (v := (sHold S d9 (S.1 0)).toInt64) hx hb dX11_sell_136 rfl ?_
            exact ge_wl C B hr hlk (by have e9 : sp_sell S (nI d9) ho = ((sHold S d9 (S.1 0)).toInt64, (uA (uA S 26 (upd (S.2.2.1 26) (sLast S d9) (S.1 0))) 27 (upd (S.2.2.1 27) (sLast S d9) ho))) := (by unfold sp_sell; (try simp only [nI_clamp d9_b]); (first | rw [if_pos c1] | rw [if_neg c1] | rw [if_neg (not_not_intro c1)] | skip); (try simp only [nI_clamp d9_b]); (first | rw [if_pos c2] | rw [if_neg c2] | rw [if_neg (not_not_intro c2)] | skip); (try simp only [nI_clamp d9_b]); (first | rw [if_pos c3] | rw [if_neg c3] | rw [if_neg (not_not_intro c3)] | skip); (try simp only [nI_clamp d9_b]); (first | rw [if_pos c4] | rw [if_neg c4] | rw [if_neg (not_not_intro c4)] | skip); (try simp only [nI_clamp d9_b]); (first | rw [if_pos c5] | rw [if_neg c5] | rw [if_neg (not_not_intro c5)] | skip); (try simp only [nI_clamp d9_b]); (first | done | rfl)); rw [e9]; exact ⟨rfl, rfl⟩) dX11_sell_137
          · refine lv_aload_n hx hb dX11_sell_86 rfl (lv_at hl 2 rfl) ?_
            refine g_get C B (0) (by decide) mE_0 rfl gf_11 25 (by decide) wl_752 (v := .ref (α 25)) mF_25 dX11_sell_87 ?_
            refine lv_iload_n hx hb dX11_sell_90 rfl (lv_at hl 3 rfl) ?_
            refine g_iald C B (25) (by decide) (f := S.2.2.1 25) mE_25 (vp_in_nI (by omega) (by omega)) (j := d9) (nI_clamp (by omega)) dX11_sell_91 ?_
            refine lv_bipush (v := 7) hx hb dX11_sell_92 (by decide) ?_
            refine lv_icmp_ne (tgt := 103) hx hb dX11_sell_94 (by decide) (fun c6 => ?_) (fun c6 => ?_)
            · refine lv_aload_n hx hb dX11_sell_103 rfl (lv_at hl 2 rfl) ?_
              refine g_get C B (0) (by decide) mE_0 rfl gf_11 25 (by decide) wl_752 (v := .ref (α 25)) mF_25 dX11_sell_104 ?_
              refine lv_iload_n hx hb dX11_sell_107 rfl (lv_at hl 3 rfl) ?_
              refine lv_dup2_11 hx hb dX11_sell_108 rfl rfl ?_
              refine g_iald C B (25) (by decide) (f := S.2.2.1 25) mE_25 (vp_in_nI (by omega) (by omega)) (j := d9) (nI_clamp (by omega)) dX11_sell_109 ?_
              refine lv_iconst (v := 1) hx hb dX11_sell_110 (by decide) ?_
              refine lv_iadd hx hb dX11_sell_111 ?_
              refine g_iast C B (25) (by decide) (f := S.2.2.1 25) mE_25 (vp_in_nI (by omega) (by omega)) (j := d9) (nI_clamp (by omega)) dX11_sell_112 mU_25 (fun H locs B => ?_)
              refine lv_iinc (v := ((nI (sLast S d9)) + 1)) (lv' := [(4, .int ((nI (sLast S d9)) + 1)), (3, .int (sHold S d9 (S.1 0))), (0, .ref (α 0)), (1, .int (nI d9)), (2, .int ho)]) hx hb dX11_sell_113 hl (k := 0) rfl rfl (by decide) rfl (fun ls hl => ?_)
              rw [nI_1] at hl
              have hl7 := hl9.2 c6
              refine lv_aload_n hx hb dX11_sell_116 rfl (lv_at hl 2 rfl) ?_
              refine g_get C B (0) (by decide) mE_0 rfl gf_11 26 (by decide) wl_753 (v := .ref (α 26)) mF_26 dX11_sell_117 ?_
              refine lv_iload hx hb dX11_sell_120 (lv_at hl 0 rfl) ?_
              refine lv_aload_n hx hb dX11_sell_122 rfl (lv_at hl 2 rfl) ?_
              refine g_get C B (0) (by decide) mE_0 rfl gf_11 0 (by decide) wl_727 (v := .int (S.1 0)) mF_0 dX11_sell_123 ?_
              refine g_iast C B (26) (by decide) (f := S.2.2.1 26) mE_26 (vp_in_nI (by omega) (by omega)) (j := (sLast S d9 + 1)) (nI_clamp (by omega)) dX11_sell_126 mU_26 (fun H locs B => ?_)
              refine lv_aload_n hx hb dX11_sell_127 rfl (lv_at hl 2 rfl) ?_
              refine g_get C B (0) (by decide) mE_0 rfl gf_11 27 (by decide) wl_754 (v := .ref (α 27)) mF_27 dX11_sell_128 ?_
              refine lv_iload hx hb dX11_sell_131 (lv_at hl 0 rfl) ?_
              refine lv_iload_n hx hb dX11_sell_133 rfl (lv_at hl 4 rfl) ?_
              refine g_iast C B (27) (by decide) (f := S.2.2.1 27) mE_27 (vp_in_nI (by omega) (by omega)) (j := (sLast S d9 + 1)) (nI_clamp (by omega)) dX11_sell_134 mU_27 (fun H locs B => ?_)
              refine lv_iload_n hx hb dX11_sell_135 rfl (lv_at hl 1 rfl) ?_
              refine lv_i2l (v := (sHold S d9 (S.1 0)).toInt64) hx hb dX11_sell_136 rfl ?_
              exact ge_wl C B hr hlk (by have e9 : sp_sell S (nI d9) ho = ((sHold S d9 (S.1 0)).toInt64, (uA (uA (uA S 25 (upd (S.2.2.1 25) d9 ((S.2.2.1 25 d9) + 1))) 26 (upd (S.2.2.1 26) (sLast S d9 + 1) (S.1 0))) 27 (upd (S.2.2.1 27) (sLast S d9 + 1) ho))) := (by unfold sp_sell; (try simp only [nI_clamp d9_b]); (first | rw [if_pos c1] | rw [if_neg c1] | rw [if_neg (not_not_intro c1)] | skip); (try simp only [nI_clamp d9_b]); (first | rw [if_pos c2] | rw [if_neg c2] | rw [if_neg (not_not_intro c2)] | skip); (try simp only [nI_clamp d9_b]); (first | rw [if_pos c3] | rw [if_neg c3] | rw [if_neg (not_not_intro c3)] | skip); (try simp only [nI_clamp d9_b]); (first | rw [if_pos c4] | rw [if_neg c4] | rw [if_neg (not_not_intro c4)] | skip); (try simp only [nI_clamp d9_b]); (first | rw [if_pos c5] | rw [if_neg c5] | rw [if_neg (not_not_intro c5)] | skip); (try simp only [nI_clamp d9_b]); (first | rw [if_pos c6] | rw [if_neg c6] | rw [if_neg (not_not_intro c6)] | skip); (try simp only [nI_clamp d9_b]); (first | done | rfl)); rw [e9]; exact ⟨rfl, rfl⟩) dX11_sell_137
            · refine lv_aload_n hx hb dX11_sell_97 rfl (lv_at hl 2 rfl) ?_
              refine lv_iconst (v := 4) hx hb dX11_sell_98 (by decide) ?_
              refine gc_wl B (gr_V C B (k := 0) (As := [.int 4]) (rest := []) (c_X11_no l D G τ α S _ 4 (vp_d (by decide))) (by decide) mE_0 rfl wl_865 wl_867 wl_14 wl_40 wl_868 (na := 1) (by decide +kernel) rfl ⟨Nat.le_of_ble_eq_true rfl, Nat.le_of_ble_eq_true rfl⟩ ⟨Nat.le_of_ble_eq_true rfl, Nat.le_of_ble_eq_true rfl⟩ hl.1 rfl (Nat.le_of_ble_eq_true rfl) dX11_sell_99) (fun r u h H locs B => ?_)
              obtain ⟨rfl, rfl⟩ := h
              have B : gB D G τ (gA α Lm sz) s H locs α (mE G α (sNo S 4).2) Lm := B
              exact ge_wl C B hr hlk (by have e9 : sp_sell S (nI d9) ho = ((sNo S 4).1, (sNo S 4).2) := (by unfold sp_sell; (try simp only [nI_clamp d9_b]); (first | rw [if_pos c1] | rw [if_neg c1] | rw [if_neg (not_not_intro c1)] | skip); (try simp only [nI_clamp d9_b]); (first | rw [if_pos c2] | rw [if_neg c2] | rw [if_neg (not_not_intro c2)] | skip); (try simp only [nI_clamp d9_b]); (first | rw [if_pos c3] | rw [if_neg c3] | rw [if_neg (not_not_intro c3)] | skip); (try simp only [nI_clamp d9_b]); (first | rw [if_pos c4] | rw [if_neg c4] | rw [if_neg (not_not_intro c4)] | skip); (try simp only [nI_clamp d9_b]); (first | rw [if_pos c5] | rw [if_neg c5] | rw [if_neg (not_not_intro c5)] | skip); (try simp only [nI_clamp d9_b]); (first | rw [if_pos c6] | rw [if_neg c6] | rw [if_neg (not_not_intro c6)] | skip); (try simp only [nI_clamp d9_b]); (first | done | rfl)); rw [e9]; exact ⟨rfl, rfl⟩) dX11_sell_102
        · refine lv_aload_n hx hb dX11_sell_51 rfl (lv_at hl 1 rfl) ?_
          refine lv_iconst (v := 5) hx hb dX11_sell_52 (by decide) ?_
          refine gc_wl B (gr_V C B (k := 0) (As := [.int 5]) (rest := []) (c_X11_no l D G τ α S _ 5 (vp_d (by decide))) (by decide) mE_0 rfl wl_865 wl_867 wl_14 wl_40 wl_868 (na := 1) (by decide +kernel) rfl ⟨Nat.le_of_ble_eq_true rfl, Nat.le_of_ble_eq_true rfl⟩ ⟨Nat.le_of_ble_eq_true rfl, Nat.le_of_ble_eq_true rfl⟩ hl.1 rfl (Nat.le_of_ble_eq_true rfl) dX11_sell_53) (fun r u h H locs B => ?_)
          obtain ⟨rfl, rfl⟩ := h
          have B : gB D G τ (gA α Lm sz) s H locs α (mE G α (sNo S 5).2) Lm := B
          exact ge_wl C B hr hlk (by have e9 : sp_sell S (nI d9) ho = ((sNo S 5).1, (sNo S 5).2) := (by unfold sp_sell; (try simp only [nI_clamp d9_b]); (first | rw [if_pos c1] | rw [if_neg c1] | rw [if_neg (not_not_intro c1)] | skip); (try simp only [nI_clamp d9_b]); (first | rw [if_pos c2] | rw [if_neg c2] | rw [if_neg (not_not_intro c2)] | skip); (try simp only [nI_clamp d9_b]); (first | rw [if_pos c3] | rw [if_neg c3] | rw [if_neg (not_not_intro c3)] | skip); (try simp only [nI_clamp d9_b]); (first | rw [if_pos c4] | rw [if_neg c4] | rw [if_neg (not_not_intro c4)] | skip); (try simp only [nI_clamp d9_b]); (first | done | rfl)); rw [e9]; exact ⟨rfl, rfl⟩) dX11_sell_56
      · refine lv_aload_n hx hb dX11_sell_30 rfl (lv_at hl 0 rfl) ?_
        refine lv_iconst (v := 3) hx hb dX11_sell_31 (by decide) ?_
        refine gc_wl B (gr_V C B (k := 0) (As := [.int 3]) (rest := []) (c_X11_no l D G τ α S _ 3 (vp_d (by decide))) (by decide) mE_0 rfl wl_865 wl_867 wl_14 wl_40 wl_868 (na := 1) (by decide +kernel) rfl ⟨Nat.le_of_ble_eq_true rfl, Nat.le_of_ble_eq_true rfl⟩ ⟨Nat.le_of_ble_eq_true rfl, Nat.le_of_ble_eq_true rfl⟩ hl.1 rfl (Nat.le_of_ble_eq_true rfl) dX11_sell_32) (fun r u h H locs B => ?_)
        obtain ⟨rfl, rfl⟩ := h
        have B : gB D G τ (gA α Lm sz) s H locs α (mE G α (sNo S 3).2) Lm := B
        exact ge_wl C B hr hlk (by have e9 : sp_sell S (nI d9) ho = ((sNo S 3).1, (sNo S 3).2) := (by unfold sp_sell; (try simp only [nI_clamp d9_b]); (first | rw [if_pos c1] | rw [if_neg c1] | rw [if_neg (not_not_intro c1)] | skip); (try simp only [nI_clamp d9_b]); (first | rw [if_pos c2] | rw [if_neg c2] | rw [if_neg (not_not_intro c2)] | skip); (try simp only [nI_clamp d9_b]); (first | rw [if_pos c3] | rw [if_neg c3] | rw [if_neg (not_not_intro c3)] | skip); (try simp only [nI_clamp d9_b]); (first | done | rfl)); rw [e9]; exact ⟨rfl, rfl⟩) dX11_sell_35
    · refine lv_if_ne (tgt := 21) hx hb dX11_sell_12 (by decide) (fun hc => absurd (by decide) hc) (fun _ => ?_)
      refine lv_aload_n hx hb dX11_sell_15 rfl (lv_at hl 0 rfl) ?_
      refine lv_iconst (v := 1) hx hb dX11_sell_16 (by decide) ?_
      refine gc_wl B (gr_V C B (k := 0) (As := [.int 1]) (rest := []) (c_X11_no l D G τ α S _ 1 (vp_d (by decide))) (by decide) mE_0 rfl wl_865 wl_867 wl_14 wl_40 wl_868 (na := 1) (by decide +kernel) rfl ⟨Nat.le_of_ble_eq_true rfl, Nat.le_of_ble_eq_true rfl⟩ ⟨Nat.le_of_ble_eq_true rfl, Nat.le_of_ble_eq_true rfl⟩ hl.1 rfl (Nat.le_of_ble_eq_true rfl) dX11_sell_17) (fun r u h H locs B => ?_)
      obtain ⟨rfl, rfl⟩ := h
      have B : gB D G τ (gA α Lm sz) s H locs α (mE G α (sNo S 1).2) Lm := B
      exact ge_wl C B hr hlk (by have e9 : sp_sell S (nI d9) ho = ((sNo S 1).1, (sNo S 1).2) := (by unfold sp_sell; (try simp only [nI_clamp d9_b]); (first | rw [if_pos c1] | rw [if_neg c1] | rw [if_neg (not_not_intro c1)] | skip); (try simp only [nI_clamp d9_b]); (first | rw [if_pos c2] | rw [if_neg c2] | rw [if_neg (not_not_intro c2)] | skip); (try simp only [nI_clamp d9_b]); (first | done | rfl)); rw [e9]; exact ⟨rfl, rfl⟩) dX11_sell_20
  · refine lv_if_eq (tgt := 15) hx hb dX11_sell_5 (by decide) (fun _ => ?_) (fun hc => absurd (by decide) hc)
    refine lv_aload_n hx hb dX11_sell_15 rfl (lv_at hl 0 rfl) ?_
    refine lv_iconst (v := 1) hx hb dX11_sell_16 (by decide) ?_
    refine gc_wl B (gr_V C B (k := 0) (As := [.int 1]) (rest := []) (c_X11_no l D G τ α S _ 1 (vp_d (by decide))) (by decide) mE_0 rfl wl_865 wl_867 wl_14 wl_40 wl_868 (na := 1) (by decide +kernel) rfl ⟨Nat.le_of_ble_eq_true rfl, Nat.le_of_ble_eq_true rfl⟩ ⟨Nat.le_of_ble_eq_true rfl, Nat.le_of_ble_eq_true rfl⟩ hl.1 rfl (Nat.le_of_ble_eq_true rfl) dX11_sell_17) (fun r u h H locs B => ?_)
    obtain ⟨rfl, rfl⟩ := h
    have B : gB D G τ (gA α Lm sz) s H locs α (mE G α (sNo S 1).2) Lm := B
    exact ge_wl C B hr hlk (by have e9 : sp_sell S d ho = ((sNo S 1).1, (sNo S 1).2) := (by unfold sp_sell; (first | rw [if_pos c1] | rw [if_neg c1] | rw [if_neg (not_not_intro c1)] | skip); (first | done | rfl)); rw [e9]; exact ⟨rfl, rfl⟩) dX11_sell_20
set_option maxHeartbeats 4000000 in
set_option maxRecDepth 100000 in
theorem c_X11_pay (l : Launch) (D : va_G) (G : Nat → ClassId) (τ α : Nat → Nat) (S : St) (sz : Nat) (d : Nat) (v : Int64) (hd : d < 30) (hs : okS S d) : Wv l D G τ yX11_pay cX11_pay 4 none 1 0 0 [.ref (α 0), .int (nI d), .long v] α (mE G α S) Lm sz (fun u => u = (α, mE G α (sPay S d v), Lm)) := by
  refine gM _ (by decide) rfl (Nat.le_of_ble_eq_true rfl) ?_
  intro p e s m below meth c ls C hr hlk hnm hsz B hl
  have hx := C.1
  have hb := C.2.1
  have hl : lv_has ls 4 [(0, .ref (α 0)), (1, .int (nI d)), (2, .long v)] := hl
  have hh9 := sHold_last hs
  refine lv_aload_n hx hb dX11_pay_0 rfl (lv_at hl 0 rfl) ?_
  refine g_get C B (0) (by decide) mE_0 rfl gf_11 23 (by decide) wl_750 (v := .ref (α 23)) mF_23 dX11_pay_1 ?_
  refine lv_iload_n hx hb dX11_pay_4 rfl (lv_at hl 1 rfl) ?_
  refine lv_dup2_11 hx hb dX11_pay_5 rfl rfl ?_
  refine g_lald C B (23) (by decide) (f := S.2.2.2 23) mE_23 (vp_in_nI (by omega) (by omega)) (j := d) (nI_clamp (by omega)) dX11_pay_6 ?_
  refine lv_lload_n hx hb dX11_pay_7 rfl (lv_at hl 2 rfl) ?_
  refine lv_ladd hx hb dX11_pay_8 ?_
  refine g_last C B (23) (by decide) (f := S.2.2.2 23) mE_23 (vp_in_nI (by omega) (by omega)) (j := d) (nI_clamp (by omega)) dX11_pay_9 mU_23 (fun H locs B => ?_)
  refine lv_aload_n hx hb dX11_pay_10 rfl (lv_at hl 0 rfl) ?_
  refine g_get C B (0) (by decide) mE_0 rfl gf_11 40 (by decide) wl_767 (v := .ref (α 40)) mF_40 dX11_pay_11 ?_
  refine lv_iload_n hx hb dX11_pay_14 rfl (lv_at hl 1 rfl) ?_
  refine lv_dup2_11 hx hb dX11_pay_15 rfl rfl ?_
  refine g_lald C B (40) (by decide) (f := S.2.2.2 40) mE_40 (vp_in_nI (by omega) (by omega)) (j := d) (nI_clamp (by omega)) dX11_pay_16 ?_
  refine lv_lload_n hx hb dX11_pay_17 rfl (lv_at hl 2 rfl) ?_
  refine lv_lsub hx hb dX11_pay_18 ?_
  refine g_last C B (40) (by decide) (f := S.2.2.2 40) mE_40 (vp_in_nI (by omega) (by omega)) (j := d) (nI_clamp (by omega)) dX11_pay_19 mU_40 (fun H locs B => ?_)
  refine lv_aload_n hx hb dX11_pay_20 rfl (lv_at hl 0 rfl) ?_
  refine lv_dup hx hb dX11_pay_21 rfl ?_
  refine g_get C B (0) (by decide) mE_0 rfl gf_11 28 (by decide) wl_755 (v := .long (S.2.1 28)) mF_28 dX11_pay_22 ?_
  refine lv_lload_n hx hb dX11_pay_25 rfl (lv_at hl 2 rfl) ?_
  refine lv_lsub hx hb dX11_pay_26 ?_
  refine g_put C B (0) (by decide) mE_0 rfl gf_11 tyX11 tyX11_ok nmX11 28 (by decide) wl_755 rfl (ty := .long) (v := .long (S.2.1 28 - v)) (by decide +kernel) rfl rfl (Nat.le_of_ble_eq_true rfl) dX11_pay_27 mO_28 (fun H locs B => ?_)
  refine lv_aload_n hx hb dX11_pay_30 rfl (lv_at hl 0 rfl) ?_
  refine lv_dup hx hb dX11_pay_31 rfl ?_
  refine g_get C B (0) (by decide) mE_0 rfl gf_11 30 (by decide) wl_757 (v := .long (S.2.1 30)) mF_30 dX11_pay_32 ?_
  refine lv_lload_n hx hb dX11_pay_35 rfl (lv_at hl 2 rfl) ?_
  refine lv_ladd hx hb dX11_pay_36 ?_
  refine g_put C B (0) (by decide) mE_0 rfl gf_11 tyX11 tyX11_ok nmX11 30 (by decide) wl_757 rfl (ty := .long) (v := .long (S.2.1 30 + v)) (by decide +kernel) rfl rfl (Nat.le_of_ble_eq_true rfl) dX11_pay_37 mO_30 (fun H locs B => ?_)
  refine lv_aload_n hx hb dX11_pay_40 rfl (lv_at hl 0 rfl) ?_
  refine g_get C B (0) (by decide) mE_0 rfl gf_11 33 (by decide) wl_760 (v := .ref (α 33)) mF_33 dX11_pay_41 ?_
  refine lv_aload_n hx hb dX11_pay_44 rfl (lv_at hl 0 rfl) ?_
  refine lv_iload_n hx hb dX11_pay_45 rfl (lv_at hl 1 rfl) ?_
  refine lv_aload_n hx hb dX11_pay_46 rfl (lv_at hl 0 rfl) ?_
  refine g_get C B (0) (by decide) mE_0 rfl gf_11 0 (by decide) wl_727 (v := .int (S.1 0)) mF_0 dX11_pay_47 ?_
  refine gc_i (gr_V C B (k := 0) (As := [.int (nI d), .int (S.1 0)]) (rest := [.ref (α 33)]) (c_X11_holderIn l D G τ α (uJ (uJ (uB (uB S 23 (vp_updL (S.2.2.2 23) d ((S.2.2.2 23 d) + v))) 40 (vp_updL (S.2.2.2 40) d ((S.2.2.2 40 d) - v))) 28 (S.2.1 28 - v)) 30 (S.2.1 30 + v)) _ d (S.1 0) (by omega) (okS_7 hs)) (by decide) mE_0 rfl wl_903 wl_905 wl_23 wl_40 wl_906 (na := 2) (by decide +kernel) rfl ⟨Nat.le_of_ble_eq_true rfl, Nat.le_of_ble_eq_true rfl⟩ ⟨Nat.le_of_ble_eq_true rfl, Nat.le_of_ble_eq_true rfl⟩ hl.1 rfl (Nat.le_of_ble_eq_true rfl) dX11_pay_50) (fun r h => ?_)
  subst h
  rw [sHold_c (S := S) (T := (uJ (uJ (uB (uB S 23 (vp_updL (S.2.2.2 23) d ((S.2.2.2 23 d) + v))) 40 (vp_updL (S.2.2.2 40) d ((S.2.2.2 40 d) - v))) 28 (S.2.1 28 - v)) 30 (S.2.1 30 + v))) rfl rfl rfl]
  refine lv_dup2_11 hx hb dX11_pay_53 rfl rfl ?_
  refine g_lald C B (33) (by decide) (f := S.2.2.2 33) mE_33 (by rw [hh9.1]; exact vp_rng hh9.2 (by decide) (by decide)) (j := (sHold S d (S.1 0)).toNatClampNeg) rfl dX11_pay_54 ?_
  refine lv_lload_n hx hb dX11_pay_55 rfl (lv_at hl 2 rfl) ?_
  refine lv_ladd hx hb dX11_pay_56 ?_
  refine g_last C B (33) (by decide) (f := S.2.2.2 33) mE_33 (by rw [hh9.1]; exact vp_rng hh9.2 (by decide) (by decide)) (j := (sHold S d (S.1 0)).toNatClampNeg) rfl dX11_pay_57 mU_33 (fun H locs B => ?_)
  exact ge_wv C B hr hlk (rfl) dX11_pay_58
