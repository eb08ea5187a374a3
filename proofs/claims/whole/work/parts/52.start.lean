theorem lw_stat {args : Array Value} {s : State} {n : String} {f : Nat → Int32} {A : Nat → Prop} (hl : (Cond.laysStatic RX1 n "[I").before args s = true) (hini : (Cond.initialized RX1).before args s = true) (harr : (Cond.arrayOf (.static RX1 n "[I") .int).before args s = true) (hlen : (Cond.eq (.length (.static RX1 n "[I")) (.int 6)).before args s = true) (hel : ∀ j, j < 6 → (Cond.eq (.elem (.static RX1 n "[I") (.int (Int32.ofNat j))) (.int (f j))).before args s = true) (hA : ∀ a : Nat, a < s.heap.size → ¬ A a) : ∃ t : Nat, va_Z RX1 n "[I" (.ref t) A s s.heap ∧ va_T .int t 6 (fun j => .int (f j)) A s s.heap := by
  obtain ⟨t, h1, h2⟩ := va_Tof (N := 6) (f := fun j => .int (f j)) (by decide) harr (va_eqt hlen) (fun j hj => va_eqt (hel j hj)) hA
  exact ⟨t, va_Zof hl hini h1 hA, h2⟩
theorem gNs_tbl : ∀ w ∈ gNs, w ∈ lw_tbl := by
  intro w hw
  simp only [gNs, List.mem_cons, List.not_mem_nil, or_false] at hw
  rcases hw with rfl | rfl | rfl | rfl | rfl | rfl | rfl | rfl | rfl | rfl | rfl | rfl | rfl | rfl <;> decide +kernel
theorem gNs_on : ∀ w ∈ gNs, w.onTables = true := by
  intro w hw
  simp only [gNs, List.mem_cons, List.not_mem_nil, or_false] at hw
  rcases hw with rfl | rfl | rfl | rfl | rfl | rfl | rfl | rfl | rfl | rfl | rfl | rfl | rfl | rfl <;> rfl
set_option maxHeartbeats 4000000 in
set_option maxRecDepth 100000 in
theorem whole_start {p : Program} {e : Env} {s : State} {m : MethodId} {below : List Frame} {meth : Method} {c : Code} (l : Launch) {b L : Nat} {xs : Nat → Int32} (hL : L ≤ 3072) (C0 : lw_At p s m meth c b L xs) : W p l e room_1 s m #[Value.ref b] below meth c s.heap [] 0 0 (lw_Z below #[Value.ref b] s) (entryFrame m ([Value.ref b] : List Value).toArray 4) := by
  obtain ⟨hx, hb, hr, hml, hown, hts, hX, hbl, hlocks, hgv⟩ := id C0
  have C : CallFix p m c cL_law 4 s #[Value.ref b] gL RL := ⟨hx, hb, hml, hown, fun w h => hts w (gL_tbl w h)⟩
  have hs := flat_of_before _ hgv
  have hg : ∀ w ∈ gL, w.before #[Value.ref b] s = true := fun w h => hts w (gL_tbl w h)
  obtain ⟨c0, i0, k0⟩ := u_known (C := RX0) (T := TX0) (N := 7) (n := 7) hg gf_0 (hg _ wl_90)
  obtain ⟨c1, i1, k1⟩ := u_known (C := RX1) (T := TX1) (N := 5) (n := 5) hg gf_1 (hg _ wl_64)
  obtain ⟨c2, i2, k2⟩ := u_known (C := RX2) (T := TX2) (N := 16) (n := 16) hg gf_2 (hg _ wl_485)
  obtain ⟨c3, i3, k3⟩ := u_known (C := RX3) (T := TX3) (N := 2) (n := 2) hg gf_3 (hg _ wl_120)
  obtain ⟨c4, i4, k4⟩ := u_known (C := RX4) (T := TX4) (N := 2) (n := 2) hg gf_4 (hg _ wl_137)
  obtain ⟨c5, i5, k5⟩ := u_known (C := RX5) (T := TX5) (N := 1) (n := 1) hg gf_5 (hg _ wl_52)
  obtain ⟨c6, i6, k6⟩ := u_known (C := RX6) (T := TX6) (N := 3) (n := 3) hg gf_6 (hg _ wl_196)
  obtain ⟨c7, i7, k7⟩ := u_known (C := RX7) (T := TX7) (N := 4) (n := 4) hg gf_7 (hg _ wl_150)
  obtain ⟨c8, i8, k8⟩ := u_known (C := RX8) (T := TX8) (N := 4) (n := 4) hg gf_8 (hg _ wl_175)
  obtain ⟨c9, i9, k9⟩ := u_known (C := RX9) (T := TX9) (N := 2) (n := 2) hg gf_9 (hg _ wl_212)
  obtain ⟨c10, i10, k10⟩ := u_known (C := RX10) (T := TX10) (N := 11) (n := 11) hg gf_10 (hg _ wl_44)
  obtain ⟨c11, i11, k11⟩ := u_known (C := RX11) (T := TX11) (N := 43) (n := 43) hg gf_11 (hg _ wl_722)
  obtain ⟨D, hD⟩ : ∃ D : va_G, ∀ (k : Nat) (q : vw_C), vwCl[k]? = some q → u_Kn s q.1 q.2.1 q.2.2 (D.1 k) (D.2 k) := by
    refine ⟨(fun k => match k with | 0 => c0 | 1 => c1 | 2 => c2 | 3 => c3 | 4 => c4 | 5 => c5 | 6 => c6 | 7 => c7 | 8 => c8 | 9 => c9 | 10 => c10 | _ => c11, fun k => match k with | 0 => i0 | 1 => i1 | 2 => i2 | 3 => i3 | 4 => i4 | 5 => i5 | 6 => i6 | 7 => i7 | 8 => i8 | 9 => i9 | 10 => i10 | _ => i11), ?_⟩
    intro k q hq
    match k, hq with
    | 0, hq => cases hq; exact k0
    | 1, hq => cases hq; exact k1
    | 2, hq => cases hq; exact k2
    | 3, hq => cases hq; exact k3
    | 4, hq => cases hq; exact k4
    | 5, hq => cases hq; exact k5
    | 6, hq => cases hq; exact k6
    | 7, hq => cases hq; exact k7
    | 8, hq => cases hq; exact k8
    | 9, hq => cases hq; exact k9
    | 10, hq => cases hq; exact k10
    | 11, hq => cases hq; exact k11
    | k + 12, hq => simp at hq
  obtain ⟨a0, ka0, m0, f0, g0, e0⟩ := Cond.arrayClass_spec (hg _ wl_62)
  obtain ⟨a1, ka1, m1, f1, g1, e1⟩ := Cond.arrayClass_spec (hg _ wl_173)
  obtain ⟨a2, ka2, m2, f2, g2, e2⟩ := Cond.arrayClass_spec (hg _ wl_857)
  have hover : (Cond.arrayOver (.object RX2)).before #[Value.ref b] s = true := hts _ (by decide +kernel)
  obtain ⟨m3, a3, ka3, v1, _, v3, v4, v5⟩ := Cond.arrayOver_spec hover
  obtain ⟨G, hG⟩ : ∃ G : Nat → ClassId, va_K D vwCl (gT G) s := by
    refine ⟨fun k => match k with | 0 => a0 | 1 => a1 | 2 => a2 | _ => a3, hD, ?_⟩
    intro k q hk
    match k, hk with
    | 0, hk => cases hk; exact ⟨fun n z => ⟨fun k h => (by cases h), ka0, g0, m0, e0⟩, f0⟩
    | 1, hk => cases hk; exact ⟨fun n z => ⟨fun k h => (by cases h), ka1, g1, m1, e1⟩, f1⟩
    | 2, hk => cases hk; exact ⟨fun n z => ⟨fun k h => (by cases h), ka2, g2, m2, e2⟩, f2⟩
    | 3, hk => cases hk; exact ⟨fun n z => ⟨fun k h => (by cases h), ka3, v3, m3, v4⟩, ka3, m3, v3, v4, v1, v5⟩
    | k + 4, hk => simp [gT] at hk
  have hA : ∀ a : Nat, a < s.heap.size → ¬ aL s a := fun a h => Nat.not_le.mpr h
  obtain ⟨t0, z0⟩ := lw_stat (n := "LEAST_VALUE") (f := gf0) (A := aL s) (hts _ (by decide +kernel)) (hg _ wl_31) (hs _ (by decide +kernel)) (hs _ (by decide +kernel)) (fun j hj => by
    rcases (show j = 0 ∨ j = 1 ∨ j = 2 ∨ j = 3 ∨ j = 4 ∨ j = 5 by omega) with rfl | rfl | rfl | rfl | rfl | rfl <;> exact hs _ (by decide +kernel)) hA
  obtain ⟨t1, z1⟩ := lw_stat (n := "MOST_VALUE") (f := gf1) (A := aL s) (hts _ (by decide +kernel)) (hg _ wl_31) (hs _ (by decide +kernel)) (hs _ (by decide +kernel)) (fun j hj => by
    rcases (show j = 0 ∨ j = 1 ∨ j = 2 ∨ j = 3 ∨ j = 4 ∨ j = 5 by omega) with rfl | rfl | rfl | rfl | rfl | rfl <;> exact hs _ (by decide +kernel)) hA
  obtain ⟨t2, z2⟩ := lw_stat (n := "WITHOUT_ONE") (f := gf2) (A := aL s) (hts _ (by decide +kernel)) (hg _ wl_31) (hs _ (by decide +kernel)) (hs _ (by decide +kernel)) (fun j hj => by
    rcases (show j = 0 ∨ j = 1 ∨ j = 2 ∨ j = 3 ∨ j = 4 ∨ j = 5 by omega) with rfl | rfl | rfl | rfl | rfl | rfl <;> exact hs _ (by decide +kernel)) hA
  obtain ⟨τ, hZ⟩ : ∃ τ : Nat → Nat, gZ τ (aL s) s s.heap := ⟨fun k => match k with | 0 => t0 | 1 => t1 | _ => t2, z0, z1, z2⟩
  have X : gR D G τ (aL s) s s.heap [] [] := ⟨⟨fun w hw => va_Nw.of (gNs_on w hw) (hts w (gNs_tbl w hw)), va_AO.of hover, hG, hZ⟩, fun k q h => by simp at h, ⟨fun i j p q h => by simp at h, fun k q h => by simp at h⟩, va_S.rf, fun _ h => h⟩
  have hl := lv_entry ([.ref b]) (n := 4) (Nat.le_of_ble_eq_true rfl)
  rw [lg_entry_eq]
  generalize (lg_sl ([.ref b]) ++ List.replicate (4 - (lg_sl ([.ref b])).length) Slot.unset).toArray = ls at hl ⊢
  have hl : lv_has ls 4 [(0, .ref b)] := hl
  refine g_new C X (ci := 10) (fs := [.null, .null, .null, .null, .null, .null, .null, .null, .null, .null, .int 0]) rfl gf_10 tyX10 tyX10_ok wl_43 wl_44 wl_29 df_10 (Nat.le_of_ble_eq_true rfl) (Nat.le_of_ble_eq_true rfl) dL_law_0 (fun q H X => ?_)
  refine lv_dup hx hb dL_law_3 rfl ?_
  have X : gR D G τ (aL s) s H _ ([] ++ (gw (ga [q]) (ge [.inr (10, [.null, .null, .null, .null, .null, .null, .null, .null, .null, .null, .int 0])]) [0])) := X
  refine gx_v X (gr_I C X.sub (b := q) (As := []) (rest := [.ref q]) (c_X10_init l D G τ q _) wl_45 wl_46 wl_29 wl_47 rfl (na := 0) (by decide +kernel) rfl ⟨Nat.le_of_ble_eq_true rfl, Nat.le_of_ble_eq_true rfl⟩ ⟨Nat.le_of_ble_eq_true rfl, Nat.le_of_ble_eq_true rfl⟩ hl.1 rfl (Nat.le_of_ble_eq_true rfl) dL_law_4) (fun u h H locs X => ?_)
  obtain ⟨α, hα, ha0⟩ := h
  have X : gR D G τ (aL s) s H locs (gw α (cE G α S0 J0 0) (Lc 0)) := by rw [← hα]; exact X
  refine lv_astore_n (lv' := [(1, .ref q), (0, .ref b)]) hx hb dL_law_7 rfl hl (by decide) rfl (fun ls hl => ?_)
  refine g_new C X (ci := 11) (fs := [.int 0, .null, .int 0, .null, .null, .null, .null, .null, .int 0, .null, .int 0, .null, .null, .null, .null, .int 0, .null, .null, .null, .null, .null, .null, .null, .null, .null, .null, .null, .null, .long 0, .long 0, .long 0, .long 0, .int 0, .null, .null, .null, .null, .int 0, .null, .null, .null, .long 0, .long 0]) rfl gf_11 tyX11 tyX11_ok wl_721 wl_722 wl_40 df_11 (Nat.le_of_ble_eq_true rfl) (Nat.le_of_ble_eq_true rfl) dL_law_8 (fun q2 H X => ?_)
  refine lv_dup hx hb dL_law_11 rfl ?_
  have X : gR D G τ (aL s) s H _ (gw α (cE G α S0 J0 0) (Lc 0) ++ (gw (ga [q2]) (ge [.inr (11, [.int 0, .null, .int 0, .null, .null, .null, .null, .null, .int 0, .null, .int 0, .null, .null, .null, .null, .int 0, .null, .null, .null, .null, .null, .null, .null, .null, .null, .null, .null, .null, .long 0, .long 0, .long 0, .long 0, .int 0, .null, .null, .null, .null, .int 0, .null, .null, .null, .long 0, .long 0])]) [0])) := X
  refine gx_v X (gr_I C X.sub (b := q2) (As := []) (rest := [.ref q2]) (c_X11_init l D G τ q2 _) wl_723 wl_724 wl_40 wl_725 rfl (na := 0) (by decide +kernel) rfl ⟨Nat.le_of_ble_eq_true rfl, Nat.le_of_ble_eq_true rfl⟩ ⟨Nat.le_of_ble_eq_true rfl, Nat.le_of_ble_eq_true rfl⟩ hl.1 rfl (Nat.le_of_ble_eq_true rfl) dL_law_12) (fun u h H locs X => ?_)
  obtain ⟨β, hβ, hb0⟩ := h
  have X : gR D G τ (aL s) s H locs (gw β (mE G β S0) Lm ++ gw α (cE G α S0 J0 0) (Lc 0)) := by rw [← hβ]; exact X.swap
  refine lv_astore_n (lv' := [(2, .ref q2), (1, .ref q), (0, .ref b)]) hx hb dL_law_15 rfl hl (by decide) rfl (fun ls hl => ?_)
  refine lv_iconst (v := 0) hx hb dL_law_16 (by decide) ?_
  refine lv_istore_n (lv' := [(3, .int 0), (2, .ref q2), (1, .ref q), (0, .ref b)]) hx hb dL_law_17 rfl hl (by decide) rfl (fun ls hl => ?_)
  have hl : lv_has ls 4 [(3, .int (nI (6 * 0))), (0, .ref b), (1, .ref (α 0)), (2, .ref (β 0))] := by rw [ha0, hb0]; exact lv_sub hl [0, 3, 2, 1] rfl
  exact W.widen (by decide) (by decide) (law_loop hL C0 513 0 S0 J0 0 α β H locs ls (by omega) (by omega) Ok_S0 ⟨rfl, by decide, fun i hi => absurd hi (Nat.not_lt_zero _)⟩ X hl)
