/-! ===== a month goes, as the reference goes: the roll, the payments, the rest, the ends ===== -/
def sOwe (S : St) (d f : Nat) : Int64 := if 0 ≤ sDue S d f (S.1 0) - S.2.2.2 23 d then sDue S d f (S.1 0) - S.2.2.2 23 d else 0
/-- what deposit d is owed on the roll, if it comes to it -/
def sRoll (S : St) (d : Nat) : Option Int64 := if S.2.2.1 24 d = 0 then (match sFall S d (S.1 0) with
  | none => none
  | some f => if sDueM S f (S.1 0) ≤ S.1 0 then some (sOwe S d f) else none) else none
def r1 (S : St) : Nat → St × Int64
  | 0 => (uI S 32 0, 0)
  | k + 1 => match sRoll S k with
    | none => (uA (r1 S k).1 39 (upd ((r1 S k).1.2.2.1 39) k 0), (r1 S k).2)
    | some v => (uI (uB (uA (r1 S k).1 39 (upd ((r1 S k).1.2.2.1 39) k 1)) 40 (vp_updL ((r1 S k).1.2.2.2 40) k v)) 32 ((r1 S k).1.1 32 + 1), (r1 S k).2 + v)
def p2 (T : St) (w : Int32) (has all : Int64) : Nat → St
  | 0 => T
  | k + 1 => if (p2 T w has all k).2.2.1 39 k = 0 then p2 T w has all k else sPay (p2 T w has all k) k (if w = 0 then (p2 T w has all k).2.2.2 40 k * has / all else (p2 T w has all k).2.2.2 40 k)
def p3 (T : St) : Nat → St
  | 0 => T
  | k + 1 => if (p3 T k).2.2.1 39 k = 0 then p3 T k else if (p3 T k).2.2.2 40 k ≤ 0 then p3 T k else if (p3 T k).2.1 28 ≤ 0 then p3 T k else sPay (p3 T k) k 1
def p4 (T : St) : Nat → St
  | 0 => T
  | k + 1 => if (p4 T k).2.2.1 39 k = 0 then p4 T k else uJ (uA (p4 T k) 24 (upd ((p4 T k).2.2.1 24) k (if (p4 T k).2.2.2 40 k = 0 then 1 else 0))) 31 ((p4 T k).2.1 31 + (p4 T k).2.2.2 40 k)
def fin4 (n : Nat) (T : St) : St := uI (p4 T n) 0 ((p4 T n).1 0 + 1)
def fin3 (n : Nat) (w : Int32) (T : St) : St := fin4 n (uJ (if w = 0 then p3 T n else T) 31 0)
def fin2 (n : Nat) (w : Int32) (has all : Int64) (T : St) : St := fin3 n w (p2 T w has all n)
def sGo (S : St) : St := fin2 (nOf S 15) (if (r1 S (nOf S 15)).2 ≤ (r1 S (nOf S 15)).1.2.1 28 then 1 else 0) ((r1 S (nOf S 15)).1.2.1 28) (r1 S (nOf S 15)).2 (r1 S (nOf S 15)).1
/-- the same but for the roll's own rows -/
def eq1 (S T : St) : Prop := (∀ j, j ≠ 32 → T.1 j = S.1 j) ∧ T.2.1 = S.2.1 ∧ (∀ j, j ≠ 39 → T.2.2.1 j = S.2.2.1 j) ∧ (∀ j, j ≠ 40 → T.2.2.2 j = S.2.2.2 j)
theorem r1_eq (S : St) : ∀ k, eq1 S (r1 S k).1
  | 0 => ⟨fun j h => by simp [r1, uI, va_up, h], rfl, fun j h => rfl, fun j h => rfl⟩
  | k + 1 => by
    obtain ⟨h1, h2, h3, h4⟩ := r1_eq S k
    rw [r1]
    split
    · exact ⟨h1, h2, fun j h => by simp [uA, va_up, h, h3 j h], h4⟩
    · exact ⟨fun j h => by simp [uI, uB, uA, va_up, h, h1 j h], h2, fun j h => by simp [uI, uB, uA, va_up, h, h3 j h], fun j h => by simp [uI, uB, uA, va_up, h, h4 j h]⟩
theorem eq1_same {S T : St} (h : eq1 S T) : sameT S T := ⟨h.1 _ (by decide), h.1 _ (by decide), h.2.2.1 _ (by decide), h.2.2.1 _ (by decide), h.2.2.1 _ (by decide), h.2.2.1 _ (by decide), h.2.2.1 _ (by decide), h.2.2.1 _ (by decide), h.2.2.1 _ (by decide), h.2.2.1 _ (by decide), h.2.2.1 _ (by decide), h.2.2.1 _ (by decide), h.2.2.1 _ (by decide), h.2.2.1 _ (by decide), h.2.2.1 _ (by decide), h.2.2.1 _ (by decide), h.2.2.2 _ (by decide)⟩
theorem eq1_N {S T : St} (h : eq1 S T) (q : okN S) : okN T := by
  obtain ⟨h1, h2, h3, h4⟩ := h
  unfold okN
  rw [h1 0 (by decide), h1 2 (by decide), h1 8 (by decide), h1 10 (by decide), h1 15 (by decide), h1 37 (by decide)]
  exact q
theorem eq1_D {S T : St} (h : eq1 S T) (q : okD S) : okD T := by
  obtain ⟨h1, h2, h3, h4⟩ := h
  unfold okD
  rw [nOf, h1 2 (by decide), h1 0 (by decide), h3 3 (by decide), h3 4 (by decide), h3 5 (by decide), h3 6 (by decide)]
  exact q
theorem okS_c {S T : St} {k : Nat} (h0 : T.1 0 = S.1 0) (h22 : T.2.2.1 22 = S.2.2.1 22) (h25 : T.2.2.1 25 = S.2.2.1 25) (h26 : T.2.2.1 26 = S.2.2.1 26) (h27 : T.2.2.1 27 = S.2.2.1 27) (q : okS S k) : okS T k := by
  unfold okS
  rw [h0, h22, h25, h26, h27]
  exact q
theorem eq1_P {S T : St} (h : eq1 S T) (q : okP S) : okP T := by
  obtain ⟨h1, h2, h3, h4⟩ := h
  intro k hk
  rw [nOf, h1 15 (by decide)] at hk
  have q9 := q k hk
  rw [h1 0 (by decide), h3 16 (by decide), h3 17 (by decide), h3 18 (by decide), h3 19 (by decide), h3 22 (by decide), h3 24 (by decide), h4 20 (by decide), h4 23 (by decide)]
  exact ⟨q9.1, q9.2.1, q9.2.2.1, q9.2.2.2.1, q9.2.2.2.2.1, q9.2.2.2.2.2.1, q9.2.2.2.2.2.2.1, q9.2.2.2.2.2.2.2.1, q9.2.2.2.2.2.2.2.2.1, okS_c (h1 0 (by decide)) (h3 22 (by decide)) (h3 25 (by decide)) (h3 26 (by decide)) (h3 27 (by decide)) q9.2.2.2.2.2.2.2.2.2⟩
theorem sRoll_c {S T : St} (h : eq1 S T) (d : Nat) : sRoll T d = sRoll S d := by
  have hs := eq1_same h
  obtain ⟨h1, h2, h3, h4⟩ := h
  rw [sRoll, sRoll, h3 24 (by decide), h1 0 (by decide), sFall_c hs]
  congr 1
  split
  · rfl
  · rw [sDueM_c hs, sOwe, sOwe, h1 0 (by decide), sDue_c hs, h4 23 (by decide)]
theorem same39 (S : St) (f : Nat → Int32) : sameT S (uA S 39 f) := ⟨rfl, rfl, rfl, rfl, rfl, rfl, rfl, rfl, rfl, rfl, rfl, rfl, rfl, rfl, rfl, rfl, rfl⟩
def good (n : Nat) (T : St) : Prop := T.1 15 = nI n ∧ ∀ d, d < n → okS T d
theorem good_c {n : Nat} {S T : St} (h1 : T.1 = S.1) (h2 : T.2.2.1 = S.2.2.1) (q : good n S) : good n T := by
  refine ⟨by rw [h1]; exact q.1, fun d hd => okS_c (by rw [h1]) (by rw [h2]) (by rw [h2]) (by rw [h2]) (by rw [h2]) (q.2 d hd)⟩
theorem p2_c (T : St) (w : Int32) (has all : Int64) : ∀ k, (p2 T w has all k).1 = T.1 ∧ (p2 T w has all k).2.2.1 = T.2.2.1
  | 0 => ⟨rfl, rfl⟩
  | k + 1 => by
    have h := p2_c T w has all k
    rw [p2]
    split
    · exact h
    · exact h
theorem p3_c (T : St) : ∀ k, (p3 T k).1 = T.1 ∧ (p3 T k).2.2.1 = T.2.2.1
  | 0 => ⟨rfl, rfl⟩
  | k + 1 => by
    have h := p3_c T k
    rw [p3]
    split
    · exact h
    · split
      · exact h
      · split
        · exact h
        · exact h
theorem p4_c (T : St) : ∀ k, (p4 T k).1 = T.1
  | 0 => rfl
  | k + 1 => by
    have h := p4_c T k
    rw [p4]
    split
    · exact h
    · exact h
set_option maxHeartbeats 4000000 in
set_option maxRecDepth 100000 in
theorem c_X11_goOn (l : Launch) (D : va_G) (G : Nat → ClassId) (τ α : Nat → Nat) (S : St) (sz : Nat) (hN : okN S) (hD : okD S) (hP : okP S) (hM : okM S) : Wv l D G τ yX11_goOn cX11_goOn 7 none 3 0 0 [.ref (α 0)] α (mE G α S) Lm sz (fun u => u = (α, mE G α (sGo S), Lm)) := by
  refine gM _ (by decide) rfl (Nat.le_of_ble_eq_true rfl) ?_
  intro p e s m below meth c ls C hr hlk hnm hsz B hl
  have hx := C.1
  have hb := C.2.1
  have hl : lv_has ls 7 [(0, .ref (α 0))] := hl
  have hNl : nOf S 15 ≤ 30 := nOf_le hN.2.2.2.2.1.1 hN.2.2.2.2.1.2 (by decide)
  obtain ⟨N, hN9⟩ : ∃ N, N = nOf S 15 := ⟨_, rfl⟩
  rw [← hN9] at hNl
  have hNe : S.1 15 = nI N := by rw [hN9]; exact nOf_eq hN.2.2.2.2.1.1
  have loop4 : ∀ (nn kk : Nat) (T0 : St) (Q : St) (H : Heap) (locs : List Loc) (ls : Array Slot), nn + kk = N → (Q = p4 T0 kk ∧ good N T0 ∧ fin4 N T0 = sGo S) → gB D G τ (gA α Lm sz) s H locs α (mE G α Q) Lm → lv_has ls 7 [(6, .int (nI kk)), (0, .ref (α 0))] → W p l e (rmd 3 0 0) s m [.ref (α 0)].toArray below meth c H locs 0 0 (MQ below (va_Qv (fun u => u = (α, mE G α (sGo S), Lm)) (gAt D (gA α Lm sz)) (gA α Lm sz)) [.ref (α 0)].toArray s 0 0 (gA α Lm sz)) (F0 m 294 ls []) := by
    intro nn
    induction nn with
    | zero =>
      intro kk T0 Q H locs ls hk hI B hl
      have hq9 : Q.1 15 = nI N := by rw [hI.1, p4_c]; exact hI.2.1.1
      refine lv_iload hx hb dX11_goOn_294 (lv_at hl 0 rfl) ?_
      refine lv_aload_n hx hb dX11_goOn_296 rfl (lv_at hl 1 rfl) ?_
      refine g_get C B (0) (by decide) mE_0 rfl gf_11 15 (by decide) wl_742 (v := .int (Q.1 15)) mF_15 dX11_goOn_297 ?_
      refine lv_icmp_ge (tgt := 359) hx hb dX11_goOn_300 (by decide) (fun _ => ?_) (fun hc => absurd (by rw [hq9]; exact nI_le (by omega) (by omega)) hc)
      refine lv_aload_n hx hb dX11_goOn_359 rfl (lv_at hl 1 rfl) ?_
      refine lv_dup hx hb dX11_goOn_360 rfl ?_
      refine g_get C B (0) (by decide) mE_0 rfl gf_11 0 (by decide) wl_727 (v := .int (Q.1 0)) mF_0 dX11_goOn_361 ?_
      refine lv_iconst (v := 1) hx hb dX11_goOn_364 (by decide) ?_
      refine lv_iadd hx hb dX11_goOn_365 ?_
      refine g_put C B (0) (by decide) mE_0 rfl gf_11 tyX11 tyX11_ok nmX11 0 (by decide) wl_727 rfl (ty := .int) (v := .int (Q.1 0 + 1)) (by decide +kernel) rfl rfl (Nat.le_of_ble_eq_true rfl) dX11_goOn_366 mO_0 (fun H locs B => ?_)
      exact ge_wv C B hr hlk (by rw [← hI.2.2, fin4, show N = kk by omega, ← hI.1]) dX11_goOn_369
    | succ nn ih =>
      intro kk T0 Q H locs ls hk hI B hl
      have hq9 : Q.1 15 = nI N := by rw [hI.1, p4_c]; exact hI.2.1.1
      refine lv_iload hx hb dX11_goOn_294 (lv_at hl 0 rfl) ?_
      refine lv_aload_n hx hb dX11_goOn_296 rfl (lv_at hl 1 rfl) ?_
      refine g_get C B (0) (by decide) mE_0 rfl gf_11 15 (by decide) wl_742 (v := .int (Q.1 15)) mF_15 dX11_goOn_297 ?_
      refine lv_icmp_ge (tgt := 359) hx hb dX11_goOn_300 (by decide) (fun hc => absurd hc (by rw [hq9]; exact nI_ge (by omega) (by omega))) (fun _ => ?_)
      refine lv_aload_n hx hb dX11_goOn_303 rfl (lv_at hl 1 rfl) ?_
      refine g_get C B (0) (by decide) mE_0 rfl gf_11 39 (by decide) wl_766 (v := .ref (α 39)) mF_39 dX11_goOn_304 ?_
      refine lv_iload hx hb dX11_goOn_307 (lv_at hl 0 rfl) ?_
      refine g_zald C B (39) (by decide) (f := Q.2.2.1 39) mE_39 (vp_in_nI (by omega) (by omega)) (j := kk) (nI_clamp (by omega)) dX11_goOn_309 ?_
      refine lv_if_eq (tgt := 353) hx hb dX11_goOn_310 (by decide) (fun c1 => ?_) (fun c1 => ?_)
      · refine lv_iinc (v := ((nI kk) + 1)) (lv' := [(6, .int ((nI kk) + 1)), (0, .ref (α 0))]) hx hb dX11_goOn_353 hl (k := 0) rfl rfl (by decide) rfl (fun ls hl => ?_)
        refine lv_goto (tgt := 294) hx hb dX11_goOn_356 (by decide) ?_
        exact ih (kk + 1) T0 Q H locs ls (by omega) (by refine ⟨?_, hI.2⟩; rw [p4, ← hI.1, if_pos c1]) B (by have h9 := lv_sub (l' := [(6, .int ((nI kk) + 1)), (0, .ref (α 0))]) hl [0, 1] rfl; rw [nI_1] at h9; exact h9)
      · refine lv_aload_n hx hb dX11_goOn_313 rfl (lv_at hl 1 rfl) ?_
        refine g_get C B (0) (by decide) mE_0 rfl gf_11 24 (by decide) wl_751 (v := .ref (α 24)) mF_24 dX11_goOn_314 ?_
        refine lv_iload hx hb dX11_goOn_317 (lv_at hl 0 rfl) ?_
        refine lv_aload_n hx hb dX11_goOn_319 rfl (lv_at hl 1 rfl) ?_
        refine g_get C B (0) (by decide) mE_0 rfl gf_11 40 (by decide) wl_767 (v := .ref (α 40)) mF_40 dX11_goOn_320 ?_
        refine lv_iload hx hb dX11_goOn_323 (lv_at hl 0 rfl) ?_
        refine g_lald C B (40) (by decide) (f := Q.2.2.2 40) mE_40 (vp_in_nI (by omega) (by omega)) (j := kk) (nI_clamp (by omega)) dX11_goOn_325 ?_
        refine lv_lconst (v := 0) hx hb dX11_goOn_326 (by decide) ?_
        refine gl_ne (tgt := 335) hx hb dX11_goOn_327 dX11_goOn_328 (by decide) (fun c2 => ?_) (fun c2 => ?_)
        · refine lv_iconst (v := 0) hx hb dX11_goOn_335 (by decide) ?_
          refine g_zast C B (24) (by decide) (f := Q.2.2.1 24) mE_24 (vp_in_nI (by omega) (by omega)) (j := kk) (nI_clamp (by omega)) dX11_goOn_336 mU_24 (fun H locs B => ?_)
          refine lv_aload_n hx hb dX11_goOn_337 rfl (lv_at hl 1 rfl) ?_
          refine lv_dup hx hb dX11_goOn_338 rfl ?_
          refine g_get C B (0) (by decide) mE_0 rfl gf_11 31 (by decide) wl_758 (v := .long (Q.2.1 31)) mF_31 dX11_goOn_339 ?_
          refine lv_aload_n hx hb dX11_goOn_342 rfl (lv_at hl 1 rfl) ?_
          refine g_get C B (0) (by decide) mE_0 rfl gf_11 40 (by decide) wl_767 (v := .ref (α 40)) mF_40 dX11_goOn_343 ?_
          refine lv_iload hx hb dX11_goOn_346 (lv_at hl 0 rfl) ?_
          refine g_lald C B (40) (by decide) (f := Q.2.2.2 40) mE_40 (vp_in_nI (by omega) (by omega)) (j := kk) (nI_clamp (by omega)) dX11_goOn_348 ?_
          refine lv_ladd hx hb dX11_goOn_349 ?_
          refine g_put C B (0) (by decide) mE_0 rfl gf_11 tyX11 tyX11_ok nmX11 31 (by decide) wl_758 rfl (ty := .long) (v := .long (Q.2.1 31 + (Q.2.2.2 40 kk))) (by decide +kernel) rfl rfl (Nat.le_of_ble_eq_true rfl) dX11_goOn_350 mO_31 (fun H locs B => ?_)
          refine lv_iinc (v := ((nI kk) + 1)) (lv' := [(6, .int ((nI kk) + 1)), (0, .ref (α 0))]) hx hb dX11_goOn_353 hl (k := 0) rfl rfl (by decide) rfl (fun ls hl => ?_)
          refine lv_goto (tgt := 294) hx hb dX11_goOn_356 (by decide) ?_
          exact ih (kk + 1) T0 (uJ (uA Q 24 (upd (Q.2.2.1 24) kk 0)) 31 (Q.2.1 31 + (Q.2.2.2 40 kk))) H locs ls (by omega) (by refine ⟨?_, hI.2⟩; rw [p4, ← hI.1, if_neg c1]; (first | rw [if_pos c2] | rw [if_neg c2])) B (by have h9 := lv_sub (l' := [(6, .int ((nI kk) + 1)), (0, .ref (α 0))]) hl [0, 1] rfl; rw [nI_1] at h9; exact h9)
        · refine lv_iconst (v := 1) hx hb dX11_goOn_331 (by decide) ?_
          refine lv_goto (tgt := 336) hx hb dX11_goOn_332 (by decide) ?_
          refine g_zast C B (24) (by decide) (f := Q.2.2.1 24) mE_24 (vp_in_nI (by omega) (by omega)) (j := kk) (nI_clamp (by omega)) dX11_goOn_336 mU_24 (fun H locs B => ?_)
          refine lv_aload_n hx hb dX11_goOn_337 rfl (lv_at hl 1 rfl) ?_
          refine lv_dup hx hb dX11_goOn_338 rfl ?_
          refine g_get C B (0) (by decide) mE_0 rfl gf_11 31 (by decide) wl_758 (v := .long (Q.2.1 31)) mF_31 dX11_goOn_339 ?_
          refine lv_aload_n hx hb dX11_goOn_342 rfl (lv_at hl 1 rfl) ?_
          refine g_get C B (0) (by decide) mE_0 rfl gf_11 40 (by decide) wl_767 (v := .ref (α 40)) mF_40 dX11_goOn_343 ?_
          refine lv_iload hx hb dX11_goOn_346 (lv_at hl 0 rfl) ?_
          refine g_lald C B (40) (by decide) (f := Q.2.2.2 40) mE_40 (vp_in_nI (by omega) (by omega)) (j := kk) (nI_clamp (by omega)) dX11_goOn_348 ?_
          refine lv_ladd hx hb dX11_goOn_349 ?_
          refine g_put C B (0) (by decide) mE_0 rfl gf_11 tyX11 tyX11_ok nmX11 31 (by decide) wl_758 rfl (ty := .long) (v := .long (Q.2.1 31 + (Q.2.2.2 40 kk))) (by decide +kernel) rfl rfl (Nat.le_of_ble_eq_true rfl) dX11_goOn_350 mO_31 (fun H locs B => ?_)
          refine lv_iinc (v := ((nI kk) + 1)) (lv' := [(6, .int ((nI kk) + 1)), (0, .ref (α 0))]) hx hb dX11_goOn_353 hl (k := 0) rfl rfl (by decide) rfl (fun ls hl => ?_)
          refine lv_goto (tgt := 294) hx hb dX11_goOn_356 (by decide) ?_
          exact ih (kk + 1) T0 (uJ (uA Q 24 (upd (Q.2.2.1 24) kk 1)) 31 (Q.2.1 31 + (Q.2.2.2 40 kk))) H locs ls (by omega) (by refine ⟨?_, hI.2⟩; rw [p4, ← hI.1, if_neg c1]; (first | rw [if_pos c2] | rw [if_neg c2])) B (by have h9 := lv_sub (l' := [(6, .int ((nI kk) + 1)), (0, .ref (α 0))]) hl [0, 1] rfl; rw [nI_1] at h9; exact h9)
  have loop3 : ∀ (nn kk : Nat) (T0 : St) (Q : St) (H : Heap) (locs : List Loc) (ls : Array Slot), nn + kk = N → (Q = p3 T0 kk ∧ good N T0 ∧ fin3 N 0 T0 = sGo S) → gB D G τ (gA α Lm sz) s H locs α (mE G α Q) Lm → lv_has ls 7 [(6, .int (nI kk)), (5, .int 0), (0, .ref (α 0))] → W p l e (rmd 3 0 0) s m [.ref (α 0)].toArray below meth c H locs 0 0 (MQ below (va_Qv (fun u => u = (α, mE G α (sGo S), Lm)) (gAt D (gA α Lm sz)) (gA α Lm sz)) [.ref (α 0)].toArray s 0 0 (gA α Lm sz)) (F0 m 228 ls []) := by
    intro nn
    induction nn with
    | zero =>
      intro kk T0 Q H locs ls hk hI B hl
      have hq8 := p3_c T0 kk
      rw [← hI.1] at hq8
      have hg9 : good N Q := good_c hq8.1 hq8.2 hI.2.1
      refine lv_iload hx hb dX11_goOn_228 (lv_at hl 0 rfl) ?_
      refine lv_aload_n hx hb dX11_goOn_230 rfl (lv_at hl 2 rfl) ?_
      refine g_get C B (0) (by decide) mE_0 rfl gf_11 15 (by decide) wl_742 (v := .int (Q.1 15)) mF_15 dX11_goOn_231 ?_
      refine lv_icmp_ge (tgt := 286) hx hb dX11_goOn_234 (by decide) (fun _ => ?_) (fun hc => absurd (by rw [hg9.1]; exact nI_le (by omega) (by omega)) hc)
      have hf9 : fin4 N (uJ Q 31 0) = sGo S := by rw [← hI.2.2, fin3, if_pos rfl, show N = kk by omega, hI.1]
      refine lv_aload_n hx hb dX11_goOn_286 rfl (lv_at hl 2 rfl) ?_
      refine lv_lconst (v := 0) hx hb dX11_goOn_287 (by decide) ?_
      refine g_put C B (0) (by decide) mE_0 rfl gf_11 tyX11 tyX11_ok nmX11 31 (by decide) wl_758 rfl (ty := .long) (v := .long 0) (by decide +kernel) rfl rfl (Nat.le_of_ble_eq_true rfl) dX11_goOn_288 mO_31 (fun H locs B => ?_)
      refine lv_iconst (v := 0) hx hb dX11_goOn_291 (by decide) ?_
      refine lv_istore (lv' := [(6, .int 0), (5, .int 0), (0, .ref (α 0))]) hx hb dX11_goOn_292 hl (by decide) rfl (fun ls hl => ?_)
      exact loop4 N 0 (uJ Q 31 0) (uJ Q 31 0) H locs ls (by omega) ⟨rfl, good_c rfl rfl hg9, hf9⟩ B (lv_sub hl [0, 2] rfl)
    | succ nn ih =>
      intro kk T0 Q H locs ls hk hI B hl
      have hq8 := p3_c T0 kk
      rw [← hI.1] at hq8
      have hg9 : good N Q := good_c hq8.1 hq8.2 hI.2.1
      refine lv_iload hx hb dX11_goOn_228 (lv_at hl 0 rfl) ?_
      refine lv_aload_n hx hb dX11_goOn_230 rfl (lv_at hl 2 rfl) ?_
      refine g_get C B (0) (by decide) mE_0 rfl gf_11 15 (by decide) wl_742 (v := .int (Q.1 15)) mF_15 dX11_goOn_231 ?_
      refine lv_icmp_ge (tgt := 286) hx hb dX11_goOn_234 (by decide) (fun hc => absurd hc (by rw [hg9.1]; exact nI_ge (by omega) (by omega))) (fun _ => ?_)
      refine lv_iload hx hb dX11_goOn_237 (lv_at hl 1 rfl) ?_
      refine lv_if_ne (tgt := 286) hx hb dX11_goOn_239 (by decide) (fun hc => absurd (by decide) hc) (fun _ => ?_)
      refine lv_aload_n hx hb dX11_goOn_242 rfl (lv_at hl 2 rfl) ?_
      refine g_get C B (0) (by decide) mE_0 rfl gf_11 39 (by decide) wl_766 (v := .ref (α 39)) mF_39 dX11_goOn_243 ?_
      refine lv_iload hx hb dX11_goOn_246 (lv_at hl 0 rfl) ?_
      refine g_zald C B (39) (by decide) (f := Q.2.2.1 39) mE_39 (vp_in_nI (by omega) (by omega)) (j := kk) (nI_clamp (by omega)) dX11_goOn_248 ?_
      refine lv_if_eq (tgt := 280) hx hb dX11_goOn_249 (by decide) (fun c3 => ?_) (fun c3 => ?_)
      · refine lv_iinc (v := ((nI kk) + 1)) (lv' := [(6, .int ((nI kk) + 1)), (5, .int 0), (0, .ref (α 0))]) hx hb dX11_goOn_280 hl (k := 0) rfl rfl (by decide) rfl (fun ls hl => ?_)
        refine lv_goto (tgt := 228) hx hb dX11_goOn_283 (by decide) ?_
        exact ih (kk + 1) T0 Q H locs ls (by omega) (by refine ⟨?_, hI.2⟩; rw [p3, ← hI.1]; (first | rw [if_pos c3] | rw [if_neg c3])) B (by have h9 := lv_sub (l' := [(6, .int ((nI kk) + 1)), (5, .int 0), (0, .ref (α 0))]) hl [0, 1, 2] rfl; rw [nI_1] at h9; exact h9)
      · refine lv_aload_n hx hb dX11_goOn_252 rfl (lv_at hl 2 rfl) ?_
        refine g_get C B (0) (by decide) mE_0 rfl gf_11 40 (by decide) wl_767 (v := .ref (α 40)) mF_40 dX11_goOn_253 ?_
        refine lv_iload hx hb dX11_goOn_256 (lv_at hl 0 rfl) ?_
        refine g_lald C B (40) (by decide) (f := Q.2.2.2 40) mE_40 (vp_in_nI (by omega) (by omega)) (j := kk) (nI_clamp (by omega)) dX11_goOn_258 ?_
        refine lv_lconst (v := 0) hx hb dX11_goOn_259 (by decide) ?_
        refine gl_le (tgt := 280) hx hb dX11_goOn_260 dX11_goOn_261 (by decide) (fun c4 => ?_) (fun c4 => ?_)
        · refine lv_iinc (v := ((nI kk) + 1)) (lv' := [(6, .int ((nI kk) + 1)), (5, .int 0), (0, .ref (α 0))]) hx hb dX11_goOn_280 hl (k := 0) rfl rfl (by decide) rfl (fun ls hl => ?_)
          refine lv_goto (tgt := 228) hx hb dX11_goOn_283 (by decide) ?_
          exact ih (kk + 1) T0 Q H locs ls (by omega) (by refine ⟨?_, hI.2⟩; rw [p3, ← hI.1]; (first | rw [if_pos c3] | rw [if_neg c3]); (first | rw [if_pos c4] | rw [if_neg c4])) B (by have h9 := lv_sub (l' := [(6, .int ((nI kk) + 1)), (5, .int 0), (0, .ref (α 0))]) hl [0, 1, 2] rfl; rw [nI_1] at h9; exact h9)
        · refine lv_aload_n hx hb dX11_goOn_264 rfl (lv_at hl 2 rfl) ?_
          refine g_get C B (0) (by decide) mE_0 rfl gf_11 28 (by decide) wl_755 (v := .long (Q.2.1 28)) mF_28 dX11_goOn_265 ?_
          refine lv_lconst (v := 0) hx hb dX11_goOn_268 (by decide) ?_
          refine gl_le (tgt := 280) hx hb dX11_goOn_269 dX11_goOn_270 (by decide) (fun c5 => ?_) (fun c5 => ?_)
          · refine lv_iinc (v := ((nI kk) + 1)) (lv' := [(6, .int ((nI kk) + 1)), (5, .int 0), (0, .ref (α 0))]) hx hb dX11_goOn_280 hl (k := 0) rfl rfl (by decide) rfl (fun ls hl => ?_)
            refine lv_goto (tgt := 228) hx hb dX11_goOn_283 (by decide) ?_
            exact ih (kk + 1) T0 Q H locs ls (by omega) (by refine ⟨?_, hI.2⟩; rw [p3, ← hI.1]; (first | rw [if_pos c3] | rw [if_neg c3]); (first | rw [if_pos c4] | rw [if_neg c4]); (first | rw [if_pos c5] | rw [if_neg c5])) B (by have h9 := lv_sub (l' := [(6, .int ((nI kk) + 1)), (5, .int 0), (0, .ref (α 0))]) hl [0, 1, 2] rfl; rw [nI_1] at h9; exact h9)
          · refine lv_aload_n hx hb dX11_goOn_273 rfl (lv_at hl 2 rfl) ?_
            refine lv_iload hx hb dX11_goOn_274 (lv_at hl 0 rfl) ?_
            refine lv_lconst (v := 1) hx hb dX11_goOn_276 (by decide) ?_
            refine gc_wv B (gr_V C B (k := 0) (As := [.int (nI kk), .long 1]) (rest := []) (c_X11_pay l D G τ α Q _ kk 1 (by omega) (hg9.2 kk (by omega))) (by decide) mE_0 rfl wl_899 wl_901 wl_22 wl_40 wl_902 (na := 2) (by decide +kernel) rfl ⟨Nat.le_of_ble_eq_true rfl, Nat.le_of_ble_eq_true rfl⟩ ⟨Nat.le_of_ble_eq_true rfl, Nat.le_of_ble_eq_true rfl⟩ hl.1 rfl (Nat.le_of_ble_eq_true rfl) dX11_goOn_277) (fun u h H locs B => ?_)
            subst h
            have B : gB D G τ (gA α Lm sz) s H locs α (mE G α (sPay Q kk 1)) Lm := B
            refine lv_iinc (v := ((nI kk) + 1)) (lv' := [(6, .int ((nI kk) + 1)), (5, .int 0), (0, .ref (α 0))]) hx hb dX11_goOn_280 hl (k := 0) rfl rfl (by decide) rfl (fun ls hl => ?_)
            refine lv_goto (tgt := 228) hx hb dX11_goOn_283 (by decide) ?_
            exact ih (kk + 1) T0 (sPay Q kk 1) H locs ls (by omega) (by refine ⟨?_, hI.2⟩; rw [p3, ← hI.1]; (first | rw [if_pos c3] | rw [if_neg c3]); (first | rw [if_pos c4] | rw [if_neg c4]); (first | rw [if_pos c5] | rw [if_neg c5])) B (by have h9 := lv_sub (l' := [(6, .int ((nI kk) + 1)), (5, .int 0), (0, .ref (α 0))]) hl [0, 1, 2] rfl; rw [nI_1] at h9; exact h9)
  have loop2 : ∀ (nn kk : Nat) (T0 : St) (Q : St) (w : Int32) (has : Int64) (al : Int64) (H : Heap) (locs : List Loc) (ls : Array Slot), nn + kk = N → (Q = p2 T0 w has al kk ∧ good N T0 ∧ fin2 N w has al T0 = sGo S ∧ ((w = 1 ∧ True) ∨ (w = 0 ∧ ¬ al = 0))) → gB D G τ (gA α Lm sz) s H locs α (mE G α Q) Lm → lv_has ls 7 [(6, .int (nI kk)), (5, .int w), (3, .long has), (1, .long al), (0, .ref (α 0))] → W p l e (rmd 3 0 0) s m [.ref (α 0)].toArray below meth c H locs 0 0 (MQ below (va_Qv (fun u => u = (α, mE G α (sGo S), Lm)) (gAt D (gA α Lm sz)) (gA α Lm sz)) [.ref (α 0)].toArray s 0 0 (gA α Lm sz)) (F0 m 168 ls []) := by
    intro nn
    induction nn with
    | zero =>
      intro kk T0 Q w has al H locs ls hk hI B hl
      have hq8 := p2_c T0 w has al kk
      rw [← hI.1] at hq8
      have hg9 : good N Q := good_c hq8.1 hq8.2 hI.2.1
      have dv9 : w = 0 → ¬ al = 0 := fun h9 => hI.2.2.2.elim (fun h8 => absurd (h8.1.symm.trans h9) (by decide)) (fun h8 => h8.2)
      refine lv_iload hx hb dX11_goOn_168 (lv_at hl 0 rfl) ?_
      refine lv_aload_n hx hb dX11_goOn_170 rfl (lv_at hl 4 rfl) ?_
      refine g_get C B (0) (by decide) mE_0 rfl gf_11 15 (by decide) wl_742 (v := .int (Q.1 15)) mF_15 dX11_goOn_171 ?_
      refine lv_icmp_ge (tgt := 225) hx hb dX11_goOn_174 (by decide) (fun _ => ?_) (fun hc => absurd (by rw [hg9.1]; exact nI_le (by omega) (by omega)) hc)
      have hf8 : fin3 N w Q = sGo S := by rw [← hI.2.2.1, fin2, show N = kk by omega, ← hI.1]
      rcases hI.2.2.2 with ⟨rfl, hw9⟩ | ⟨rfl, hw9⟩
      · refine lv_iconst (v := 0) hx hb dX11_goOn_225 (by decide) ?_
        refine lv_istore (lv' := [(6, .int 0), (5, .int 1), (3, .long has), (1, .long al), (0, .ref (α 0))]) hx hb dX11_goOn_226 hl (by decide) rfl (fun ls hl => ?_)
        refine lv_iload hx hb dX11_goOn_228 (lv_at hl 0 rfl) ?_
        refine lv_aload_n hx hb dX11_goOn_230 rfl (lv_at hl 4 rfl) ?_
        refine g_get C B (0) (by decide) mE_0 rfl gf_11 15 (by decide) wl_742 (v := .int (Q.1 15)) mF_15 dX11_goOn_231 ?_
        refine lv_icmp_ge (tgt := 286) hx hb dX11_goOn_234 (by decide) (fun c6 => ?_) (fun c6 => ?_)
        · have hf9 : fin4 N (uJ Q 31 0) = sGo S := by rw [← hf8, fin3, if_neg (by decide)]
          refine lv_aload_n hx hb dX11_goOn_286 rfl (lv_at hl 4 rfl) ?_
          refine lv_lconst (v := 0) hx hb dX11_goOn_287 (by decide) ?_
          refine g_put C B (0) (by decide) mE_0 rfl gf_11 tyX11 tyX11_ok nmX11 31 (by decide) wl_758 rfl (ty := .long) (v := .long 0) (by decide +kernel) rfl rfl (Nat.le_of_ble_eq_true rfl) dX11_goOn_288 mO_31 (fun H locs B => ?_)
          refine lv_iconst (v := 0) hx hb dX11_goOn_291 (by decide) ?_
          refine lv_istore (lv' := [(6, .int 0), (5, .int 1), (3, .long has), (1, .long al), (0, .ref (α 0))]) hx hb dX11_goOn_292 hl (by decide) rfl (fun ls hl => ?_)
          exact loop4 N 0 (uJ Q 31 0) (uJ Q 31 0) H locs ls (by omega) ⟨rfl, good_c rfl rfl hg9, hf9⟩ B (lv_sub hl [0, 4] rfl)
        · refine lv_iload hx hb dX11_goOn_237 (lv_at hl 1 rfl) ?_
          refine lv_if_ne (tgt := 286) hx hb dX11_goOn_239 (by decide) (fun _ => ?_) (fun hc => absurd hc (by decide))
          have hf9 : fin4 N (uJ Q 31 0) = sGo S := by rw [← hf8, fin3, if_neg (by decide)]
          refine lv_aload_n hx hb dX11_goOn_286 rfl (lv_at hl 4 rfl) ?_
          refine lv_lconst (v := 0) hx hb dX11_goOn_287 (by decide) ?_
          refine g_put C B (0) (by decide) mE_0 rfl gf_11 tyX11 tyX11_ok nmX11 31 (by decide) wl_758 rfl (ty := .long) (v := .long 0) (by decide +kernel) rfl rfl (Nat.le_of_ble_eq_true rfl) dX11_goOn_288 mO_31 (fun H locs B => ?_)
          refine lv_iconst (v := 0) hx hb dX11_goOn_291 (by decide) ?_
          refine lv_istore (lv' := [(6, .int 0), (5, .int 1), (3, .long has), (1, .long al), (0, .ref (α 0))]) hx hb dX11_goOn_292 hl (by decide) rfl (fun ls hl => ?_)
          exact loop4 N 0 (uJ Q 31 0) (uJ Q 31 0) H locs ls (by omega) ⟨rfl, good_c rfl rfl hg9, hf9⟩ B (lv_sub hl [0, 4] rfl)
      · refine lv_iconst (v := 0) hx hb dX11_goOn_225 (by decide) ?_
        refine lv_istore (lv' := [(6, .int 0), (5, .int 0), (3, .long has), (1, .long al), (0, .ref (α 0))]) hx hb dX11_goOn_226 hl (by decide) rfl (fun ls hl => ?_)
        exact loop3 N 0 Q Q H locs ls (by omega) ⟨rfl, hg9, hf8⟩ B (lv_sub hl [0, 1, 4] rfl)
    | succ nn ih =>
      intro kk T0 Q w has al H locs ls hk hI B hl
      have hq8 := p2_c T0 w has al kk
      rw [← hI.1] at hq8
      have hg9 : good N Q := good_c hq8.1 hq8.2 hI.2.1
      have dv9 : w = 0 → ¬ al = 0 := fun h9 => hI.2.2.2.elim (fun h8 => absurd (h8.1.symm.trans h9) (by decide)) (fun h8 => h8.2)
      refine lv_iload hx hb dX11_goOn_168 (lv_at hl 0 rfl) ?_
      refine lv_aload_n hx hb dX11_goOn_170 rfl (lv_at hl 4 rfl) ?_
      refine g_get C B (0) (by decide) mE_0 rfl gf_11 15 (by decide) wl_742 (v := .int (Q.1 15)) mF_15 dX11_goOn_171 ?_
      refine lv_icmp_ge (tgt := 225) hx hb dX11_goOn_174 (by decide) (fun hc => absurd hc (by rw [hg9.1]; exact nI_ge (by omega) (by omega))) (fun _ => ?_)
      refine lv_aload_n hx hb dX11_goOn_177 rfl (lv_at hl 4 rfl) ?_
      refine g_get C B (0) (by decide) mE_0 rfl gf_11 39 (by decide) wl_766 (v := .ref (α 39)) mF_39 dX11_goOn_178 ?_
      refine lv_iload hx hb dX11_goOn_181 (lv_at hl 0 rfl) ?_
      refine g_zald C B (39) (by decide) (f := Q.2.2.1 39) mE_39 (vp_in_nI (by omega) (by omega)) (j := kk) (nI_clamp (by omega)) dX11_goOn_183 ?_
      refine lv_if_eq (tgt := 219) hx hb dX11_goOn_184 (by decide) (fun c7 => ?_) (fun c7 => ?_)
      · refine lv_iinc (v := ((nI kk) + 1)) (lv' := [(6, .int ((nI kk) + 1)), (5, .int w), (3, .long has), (1, .long al), (0, .ref (α 0))]) hx hb dX11_goOn_219 hl (k := 0) rfl rfl (by decide) rfl (fun ls hl => ?_)
        refine lv_goto (tgt := 168) hx hb dX11_goOn_222 (by decide) ?_
        exact ih (kk + 1) T0 Q w has al H locs ls (by omega) (by refine ⟨?_, hI.2⟩; rw [p2, ← hI.1]; (first | rw [if_pos c7] | rw [if_neg c7])) B (by have h9 := lv_sub (l' := [(6, .int ((nI kk) + 1)), (5, .int w), (3, .long has), (1, .long al), (0, .ref (α 0))]) hl [0, 1, 2, 3, 4] rfl; rw [nI_1] at h9; exact h9)
      · refine lv_aload_n hx hb dX11_goOn_187 rfl (lv_at hl 4 rfl) ?_
        refine lv_iload hx hb dX11_goOn_188 (lv_at hl 0 rfl) ?_
        refine lv_iload hx hb dX11_goOn_190 (lv_at hl 1 rfl) ?_
        refine lv_if_eq (tgt := 205) hx hb dX11_goOn_192 (by decide) (fun c8 => ?_) (fun c8 => ?_)
        · refine lv_aload_n hx hb dX11_goOn_205 rfl (lv_at hl 4 rfl) ?_
          refine g_get C B (0) (by decide) mE_0 rfl gf_11 40 (by decide) wl_767 (v := .ref (α 40)) mF_40 dX11_goOn_206 ?_
          refine lv_iload hx hb dX11_goOn_209 (lv_at hl 0 rfl) ?_
          refine g_lald C B (40) (by decide) (f := Q.2.2.2 40) mE_40 (vp_in_nI (by omega) (by omega)) (j := kk) (nI_clamp (by omega)) dX11_goOn_211 ?_
          refine lv_lload_n hx hb dX11_goOn_212 rfl (lv_at hl 2 rfl) ?_
          refine lv_lmul hx hb dX11_goOn_213 ?_
          refine lv_lload_n hx hb dX11_goOn_214 rfl (lv_at hl 3 rfl) ?_
          refine lv_ldiv hx hb dX11_goOn_215 (dv9 (by assumption)) ?_
          refine gc_wv B (gr_V C B (k := 0) (As := [.int (nI kk), .long (((Q.2.2.2 40 kk) * has) / al)]) (rest := []) (c_X11_pay l D G τ α Q _ kk (((Q.2.2.2 40 kk) * has) / al) (by omega) (hg9.2 kk (by omega))) (by decide) mE_0 rfl wl_899 wl_901 wl_22 wl_40 wl_902 (na := 2) (by decide +kernel) rfl ⟨Nat.le_of_ble_eq_true rfl, Nat.le_of_ble_eq_true rfl⟩ ⟨Nat.le_of_ble_eq_true rfl, Nat.le_of_ble_eq_true rfl⟩ hl.1 rfl (Nat.le_of_ble_eq_true rfl) dX11_goOn_216) (fun u h H locs B => ?_)
          subst h
          have B : gB D G τ (gA α Lm sz) s H locs α (mE G α (sPay Q kk (((Q.2.2.2 40 kk) * has) / al))) Lm := B
          refine lv_iinc (v := ((nI kk) + 1)) (lv' := [(6, .int ((nI kk) + 1)), (5, .int w), (3, .long has), (1, .long al), (0, .ref (α 0))]) hx hb dX11_goOn_219 hl (k := 0) rfl rfl (by decide) rfl (fun ls hl => ?_)
          refine lv_goto (tgt := 168) hx hb dX11_goOn_222 (by decide) ?_
          exact ih (kk + 1) T0 (sPay Q kk (((Q.2.2.2 40 kk) * has) / al)) w has al H locs ls (by omega) (by refine ⟨?_, hI.2⟩; rw [p2, ← hI.1]; (first | rw [if_pos c7] | rw [if_neg c7]); (first | rw [if_pos c8] | rw [if_neg c8])) B (by have h9 := lv_sub (l' := [(6, .int ((nI kk) + 1)), (5, .int w), (3, .long has), (1, .long al), (0, .ref (α 0))]) hl [0, 1, 2, 3, 4] rfl; rw [nI_1] at h9; exact h9)
        · refine lv_aload_n hx hb dX11_goOn_195 rfl (lv_at hl 4 rfl) ?_
          refine g_get C B (0) (by decide) mE_0 rfl gf_11 40 (by decide) wl_767 (v := .ref (α 40)) mF_40 dX11_goOn_196 ?_
          refine lv_iload hx hb dX11_goOn_199 (lv_at hl 0 rfl) ?_
          refine g_lald C B (40) (by decide) (f := Q.2.2.2 40) mE_40 (vp_in_nI (by omega) (by omega)) (j := kk) (nI_clamp (by omega)) dX11_goOn_201 ?_
          refine lv_goto (tgt := 216) hx hb dX11_goOn_202 (by decide) ?_
          refine gc_wv B (gr_V C B (k := 0) (As := [.int (nI kk), .long (Q.2.2.2 40 kk)]) (rest := []) (c_X11_pay l D G τ α Q _ kk (Q.2.2.2 40 kk) (by omega) (hg9.2 kk (by omega))) (by decide) mE_0 rfl wl_899 wl_901 wl_22 wl_40 wl_902 (na := 2) (by decide +kernel) rfl ⟨Nat.le_of_ble_eq_true rfl, Nat.le_of_ble_eq_true rfl⟩ ⟨Nat.le_of_ble_eq_true rfl, Nat.le_of_ble_eq_true rfl⟩ hl.1 rfl (Nat.le_of_ble_eq_true rfl) dX11_goOn_216) (fun u h H locs B => ?_)
          subst h
          have B : gB D G τ (gA α Lm sz) s H locs α (mE G α (sPay Q kk (Q.2.2.2 40 kk))) Lm := B
          refine lv_iinc (v := ((nI kk) + 1)) (lv' := [(6, .int ((nI kk) + 1)), (5, .int w), (3, .long has), (1, .long al), (0, .ref (α 0))]) hx hb dX11_goOn_219 hl (k := 0) rfl rfl (by decide) rfl (fun ls hl => ?_)
          refine lv_goto (tgt := 168) hx hb dX11_goOn_222 (by decide) ?_
          exact ih (kk + 1) T0 (sPay Q kk (Q.2.2.2 40 kk)) w has al H locs ls (by omega) (by refine ⟨?_, hI.2⟩; rw [p2, ← hI.1]; (first | rw [if_pos c7] | rw [if_neg c7]); (first | rw [if_pos c8] | rw [if_neg c8])) B (by have h9 := lv_sub (l' := [(6, .int ((nI kk) + 1)), (5, .int w), (3, .long has), (1, .long al), (0, .ref (α 0))]) hl [0, 1, 2, 3, 4] rfl; rw [nI_1] at h9; exact h9)
  have loop1 : ∀ (nn kk : Nat) (T : St) (x : Int64) (H : Heap) (locs : List Loc) (ls : Array Slot), nn + kk = N → (r1 S kk = (T, x)) → gB D G τ (gA α Lm sz) s H locs α (mE G α T) Lm → lv_has ls 7 [(3, .int (nI kk)), (1, .long x), (0, .ref (α 0))] → W p l e (rmd 3 0 0) s m [.ref (α 0)].toArray below meth c H locs 0 0 (MQ below (va_Qv (fun u => u = (α, mE G α (sGo S), Lm)) (gAt D (gA α Lm sz)) (gA α Lm sz)) [.ref (α 0)].toArray s 0 0 (gA α Lm sz)) (F0 m 9 ls []) := by
    intro nn
    induction nn with
    | zero =>
      intro kk T x H locs ls hk hI B hl
      have hE : eq1 S T := by have h9 := r1_eq S kk; rw [hI] at h9; exact h9
      have hg9 : good N T := ⟨by rw [hE.1 15 (by decide)]; exact hNe, fun d hd => okS_c (hE.1 0 (by decide)) (hE.2.2.1 22 (by decide)) (hE.2.2.1 25 (by decide)) (hE.2.2.1 26 (by decide)) (hE.2.2.1 27 (by decide)) (hP d (by rw [← hN9]; exact hd)).2.2.2.2.2.2.2.2.2⟩
      refine lv_iload_n hx hb dX11_goOn_9 rfl (lv_at hl 0 rfl) ?_
      refine lv_aload_n hx hb dX11_goOn_10 rfl (lv_at hl 2 rfl) ?_
      refine g_get C B (0) (by decide) mE_0 rfl gf_11 15 (by decide) wl_742 (v := .int (T.1 15)) mF_15 dX11_goOn_11 ?_
      refine lv_icmp_ge (tgt := 147) hx hb dX11_goOn_14 (by decide) (fun _ => ?_) (fun hc => absurd (by rw [hg9.1]; exact nI_le (by omega) (by omega)) hc)
      refine lv_aload_n hx hb dX11_goOn_147 rfl (lv_at hl 2 rfl) ?_
      refine g_get C B (0) (by decide) mE_0 rfl gf_11 28 (by decide) wl_755 (v := .long (T.2.1 28)) mF_28 dX11_goOn_148 ?_
      refine lv_lstore_n (lv' := [(3, .long (T.2.1 28)), (1, .long x), (0, .ref (α 0))]) hx hb dX11_goOn_151 rfl hl (by decide) rfl (fun ls hl => ?_)
      refine lv_lload_n hx hb dX11_goOn_152 rfl (lv_at hl 0 rfl) ?_
      refine lv_lload_n hx hb dX11_goOn_153 rfl (lv_at hl 1 rfl) ?_
      refine gl_lt (tgt := 162) hx hb dX11_goOn_154 dX11_goOn_155 (by decide) (fun c9 => ?_) (fun c9 => ?_)
      · refine lv_iconst (v := 0) hx hb dX11_goOn_162 (by decide) ?_
        refine lv_istore (lv' := [(5, .int 0), (3, .long (T.2.1 28)), (1, .long x), (0, .ref (α 0))]) hx hb dX11_goOn_163 hl (by decide) rfl (fun ls hl => ?_)
        refine lv_iconst (v := 0) hx hb dX11_goOn_165 (by decide) ?_
        refine lv_istore (lv' := [(6, .int 0), (5, .int 0), (3, .long (T.2.1 28)), (1, .long x), (0, .ref (α 0))]) hx hb dX11_goOn_166 hl (by decide) rfl (fun ls hl => ?_)
        have hr9 : r1 S N = (T, x) := by rw [show N = kk by omega]; exact hI
        have hf9 : fin2 N 0 (T.2.1 28) x T = sGo S := by rw [sGo, ← hN9, hr9]; dsimp only; rw [if_neg (by simp only [i6l, i6e] at c9 ⊢; omega)]
        exact loop2 N 0 T T 0 _ _ H locs ls (by omega) ⟨rfl, hg9, hf9, Or.inr ⟨rfl, by have h8 := hM.1; rw [← hE.2.1] at h8; simp only [i6l, i6e, i6q, zj_0, zj_1, zj_100, zj_1000, zj_1199, zj_100000, zj_1000000, zj_1000000000] at h8 c9 ⊢; omega⟩⟩ B (lv_sub hl [0, 1, 2, 3, 4] rfl)
      · refine lv_iconst (v := 1) hx hb dX11_goOn_158 (by decide) ?_
        refine lv_goto (tgt := 163) hx hb dX11_goOn_159 (by decide) ?_
        refine lv_istore (lv' := [(5, .int 1), (3, .long (T.2.1 28)), (1, .long x), (0, .ref (α 0))]) hx hb dX11_goOn_163 hl (by decide) rfl (fun ls hl => ?_)
        refine lv_iconst (v := 0) hx hb dX11_goOn_165 (by decide) ?_
        refine lv_istore (lv' := [(6, .int 0), (5, .int 1), (3, .long (T.2.1 28)), (1, .long x), (0, .ref (α 0))]) hx hb dX11_goOn_166 hl (by decide) rfl (fun ls hl => ?_)
        have hr9 : r1 S N = (T, x) := by rw [show N = kk by omega]; exact hI
        have hf9 : fin2 N 1 (T.2.1 28) x T = sGo S := by rw [sGo, ← hN9, hr9]; dsimp only; rw [if_pos (by simp only [i6l, i6e] at c9 ⊢; omega)]
        exact loop2 N 0 T T 1 _ _ H locs ls (by omega) ⟨rfl, hg9, hf9, Or.inl ⟨rfl, trivial⟩⟩ B (lv_sub hl [0, 1, 2, 3, 4] rfl)
    | succ nn ih =>
      intro kk T x H locs ls hk hI B hl
      have hE : eq1 S T := by have h9 := r1_eq S kk; rw [hI] at h9; exact h9
      have hg9 : good N T := ⟨by rw [hE.1 15 (by decide)]; exact hNe, fun d hd => okS_c (hE.1 0 (by decide)) (hE.2.2.1 22 (by decide)) (hE.2.2.1 25 (by decide)) (hE.2.2.1 26 (by decide)) (hE.2.2.1 27 (by decide)) (hP d (by rw [← hN9]; exact hd)).2.2.2.2.2.2.2.2.2⟩
      refine lv_iload_n hx hb dX11_goOn_9 rfl (lv_at hl 0 rfl) ?_
      refine lv_aload_n hx hb dX11_goOn_10 rfl (lv_at hl 2 rfl) ?_
      refine g_get C B (0) (by decide) mE_0 rfl gf_11 15 (by decide) wl_742 (v := .int (T.1 15)) mF_15 dX11_goOn_11 ?_
      refine lv_icmp_ge (tgt := 147) hx hb dX11_goOn_14 (by decide) (fun hc => absurd hc (by rw [hg9.1]; exact nI_ge (by omega) (by omega))) (fun _ => ?_)
      refine lv_aload_n hx hb dX11_goOn_17 rfl (lv_at hl 2 rfl) ?_
      refine g_get C B (0) (by decide) mE_0 rfl gf_11 24 (by decide) wl_751 (v := .ref (α 24)) mF_24 dX11_goOn_18 ?_
      refine lv_iload_n hx hb dX11_goOn_21 rfl (lv_at hl 0 rfl) ?_
      refine g_zald C B (24) (by decide) (f := T.2.2.1 24) mE_24 (vp_in_nI (by omega) (by omega)) (j := kk) (nI_clamp (by omega)) dX11_goOn_22 ?_
      refine lv_if_eq (tgt := 30) hx hb dX11_goOn_23 (by decide) (fun c10 => ?_) (fun c10 => ?_)
      · refine lv_aload_n hx hb dX11_goOn_30 rfl (lv_at hl 2 rfl) ?_
        refine lv_iload_n hx hb dX11_goOn_31 rfl (lv_at hl 0 rfl) ?_
        refine lv_aload_n hx hb dX11_goOn_32 rfl (lv_at hl 2 rfl) ?_
        refine g_get C B (0) (by decide) mE_0 rfl gf_11 0 (by decide) wl_727 (v := .int (T.1 0)) mF_0 dX11_goOn_33 ?_
        refine gc_o (oI := oI) (gr_V C B (k := 0) (As := [.int (nI kk), .int (T.1 0)]) (rest := []) (c_X11_fallOf l D G τ α T _ kk (T.1 0) (by rw [nOf, hg9.1, nI_clamp (by omega)]; omega) (eq1_N (T := T) hE hN) (eq1_P (T := T) hE hP)) (by decide) mE_0 rfl wl_874 wl_876 wl_16 wl_40 wl_877 (na := 2) (by decide +kernel) rfl ⟨Nat.le_of_ble_eq_true rfl, Nat.le_of_ble_eq_true rfl⟩ ⟨Nat.le_of_ble_eq_true rfl, Nat.le_of_ble_eq_true rfl⟩ hl.1 rfl (Nat.le_of_ble_eq_true rfl) dX11_goOn_36) (fun o11 => ?_) (fun f12 o11 => ?_)
        · refine lv_istore (lv' := [(4, .int (-1)), (3, .int (nI kk)), (1, .long x), (0, .ref (α 0))]) hx hb dX11_goOn_39 hl (by decide) rfl (fun ls hl => ?_)
          refine lv_aload_n hx hb dX11_goOn_41 rfl (lv_at hl 3 rfl) ?_
          refine g_get C B (0) (by decide) mE_0 rfl gf_11 39 (by decide) wl_766 (v := .ref (α 39)) mF_39 dX11_goOn_42 ?_
          refine lv_iload_n hx hb dX11_goOn_45 rfl (lv_at hl 1 rfl) ?_
          refine lv_iload hx hb dX11_goOn_46 (lv_at hl 0 rfl) ?_
          refine lv_if_lt (tgt := 72) hx hb dX11_goOn_48 (by decide) (fun _ => ?_) (fun hc => absurd (by decide) hc)
          refine lv_iconst (v := 0) hx hb dX11_goOn_72 (by decide) ?_
          refine g_zast C B (39) (by decide) (f := T.2.2.1 39) mE_39 (vp_in_nI (by omega) (by omega)) (j := kk) (nI_clamp (by omega)) dX11_goOn_73 mU_39 (fun H locs B => ?_)
          refine lv_aload_n hx hb dX11_goOn_74 rfl (lv_at hl 3 rfl) ?_
          refine g_get C B (0) (by decide) mE_0 rfl gf_11 39 (by decide) wl_766 (v := .ref (α 39)) mF_39 dX11_goOn_75 ?_
          refine lv_iload_n hx hb dX11_goOn_78 rfl (lv_at hl 1 rfl) ?_
          refine g_zald C B (39) (by decide) (f := (upd (T.2.2.1 39) kk 0)) mE_39 (vp_in_nI (by omega) (by omega)) (j := kk) (nI_clamp (by omega)) dX11_goOn_79 ?_
          rw [pk_us]
          refine lv_if_eq (tgt := 141) hx hb dX11_goOn_80 (by decide) (fun _ => ?_) (fun hc => absurd (by decide) hc)
          refine lv_iinc (v := ((nI kk) + 1)) (lv' := [(3, .int ((nI kk) + 1)), (4, .int (-1)), (1, .long x), (0, .ref (α 0))]) hx hb dX11_goOn_141 hl (k := 1) rfl rfl (by decide) rfl (fun ls hl => ?_)
          refine lv_goto (tgt := 9) hx hb dX11_goOn_144 (by decide) ?_
          have h9 : sRoll T kk = none := by rw [sRoll]; (first | rw [if_pos c10] | rw [if_neg c10] | rw [if_pos (by simp only [i3l, i3e, i3q, inR, isC, isD, zi_0, zi_1, zi_2, zi_3, zi_4, zi_5, zi_6, zi_7, zi_8, zi_9, zi_10, zi_12, zi_20, zi_21, zi_30, zi_60, zi_90, zi_99, zi_100, zi_180, zi_240, zi_400, zi_500, zi_1000, zi_1199, zi_10000, zi_100000, zi_1000000, i3m1] at c10 ⊢; omega)] | rw [if_neg (by simp only [i3l, i3e, i3q, inR, isC, isD, zi_0, zi_1, zi_2, zi_3, zi_4, zi_5, zi_6, zi_7, zi_8, zi_9, zi_10, zi_12, zi_20, zi_21, zi_30, zi_60, zi_90, zi_99, zi_100, zi_180, zi_240, zi_400, zi_500, zi_1000, zi_1199, zi_10000, zi_100000, zi_1000000, i3m1] at c10 ⊢; omega)]); rw [o11]; (try dsimp only)
          exact ih (kk + 1) (uA T 39 (upd (T.2.2.1 39) kk 0)) x H locs ls (by omega) (by rw [r1, hI, ← sRoll_c hE kk, h9]) B (by have h9 := lv_sub (l' := [(3, .int ((nI kk) + 1)), (1, .long x), (0, .ref (α 0))]) hl [0, 2, 3] rfl; rw [nI_1] at h9; exact h9)
        · have f12_b : f12 < 90 := Nat.lt_of_lt_of_le (sFall_lt o11).1 (nOf_le (eq1_N (T := T) hE hN).2.2.2.1.1 (eq1_N (T := T) hE hN).2.2.2.1.2 (by decide))
          refine lv_istore (lv' := [(4, .int (nI f12)), (3, .int (nI kk)), (1, .long x), (0, .ref (α 0))]) hx hb dX11_goOn_39 hl (by decide) rfl (fun ls hl => ?_)
          refine lv_aload_n hx hb dX11_goOn_41 rfl (lv_at hl 3 rfl) ?_
          refine g_get C B (0) (by decide) mE_0 rfl gf_11 39 (by decide) wl_766 (v := .ref (α 39)) mF_39 dX11_goOn_42 ?_
          refine lv_iload_n hx hb dX11_goOn_45 rfl (lv_at hl 1 rfl) ?_
          refine lv_iload hx hb dX11_goOn_46 (lv_at hl 0 rfl) ?_
          refine lv_if_lt (tgt := 72) hx hb dX11_goOn_48 (by decide) (fun hc => absurd hc (nI_pos (by omega))) (fun _ => ?_)
          refine lv_aload_n hx hb dX11_goOn_51 rfl (lv_at hl 3 rfl) ?_
          refine lv_iload hx hb dX11_goOn_52 (lv_at hl 0 rfl) ?_
          refine lv_aload_n hx hb dX11_goOn_54 rfl (lv_at hl 3 rfl) ?_
          refine g_get C B (0) (by decide) mE_0 rfl gf_11 0 (by decide) wl_727 (v := .int (T.1 0)) mF_0 dX11_goOn_55 ?_
          refine gc_i (gr_V C B (k := 0) (As := [.int (nI f12), .int (T.1 0)]) (rest := [.int (nI kk), .ref (α 39)]) (c_X11_dueMonth l D G τ α T _ f12 (T.1 0) (by omega) (eq1_N (T := T) hE hN) (eq1_D (T := T) hE hD)) (by decide) mE_0 rfl wl_886 wl_888 wl_19 wl_40 wl_889 (na := 2) (by decide +kernel) rfl ⟨Nat.le_of_ble_eq_true rfl, Nat.le_of_ble_eq_true rfl⟩ ⟨Nat.le_of_ble_eq_true rfl, Nat.le_of_ble_eq_true rfl⟩ hl.1 rfl (Nat.le_of_ble_eq_true rfl) dX11_goOn_58) (fun r h => ?_)
          subst h
          refine lv_aload_n hx hb dX11_goOn_61 rfl (lv_at hl 3 rfl) ?_
          refine g_get C B (0) (by decide) mE_0 rfl gf_11 0 (by decide) wl_727 (v := .int (T.1 0)) mF_0 dX11_goOn_62 ?_
          refine lv_icmp_gt (tgt := 72) hx hb dX11_goOn_65 (by decide) (fun c13 => ?_) (fun c13 => ?_)
          · refine lv_iconst (v := 0) hx hb dX11_goOn_72 (by decide) ?_
            refine g_zast C B (39) (by decide) (f := T.2.2.1 39) mE_39 (vp_in_nI (by omega) (by omega)) (j := kk) (nI_clamp (by omega)) dX11_goOn_73 mU_39 (fun H locs B => ?_)
            refine lv_aload_n hx hb dX11_goOn_74 rfl (lv_at hl 3 rfl) ?_
            refine g_get C B (0) (by decide) mE_0 rfl gf_11 39 (by decide) wl_766 (v := .ref (α 39)) mF_39 dX11_goOn_75 ?_
            refine lv_iload_n hx hb dX11_goOn_78 rfl (lv_at hl 1 rfl) ?_
            refine g_zald C B (39) (by decide) (f := (upd (T.2.2.1 39) kk 0)) mE_39 (vp_in_nI (by omega) (by omega)) (j := kk) (nI_clamp (by omega)) dX11_goOn_79 ?_
            rw [pk_us]
            refine lv_if_eq (tgt := 141) hx hb dX11_goOn_80 (by decide) (fun _ => ?_) (fun hc => absurd (by decide) hc)
            refine lv_iinc (v := ((nI kk) + 1)) (lv' := [(3, .int ((nI kk) + 1)), (4, .int (nI f12)), (1, .long x), (0, .ref (α 0))]) hx hb dX11_goOn_141 hl (k := 1) rfl rfl (by decide) rfl (fun ls hl => ?_)
            refine lv_goto (tgt := 9) hx hb dX11_goOn_144 (by decide) ?_
            have h9 : sRoll T kk = none := by rw [sRoll]; (first | rw [if_pos c10] | rw [if_neg c10] | rw [if_pos (by simp only [i3l, i3e, i3q, inR, isC, isD, zi_0, zi_1, zi_2, zi_3, zi_4, zi_5, zi_6, zi_7, zi_8, zi_9, zi_10, zi_12, zi_20, zi_21, zi_30, zi_60, zi_90, zi_99, zi_100, zi_180, zi_240, zi_400, zi_500, zi_1000, zi_1199, zi_10000, zi_100000, zi_1000000, i3m1] at c10 ⊢; omega)] | rw [if_neg (by simp only [i3l, i3e, i3q, inR, isC, isD, zi_0, zi_1, zi_2, zi_3, zi_4, zi_5, zi_6, zi_7, zi_8, zi_9, zi_10, zi_12, zi_20, zi_21, zi_30, zi_60, zi_90, zi_99, zi_100, zi_180, zi_240, zi_400, zi_500, zi_1000, zi_1199, zi_10000, zi_100000, zi_1000000, i3m1] at c10 ⊢; omega)]); rw [o11]; (try dsimp only); (first | rw [if_pos c13] | rw [if_neg c13] | rw [if_pos (by simp only [i3l, i3e, i3q, inR, isC, isD, zi_0, zi_1, zi_2, zi_3, zi_4, zi_5, zi_6, zi_7, zi_8, zi_9, zi_10, zi_12, zi_20, zi_21, zi_30, zi_60, zi_90, zi_99, zi_100, zi_180, zi_240, zi_400, zi_500, zi_1000, zi_1199, zi_10000, zi_100000, zi_1000000, i3m1] at c13 ⊢; omega)] | rw [if_neg (by simp only [i3l, i3e, i3q, inR, isC, isD, zi_0, zi_1, zi_2, zi_3, zi_4, zi_5, zi_6, zi_7, zi_8, zi_9, zi_10, zi_12, zi_20, zi_21, zi_30, zi_60, zi_90, zi_99, zi_100, zi_180, zi_240, zi_400, zi_500, zi_1000, zi_1199, zi_10000, zi_100000, zi_1000000, i3m1] at c13 ⊢; omega)])
            exact ih (kk + 1) (uA T 39 (upd (T.2.2.1 39) kk 0)) x H locs ls (by omega) (by rw [r1, hI, ← sRoll_c hE kk, h9]) B (by have h9 := lv_sub (l' := [(3, .int ((nI kk) + 1)), (1, .long x), (0, .ref (α 0))]) hl [0, 2, 3] rfl; rw [nI_1] at h9; exact h9)
          · refine lv_iconst (v := 1) hx hb dX11_goOn_68 (by decide) ?_
            refine lv_goto (tgt := 73) hx hb dX11_goOn_69 (by decide) ?_
            refine g_zast C B (39) (by decide) (f := T.2.2.1 39) mE_39 (vp_in_nI (by omega) (by omega)) (j := kk) (nI_clamp (by omega)) dX11_goOn_73 mU_39 (fun H locs B => ?_)
            refine lv_aload_n hx hb dX11_goOn_74 rfl (lv_at hl 3 rfl) ?_
            refine g_get C B (0) (by decide) mE_0 rfl gf_11 39 (by decide) wl_766 (v := .ref (α 39)) mF_39 dX11_goOn_75 ?_
            refine lv_iload_n hx hb dX11_goOn_78 rfl (lv_at hl 1 rfl) ?_
            refine g_zald C B (39) (by decide) (f := (upd (T.2.2.1 39) kk 1)) mE_39 (vp_in_nI (by omega) (by omega)) (j := kk) (nI_clamp (by omega)) dX11_goOn_79 ?_
            rw [pk_us]
            refine lv_if_eq (tgt := 141) hx hb dX11_goOn_80 (by decide) (fun hc => absurd hc (by decide)) (fun _ => ?_)
            refine lv_aload_n hx hb dX11_goOn_83 rfl (lv_at hl 3 rfl) ?_
            refine lv_iload_n hx hb dX11_goOn_84 rfl (lv_at hl 1 rfl) ?_
            refine lv_iload hx hb dX11_goOn_85 (lv_at hl 0 rfl) ?_
            refine lv_aload_n hx hb dX11_goOn_87 rfl (lv_at hl 3 rfl) ?_
            refine g_get C B (0) (by decide) mE_0 rfl gf_11 0 (by decide) wl_727 (v := .int (T.1 0)) mF_0 dX11_goOn_88 ?_
            refine gc_l (gr_V C B (k := 0) (As := [.int (nI kk), .int (nI f12), .int (T.1 0)]) (rest := []) (c_X11_dueOf l D G τ α (uA T 39 (upd (T.2.2.1 39) kk 1)) _ kk f12 (T.1 0) (by omega) (by omega) (eq1_N (T := T) hE hN) (eq1_D (T := T) hE hD)) (by decide) mE_0 rfl wl_894 wl_896 wl_21 wl_40 wl_897 (na := 3) (by decide +kernel) rfl ⟨Nat.le_of_ble_eq_true rfl, Nat.le_of_ble_eq_true rfl⟩ ⟨Nat.le_of_ble_eq_true rfl, Nat.le_of_ble_eq_true rfl⟩ hl.1 rfl (Nat.le_of_ble_eq_true rfl) dX11_goOn_91) (fun r h => ?_)
            subst h
            rw [sDue_c (same39 T _)]
            refine lv_aload_n hx hb dX11_goOn_94 rfl (lv_at hl 3 rfl) ?_
            refine g_get C B (0) (by decide) mE_0 rfl gf_11 23 (by decide) wl_750 (v := .ref (α 23)) mF_23 dX11_goOn_95 ?_
            refine lv_iload_n hx hb dX11_goOn_98 rfl (lv_at hl 1 rfl) ?_
            refine g_lald C B (23) (by decide) (f := T.2.2.2 23) mE_23 (vp_in_nI (by omega) (by omega)) (j := kk) (nI_clamp (by omega)) dX11_goOn_99 ?_
            refine lv_lsub hx hb dX11_goOn_100 ?_
            refine lv_lstore (lv' := [(5, .long ((sDue T kk f12 (T.1 0)) - (T.2.2.2 23 kk))), (4, .int (nI f12)), (3, .int (nI kk)), (1, .long x), (0, .ref (α 0))]) hx hb dX11_goOn_101 hl (by decide) rfl (fun ls hl => ?_)
            refine lv_aload_n hx hb dX11_goOn_103 rfl (lv_at hl 4 rfl) ?_
            refine g_get C B (0) (by decide) mE_0 rfl gf_11 40 (by decide) wl_767 (v := .ref (α 40)) mF_40 dX11_goOn_104 ?_
            refine lv_iload_n hx hb dX11_goOn_107 rfl (lv_at hl 2 rfl) ?_
            refine lv_lload hx hb dX11_goOn_108 (lv_at hl 0 rfl) ?_
            refine lv_lconst (v := 0) hx hb dX11_goOn_110 (by decide) ?_
            refine gl_ge (tgt := 119) hx hb dX11_goOn_111 dX11_goOn_112 (by decide) (fun c14 => ?_) (fun c14 => ?_)
            · refine lv_lload hx hb dX11_goOn_119 (lv_at hl 0 rfl) ?_
              refine g_last C B (40) (by decide) (f := T.2.2.2 40) mE_40 (vp_in_nI (by omega) (by omega)) (j := kk) (nI_clamp (by omega)) dX11_goOn_121 mU_40 (fun H locs B => ?_)
              refine lv_lload_n hx hb dX11_goOn_122 rfl (lv_at hl 3 rfl) ?_
              refine lv_aload_n hx hb dX11_goOn_123 rfl (lv_at hl 4 rfl) ?_
              refine g_get C B (0) (by decide) mE_0 rfl gf_11 40 (by decide) wl_767 (v := .ref (α 40)) mF_40 dX11_goOn_124 ?_
              refine lv_iload_n hx hb dX11_goOn_127 rfl (lv_at hl 2 rfl) ?_
              refine g_lald C B (40) (by decide) (f := (vp_updL (T.2.2.2 40) kk ((sDue T kk f12 (T.1 0)) - (T.2.2.2 23 kk)))) mE_40 (vp_in_nI (by omega) (by omega)) (j := kk) (nI_clamp (by omega)) dX11_goOn_128 ?_
              rw [pk_uLs]
              refine lv_ladd hx hb dX11_goOn_129 ?_
              refine lv_lstore_n (lv' := [(1, .long (x + ((sDue T kk f12 (T.1 0)) - (T.2.2.2 23 kk)))), (5, .long ((sDue T kk f12 (T.1 0)) - (T.2.2.2 23 kk))), (4, .int (nI f12)), (3, .int (nI kk)), (0, .ref (α 0))]) hx hb dX11_goOn_130 rfl hl (by decide) rfl (fun ls hl => ?_)
              refine lv_aload_n hx hb dX11_goOn_131 rfl (lv_at hl 4 rfl) ?_
              refine lv_dup hx hb dX11_goOn_132 rfl ?_
              refine g_get C B (0) (by decide) mE_0 rfl gf_11 32 (by decide) wl_759 (v := .int (T.1 32)) mF_32 dX11_goOn_133 ?_
              refine lv_iconst (v := 1) hx hb dX11_goOn_136 (by decide) ?_
              refine lv_iadd hx hb dX11_goOn_137 ?_
              refine g_put C B (0) (by decide) mE_0 rfl gf_11 tyX11 tyX11_ok nmX11 32 (by decide) wl_759 rfl (ty := .int) (v := .int (T.1 32 + 1)) (by decide +kernel) rfl rfl (Nat.le_of_ble_eq_true rfl) dX11_goOn_138 mO_32 (fun H locs B => ?_)
              refine lv_iinc (v := ((nI kk) + 1)) (lv' := [(3, .int ((nI kk) + 1)), (1, .long (x + ((sDue T kk f12 (T.1 0)) - (T.2.2.2 23 kk)))), (5, .long ((sDue T kk f12 (T.1 0)) - (T.2.2.2 23 kk))), (4, .int (nI f12)), (0, .ref (α 0))]) hx hb dX11_goOn_141 hl (k := 3) rfl rfl (by decide) rfl (fun ls hl => ?_)
              refine lv_goto (tgt := 9) hx hb dX11_goOn_144 (by decide) ?_
              have h9 : sRoll T kk = some ((sDue T kk f12 (T.1 0)) - (T.2.2.2 23 kk)) := by rw [sRoll]; (first | rw [if_pos c10] | rw [if_neg c10] | rw [if_pos (by simp only [i3l, i3e, i3q, inR, isC, isD, zi_0, zi_1, zi_2, zi_3, zi_4, zi_5, zi_6, zi_7, zi_8, zi_9, zi_10, zi_12, zi_20, zi_21, zi_30, zi_60, zi_90, zi_99, zi_100, zi_180, zi_240, zi_400, zi_500, zi_1000, zi_1199, zi_10000, zi_100000, zi_1000000, i3m1] at c10 ⊢; omega)] | rw [if_neg (by simp only [i3l, i3e, i3q, inR, isC, isD, zi_0, zi_1, zi_2, zi_3, zi_4, zi_5, zi_6, zi_7, zi_8, zi_9, zi_10, zi_12, zi_20, zi_21, zi_30, zi_60, zi_90, zi_99, zi_100, zi_180, zi_240, zi_400, zi_500, zi_1000, zi_1199, zi_10000, zi_100000, zi_1000000, i3m1] at c10 ⊢; omega)]); rw [o11]; (try dsimp only); (first | rw [if_pos c13] | rw [if_neg c13] | rw [if_pos (by simp only [i3l, i3e, i3q, inR, isC, isD, zi_0, zi_1, zi_2, zi_3, zi_4, zi_5, zi_6, zi_7, zi_8, zi_9, zi_10, zi_12, zi_20, zi_21, zi_30, zi_60, zi_90, zi_99, zi_100, zi_180, zi_240, zi_400, zi_500, zi_1000, zi_1199, zi_10000, zi_100000, zi_1000000, i3m1] at c13 ⊢; omega)] | rw [if_neg (by simp only [i3l, i3e, i3q, inR, isC, isD, zi_0, zi_1, zi_2, zi_3, zi_4, zi_5, zi_6, zi_7, zi_8, zi_9, zi_10, zi_12, zi_20, zi_21, zi_30, zi_60, zi_90, zi_99, zi_100, zi_180, zi_240, zi_400, zi_500, zi_1000, zi_1199, zi_10000, zi_100000, zi_1000000, i3m1] at c13 ⊢; omega)]); rw [sOwe]; (first | rw [if_pos c14] | rw [if_neg c14])
              exact ih (kk + 1) (uI (uB (uA T 39 (upd (T.2.2.1 39) kk 1)) 40 (vp_updL (T.2.2.2 40) kk ((sDue T kk f12 (T.1 0)) - (T.2.2.2 23 kk)))) 32 (T.1 32 + 1)) (x + ((sDue T kk f12 (T.1 0)) - (T.2.2.2 23 kk))) H locs ls (by omega) (by rw [r1, hI, ← sRoll_c hE kk, h9]) B (by have h9 := lv_sub (l' := [(3, .int ((nI kk) + 1)), (1, .long (x + ((sDue T kk f12 (T.1 0)) - (T.2.2.2 23 kk)))), (0, .ref (α 0))]) hl [0, 1, 4] rfl; rw [nI_1] at h9; exact h9)
            · refine lv_lconst (v := 0) hx hb dX11_goOn_115 (by decide) ?_
              refine lv_goto (tgt := 121) hx hb dX11_goOn_116 (by decide) ?_
              refine g_last C B (40) (by decide) (f := T.2.2.2 40) mE_40 (vp_in_nI (by omega) (by omega)) (j := kk) (nI_clamp (by omega)) dX11_goOn_121 mU_40 (fun H locs B => ?_)
              refine lv_lload_n hx hb dX11_goOn_122 rfl (lv_at hl 3 rfl) ?_
              refine lv_aload_n hx hb dX11_goOn_123 rfl (lv_at hl 4 rfl) ?_
              refine g_get C B (0) (by decide) mE_0 rfl gf_11 40 (by decide) wl_767 (v := .ref (α 40)) mF_40 dX11_goOn_124 ?_
              refine lv_iload_n hx hb dX11_goOn_127 rfl (lv_at hl 2 rfl) ?_
              refine g_lald C B (40) (by decide) (f := (vp_updL (T.2.2.2 40) kk 0)) mE_40 (vp_in_nI (by omega) (by omega)) (j := kk) (nI_clamp (by omega)) dX11_goOn_128 ?_
              rw [pk_uLs]
              refine lv_ladd hx hb dX11_goOn_129 ?_
              refine lv_lstore_n (lv' := [(1, .long (x + 0)), (5, .long ((sDue T kk f12 (T.1 0)) - (T.2.2.2 23 kk))), (4, .int (nI f12)), (3, .int (nI kk)), (0, .ref (α 0))]) hx hb dX11_goOn_130 rfl hl (by decide) rfl (fun ls hl => ?_)
              refine lv_aload_n hx hb dX11_goOn_131 rfl (lv_at hl 4 rfl) ?_
              refine lv_dup hx hb dX11_goOn_132 rfl ?_
              refine g_get C B (0) (by decide) mE_0 rfl gf_11 32 (by decide) wl_759 (v := .int (T.1 32)) mF_32 dX11_goOn_133 ?_
              refine lv_iconst (v := 1) hx hb dX11_goOn_136 (by decide) ?_
              refine lv_iadd hx hb dX11_goOn_137 ?_
              refine g_put C B (0) (by decide) mE_0 rfl gf_11 tyX11 tyX11_ok nmX11 32 (by decide) wl_759 rfl (ty := .int) (v := .int (T.1 32 + 1)) (by decide +kernel) rfl rfl (Nat.le_of_ble_eq_true rfl) dX11_goOn_138 mO_32 (fun H locs B => ?_)
              refine lv_iinc (v := ((nI kk) + 1)) (lv' := [(3, .int ((nI kk) + 1)), (1, .long (x + 0)), (5, .long ((sDue T kk f12 (T.1 0)) - (T.2.2.2 23 kk))), (4, .int (nI f12)), (0, .ref (α 0))]) hx hb dX11_goOn_141 hl (k := 3) rfl rfl (by decide) rfl (fun ls hl => ?_)
              refine lv_goto (tgt := 9) hx hb dX11_goOn_144 (by decide) ?_
              have h9 : sRoll T kk = some 0 := by rw [sRoll]; (first | rw [if_pos c10] | rw [if_neg c10] | rw [if_pos (by simp only [i3l, i3e, i3q, inR, isC, isD, zi_0, zi_1, zi_2, zi_3, zi_4, zi_5, zi_6, zi_7, zi_8, zi_9, zi_10, zi_12, zi_20, zi_21, zi_30, zi_60, zi_90, zi_99, zi_100, zi_180, zi_240, zi_400, zi_500, zi_1000, zi_1199, zi_10000, zi_100000, zi_1000000, i3m1] at c10 ⊢; omega)] | rw [if_neg (by simp only [i3l, i3e, i3q, inR, isC, isD, zi_0, zi_1, zi_2, zi_3, zi_4, zi_5, zi_6, zi_7, zi_8, zi_9, zi_10, zi_12, zi_20, zi_21, zi_30, zi_60, zi_90, zi_99, zi_100, zi_180, zi_240, zi_400, zi_500, zi_1000, zi_1199, zi_10000, zi_100000, zi_1000000, i3m1] at c10 ⊢; omega)]); rw [o11]; (try dsimp only); (first | rw [if_pos c13] | rw [if_neg c13] | rw [if_pos (by simp only [i3l, i3e, i3q, inR, isC, isD, zi_0, zi_1, zi_2, zi_3, zi_4, zi_5, zi_6, zi_7, zi_8, zi_9, zi_10, zi_12, zi_20, zi_21, zi_30, zi_60, zi_90, zi_99, zi_100, zi_180, zi_240, zi_400, zi_500, zi_1000, zi_1199, zi_10000, zi_100000, zi_1000000, i3m1] at c13 ⊢; omega)] | rw [if_neg (by simp only [i3l, i3e, i3q, inR, isC, isD, zi_0, zi_1, zi_2, zi_3, zi_4, zi_5, zi_6, zi_7, zi_8, zi_9, zi_10, zi_12, zi_20, zi_21, zi_30, zi_60, zi_90, zi_99, zi_100, zi_180, zi_240, zi_400, zi_500, zi_1000, zi_1199, zi_10000, zi_100000, zi_1000000, i3m1] at c13 ⊢; omega)]); rw [sOwe]; (first | rw [if_pos c14] | rw [if_neg c14])
              exact ih (kk + 1) (uI (uB (uA T 39 (upd (T.2.2.1 39) kk 1)) 40 (vp_updL (T.2.2.2 40) kk 0)) 32 (T.1 32 + 1)) (x + 0) H locs ls (by omega) (by rw [r1, hI, ← sRoll_c hE kk, h9]) B (by have h9 := lv_sub (l' := [(3, .int ((nI kk) + 1)), (1, .long (x + 0)), (0, .ref (α 0))]) hl [0, 1, 4] rfl; rw [nI_1] at h9; exact h9)
      · refine lv_iconst (v := (-1)) hx hb dX11_goOn_26 (by decide) ?_
        refine lv_goto (tgt := 39) hx hb dX11_goOn_27 (by decide) ?_
        refine lv_istore (lv' := [(4, .int (-1)), (3, .int (nI kk)), (1, .long x), (0, .ref (α 0))]) hx hb dX11_goOn_39 hl (by decide) rfl (fun ls hl => ?_)
        refine lv_aload_n hx hb dX11_goOn_41 rfl (lv_at hl 3 rfl) ?_
        refine g_get C B (0) (by decide) mE_0 rfl gf_11 39 (by decide) wl_766 (v := .ref (α 39)) mF_39 dX11_goOn_42 ?_
        refine lv_iload_n hx hb dX11_goOn_45 rfl (lv_at hl 1 rfl) ?_
        refine lv_iload hx hb dX11_goOn_46 (lv_at hl 0 rfl) ?_
        refine lv_if_lt (tgt := 72) hx hb dX11_goOn_48 (by decide) (fun _ => ?_) (fun hc => absurd (by decide) hc)
        refine lv_iconst (v := 0) hx hb dX11_goOn_72 (by decide) ?_
        refine g_zast C B (39) (by decide) (f := T.2.2.1 39) mE_39 (vp_in_nI (by omega) (by omega)) (j := kk) (nI_clamp (by omega)) dX11_goOn_73 mU_39 (fun H locs B => ?_)
        refine lv_aload_n hx hb dX11_goOn_74 rfl (lv_at hl 3 rfl) ?_
        refine g_get C B (0) (by decide) mE_0 rfl gf_11 39 (by decide) wl_766 (v := .ref (α 39)) mF_39 dX11_goOn_75 ?_
        refine lv_iload_n hx hb dX11_goOn_78 rfl (lv_at hl 1 rfl) ?_
        refine g_zald C B (39) (by decide) (f := (upd (T.2.2.1 39) kk 0)) mE_39 (vp_in_nI (by omega) (by omega)) (j := kk) (nI_clamp (by omega)) dX11_goOn_79 ?_
        rw [pk_us]
        refine lv_if_eq (tgt := 141) hx hb dX11_goOn_80 (by decide) (fun _ => ?_) (fun hc => absurd (by decide) hc)
        refine lv_iinc (v := ((nI kk) + 1)) (lv' := [(3, .int ((nI kk) + 1)), (4, .int (-1)), (1, .long x), (0, .ref (α 0))]) hx hb dX11_goOn_141 hl (k := 1) rfl rfl (by decide) rfl (fun ls hl => ?_)
        refine lv_goto (tgt := 9) hx hb dX11_goOn_144 (by decide) ?_
        have h9 : sRoll T kk = none := by rw [sRoll]; (first | rw [if_pos c10] | rw [if_neg c10] | rw [if_pos (by simp only [i3l, i3e, i3q, inR, isC, isD, zi_0, zi_1, zi_2, zi_3, zi_4, zi_5, zi_6, zi_7, zi_8, zi_9, zi_10, zi_12, zi_20, zi_21, zi_30, zi_60, zi_90, zi_99, zi_100, zi_180, zi_240, zi_400, zi_500, zi_1000, zi_1199, zi_10000, zi_100000, zi_1000000, i3m1] at c10 ⊢; omega)] | rw [if_neg (by simp only [i3l, i3e, i3q, inR, isC, isD, zi_0, zi_1, zi_2, zi_3, zi_4, zi_5, zi_6, zi_7, zi_8, zi_9, zi_10, zi_12, zi_20, zi_21, zi_30, zi_60, zi_90, zi_99, zi_100, zi_180, zi_240, zi_400, zi_500, zi_1000, zi_1199, zi_10000, zi_100000, zi_1000000, i3m1] at c10 ⊢; omega)])
        exact ih (kk + 1) (uA T 39 (upd (T.2.2.1 39) kk 0)) x H locs ls (by omega) (by rw [r1, hI, ← sRoll_c hE kk, h9]) B (by have h9 := lv_sub (l' := [(3, .int ((nI kk) + 1)), (1, .long x), (0, .ref (α 0))]) hl [0, 2, 3] rfl; rw [nI_1] at h9; exact h9)
  refine lv_lconst (v := 0) hx hb dX11_goOn_0 (by decide) ?_
  refine lv_lstore_n (lv' := [(1, .long 0), (0, .ref (α 0))]) hx hb dX11_goOn_1 rfl hl (by decide) rfl (fun ls hl => ?_)
  refine lv_aload_n hx hb dX11_goOn_2 rfl (lv_at hl 1 rfl) ?_
  refine lv_iconst (v := 0) hx hb dX11_goOn_3 (by decide) ?_
  refine g_put C B (0) (by decide) mE_0 rfl gf_11 tyX11 tyX11_ok nmX11 32 (by decide) wl_759 rfl (ty := .int) (v := .int 0) (by decide +kernel) rfl rfl (Nat.le_of_ble_eq_true rfl) dX11_goOn_4 mO_32 (fun H locs B => ?_)
  refine lv_iconst (v := 0) hx hb dX11_goOn_7 (by decide) ?_
  refine lv_istore_n (lv' := [(3, .int 0), (1, .long 0), (0, .ref (α 0))]) hx hb dX11_goOn_8 rfl hl (by decide) rfl (fun ls hl => ?_)
  exact loop1 N 0 _ 0 H locs ls (by omega) rfl B (lv_sub hl [0, 1, 2] rfl)
