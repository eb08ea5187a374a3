theorem I_decree {S J : St} {n : Nat} (h : cInv S J n) (kind9 fr9 v9 : Int32) : cInv (sp_decree S kind9 fr9 v9).2 J n := by
  unfold sp_decree
  repeat' split
  all_goals exact h
theorem I_force {S J : St} {n : Nat} (h : cInv S J n) (kind9 month9 known9 : Int32) : cInv (sp_force S kind9 month9 known9).2 J n := by
  unfold sp_force
  repeat' split
  all_goals exact h
theorem I_rate {S J : St} {n : Nat} (h : cInv S J n) (y9 v9 : Int32) : cInv (sp_rate S y9 v9).2 J n := by
  unfold sp_rate
  repeat' split
  all_goals exact h
theorem I_child {S J : St} {n : Nat} (h : cInv S J n) (mo9 : Int32) : cInv (sp_child S mo9).2 J n := by
  unfold sp_child
  repeat' split
  all_goals exact h
theorem I_fate {S J : St} {n : Nat} (h : cInv S J n) (ch9 f9 mo9 : Int32) : cInv (sp_fate S ch9 f9 mo9).2 J n := by
  unfold sp_fate sp_fateT
  repeat' split
  all_goals exact h
theorem I_told {S J : St} {n : Nat} (h : cInv S J n) (ch9 k9 mb9 : Int32) : cInv (sp_told S ch9 k9 mb9).2 J n := by
  unfold sp_told
  repeat' split
  all_goals exact h
theorem I_as {S J : St} {n : Nat} (h : cInv S J n) (d9 k9 : Int32) : cInv (sp_as S d9 k9).2 J n := by
  unfold sp_as
  repeat' split
  all_goals exact h
theorem I_about {S J : St} {n : Nat} (h : cInv S J n) (d9 w9 : Int32) : cInv (sp_about S d9 w9).2 J n := by
  unfold sp_about
  repeat' split
  all_goals exact h
theorem I_holder {S J : St} {n : Nat} (h : cInv S J n) (d9 mo9 : Int32) : cInv (sp_holder S d9 mo9).2 J n := by
  unfold sp_holder
  repeat' split
  all_goals exact h
theorem I_due {S J : St} {n : Nat} (h : cInv S J n) (d9 k9 w9 : Int32) : cInv (sp_due S d9 k9 w9).2 J n := by
  unfold sp_due
  repeat' split
  all_goals exact h
theorem I_income {S J : St} {n : Nat} (h : cInv S J n) (v9 : Int32) : cInv (sp_income S v9).2 J n := by
  unfold sp_income
  repeat' split
  all_goals exact h
theorem I_purse {S J : St} {n : Nat} (h : cInv S J n) (w9 : Int32) : cInv (sp_purse S w9).2 J n := by
  unfold sp_purse
  repeat' split
  all_goals exact h
theorem I_count {S J : St} {n : Nat} (h : cInv S J n) (w9 : Int32) : cInv (sp_count S w9).2 J n := by
  unfold sp_count
  repeat' split
  all_goals exact h
theorem I_paid {S J : St} {n : Nat} (h : cInv S J n) (h9 : Int32) : cInv (sp_paid S h9).2 J n := by
  unfold sp_paid
  repeat' split
  all_goals exact h
theorem I_found {S J : St} {n : Nat} (h : cInv S J n) (k9 : Int32) : cInv (sp_found S k9).2 J n := by
  unfold sp_found
  repeat' split
  all_goals exact h
theorem I_lives {S J : St} {n : Nat} (h : cInv S J n) (a9 x9 y9 z9 : Int32) : cInv (sp_lives S a9 x9 y9 z9).2 J n := by
  unfold sp_lives
  repeat' split
  all_goals exact h
theorem I_tell {S J : St} {n : Nat} (h : cInv S J n) (v9 : Int32) : cInv (sp_tell S v9).2 J n := by
  unfold sp_tell
  repeat' split
  all_goals exact h
theorem I_foretold {S J : St} {n : Nat} (h : cInv S J n) (mo9 : Int32) : cInv (sp_foretold S mo9).2 J n := by
  unfold sp_foretold
  repeat' split
  all_goals exact h
theorem I_value {S J : St} {n : Nat} (h : cInv S J n) (a9 b9 d9 : Int32) : cInv (sp_value S a9 b9 d9).2 J n := by
  unfold sp_value
  repeat' split
  all_goals exact h
theorem I_left {S J : St} {n : Nat} (h : cInv S J n) (a9 b9 : Int32) : cInv (sp_left S a9 b9).2 J n := by
  unfold sp_left
  repeat' split
  all_goals exact h
theorem I_check {S J : St} {n : Nat} (h : cInv S J n) : cInv (sp_check S ).2 J n := by
  unfold sp_check
  repeat' split
  all_goals exact h
theorem I_sell {S J : St} {n : Nat} (h : cInv S J n) (d9 ho9 : Int32) : cInv (sp_sell S d9 ho9).2 J n := by
  unfold sp_sell
  repeat' split
  all_goals exact h
theorem Ok_force {S : St} (h : Ok S) (kind9 month9 known9 : Int32) : Ok (sp_force S kind9 month9 known9).2 := by
  unfold sp_force
  repeat' split
  all_goals exact h
theorem Ok_told {S : St} (h : Ok S) (ch9 k9 mb9 : Int32) : Ok (sp_told S ch9 k9 mb9).2 := by
  unfold sp_told
  repeat' split
  all_goals exact h
theorem Ok_as {S : St} (h : Ok S) (d9 k9 : Int32) : Ok (sp_as S d9 k9).2 := by
  unfold sp_as
  repeat' split
  all_goals exact h
theorem Ok_about {S : St} (h : Ok S) (d9 w9 : Int32) : Ok (sp_about S d9 w9).2 := by
  unfold sp_about
  repeat' split
  all_goals exact h
theorem Ok_holder {S : St} (h : Ok S) (d9 mo9 : Int32) : Ok (sp_holder S d9 mo9).2 := by
  unfold sp_holder
  repeat' split
  all_goals exact h
theorem Ok_due {S : St} (h : Ok S) (d9 k9 w9 : Int32) : Ok (sp_due S d9 k9 w9).2 := by
  unfold sp_due
  repeat' split
  all_goals exact h
theorem Ok_purse {S : St} (h : Ok S) (w9 : Int32) : Ok (sp_purse S w9).2 := by
  unfold sp_purse
  repeat' split
  all_goals exact h
theorem Ok_count {S : St} (h : Ok S) (w9 : Int32) : Ok (sp_count S w9).2 := by
  unfold sp_count
  repeat' split
  all_goals exact h
theorem Ok_paid {S : St} (h : Ok S) (h9 : Int32) : Ok (sp_paid S h9).2 := by
  unfold sp_paid
  repeat' split
  all_goals exact h
theorem Ok_found {S : St} (h : Ok S) (k9 : Int32) : Ok (sp_found S k9).2 := by
  unfold sp_found
  repeat' split
  all_goals exact h
theorem Ok_foretold {S : St} (h : Ok S) (mo9 : Int32) : Ok (sp_foretold S mo9).2 := by
  unfold sp_foretold
  repeat' split
  all_goals exact h
theorem sw_23 (x : Int32) : x = 0 ∨ x = 1 ∨ x = 2 ∨ x = 3 ∨ x = 4 ∨ x = 5 ∨ x = 6 ∨ x = 7 ∨ x = 8 ∨ x = 9 ∨ x = 10 ∨ x = 11 ∨ x = 12 ∨ x = 13 ∨ x = 14 ∨ x = 15 ∨ x = 16 ∨ x = 17 ∨ x = 18 ∨ x = 19 ∨ x = 20 ∨ x = 21 ∨ x = 22 ∨ x = 23 ∨ (x.toInt < 0 ∨ 23 < x.toInt) := by
  rcases sw_n x 23 (by decide) with ⟨j, hj, rfl⟩ | h
  · rcases (show j = 0 ∨ j = 1 ∨ j = 2 ∨ j = 3 ∨ j = 4 ∨ j = 5 ∨ j = 6 ∨ j = 7 ∨ j = 8 ∨ j = 9 ∨ j = 10 ∨ j = 11 ∨ j = 12 ∨ j = 13 ∨ j = 14 ∨ j = 15 ∨ j = 16 ∨ j = 17 ∨ j = 18 ∨ j = 19 ∨ j = 20 ∨ j = 21 ∨ j = 22 ∨ j = 23 by omega) with rfl | rfl | rfl | rfl | rfl | rfl | rfl | rfl | rfl | rfl | rfl | rfl | rfl | rfl | rfl | rfl | rfl | rfl | rfl | rfl | rfl | rfl | rfl | rfl <;> decide
  · exact Or.inr (Or.inr (Or.inr (Or.inr (Or.inr (Or.inr (Or.inr (Or.inr (Or.inr (Or.inr (Or.inr (Or.inr (Or.inr (Or.inr (Or.inr (Or.inr (Or.inr (Or.inr (Or.inr (Or.inr (Or.inr (Or.inr (Or.inr (Or.inr h)))))))))))))))))))))))
/-- what the law may write: its own cells -/
def aL (s : State) : Nat → Prop := fun q => s.heap.size ≤ q
theorem vp_ij {k j L : Nat} (h : 6 * k + 6 ≤ L) (hL : L ≤ 3072) (hj : j ≤ 5) : vp_in (nI (6 * k) + nI j) L := by
  rw [nI_add]
  exact vp_in_nI (by omega) (by omega)
theorem law_go {k L : Nat} (hL : L ≤ 3072) (hk : 6 * k ≤ L) (h : ¬ Int32.ofNat L - 6 < nI (6 * k)) : 6 * k + 6 ≤ L := by
  rw [i3l] at h
  have e1 : (Int32.ofNat L).toInt = (L : Int) := nI_toInt (n := L) (by omega)
  have e2 : (nI (6 * k)).toInt = ((6 * k : Nat) : Int) := nI_toInt (by omega)
  rw [Jvm.Kit.i32_sub (by rw [e1, zi_6]; omega) (by rw [e1, zi_6]; omega), e1, e2, zi_6] at h
  omega
set_option maxHeartbeats 8000000 in
set_option maxRecDepth 100000 in
theorem law_loop {p : Program} {l : Launch} {e : Env} {s : State} {m : MethodId} {below : List Frame} {meth : Method} {c : Code} {D : va_G} {G : Nat → ClassId} {τ : Nat → Nat} {b L : Nat} {xs : Nat → Int32} (hL : L ≤ 3072) (C0 : lw_At p s m meth c b L xs) : ∀ (nn kk : Nat) (S J : St) (n : Nat) (α β : Nat → Nat) (H : Heap) (locs : List Loc) (ls : Array Slot), 513 ≤ nn + kk → 6 * kk ≤ L → Ok S → cInv S J n → gR D G τ (aL s) s H locs (gw β (mE G β S) Lm ++ gw α (cE G α S J n) (Lc n)) → lv_has ls 4 [(3, .int (nI (6 * kk))), (0, .ref b), (1, .ref (α 0)), (2, .ref (β 0))] → W p l e room_1 s m #[Value.ref b] below meth c H locs (58 + 3 * kk) (2414 + 30 * kk) (lw_Z below #[Value.ref b] s) (F0 m 18 ls []) := by
  obtain ⟨hx, hb, hr, hml, hown, hts, hX, hbl, hlocks, hgv⟩ := C0
  have C : CallFix p m c cL_law 4 s #[Value.ref b] gL RL := ⟨hx, hb, hml, hown, fun w h => hts w (gL_tbl w h)⟩
  have hbA : ¬ aL s b := Nat.not_le.mpr hbl
  intro nn
  induction nn with
  | zero =>
    intro kk S J n α β H locs ls h1 h2
    exact absurd h1 (by omega)
  | succ nn ih =>
    intro kk S J n α β H locs ls h1 h2 hO hI X hl
    refine lv_iload_n hx hb dL_law_18 rfl (lv_at hl 0 rfl) ?_
    refine lv_aload_n hx hb dL_law_19 rfl (lv_at hl 1 rfl) ?_
    refine va_slen hx hb hX hbl hbA X.2.2.2.1 dL_law_20 ?_
    refine lv_bipush (v := 6) hx hb dL_law_21 (by decide) ?_
    refine lv_isub hx hb dL_law_23 ?_
    refine lv_icmp_gt (tgt := 982) hx hb dL_law_24 (by decide) (fun _ => ?_) (fun hgo => ?_)
    · refine lv_iconst (v := 1) hx hb dL_law_982 (by decide) ?_
      exact va_forget X.2.2.2.1.2.2 (W.widen (by omega) (by omega) (lw_ret hx hb hr hlocks dL_law_983))
    have h6 := law_go hL h2 hgo
    refine lv_aload_n hx hb dL_law_27 rfl (lv_at hl 1 rfl) ?_
    refine lv_iload_n hx hb dL_law_28 rfl (lv_at hl 0 rfl) ?_
    refine va_sld hx hb hX hbl hbA X.2.2.2.1 (vp_in_nI (by omega) (by omega)) dL_law_29 ?_
    refine lv_bipush (v := 31) hx hb dL_law_30 (by decide) ?_
    refine lv_iand hx hb dL_law_32 ?_
    rcases sw_23 (xs (nI (6 * kk)).toNatClampNeg &&& 31) with w9 | w9 | w9 | w9 | w9 | w9 | w9 | w9 | w9 | w9 | w9 | w9 | w9 | w9 | w9 | w9 | w9 | w9 | w9 | w9 | w9 | w9 | w9 | w9 | w9
    · refine lv_tableIn (tgt := 144) hx hb dL_law_33 (by rw [w9]; decide) (by rw [w9]; decide) (off := 111) (by rw [w9]; rfl) (by decide) ?_
      refine lv_aload_n hx hb dL_law_144 rfl (lv_at hl 2 rfl) ?_
      refine lv_aload_n hx hb dL_law_145 rfl (lv_at hl 1 rfl) ?_
      refine lv_iload_n hx hb dL_law_146 rfl (lv_at hl 0 rfl) ?_
      refine lv_iconst (v := 1) hx hb dL_law_147 (by decide) ?_
      refine lv_iadd hx hb dL_law_148 ?_
      refine va_sld hx hb hX hbl hbA X.2.2.2.1 (vp_ij (j := 1) h6 hL (by decide)) dL_law_149 ?_
      refine gx_l X (gr_V C X.sub (k := 0) (As := [.int (xs (nI (6 * kk) + 1).toNatClampNeg)]) (rest := []) (c_X10_months l D G τ α S J n _ (xs (nI (6 * kk) + 1).toNatClampNeg) hO hI) (Lc_in (by decide)) cE_0 rfl wl_260 wl_261 wl_262 wl_29 wl_263 (na := 1) (by decide +kernel) rfl ⟨Nat.le_of_ble_eq_true rfl, Nat.le_of_ble_eq_true rfl⟩ ⟨(by show 58 + 3 * kk + 0 ≤ 600000; omega), (by show 2414 + 30 * kk + 0 ≤ 7302250; omega)⟩ hl.1 rfl (Nat.le_of_ble_eq_true rfl) dL_law_150) (fun r u h H locs X => ?_)
      obtain ⟨rfl, J9, rfl, hI9⟩ := h
      have X : gR D G τ (aL s) s H locs (gw α (cE G α (sp_months S (xs (nI (6 * kk) + 1).toNatClampNeg)).2 J9 n) (Lc n) ++ gw β (mE G β S) Lm) := X.swap
      refine lv_aload_n hx hb dL_law_153 rfl (lv_at hl 3 rfl) ?_
      refine lv_aload_n hx hb dL_law_154 rfl (lv_at hl 1 rfl) ?_
      refine lv_iload_n hx hb dL_law_155 rfl (lv_at hl 0 rfl) ?_
      refine lv_iconst (v := 1) hx hb dL_law_156 (by decide) ?_
      refine lv_iadd hx hb dL_law_157 ?_
      refine va_sld hx hb hX hbl hbA X.2.2.2.1 (vp_ij (j := 1) h6 hL (by decide)) dL_law_158 ?_
      refine gx_l X (gr_V C X.sub (k := 0) (As := [.int (xs (nI (6 * kk) + 1).toNatClampNeg)]) (rest := [.long (sp_months S (xs (nI (6 * kk) + 1).toNatClampNeg)).1]) (c_X11_months l D G τ β S _ (xs (nI (6 * kk) + 1).toNatClampNeg) hO) (by decide) mE_0 rfl wl_858 wl_859 wl_860 wl_40 wl_861 (na := 1) (by decide +kernel) rfl ⟨Nat.le_of_ble_eq_true rfl, Nat.le_of_ble_eq_true rfl⟩ ⟨(by show 58 + 3 * kk + 0 + 0 ≤ 600000; omega), (by show 2414 + 30 * kk + 0 + 0 ≤ 7302250; omega)⟩ hl.1 rfl (Nat.le_of_ble_eq_true rfl) dL_law_159) (fun r u h H locs X => ?_)
      obtain ⟨rfl, rfl⟩ := h
      have X : gR D G τ (aL s) s H locs (gw β (mE G β (sp_months S (xs (nI (6 * kk) + 1).toNatClampNeg)).2) Lm ++ gw α (cE G α (sp_months S (xs (nI (6 * kk) + 1).toNatClampNeg)).2 J9 n) (Lc n)) := X.swap
      refine gl_eq (tgt := 976) hx hb dL_law_162 dL_law_163 (by decide) (fun _ => ?_) (fun hc => absurd rfl hc)
      refine lv_iinc (v := (nI (6 * kk) + 6)) (lv' := [(3, .int (nI (6 * kk) + 6)), (0, .ref b), (1, .ref (α 0)), (2, .ref (β 0))]) hx hb dL_law_976 hl (k := 0) rfl rfl (by decide) rfl (fun ls hl => ?_)
      refine lv_goto (tgt := 18) hx hb dL_law_979 (by decide) ?_
      have hl : lv_has ls 4 [(3, .int (nI (6 * (kk + 1)))), (0, .ref b), (1, .ref (α 0)), (2, .ref (β 0))] := by rw [show 6 * (kk + 1) = 6 * kk + 6 by omega, ← nI_add]; exact hl
      exact W.widen (by omega) (by omega) (ih (kk + 1) (sp_months S (xs (nI (6 * kk) + 1).toNatClampNeg)).2 J9 n α β H locs ls (by omega) (by omega) (Ok_months hO (xs (nI (6 * kk) + 1).toNatClampNeg)) hI9 X hl)
    · refine lv_tableIn (tgt := 168) hx hb dL_law_33 (by rw [w9]; decide) (by rw [w9]; decide) (off := 135) (by rw [w9]; rfl) (by decide) ?_
      refine lv_aload_n hx hb dL_law_168 rfl (lv_at hl 2 rfl) ?_
      refine lv_aload_n hx hb dL_law_169 rfl (lv_at hl 1 rfl) ?_
      refine lv_iload_n hx hb dL_law_170 rfl (lv_at hl 0 rfl) ?_
      refine lv_iconst (v := 1) hx hb dL_law_171 (by decide) ?_
      refine lv_iadd hx hb dL_law_172 ?_
      refine va_sld hx hb hX hbl hbA X.2.2.2.1 (vp_ij (j := 1) h6 hL (by decide)) dL_law_173 ?_
      refine lv_aload_n hx hb dL_law_174 rfl (lv_at hl 1 rfl) ?_
      refine lv_iload_n hx hb dL_law_175 rfl (lv_at hl 0 rfl) ?_
      refine lv_iconst (v := 2) hx hb dL_law_176 (by decide) ?_
      refine lv_iadd hx hb dL_law_177 ?_
      refine va_sld hx hb hX hbl hbA X.2.2.2.1 (vp_ij (j := 2) h6 hL (by decide)) dL_law_178 ?_
      refine lv_aload_n hx hb dL_law_179 rfl (lv_at hl 1 rfl) ?_
      refine lv_iload_n hx hb dL_law_180 rfl (lv_at hl 0 rfl) ?_
      refine lv_iconst (v := 3) hx hb dL_law_181 (by decide) ?_
      refine lv_iadd hx hb dL_law_182 ?_
      refine va_sld hx hb hX hbl hbA X.2.2.2.1 (vp_ij (j := 3) h6 hL (by decide)) dL_law_183 ?_
      refine gx_l X (gr_V C X.sub (k := 0) (As := [.int (xs (nI (6 * kk) + 1).toNatClampNeg), .int (xs (nI (6 * kk) + 2).toNatClampNeg), .int (xs (nI (6 * kk) + 3).toNatClampNeg)]) (rest := []) (c_X10_decree l D G τ α S J n _ (xs (nI (6 * kk) + 1).toNatClampNeg) (xs (nI (6 * kk) + 2).toNatClampNeg) (xs (nI (6 * kk) + 3).toNatClampNeg) hO.1) (Lc_in (by decide)) cE_0 rfl wl_394 wl_395 wl_396 wl_29 wl_397 (na := 3) (by decide +kernel) rfl ⟨Nat.le_of_ble_eq_true rfl, Nat.le_of_ble_eq_true rfl⟩ ⟨(by show 58 + 3 * kk + 0 ≤ 600000; omega), (by show 2414 + 30 * kk + 0 ≤ 7302250; omega)⟩ hl.1 rfl (Nat.le_of_ble_eq_true rfl) dL_law_184) (fun r u h H locs X => ?_)
      obtain ⟨rfl, rfl⟩ := h
      have X : gR D G τ (aL s) s H locs (gw α (cE G α (sp_decree S (xs (nI (6 * kk) + 1).toNatClampNeg) (xs (nI (6 * kk) + 2).toNatClampNeg) (xs (nI (6 * kk) + 3).toNatClampNeg)).2 J n) (Lc n) ++ gw β (mE G β S) Lm) := X.swap
      refine lv_aload_n hx hb dL_law_187 rfl (lv_at hl 3 rfl) ?_
      refine lv_aload_n hx hb dL_law_188 rfl (lv_at hl 1 rfl) ?_
      refine lv_iload_n hx hb dL_law_189 rfl (lv_at hl 0 rfl) ?_
      refine lv_iconst (v := 1) hx hb dL_law_190 (by decide) ?_
      refine lv_iadd hx hb dL_law_191 ?_
      refine va_sld hx hb hX hbl hbA X.2.2.2.1 (vp_ij (j := 1) h6 hL (by decide)) dL_law_192 ?_
      refine lv_aload_n hx hb dL_law_193 rfl (lv_at hl 1 rfl) ?_
      refine lv_iload_n hx hb dL_law_194 rfl (lv_at hl 0 rfl) ?_
      refine lv_iconst (v := 2) hx hb dL_law_195 (by decide) ?_
      refine lv_iadd hx hb dL_law_196 ?_
      refine va_sld hx hb hX hbl hbA X.2.2.2.1 (vp_ij (j := 2) h6 hL (by decide)) dL_law_197 ?_
      refine lv_aload_n hx hb dL_law_198 rfl (lv_at hl 1 rfl) ?_
      refine lv_iload_n hx hb dL_law_199 rfl (lv_at hl 0 rfl) ?_
      refine lv_iconst (v := 3) hx hb dL_law_200 (by decide) ?_
      refine lv_iadd hx hb dL_law_201 ?_
      refine va_sld hx hb hX hbl hbA X.2.2.2.1 (vp_ij (j := 3) h6 hL (by decide)) dL_law_202 ?_
      refine gx_l X (gr_V C X.sub (k := 0) (As := [.int (xs (nI (6 * kk) + 1).toNatClampNeg), .int (xs (nI (6 * kk) + 2).toNatClampNeg), .int (xs (nI (6 * kk) + 3).toNatClampNeg)]) (rest := [.long (sp_decree S (xs (nI (6 * kk) + 1).toNatClampNeg) (xs (nI (6 * kk) + 2).toNatClampNeg) (xs (nI (6 * kk) + 3).toNatClampNeg)).1]) (c_X11_decree l D G τ β S _ (xs (nI (6 * kk) + 1).toNatClampNeg) (xs (nI (6 * kk) + 2).toNatClampNeg) (xs (nI (6 * kk) + 3).toNatClampNeg) hO.1) (by decide) mE_0 rfl wl_907 wl_908 wl_909 wl_40 wl_910 (na := 3) (by decide +kernel) rfl ⟨Nat.le_of_ble_eq_true rfl, Nat.le_of_ble_eq_true rfl⟩ ⟨(by show 58 + 3 * kk + 0 + 0 ≤ 600000; omega), (by show 2414 + 30 * kk + 0 + 0 ≤ 7302250; omega)⟩ hl.1 rfl (Nat.le_of_ble_eq_true rfl) dL_law_203) (fun r u h H locs X => ?_)
      obtain ⟨rfl, rfl⟩ := h
      have X : gR D G τ (aL s) s H locs (gw β (mE G β (sp_decree S (xs (nI (6 * kk) + 1).toNatClampNeg) (xs (nI (6 * kk) + 2).toNatClampNeg) (xs (nI (6 * kk) + 3).toNatClampNeg)).2) Lm ++ gw α (cE G α (sp_decree S (xs (nI (6 * kk) + 1).toNatClampNeg) (xs (nI (6 * kk) + 2).toNatClampNeg) (xs (nI (6 * kk) + 3).toNatClampNeg)).2 J n) (Lc n)) := X.swap
      refine gl_eq (tgt := 976) hx hb dL_law_206 dL_law_207 (by decide) (fun _ => ?_) (fun hc => absurd rfl hc)
      refine lv_iinc (v := (nI (6 * kk) + 6)) (lv' := [(3, .int (nI (6 * kk) + 6)), (0, .ref b), (1, .ref (α 0)), (2, .ref (β 0))]) hx hb dL_law_976 hl (k := 0) rfl rfl (by decide) rfl (fun ls hl => ?_)
      refine lv_goto (tgt := 18) hx hb dL_law_979 (by decide) ?_
      have hl : lv_has ls 4 [(3, .int (nI (6 * (kk + 1)))), (0, .ref b), (1, .ref (α 0)), (2, .ref (β 0))] := by rw [show 6 * (kk + 1) = 6 * kk + 6 by omega, ← nI_add]; exact hl
      exact W.widen (by omega) (by omega) (ih (kk + 1) (sp_decree S (xs (nI (6 * kk) + 1).toNatClampNeg) (xs (nI (6 * kk) + 2).toNatClampNeg) (xs (nI (6 * kk) + 3).toNatClampNeg)).2 J n α β H locs ls (by omega) (by omega) (Ok_decree hO (xs (nI (6 * kk) + 1).toNatClampNeg) (xs (nI (6 * kk) + 2).toNatClampNeg) (xs (nI (6 * kk) + 3).toNatClampNeg)) (I_decree hI (xs (nI (6 * kk) + 1).toNatClampNeg) (xs (nI (6 * kk) + 2).toNatClampNeg) (xs (nI (6 * kk) + 3).toNatClampNeg)) X hl)
    · refine lv_tableIn (tgt := 212) hx hb dL_law_33 (by rw [w9]; decide) (by rw [w9]; decide) (off := 179) (by rw [w9]; rfl) (by decide) ?_
      refine lv_aload_n hx hb dL_law_212 rfl (lv_at hl 2 rfl) ?_
      refine lv_aload_n hx hb dL_law_213 rfl (lv_at hl 1 rfl) ?_
      refine lv_iload_n hx hb dL_law_214 rfl (lv_at hl 0 rfl) ?_
      refine lv_iconst (v := 1) hx hb dL_law_215 (by decide) ?_
      refine lv_iadd hx hb dL_law_216 ?_
      refine va_sld hx hb hX hbl hbA X.2.2.2.1 (vp_ij (j := 1) h6 hL (by decide)) dL_law_217 ?_
      refine lv_aload_n hx hb dL_law_218 rfl (lv_at hl 1 rfl) ?_
      refine lv_iload_n hx hb dL_law_219 rfl (lv_at hl 0 rfl) ?_
      refine lv_iconst (v := 2) hx hb dL_law_220 (by decide) ?_
      refine lv_iadd hx hb dL_law_221 ?_
      refine va_sld hx hb hX hbl hbA X.2.2.2.1 (vp_ij (j := 2) h6 hL (by decide)) dL_law_222 ?_
      refine lv_aload_n hx hb dL_law_223 rfl (lv_at hl 1 rfl) ?_
      refine lv_iload_n hx hb dL_law_224 rfl (lv_at hl 0 rfl) ?_
      refine lv_iconst (v := 3) hx hb dL_law_225 (by decide) ?_
      refine lv_iadd hx hb dL_law_226 ?_
      refine va_sld hx hb hX hbl hbA X.2.2.2.1 (vp_ij (j := 3) h6 hL (by decide)) dL_law_227 ?_
      refine gx_l X (gr_V C X.sub (k := 0) (As := [.int (xs (nI (6 * kk) + 1).toNatClampNeg), .int (xs (nI (6 * kk) + 2).toNatClampNeg), .int (xs (nI (6 * kk) + 3).toNatClampNeg)]) (rest := []) (c_X10_force l D G τ α S J n _ (xs (nI (6 * kk) + 1).toNatClampNeg) (xs (nI (6 * kk) + 2).toNatClampNeg) (xs (nI (6 * kk) + 3).toNatClampNeg) hO.1) (Lc_in (by decide)) cE_0 rfl wl_418 wl_419 wl_420 wl_29 wl_421 (na := 3) (by decide +kernel) rfl ⟨Nat.le_of_ble_eq_true rfl, Nat.le_of_ble_eq_true rfl⟩ ⟨(by show 58 + 3 * kk + 0 ≤ 600000; omega), (by show 2414 + 30 * kk + 0 ≤ 7302250; omega)⟩ hl.1 rfl (Nat.le_of_ble_eq_true rfl) dL_law_228) (fun r u h H locs X => ?_)
      obtain ⟨rfl, rfl⟩ := h
      have X : gR D G τ (aL s) s H locs (gw α (cE G α (sp_force S (xs (nI (6 * kk) + 1).toNatClampNeg) (xs (nI (6 * kk) + 2).toNatClampNeg) (xs (nI (6 * kk) + 3).toNatClampNeg)).2 J n) (Lc n) ++ gw β (mE G β S) Lm) := X.swap
      refine lv_aload_n hx hb dL_law_231 rfl (lv_at hl 3 rfl) ?_
      refine lv_aload_n hx hb dL_law_232 rfl (lv_at hl 1 rfl) ?_
      refine lv_iload_n hx hb dL_law_233 rfl (lv_at hl 0 rfl) ?_
      refine lv_iconst (v := 1) hx hb dL_law_234 (by decide) ?_
      refine lv_iadd hx hb dL_law_235 ?_
      refine va_sld hx hb hX hbl hbA X.2.2.2.1 (vp_ij (j := 1) h6 hL (by decide)) dL_law_236 ?_
      refine lv_aload_n hx hb dL_law_237 rfl (lv_at hl 1 rfl) ?_
      refine lv_iload_n hx hb dL_law_238 rfl (lv_at hl 0 rfl) ?_
      refine lv_iconst (v := 2) hx hb dL_law_239 (by decide) ?_
      refine lv_iadd hx hb dL_law_240 ?_
      refine va_sld hx hb hX hbl hbA X.2.2.2.1 (vp_ij (j := 2) h6 hL (by decide)) dL_law_241 ?_
      refine lv_aload_n hx hb dL_law_242 rfl (lv_at hl 1 rfl) ?_
      refine lv_iload_n hx hb dL_law_243 rfl (lv_at hl 0 rfl) ?_
      refine lv_iconst (v := 3) hx hb dL_law_244 (by decide) ?_
      refine lv_iadd hx hb dL_law_245 ?_
      refine va_sld hx hb hX hbl hbA X.2.2.2.1 (vp_ij (j := 3) h6 hL (by decide)) dL_law_246 ?_
      refine gx_l X (gr_V C X.sub (k := 0) (As := [.int (xs (nI (6 * kk) + 1).toNatClampNeg), .int (xs (nI (6 * kk) + 2).toNatClampNeg), .int (xs (nI (6 * kk) + 3).toNatClampNeg)]) (rest := [.long (sp_force S (xs (nI (6 * kk) + 1).toNatClampNeg) (xs (nI (6 * kk) + 2).toNatClampNeg) (xs (nI (6 * kk) + 3).toNatClampNeg)).1]) (c_X11_force l D G τ β S _ (xs (nI (6 * kk) + 1).toNatClampNeg) (xs (nI (6 * kk) + 2).toNatClampNeg) (xs (nI (6 * kk) + 3).toNatClampNeg) hO.1 hO.2.1) (by decide) mE_0 rfl wl_917 wl_918 wl_919 wl_40 wl_920 (na := 3) (by decide +kernel) rfl ⟨Nat.le_of_ble_eq_true rfl, Nat.le_of_ble_eq_true rfl⟩ ⟨(by show 58 + 3 * kk + 0 + 0 ≤ 600000; omega), (by show 2414 + 30 * kk + 0 + 0 ≤ 7302250; omega)⟩ hl.1 rfl (Nat.le_of_ble_eq_true rfl) dL_law_247) (fun r u h H locs X => ?_)
      obtain ⟨rfl, rfl⟩ := h
      have X : gR D G τ (aL s) s H locs (gw β (mE G β (sp_force S (xs (nI (6 * kk) + 1).toNatClampNeg) (xs (nI (6 * kk) + 2).toNatClampNeg) (xs (nI (6 * kk) + 3).toNatClampNeg)).2) Lm ++ gw α (cE G α (sp_force S (xs (nI (6 * kk) + 1).toNatClampNeg) (xs (nI (6 * kk) + 2).toNatClampNeg) (xs (nI (6 * kk) + 3).toNatClampNeg)).2 J n) (Lc n)) := X.swap
      refine gl_eq (tgt := 976) hx hb dL_law_250 dL_law_251 (by decide) (fun _ => ?_) (fun hc => absurd rfl hc)
      refine lv_iinc (v := (nI (6 * kk) + 6)) (lv' := [(3, .int (nI (6 * kk) + 6)), (0, .ref b), (1, .ref (α 0)), (2, .ref (β 0))]) hx hb dL_law_976 hl (k := 0) rfl rfl (by decide) rfl (fun ls hl => ?_)
      refine lv_goto (tgt := 18) hx hb dL_law_979 (by decide) ?_
      have hl : lv_has ls 4 [(3, .int (nI (6 * (kk + 1)))), (0, .ref b), (1, .ref (α 0)), (2, .ref (β 0))] := by rw [show 6 * (kk + 1) = 6 * kk + 6 by omega, ← nI_add]; exact hl
      exact W.widen (by omega) (by omega) (ih (kk + 1) (sp_force S (xs (nI (6 * kk) + 1).toNatClampNeg) (xs (nI (6 * kk) + 2).toNatClampNeg) (xs (nI (6 * kk) + 3).toNatClampNeg)).2 J n α β H locs ls (by omega) (by omega) (Ok_force hO (xs (nI (6 * kk) + 1).toNatClampNeg) (xs (nI (6 * kk) + 2).toNatClampNeg) (xs (nI (6 * kk) + 3).toNatClampNeg)) (I_force hI (xs (nI (6 * kk) + 1).toNatClampNeg) (xs (nI (6 * kk) + 2).toNatClampNeg) (xs (nI (6 * kk) + 3).toNatClampNeg)) X hl)
    · refine lv_tableIn (tgt := 256) hx hb dL_law_33 (by rw [w9]; decide) (by rw [w9]; decide) (off := 223) (by rw [w9]; rfl) (by decide) ?_
      refine lv_aload_n hx hb dL_law_256 rfl (lv_at hl 2 rfl) ?_
      refine lv_aload_n hx hb dL_law_257 rfl (lv_at hl 1 rfl) ?_
      refine lv_iload_n hx hb dL_law_258 rfl (lv_at hl 0 rfl) ?_
      refine lv_iconst (v := 1) hx hb dL_law_259 (by decide) ?_
      refine lv_iadd hx hb dL_law_260 ?_
      refine va_sld hx hb hX hbl hbA X.2.2.2.1 (vp_ij (j := 1) h6 hL (by decide)) dL_law_261 ?_
      refine lv_aload_n hx hb dL_law_262 rfl (lv_at hl 1 rfl) ?_
      refine lv_iload_n hx hb dL_law_263 rfl (lv_at hl 0 rfl) ?_
      refine lv_iconst (v := 2) hx hb dL_law_264 (by decide) ?_
      refine lv_iadd hx hb dL_law_265 ?_
      refine va_sld hx hb hX hbl hbA X.2.2.2.1 (vp_ij (j := 2) h6 hL (by decide)) dL_law_266 ?_
      refine gx_l X (gr_V C X.sub (k := 0) (As := [.int (xs (nI (6 * kk) + 1).toNatClampNeg), .int (xs (nI (6 * kk) + 2).toNatClampNeg)]) (rest := []) (c_X10_rate l D G τ α S J n _ (xs (nI (6 * kk) + 1).toNatClampNeg) (xs (nI (6 * kk) + 2).toNatClampNeg) hO.1) (Lc_in (by decide)) cE_0 rfl wl_423 wl_424 wl_425 wl_29 wl_426 (na := 2) (by decide +kernel) rfl ⟨Nat.le_of_ble_eq_true rfl, Nat.le_of_ble_eq_true rfl⟩ ⟨(by show 58 + 3 * kk + 0 ≤ 600000; omega), (by show 2414 + 30 * kk + 0 ≤ 7302250; omega)⟩ hl.1 rfl (Nat.le_of_ble_eq_true rfl) dL_law_267) (fun r u h H locs X => ?_)
      obtain ⟨rfl, rfl⟩ := h
      have X : gR D G τ (aL s) s H locs (gw α (cE G α (sp_rate S (xs (nI (6 * kk) + 1).toNatClampNeg) (xs (nI (6 * kk) + 2).toNatClampNeg)).2 J n) (Lc n) ++ gw β (mE G β S) Lm) := X.swap
      refine lv_aload_n hx hb dL_law_270 rfl (lv_at hl 3 rfl) ?_
      refine lv_aload_n hx hb dL_law_271 rfl (lv_at hl 1 rfl) ?_
      refine lv_iload_n hx hb dL_law_272 rfl (lv_at hl 0 rfl) ?_
      refine lv_iconst (v := 1) hx hb dL_law_273 (by decide) ?_
      refine lv_iadd hx hb dL_law_274 ?_
      refine va_sld hx hb hX hbl hbA X.2.2.2.1 (vp_ij (j := 1) h6 hL (by decide)) dL_law_275 ?_
      refine lv_aload_n hx hb dL_law_276 rfl (lv_at hl 1 rfl) ?_
      refine lv_iload_n hx hb dL_law_277 rfl (lv_at hl 0 rfl) ?_
      refine lv_iconst (v := 2) hx hb dL_law_278 (by decide) ?_
      refine lv_iadd hx hb dL_law_279 ?_
      refine va_sld hx hb hX hbl hbA X.2.2.2.1 (vp_ij (j := 2) h6 hL (by decide)) dL_law_280 ?_
      refine gx_l X (gr_V C X.sub (k := 0) (As := [.int (xs (nI (6 * kk) + 1).toNatClampNeg), .int (xs (nI (6 * kk) + 2).toNatClampNeg)]) (rest := [.long (sp_rate S (xs (nI (6 * kk) + 1).toNatClampNeg) (xs (nI (6 * kk) + 2).toNatClampNeg)).1]) (c_X11_rate l D G τ β S _ (xs (nI (6 * kk) + 1).toNatClampNeg) (xs (nI (6 * kk) + 2).toNatClampNeg) hO.1) (by decide) mE_0 rfl wl_921 wl_922 wl_923 wl_40 wl_924 (na := 2) (by decide +kernel) rfl ⟨Nat.le_of_ble_eq_true rfl, Nat.le_of_ble_eq_true rfl⟩ ⟨(by show 58 + 3 * kk + 0 + 0 ≤ 600000; omega), (by show 2414 + 30 * kk + 0 + 0 ≤ 7302250; omega)⟩ hl.1 rfl (Nat.le_of_ble_eq_true rfl) dL_law_281) (fun r u h H locs X => ?_)
      obtain ⟨rfl, rfl⟩ := h
      have X : gR D G τ (aL s) s H locs (gw β (mE G β (sp_rate S (xs (nI (6 * kk) + 1).toNatClampNeg) (xs (nI (6 * kk) + 2).toNatClampNeg)).2) Lm ++ gw α (cE G α (sp_rate S (xs (nI (6 * kk) + 1).toNatClampNeg) (xs (nI (6 * kk) + 2).toNatClampNeg)).2 J n) (Lc n)) := X.swap
      refine gl_eq (tgt := 976) hx hb dL_law_284 dL_law_285 (by decide) (fun _ => ?_) (fun hc => absurd rfl hc)
      refine lv_iinc (v := (nI (6 * kk) + 6)) (lv' := [(3, .int (nI (6 * kk) + 6)), (0, .ref b), (1, .ref (α 0)), (2, .ref (β 0))]) hx hb dL_law_976 hl (k := 0) rfl rfl (by decide) rfl (fun ls hl => ?_)
      refine lv_goto (tgt := 18) hx hb dL_law_979 (by decide) ?_
      have hl : lv_has ls 4 [(3, .int (nI (6 * (kk + 1)))), (0, .ref b), (1, .ref (α 0)), (2, .ref (β 0))] := by rw [show 6 * (kk + 1) = 6 * kk + 6 by omega, ← nI_add]; exact hl
      exact W.widen (by omega) (by omega) (ih (kk + 1) (sp_rate S (xs (nI (6 * kk) + 1).toNatClampNeg) (xs (nI (6 * kk) + 2).toNatClampNeg)).2 J n α β H locs ls (by omega) (by omega) (Ok_rate hO (xs (nI (6 * kk) + 1).toNatClampNeg) (xs (nI (6 * kk) + 2).toNatClampNeg)) (I_rate hI (xs (nI (6 * kk) + 1).toNatClampNeg) (xs (nI (6 * kk) + 2).toNatClampNeg)) X hl)
    · refine lv_tableIn (tgt := 290) hx hb dL_law_33 (by rw [w9]; decide) (by rw [w9]; decide) (off := 257) (by rw [w9]; rfl) (by decide) ?_
      refine lv_aload_n hx hb dL_law_290 rfl (lv_at hl 2 rfl) ?_
      refine lv_aload_n hx hb dL_law_291 rfl (lv_at hl 1 rfl) ?_
      refine lv_iload_n hx hb dL_law_292 rfl (lv_at hl 0 rfl) ?_
      refine lv_iconst (v := 1) hx hb dL_law_293 (by decide) ?_
      refine lv_iadd hx hb dL_law_294 ?_
      refine va_sld hx hb hX hbl hbA X.2.2.2.1 (vp_ij (j := 1) h6 hL (by decide)) dL_law_295 ?_
      refine gx_l X (gr_V C X.sub (k := 0) (As := [.int (xs (nI (6 * kk) + 1).toNatClampNeg)]) (rest := []) (c_X10_child l D G τ α S J n _ (xs (nI (6 * kk) + 1).toNatClampNeg) hO.1) (Lc_in (by decide)) cE_0 rfl wl_427 wl_428 wl_429 wl_29 wl_430 (na := 1) (by decide +kernel) rfl ⟨Nat.le_of_ble_eq_true rfl, Nat.le_of_ble_eq_true rfl⟩ ⟨(by show 58 + 3 * kk + 0 ≤ 600000; omega), (by show 2414 + 30 * kk + 0 ≤ 7302250; omega)⟩ hl.1 rfl (Nat.le_of_ble_eq_true rfl) dL_law_296) (fun r u h H locs X => ?_)
      obtain ⟨rfl, rfl⟩ := h
      have X : gR D G τ (aL s) s H locs (gw α (cE G α (sp_child S (xs (nI (6 * kk) + 1).toNatClampNeg)).2 J n) (Lc n) ++ gw β (mE G β S) Lm) := X.swap
      refine lv_aload_n hx hb dL_law_299 rfl (lv_at hl 3 rfl) ?_
      refine lv_aload_n hx hb dL_law_300 rfl (lv_at hl 1 rfl) ?_
      refine lv_iload_n hx hb dL_law_301 rfl (lv_at hl 0 rfl) ?_
      refine lv_iconst (v := 1) hx hb dL_law_302 (by decide) ?_
      refine lv_iadd hx hb dL_law_303 ?_
      refine va_sld hx hb hX hbl hbA X.2.2.2.1 (vp_ij (j := 1) h6 hL (by decide)) dL_law_304 ?_
      refine gx_l X (gr_V C X.sub (k := 0) (As := [.int (xs (nI (6 * kk) + 1).toNatClampNeg)]) (rest := [.long (sp_child S (xs (nI (6 * kk) + 1).toNatClampNeg)).1]) (c_X11_child l D G τ β S _ (xs (nI (6 * kk) + 1).toNatClampNeg) hO.1) (by decide) mE_0 rfl wl_925 wl_926 wl_927 wl_40 wl_928 (na := 1) (by decide +kernel) rfl ⟨Nat.le_of_ble_eq_true rfl, Nat.le_of_ble_eq_true rfl⟩ ⟨(by show 58 + 3 * kk + 0 + 0 ≤ 600000; omega), (by show 2414 + 30 * kk + 0 + 0 ≤ 7302250; omega)⟩ hl.1 rfl (Nat.le_of_ble_eq_true rfl) dL_law_305) (fun r u h H locs X => ?_)
      obtain ⟨rfl, rfl⟩ := h
      have X : gR D G τ (aL s) s H locs (gw β (mE G β (sp_child S (xs (nI (6 * kk) + 1).toNatClampNeg)).2) Lm ++ gw α (cE G α (sp_child S (xs (nI (6 * kk) + 1).toNatClampNeg)).2 J n) (Lc n)) := X.swap
      refine gl_eq (tgt := 976) hx hb dL_law_308 dL_law_309 (by decide) (fun _ => ?_) (fun hc => absurd rfl hc)
      refine lv_iinc (v := (nI (6 * kk) + 6)) (lv' := [(3, .int (nI (6 * kk) + 6)), (0, .ref b), (1, .ref (α 0)), (2, .ref (β 0))]) hx hb dL_law_976 hl (k := 0) rfl rfl (by decide) rfl (fun ls hl => ?_)
      refine lv_goto (tgt := 18) hx hb dL_law_979 (by decide) ?_
      have hl : lv_has ls 4 [(3, .int (nI (6 * (kk + 1)))), (0, .ref b), (1, .ref (α 0)), (2, .ref (β 0))] := by rw [show 6 * (kk + 1) = 6 * kk + 6 by omega, ← nI_add]; exact hl
      exact W.widen (by omega) (by omega) (ih (kk + 1) (sp_child S (xs (nI (6 * kk) + 1).toNatClampNeg)).2 J n α β H locs ls (by omega) (by omega) (Ok_child hO (xs (nI (6 * kk) + 1).toNatClampNeg)) (I_child hI (xs (nI (6 * kk) + 1).toNatClampNeg)) X hl)
    · refine lv_tableIn (tgt := 314) hx hb dL_law_33 (by rw [w9]; decide) (by rw [w9]; decide) (off := 281) (by rw [w9]; rfl) (by decide) ?_
      refine lv_aload_n hx hb dL_law_314 rfl (lv_at hl 2 rfl) ?_
      refine lv_aload_n hx hb dL_law_315 rfl (lv_at hl 1 rfl) ?_
      refine lv_iload_n hx hb dL_law_316 rfl (lv_at hl 0 rfl) ?_
      refine lv_iconst (v := 1) hx hb dL_law_317 (by decide) ?_
      refine lv_iadd hx hb dL_law_318 ?_
      refine va_sld hx hb hX hbl hbA X.2.2.2.1 (vp_ij (j := 1) h6 hL (by decide)) dL_law_319 ?_
      refine lv_aload_n hx hb dL_law_320 rfl (lv_at hl 1 rfl) ?_
      refine lv_iload_n hx hb dL_law_321 rfl (lv_at hl 0 rfl) ?_
      refine lv_iconst (v := 2) hx hb dL_law_322 (by decide) ?_
      refine lv_iadd hx hb dL_law_323 ?_
      refine va_sld hx hb hX hbl hbA X.2.2.2.1 (vp_ij (j := 2) h6 hL (by decide)) dL_law_324 ?_
      refine lv_aload_n hx hb dL_law_325 rfl (lv_at hl 1 rfl) ?_
      refine lv_iload_n hx hb dL_law_326 rfl (lv_at hl 0 rfl) ?_
      refine lv_iconst (v := 3) hx hb dL_law_327 (by decide) ?_
      refine lv_iadd hx hb dL_law_328 ?_
      refine va_sld hx hb hX hbl hbA X.2.2.2.1 (vp_ij (j := 3) h6 hL (by decide)) dL_law_329 ?_
      refine gx_l X (gr_V C X.sub (k := 0) (As := [.int (xs (nI (6 * kk) + 1).toNatClampNeg), .int (xs (nI (6 * kk) + 2).toNatClampNeg), .int (xs (nI (6 * kk) + 3).toNatClampNeg)]) (rest := []) (c_X10_fate l D G τ α S J n _ (xs (nI (6 * kk) + 1).toNatClampNeg) (xs (nI (6 * kk) + 2).toNatClampNeg) (xs (nI (6 * kk) + 3).toNatClampNeg) hO.1) (Lc_in (by decide)) cE_0 rfl wl_440 wl_441 wl_442 wl_29 wl_443 (na := 3) (by decide +kernel) rfl ⟨Nat.le_of_ble_eq_true rfl, Nat.le_of_ble_eq_true rfl⟩ ⟨(by show 58 + 3 * kk + 0 ≤ 600000; omega), (by show 2414 + 30 * kk + 0 ≤ 7302250; omega)⟩ hl.1 rfl (Nat.le_of_ble_eq_true rfl) dL_law_330) (fun r u h H locs X => ?_)
      obtain ⟨rfl, rfl⟩ := h
      have X : gR D G τ (aL s) s H locs (gw α (cE G α (sp_fate S (xs (nI (6 * kk) + 1).toNatClampNeg) (xs (nI (6 * kk) + 2).toNatClampNeg) (xs (nI (6 * kk) + 3).toNatClampNeg)).2 J n) (Lc n) ++ gw β (mE G β S) Lm) := X.swap
      refine lv_aload_n hx hb dL_law_333 rfl (lv_at hl 3 rfl) ?_
      refine lv_aload_n hx hb dL_law_334 rfl (lv_at hl 1 rfl) ?_
      refine lv_iload_n hx hb dL_law_335 rfl (lv_at hl 0 rfl) ?_
      refine lv_iconst (v := 1) hx hb dL_law_336 (by decide) ?_
      refine lv_iadd hx hb dL_law_337 ?_
      refine va_sld hx hb hX hbl hbA X.2.2.2.1 (vp_ij (j := 1) h6 hL (by decide)) dL_law_338 ?_
      refine lv_aload_n hx hb dL_law_339 rfl (lv_at hl 1 rfl) ?_
      refine lv_iload_n hx hb dL_law_340 rfl (lv_at hl 0 rfl) ?_
      refine lv_iconst (v := 2) hx hb dL_law_341 (by decide) ?_
      refine lv_iadd hx hb dL_law_342 ?_
      refine va_sld hx hb hX hbl hbA X.2.2.2.1 (vp_ij (j := 2) h6 hL (by decide)) dL_law_343 ?_
      refine lv_aload_n hx hb dL_law_344 rfl (lv_at hl 1 rfl) ?_
      refine lv_iload_n hx hb dL_law_345 rfl (lv_at hl 0 rfl) ?_
      refine lv_iconst (v := 3) hx hb dL_law_346 (by decide) ?_
      refine lv_iadd hx hb dL_law_347 ?_
      refine va_sld hx hb hX hbl hbA X.2.2.2.1 (vp_ij (j := 3) h6 hL (by decide)) dL_law_348 ?_
      refine gx_l X (gr_V C X.sub (k := 0) (As := [.int (xs (nI (6 * kk) + 1).toNatClampNeg), .int (xs (nI (6 * kk) + 2).toNatClampNeg), .int (xs (nI (6 * kk) + 3).toNatClampNeg)]) (rest := [.long (sp_fate S (xs (nI (6 * kk) + 1).toNatClampNeg) (xs (nI (6 * kk) + 2).toNatClampNeg) (xs (nI (6 * kk) + 3).toNatClampNeg)).1]) (c_X11_fate l D G τ β S _ (xs (nI (6 * kk) + 1).toNatClampNeg) (xs (nI (6 * kk) + 2).toNatClampNeg) (xs (nI (6 * kk) + 3).toNatClampNeg) hO.1) (by decide) mE_0 rfl wl_929 wl_930 wl_931 wl_40 wl_932 (na := 3) (by decide +kernel) rfl ⟨Nat.le_of_ble_eq_true rfl, Nat.le_of_ble_eq_true rfl⟩ ⟨(by show 58 + 3 * kk + 0 + 0 ≤ 600000; omega), (by show 2414 + 30 * kk + 0 + 0 ≤ 7302250; omega)⟩ hl.1 rfl (Nat.le_of_ble_eq_true rfl) dL_law_349) (fun r u h H locs X => ?_)
      obtain ⟨rfl, rfl⟩ := h
      have X : gR D G τ (aL s) s H locs (gw β (mE G β (sp_fate S (xs (nI (6 * kk) + 1).toNatClampNeg) (xs (nI (6 * kk) + 2).toNatClampNeg) (xs (nI (6 * kk) + 3).toNatClampNeg)).2) Lm ++ gw α (cE G α (sp_fate S (xs (nI (6 * kk) + 1).toNatClampNeg) (xs (nI (6 * kk) + 2).toNatClampNeg) (xs (nI (6 * kk) + 3).toNatClampNeg)).2 J n) (Lc n)) := X.swap
      refine gl_eq (tgt := 976) hx hb dL_law_352 dL_law_353 (by decide) (fun _ => ?_) (fun hc => absurd rfl hc)
      refine lv_iinc (v := (nI (6 * kk) + 6)) (lv' := [(3, .int (nI (6 * kk) + 6)), (0, .ref b), (1, .ref (α 0)), (2, .ref (β 0))]) hx hb dL_law_976 hl (k := 0) rfl rfl (by decide) rfl (fun ls hl => ?_)
      refine lv_goto (tgt := 18) hx hb dL_law_979 (by decide) ?_
      have hl : lv_has ls 4 [(3, .int (nI (6 * (kk + 1)))), (0, .ref b), (1, .ref (α 0)), (2, .ref (β 0))] := by rw [show 6 * (kk + 1) = 6 * kk + 6 by omega, ← nI_add]; exact hl
      exact W.widen (by omega) (by omega) (ih (kk + 1) (sp_fate S (xs (nI (6 * kk) + 1).toNatClampNeg) (xs (nI (6 * kk) + 2).toNatClampNeg) (xs (nI (6 * kk) + 3).toNatClampNeg)).2 J n α β H locs ls (by omega) (by omega) (Ok_fate hO (xs (nI (6 * kk) + 1).toNatClampNeg) (xs (nI (6 * kk) + 2).toNatClampNeg) (xs (nI (6 * kk) + 3).toNatClampNeg)) (I_fate hI (xs (nI (6 * kk) + 1).toNatClampNeg) (xs (nI (6 * kk) + 2).toNatClampNeg) (xs (nI (6 * kk) + 3).toNatClampNeg)) X hl)
    · refine lv_tableIn (tgt := 358) hx hb dL_law_33 (by rw [w9]; decide) (by rw [w9]; decide) (off := 325) (by rw [w9]; rfl) (by decide) ?_
      by_cases hb3 : (xs (nI (6 * kk) + 3).toNatClampNeg) = 0
      · refine lv_aload_n hx hb dL_law_358 rfl (lv_at hl 2 rfl) ?_
        refine lv_aload_n hx hb dL_law_359 rfl (lv_at hl 1 rfl) ?_
        refine lv_iload_n hx hb dL_law_360 rfl (lv_at hl 0 rfl) ?_
        refine lv_iconst (v := 1) hx hb dL_law_361 (by decide) ?_
        refine lv_iadd hx hb dL_law_362 ?_
        refine va_sld hx hb hX hbl hbA X.2.2.2.1 (vp_ij (j := 1) h6 hL (by decide)) dL_law_363 ?_
        refine lv_aload_n hx hb dL_law_364 rfl (lv_at hl 1 rfl) ?_
        refine lv_iload_n hx hb dL_law_365 rfl (lv_at hl 0 rfl) ?_
        refine lv_iconst (v := 2) hx hb dL_law_366 (by decide) ?_
        refine lv_iadd hx hb dL_law_367 ?_
        refine va_sld hx hb hX hbl hbA X.2.2.2.1 (vp_ij (j := 2) h6 hL (by decide)) dL_law_368 ?_
        refine lv_aload_n hx hb dL_law_369 rfl (lv_at hl 1 rfl) ?_
        refine lv_iload_n hx hb dL_law_370 rfl (lv_at hl 0 rfl) ?_
        refine lv_iconst (v := 3) hx hb dL_law_371 (by decide) ?_
        refine lv_iadd hx hb dL_law_372 ?_
        refine va_sld hx hb hX hbl hbA X.2.2.2.1 (vp_ij (j := 3) h6 hL (by decide)) dL_law_373 ?_
        refine lv_if_eq (tgt := 381) hx hb dL_law_374 (by decide) (fun _ => ?_) (fun hc => absurd hb3 hc)
        refine lv_iconst (v := 0) hx hb dL_law_381 (by decide) ?_
        refine gx_l X (gr_V C X.sub (k := 0) (As := [.int (xs (nI (6 * kk) + 1).toNatClampNeg), .int (xs (nI (6 * kk) + 2).toNatClampNeg), .int 0]) (rest := []) (c_X10_told l D G τ α S J n _ (xs (nI (6 * kk) + 1).toNatClampNeg) (xs (nI (6 * kk) + 2).toNatClampNeg) 0 hO.1 hO.2.2.2.2.1) (Lc_in (by decide)) cE_0 rfl wl_461 wl_462 wl_463 wl_29 wl_464 (na := 3) (by decide +kernel) rfl ⟨Nat.le_of_ble_eq_true rfl, Nat.le_of_ble_eq_true rfl⟩ ⟨(by show 58 + 3 * kk + 0 ≤ 600000; omega), (by show 2414 + 30 * kk + 0 ≤ 7302250; omega)⟩ hl.1 rfl (Nat.le_of_ble_eq_true rfl) dL_law_382) (fun r u h H locs X => ?_)
        obtain ⟨rfl, rfl⟩ := h
        have X : gR D G τ (aL s) s H locs (gw α (cE G α (sp_told S (xs (nI (6 * kk) + 1).toNatClampNeg) (xs (nI (6 * kk) + 2).toNatClampNeg) 0).2 J n) (Lc n) ++ gw β (mE G β S) Lm) := X.swap
        refine lv_aload_n hx hb dL_law_385 rfl (lv_at hl 3 rfl) ?_
        refine lv_aload_n hx hb dL_law_386 rfl (lv_at hl 1 rfl) ?_
        refine lv_iload_n hx hb dL_law_387 rfl (lv_at hl 0 rfl) ?_
        refine lv_iconst (v := 1) hx hb dL_law_388 (by decide) ?_
        refine lv_iadd hx hb dL_law_389 ?_
        refine va_sld hx hb hX hbl hbA X.2.2.2.1 (vp_ij (j := 1) h6 hL (by decide)) dL_law_390 ?_
        refine lv_aload_n hx hb dL_law_391 rfl (lv_at hl 1 rfl) ?_
        refine lv_iload_n hx hb dL_law_392 rfl (lv_at hl 0 rfl) ?_
        refine lv_iconst (v := 2) hx hb dL_law_393 (by decide) ?_
        refine lv_iadd hx hb dL_law_394 ?_
        refine va_sld hx hb hX hbl hbA X.2.2.2.1 (vp_ij (j := 2) h6 hL (by decide)) dL_law_395 ?_
        refine lv_aload_n hx hb dL_law_396 rfl (lv_at hl 1 rfl) ?_
        refine lv_iload_n hx hb dL_law_397 rfl (lv_at hl 0 rfl) ?_
        refine lv_iconst (v := 3) hx hb dL_law_398 (by decide) ?_
        refine lv_iadd hx hb dL_law_399 ?_
        refine va_sld hx hb hX hbl hbA X.2.2.2.1 (vp_ij (j := 3) h6 hL (by decide)) dL_law_400 ?_
        refine lv_if_eq (tgt := 408) hx hb dL_law_401 (by decide) (fun _ => ?_) (fun hc => absurd hb3 hc)
        refine lv_iconst (v := 0) hx hb dL_law_408 (by decide) ?_
        refine gx_l X (gr_V C X.sub (k := 0) (As := [.int (xs (nI (6 * kk) + 1).toNatClampNeg), .int (xs (nI (6 * kk) + 2).toNatClampNeg), .int 0]) (rest := [.long (sp_told S (xs (nI (6 * kk) + 1).toNatClampNeg) (xs (nI (6 * kk) + 2).toNatClampNeg) 0).1]) (c_X11_told l D G τ β S _ (xs (nI (6 * kk) + 1).toNatClampNeg) (xs (nI (6 * kk) + 2).toNatClampNeg) 0 hO.1) (by decide) mE_0 rfl wl_937 wl_938 wl_939 wl_40 wl_940 (na := 3) (by decide +kernel) rfl ⟨Nat.le_of_ble_eq_true rfl, Nat.le_of_ble_eq_true rfl⟩ ⟨(by show 58 + 3 * kk + 0 + 0 ≤ 600000; omega), (by show 2414 + 30 * kk + 0 + 0 ≤ 7302250; omega)⟩ hl.1 rfl (Nat.le_of_ble_eq_true rfl) dL_law_409) (fun r u h H locs X => ?_)
        obtain ⟨rfl, rfl⟩ := h
        have X : gR D G τ (aL s) s H locs (gw β (mE G β (sp_told S (xs (nI (6 * kk) + 1).toNatClampNeg) (xs (nI (6 * kk) + 2).toNatClampNeg) 0).2) Lm ++ gw α (cE G α (sp_told S (xs (nI (6 * kk) + 1).toNatClampNeg) (xs (nI (6 * kk) + 2).toNatClampNeg) 0).2 J n) (Lc n)) := X.swap
        refine gl_eq (tgt := 976) hx hb dL_law_412 dL_law_413 (by decide) (fun _ => ?_) (fun hc => absurd rfl hc)
        refine lv_iinc (v := (nI (6 * kk) + 6)) (lv' := [(3, .int (nI (6 * kk) + 6)), (0, .ref b), (1, .ref (α 0)), (2, .ref (β 0))]) hx hb dL_law_976 hl (k := 0) rfl rfl (by decide) rfl (fun ls hl => ?_)
        refine lv_goto (tgt := 18) hx hb dL_law_979 (by decide) ?_
        have hl : lv_has ls 4 [(3, .int (nI (6 * (kk + 1)))), (0, .ref b), (1, .ref (α 0)), (2, .ref (β 0))] := by rw [show 6 * (kk + 1) = 6 * kk + 6 by omega, ← nI_add]; exact hl
        exact W.widen (by omega) (by omega) (ih (kk + 1) (sp_told S (xs (nI (6 * kk) + 1).toNatClampNeg) (xs (nI (6 * kk) + 2).toNatClampNeg) 0).2 J n α β H locs ls (by omega) (by omega) (Ok_told hO (xs (nI (6 * kk) + 1).toNatClampNeg) (xs (nI (6 * kk) + 2).toNatClampNeg) 0) (I_told hI (xs (nI (6 * kk) + 1).toNatClampNeg) (xs (nI (6 * kk) + 2).toNatClampNeg) 0) X hl)
      · refine lv_aload_n hx hb dL_law_358 rfl (lv_at hl 2 rfl) ?_
        refine lv_aload_n hx hb dL_law_359 rfl (lv_at hl 1 rfl) ?_
        refine lv_iload_n hx hb dL_law_360 rfl (lv_at hl 0 rfl) ?_
        refine lv_iconst (v := 1) hx hb dL_law_361 (by decide) ?_
        refine lv_iadd hx hb dL_law_362 ?_
        refine va_sld hx hb hX hbl hbA X.2.2.2.1 (vp_ij (j := 1) h6 hL (by decide)) dL_law_363 ?_
        refine lv_aload_n hx hb dL_law_364 rfl (lv_at hl 1 rfl) ?_
        refine lv_iload_n hx hb dL_law_365 rfl (lv_at hl 0 rfl) ?_
        refine lv_iconst (v := 2) hx hb dL_law_366 (by decide) ?_
        refine lv_iadd hx hb dL_law_367 ?_
        refine va_sld hx hb hX hbl hbA X.2.2.2.1 (vp_ij (j := 2) h6 hL (by decide)) dL_law_368 ?_
        refine lv_aload_n hx hb dL_law_369 rfl (lv_at hl 1 rfl) ?_
        refine lv_iload_n hx hb dL_law_370 rfl (lv_at hl 0 rfl) ?_
        refine lv_iconst (v := 3) hx hb dL_law_371 (by decide) ?_
        refine lv_iadd hx hb dL_law_372 ?_
        refine va_sld hx hb hX hbl hbA X.2.2.2.1 (vp_ij (j := 3) h6 hL (by decide)) dL_law_373 ?_
        refine lv_if_eq (tgt := 381) hx hb dL_law_374 (by decide) (fun hc => absurd hc hb3) (fun _ => ?_)
        refine lv_iconst (v := 1) hx hb dL_law_377 (by decide) ?_
        refine lv_goto (tgt := 382) hx hb dL_law_378 (by decide) ?_
        refine gx_l X (gr_V C X.sub (k := 0) (As := [.int (xs (nI (6 * kk) + 1).toNatClampNeg), .int (xs (nI (6 * kk) + 2).toNatClampNeg), .int 1]) (rest := []) (c_X10_told l D G τ α S J n _ (xs (nI (6 * kk) + 1).toNatClampNeg) (xs (nI (6 * kk) + 2).toNatClampNeg) 1 hO.1 hO.2.2.2.2.1) (Lc_in (by decide)) cE_0 rfl wl_461 wl_462 wl_463 wl_29 wl_464 (na := 3) (by decide +kernel) rfl ⟨Nat.le_of_ble_eq_true rfl, Nat.le_of_ble_eq_true rfl⟩ ⟨(by show 58 + 3 * kk + 0 ≤ 600000; omega), (by show 2414 + 30 * kk + 0 ≤ 7302250; omega)⟩ hl.1 rfl (Nat.le_of_ble_eq_true rfl) dL_law_382) (fun r u h H locs X => ?_)
        obtain ⟨rfl, rfl⟩ := h
        have X : gR D G τ (aL s) s H locs (gw α (cE G α (sp_told S (xs (nI (6 * kk) + 1).toNatClampNeg) (xs (nI (6 * kk) + 2).toNatClampNeg) 1).2 J n) (Lc n) ++ gw β (mE G β S) Lm) := X.swap
        refine lv_aload_n hx hb dL_law_385 rfl (lv_at hl 3 rfl) ?_
        refine lv_aload_n hx hb dL_law_386 rfl (lv_at hl 1 rfl) ?_
        refine lv_iload_n hx hb dL_law_387 rfl (lv_at hl 0 rfl) ?_
        refine lv_iconst (v := 1) hx hb dL_law_388 (by decide) ?_
        refine lv_iadd hx hb dL_law_389 ?_
        refine va_sld hx hb hX hbl hbA X.2.2.2.1 (vp_ij (j := 1) h6 hL (by decide)) dL_law_390 ?_
        refine lv_aload_n hx hb dL_law_391 rfl (lv_at hl 1 rfl) ?_
        refine lv_iload_n hx hb dL_law_392 rfl (lv_at hl 0 rfl) ?_
        refine lv_iconst (v := 2) hx hb dL_law_393 (by decide) ?_
        refine lv_iadd hx hb dL_law_394 ?_
        refine va_sld hx hb hX hbl hbA X.2.2.2.1 (vp_ij (j := 2) h6 hL (by decide)) dL_law_395 ?_
        refine lv_aload_n hx hb dL_law_396 rfl (lv_at hl 1 rfl) ?_
        refine lv_iload_n hx hb dL_law_397 rfl (lv_at hl 0 rfl) ?_
        refine lv_iconst (v := 3) hx hb dL_law_398 (by decide) ?_
        refine lv_iadd hx hb dL_law_399 ?_
        refine va_sld hx hb hX hbl hbA X.2.2.2.1 (vp_ij (j := 3) h6 hL (by decide)) dL_law_400 ?_
        refine lv_if_eq (tgt := 408) hx hb dL_law_401 (by decide) (fun hc => absurd hc hb3) (fun _ => ?_)
        refine lv_iconst (v := 1) hx hb dL_law_404 (by decide) ?_
        refine lv_goto (tgt := 409) hx hb dL_law_405 (by decide) ?_
        refine gx_l X (gr_V C X.sub (k := 0) (As := [.int (xs (nI (6 * kk) + 1).toNatClampNeg), .int (xs (nI (6 * kk) + 2).toNatClampNeg), .int 1]) (rest := [.long (sp_told S (xs (nI (6 * kk) + 1).toNatClampNeg) (xs (nI (6 * kk) + 2).toNatClampNeg) 1).1]) (c_X11_told l D G τ β S _ (xs (nI (6 * kk) + 1).toNatClampNeg) (xs (nI (6 * kk) + 2).toNatClampNeg) 1 hO.1) (by decide) mE_0 rfl wl_937 wl_938 wl_939 wl_40 wl_940 (na := 3) (by decide +kernel) rfl ⟨Nat.le_of_ble_eq_true rfl, Nat.le_of_ble_eq_true rfl⟩ ⟨(by show 58 + 3 * kk + 0 + 0 ≤ 600000; omega), (by show 2414 + 30 * kk + 0 + 0 ≤ 7302250; omega)⟩ hl.1 rfl (Nat.le_of_ble_eq_true rfl) dL_law_409) (fun r u h H locs X => ?_)
        obtain ⟨rfl, rfl⟩ := h
        have X : gR D G τ (aL s) s H locs (gw β (mE G β (sp_told S (xs (nI (6 * kk) + 1).toNatClampNeg) (xs (nI (6 * kk) + 2).toNatClampNeg) 1).2) Lm ++ gw α (cE G α (sp_told S (xs (nI (6 * kk) + 1).toNatClampNeg) (xs (nI (6 * kk) + 2).toNatClampNeg) 1).2 J n) (Lc n)) := X.swap
        refine gl_eq (tgt := 976) hx hb dL_law_412 dL_law_413 (by decide) (fun _ => ?_) (fun hc => absurd rfl hc)
        refine lv_iinc (v := (nI (6 * kk) + 6)) (lv' := [(3, .int (nI (6 * kk) + 6)), (0, .ref b), (1, .ref (α 0)), (2, .ref (β 0))]) hx hb dL_law_976 hl (k := 0) rfl rfl (by decide) rfl (fun ls hl => ?_)
        refine lv_goto (tgt := 18) hx hb dL_law_979 (by decide) ?_
        have hl : lv_has ls 4 [(3, .int (nI (6 * (kk + 1)))), (0, .ref b), (1, .ref (α 0)), (2, .ref (β 0))] := by rw [show 6 * (kk + 1) = 6 * kk + 6 by omega, ← nI_add]; exact hl
        exact W.widen (by omega) (by omega) (ih (kk + 1) (sp_told S (xs (nI (6 * kk) + 1).toNatClampNeg) (xs (nI (6 * kk) + 2).toNatClampNeg) 1).2 J n α β H locs ls (by omega) (by omega) (Ok_told hO (xs (nI (6 * kk) + 1).toNatClampNeg) (xs (nI (6 * kk) + 2).toNatClampNeg) 1) (I_told hI (xs (nI (6 * kk) + 1).toNatClampNeg) (xs (nI (6 * kk) + 2).toNatClampNeg) 1) X hl)
    · refine lv_tableIn (tgt := 418) hx hb dL_law_33 (by rw [w9]; decide) (by rw [w9]; decide) (off := 385) (by rw [w9]; rfl) (by decide) ?_
      refine lv_aload_n hx hb dL_law_418 rfl (lv_at hl 2 rfl) ?_
      refine lv_aload_n hx hb dL_law_419 rfl (lv_at hl 1 rfl) ?_
      refine lv_iload_n hx hb dL_law_420 rfl (lv_at hl 0 rfl) ?_
      refine lv_iconst (v := 1) hx hb dL_law_421 (by decide) ?_
      refine lv_iadd hx hb dL_law_422 ?_
      refine va_sld hx hb hX hbl hbA X.2.2.2.1 (vp_ij (j := 1) h6 hL (by decide)) dL_law_423 ?_
      refine lv_aload_n hx hb dL_law_424 rfl (lv_at hl 1 rfl) ?_
      refine lv_iload_n hx hb dL_law_425 rfl (lv_at hl 0 rfl) ?_
      refine lv_iconst (v := 2) hx hb dL_law_426 (by decide) ?_
      refine lv_iadd hx hb dL_law_427 ?_
      refine va_sld hx hb hX hbl hbA X.2.2.2.1 (vp_ij (j := 2) h6 hL (by decide)) dL_law_428 ?_
      refine lv_aload_n hx hb dL_law_429 rfl (lv_at hl 1 rfl) ?_
      refine lv_iload_n hx hb dL_law_430 rfl (lv_at hl 0 rfl) ?_
      refine lv_iconst (v := 3) hx hb dL_law_431 (by decide) ?_
      refine lv_iadd hx hb dL_law_432 ?_
      refine va_sld hx hb hX hbl hbA X.2.2.2.1 (vp_ij (j := 3) h6 hL (by decide)) dL_law_433 ?_
      refine lv_aload_n hx hb dL_law_434 rfl (lv_at hl 1 rfl) ?_
      refine lv_iload_n hx hb dL_law_435 rfl (lv_at hl 0 rfl) ?_
      refine lv_iconst (v := 4) hx hb dL_law_436 (by decide) ?_
      refine lv_iadd hx hb dL_law_437 ?_
      refine va_sld hx hb hX hbl hbA X.2.2.2.1 (vp_ij (j := 4) h6 hL (by decide)) dL_law_438 ?_
      refine lv_aload_n hx hb dL_law_439 rfl (lv_at hl 1 rfl) ?_
      refine lv_iload_n hx hb dL_law_440 rfl (lv_at hl 0 rfl) ?_
      refine lv_iconst (v := 5) hx hb dL_law_441 (by decide) ?_
      refine lv_iadd hx hb dL_law_442 ?_
      refine va_sld hx hb hX hbl hbA X.2.2.2.1 (vp_ij (j := 5) h6 hL (by decide)) dL_law_443 ?_
      refine gx_l X (gr_V C X.sub (k := 0) (As := [.int (xs (nI (6 * kk) + 1).toNatClampNeg), .int (xs (nI (6 * kk) + 2).toNatClampNeg), .int (xs (nI (6 * kk) + 3).toNatClampNeg), .int (xs (nI (6 * kk) + 4).toNatClampNeg), .int (xs (nI (6 * kk) + 5).toNatClampNeg)]) (rest := []) (c_X10_deposit l D G τ α S J n _ (xs (nI (6 * kk) + 1).toNatClampNeg) (xs (nI (6 * kk) + 2).toNatClampNeg) (xs (nI (6 * kk) + 3).toNatClampNeg) (xs (nI (6 * kk) + 4).toNatClampNeg) (xs (nI (6 * kk) + 5).toNatClampNeg) hO.1 hO.2.1 hO.2.2.2.2.1 hO.2.2.2.2.2.2.1 hI) (Lc_in (by decide)) cE_0 rfl wl_468 wl_469 wl_470 wl_29 wl_471 (na := 5) (by decide +kernel) rfl ⟨Nat.le_of_ble_eq_true rfl, Nat.le_of_ble_eq_true rfl⟩ ⟨(by show 58 + 3 * kk + 3 ≤ 600000; omega), (by show 2414 + 30 * kk + 30 ≤ 7302250; omega)⟩ hl.1 rfl (Nat.le_of_ble_eq_true rfl) dL_law_444) (fun r u h H locs X => ?_)
      obtain ⟨rfl, α9, J9, n9, hg9, ha9, hI9⟩ := h
      have X : gR D G τ (aL s) s H locs (gw α9 (cE G α9 (sp_deposit S (xs (nI (6 * kk) + 1).toNatClampNeg) (xs (nI (6 * kk) + 2).toNatClampNeg) (xs (nI (6 * kk) + 3).toNatClampNeg) (xs (nI (6 * kk) + 4).toNatClampNeg) (xs (nI (6 * kk) + 5).toNatClampNeg)).2 J9 n9) (Lc n9) ++ gw β (mE G β S) Lm) := by rw [← hg9]; exact X.swap
      refine lv_aload_n hx hb dL_law_447 rfl (lv_at hl 3 rfl) ?_
      refine lv_aload_n hx hb dL_law_448 rfl (lv_at hl 1 rfl) ?_
      refine lv_iload_n hx hb dL_law_449 rfl (lv_at hl 0 rfl) ?_
      refine lv_iconst (v := 1) hx hb dL_law_450 (by decide) ?_
      refine lv_iadd hx hb dL_law_451 ?_
      refine va_sld hx hb hX hbl hbA X.2.2.2.1 (vp_ij (j := 1) h6 hL (by decide)) dL_law_452 ?_
      refine lv_aload_n hx hb dL_law_453 rfl (lv_at hl 1 rfl) ?_
      refine lv_iload_n hx hb dL_law_454 rfl (lv_at hl 0 rfl) ?_
      refine lv_iconst (v := 2) hx hb dL_law_455 (by decide) ?_
      refine lv_iadd hx hb dL_law_456 ?_
      refine va_sld hx hb hX hbl hbA X.2.2.2.1 (vp_ij (j := 2) h6 hL (by decide)) dL_law_457 ?_
      refine lv_aload_n hx hb dL_law_458 rfl (lv_at hl 1 rfl) ?_
      refine lv_iload_n hx hb dL_law_459 rfl (lv_at hl 0 rfl) ?_
      refine lv_iconst (v := 3) hx hb dL_law_460 (by decide) ?_
      refine lv_iadd hx hb dL_law_461 ?_
      refine va_sld hx hb hX hbl hbA X.2.2.2.1 (vp_ij (j := 3) h6 hL (by decide)) dL_law_462 ?_
      refine lv_aload_n hx hb dL_law_463 rfl (lv_at hl 1 rfl) ?_
      refine lv_iload_n hx hb dL_law_464 rfl (lv_at hl 0 rfl) ?_
      refine lv_iconst (v := 4) hx hb dL_law_465 (by decide) ?_
      refine lv_iadd hx hb dL_law_466 ?_
      refine va_sld hx hb hX hbl hbA X.2.2.2.1 (vp_ij (j := 4) h6 hL (by decide)) dL_law_467 ?_
      refine lv_aload_n hx hb dL_law_468 rfl (lv_at hl 1 rfl) ?_
      refine lv_iload_n hx hb dL_law_469 rfl (lv_at hl 0 rfl) ?_
      refine lv_iconst (v := 5) hx hb dL_law_470 (by decide) ?_
      refine lv_iadd hx hb dL_law_471 ?_
      refine va_sld hx hb hX hbl hbA X.2.2.2.1 (vp_ij (j := 5) h6 hL (by decide)) dL_law_472 ?_
      refine gx_l X (gr_V C X.sub (k := 0) (As := [.int (xs (nI (6 * kk) + 1).toNatClampNeg), .int (xs (nI (6 * kk) + 2).toNatClampNeg), .int (xs (nI (6 * kk) + 3).toNatClampNeg), .int (xs (nI (6 * kk) + 4).toNatClampNeg), .int (xs (nI (6 * kk) + 5).toNatClampNeg)]) (rest := [.long (sp_deposit S (xs (nI (6 * kk) + 1).toNatClampNeg) (xs (nI (6 * kk) + 2).toNatClampNeg) (xs (nI (6 * kk) + 3).toNatClampNeg) (xs (nI (6 * kk) + 4).toNatClampNeg) (xs (nI (6 * kk) + 5).toNatClampNeg)).1]) (c_X11_deposit l D G τ β S _ (xs (nI (6 * kk) + 1).toNatClampNeg) (xs (nI (6 * kk) + 2).toNatClampNeg) (xs (nI (6 * kk) + 3).toNatClampNeg) (xs (nI (6 * kk) + 4).toNatClampNeg) (xs (nI (6 * kk) + 5).toNatClampNeg) hO.1 hO.2.1) (by decide) mE_0 rfl wl_941 wl_942 wl_943 wl_40 wl_944 (na := 5) (by decide +kernel) rfl ⟨Nat.le_of_ble_eq_true rfl, Nat.le_of_ble_eq_true rfl⟩ ⟨(by show 58 + 3 * kk + 3 + 0 ≤ 600000; omega), (by show 2414 + 30 * kk + 30 + 0 ≤ 7302250; omega)⟩ hl.1 rfl (Nat.le_of_ble_eq_true rfl) dL_law_473) (fun r u h H locs X => ?_)
      obtain ⟨rfl, rfl⟩ := h
      have X : gR D G τ (aL s) s H locs (gw β (mE G β (sp_deposit S (xs (nI (6 * kk) + 1).toNatClampNeg) (xs (nI (6 * kk) + 2).toNatClampNeg) (xs (nI (6 * kk) + 3).toNatClampNeg) (xs (nI (6 * kk) + 4).toNatClampNeg) (xs (nI (6 * kk) + 5).toNatClampNeg)).2) Lm ++ gw α9 (cE G α9 (sp_deposit S (xs (nI (6 * kk) + 1).toNatClampNeg) (xs (nI (6 * kk) + 2).toNatClampNeg) (xs (nI (6 * kk) + 3).toNatClampNeg) (xs (nI (6 * kk) + 4).toNatClampNeg) (xs (nI (6 * kk) + 5).toNatClampNeg)).2 J9 n9) (Lc n9)) := X.swap
      refine gl_eq (tgt := 976) hx hb dL_law_476 dL_law_477 (by decide) (fun _ => ?_) (fun hc => absurd rfl hc)
      refine lv_iinc (v := (nI (6 * kk) + 6)) (lv' := [(3, .int (nI (6 * kk) + 6)), (0, .ref b), (1, .ref (α 0)), (2, .ref (β 0))]) hx hb dL_law_976 hl (k := 0) rfl rfl (by decide) rfl (fun ls hl => ?_)
      refine lv_goto (tgt := 18) hx hb dL_law_979 (by decide) ?_
      have hl : lv_has ls 4 [(3, .int (nI (6 * (kk + 1)))), (0, .ref b), (1, .ref (α9 0)), (2, .ref (β 0))] := by rw [show 6 * (kk + 1) = 6 * kk + 6 by omega, ← nI_add, ha9]; exact hl
      exact W.widen (by omega) (by omega) (ih (kk + 1) (sp_deposit S (xs (nI (6 * kk) + 1).toNatClampNeg) (xs (nI (6 * kk) + 2).toNatClampNeg) (xs (nI (6 * kk) + 3).toNatClampNeg) (xs (nI (6 * kk) + 4).toNatClampNeg) (xs (nI (6 * kk) + 5).toNatClampNeg)).2 J9 n9 α9 β H locs ls (by omega) (by omega) (Ok_deposit hO (xs (nI (6 * kk) + 1).toNatClampNeg) (xs (nI (6 * kk) + 2).toNatClampNeg) (xs (nI (6 * kk) + 3).toNatClampNeg) (xs (nI (6 * kk) + 4).toNatClampNeg) (xs (nI (6 * kk) + 5).toNatClampNeg)) hI9 X hl)
    · refine lv_tableIn (tgt := 482) hx hb dL_law_33 (by rw [w9]; decide) (by rw [w9]; decide) (off := 449) (by rw [w9]; rfl) (by decide) ?_
      refine lv_aload_n hx hb dL_law_482 rfl (lv_at hl 2 rfl) ?_
      refine lv_aload_n hx hb dL_law_483 rfl (lv_at hl 1 rfl) ?_
      refine lv_iload_n hx hb dL_law_484 rfl (lv_at hl 0 rfl) ?_
      refine lv_iconst (v := 1) hx hb dL_law_485 (by decide) ?_
      refine lv_iadd hx hb dL_law_486 ?_
      refine va_sld hx hb hX hbl hbA X.2.2.2.1 (vp_ij (j := 1) h6 hL (by decide)) dL_law_487 ?_
      refine lv_aload_n hx hb dL_law_488 rfl (lv_at hl 1 rfl) ?_
      refine lv_iload_n hx hb dL_law_489 rfl (lv_at hl 0 rfl) ?_
      refine lv_iconst (v := 2) hx hb dL_law_490 (by decide) ?_
      refine lv_iadd hx hb dL_law_491 ?_
      refine va_sld hx hb hX hbl hbA X.2.2.2.1 (vp_ij (j := 2) h6 hL (by decide)) dL_law_492 ?_
      refine gx_l X (gr_V C X.sub (k := 0) (As := [.int (xs (nI (6 * kk) + 1).toNatClampNeg), .int (xs (nI (6 * kk) + 2).toNatClampNeg)]) (rest := []) (c_X10_about l D G τ α S J n _ (xs (nI (6 * kk) + 1).toNatClampNeg) (xs (nI (6 * kk) + 2).toNatClampNeg) hO.1 hI.1 hI.2.1 hI.2.2) (Lc_in (by decide)) cE_0 rfl wl_574 wl_575 wl_576 wl_29 wl_577 (na := 2) (by decide +kernel) rfl ⟨Nat.le_of_ble_eq_true rfl, Nat.le_of_ble_eq_true rfl⟩ ⟨(by show 58 + 3 * kk + 0 ≤ 600000; omega), (by show 2414 + 30 * kk + 0 ≤ 7302250; omega)⟩ hl.1 rfl (Nat.le_of_ble_eq_true rfl) dL_law_493) (fun r u h H locs X => ?_)
      obtain ⟨rfl, rfl⟩ := h
      have X : gR D G τ (aL s) s H locs (gw α (cE G α (sp_about S (xs (nI (6 * kk) + 1).toNatClampNeg) (xs (nI (6 * kk) + 2).toNatClampNeg)).2 J n) (Lc n) ++ gw β (mE G β S) Lm) := X.swap
      refine lv_aload_n hx hb dL_law_496 rfl (lv_at hl 3 rfl) ?_
      refine lv_aload_n hx hb dL_law_497 rfl (lv_at hl 1 rfl) ?_
      refine lv_iload_n hx hb dL_law_498 rfl (lv_at hl 0 rfl) ?_
      refine lv_iconst (v := 1) hx hb dL_law_499 (by decide) ?_
      refine lv_iadd hx hb dL_law_500 ?_
      refine va_sld hx hb hX hbl hbA X.2.2.2.1 (vp_ij (j := 1) h6 hL (by decide)) dL_law_501 ?_
      refine lv_aload_n hx hb dL_law_502 rfl (lv_at hl 1 rfl) ?_
      refine lv_iload_n hx hb dL_law_503 rfl (lv_at hl 0 rfl) ?_
      refine lv_iconst (v := 2) hx hb dL_law_504 (by decide) ?_
      refine lv_iadd hx hb dL_law_505 ?_
      refine va_sld hx hb hX hbl hbA X.2.2.2.1 (vp_ij (j := 2) h6 hL (by decide)) dL_law_506 ?_
      refine gx_l X (gr_V C X.sub (k := 0) (As := [.int (xs (nI (6 * kk) + 1).toNatClampNeg), .int (xs (nI (6 * kk) + 2).toNatClampNeg)]) (rest := [.long (sp_about S (xs (nI (6 * kk) + 1).toNatClampNeg) (xs (nI (6 * kk) + 2).toNatClampNeg)).1]) (c_X11_about l D G τ β S _ (xs (nI (6 * kk) + 1).toNatClampNeg) (xs (nI (6 * kk) + 2).toNatClampNeg) hO.1 hO.2.2.2.2.2.1) (by decide) mE_0 rfl wl_949 wl_950 wl_951 wl_40 wl_952 (na := 2) (by decide +kernel) rfl ⟨Nat.le_of_ble_eq_true rfl, Nat.le_of_ble_eq_true rfl⟩ ⟨(by show 58 + 3 * kk + 0 + 0 ≤ 600000; omega), (by show 2414 + 30 * kk + 0 + 0 ≤ 7302250; omega)⟩ hl.1 rfl (Nat.le_of_ble_eq_true rfl) dL_law_507) (fun r u h H locs X => ?_)
      obtain ⟨rfl, rfl⟩ := h
      have X : gR D G τ (aL s) s H locs (gw β (mE G β (sp_about S (xs (nI (6 * kk) + 1).toNatClampNeg) (xs (nI (6 * kk) + 2).toNatClampNeg)).2) Lm ++ gw α (cE G α (sp_about S (xs (nI (6 * kk) + 1).toNatClampNeg) (xs (nI (6 * kk) + 2).toNatClampNeg)).2 J n) (Lc n)) := X.swap
      refine gl_eq (tgt := 976) hx hb dL_law_510 dL_law_511 (by decide) (fun _ => ?_) (fun hc => absurd rfl hc)
      refine lv_iinc (v := (nI (6 * kk) + 6)) (lv' := [(3, .int (nI (6 * kk) + 6)), (0, .ref b), (1, .ref (α 0)), (2, .ref (β 0))]) hx hb dL_law_976 hl (k := 0) rfl rfl (by decide) rfl (fun ls hl => ?_)
      refine lv_goto (tgt := 18) hx hb dL_law_979 (by decide) ?_
      have hl : lv_has ls 4 [(3, .int (nI (6 * (kk + 1)))), (0, .ref b), (1, .ref (α 0)), (2, .ref (β 0))] := by rw [show 6 * (kk + 1) = 6 * kk + 6 by omega, ← nI_add]; exact hl
      exact W.widen (by omega) (by omega) (ih (kk + 1) (sp_about S (xs (nI (6 * kk) + 1).toNatClampNeg) (xs (nI (6 * kk) + 2).toNatClampNeg)).2 J n α β H locs ls (by omega) (by omega) (Ok_about hO (xs (nI (6 * kk) + 1).toNatClampNeg) (xs (nI (6 * kk) + 2).toNatClampNeg)) (I_about hI (xs (nI (6 * kk) + 1).toNatClampNeg) (xs (nI (6 * kk) + 2).toNatClampNeg)) X hl)
    · refine lv_tableIn (tgt := 516) hx hb dL_law_33 (by rw [w9]; decide) (by rw [w9]; decide) (off := 483) (by rw [w9]; rfl) (by decide) ?_
      refine lv_aload_n hx hb dL_law_516 rfl (lv_at hl 2 rfl) ?_
      refine lv_aload_n hx hb dL_law_517 rfl (lv_at hl 1 rfl) ?_
      refine lv_iload_n hx hb dL_law_518 rfl (lv_at hl 0 rfl) ?_
      refine lv_iconst (v := 1) hx hb dL_law_519 (by decide) ?_
      refine lv_iadd hx hb dL_law_520 ?_
      refine va_sld hx hb hX hbl hbA X.2.2.2.1 (vp_ij (j := 1) h6 hL (by decide)) dL_law_521 ?_
      refine lv_aload_n hx hb dL_law_522 rfl (lv_at hl 1 rfl) ?_
      refine lv_iload_n hx hb dL_law_523 rfl (lv_at hl 0 rfl) ?_
      refine lv_iconst (v := 2) hx hb dL_law_524 (by decide) ?_
      refine lv_iadd hx hb dL_law_525 ?_
      refine va_sld hx hb hX hbl hbA X.2.2.2.1 (vp_ij (j := 2) h6 hL (by decide)) dL_law_526 ?_
      refine gx_l X (gr_V C X.sub (k := 0) (As := [.int (xs (nI (6 * kk) + 1).toNatClampNeg), .int (xs (nI (6 * kk) + 2).toNatClampNeg)]) (rest := []) (c_X10_as l D G τ α S J n _ (xs (nI (6 * kk) + 1).toNatClampNeg) (xs (nI (6 * kk) + 2).toNatClampNeg) hO.1 hI.1 hI.2.1) (Lc_in (by decide)) cE_0 rfl wl_583 wl_584 wl_585 wl_29 wl_586 (na := 2) (by decide +kernel) rfl ⟨Nat.le_of_ble_eq_true rfl, Nat.le_of_ble_eq_true rfl⟩ ⟨(by show 58 + 3 * kk + 0 ≤ 600000; omega), (by show 2414 + 30 * kk + 0 ≤ 7302250; omega)⟩ hl.1 rfl (Nat.le_of_ble_eq_true rfl) dL_law_527) (fun r u h H locs X => ?_)
      obtain ⟨rfl, rfl⟩ := h
      have X : gR D G τ (aL s) s H locs (gw α (cE G α (sp_as S (xs (nI (6 * kk) + 1).toNatClampNeg) (xs (nI (6 * kk) + 2).toNatClampNeg)).2 J n) (Lc n) ++ gw β (mE G β S) Lm) := X.swap
      refine lv_aload_n hx hb dL_law_530 rfl (lv_at hl 3 rfl) ?_
      refine lv_aload_n hx hb dL_law_531 rfl (lv_at hl 1 rfl) ?_
      refine lv_iload_n hx hb dL_law_532 rfl (lv_at hl 0 rfl) ?_
      refine lv_iconst (v := 1) hx hb dL_law_533 (by decide) ?_
      refine lv_iadd hx hb dL_law_534 ?_
      refine va_sld hx hb hX hbl hbA X.2.2.2.1 (vp_ij (j := 1) h6 hL (by decide)) dL_law_535 ?_
      refine lv_aload_n hx hb dL_law_536 rfl (lv_at hl 1 rfl) ?_
      refine lv_iload_n hx hb dL_law_537 rfl (lv_at hl 0 rfl) ?_
      refine lv_iconst (v := 2) hx hb dL_law_538 (by decide) ?_
      refine lv_iadd hx hb dL_law_539 ?_
      refine va_sld hx hb hX hbl hbA X.2.2.2.1 (vp_ij (j := 2) h6 hL (by decide)) dL_law_540 ?_
      refine gx_l X (gr_V C X.sub (k := 0) (As := [.int (xs (nI (6 * kk) + 1).toNatClampNeg), .int (xs (nI (6 * kk) + 2).toNatClampNeg)]) (rest := [.long (sp_as S (xs (nI (6 * kk) + 1).toNatClampNeg) (xs (nI (6 * kk) + 2).toNatClampNeg)).1]) (c_X11_as l D G τ β S _ (xs (nI (6 * kk) + 1).toNatClampNeg) (xs (nI (6 * kk) + 2).toNatClampNeg) hO.1 hO.2.2.2.2.2.1) (by decide) mE_0 rfl wl_957 wl_958 wl_959 wl_40 wl_960 (na := 2) (by decide +kernel) rfl ⟨Nat.le_of_ble_eq_true rfl, Nat.le_of_ble_eq_true rfl⟩ ⟨(by show 58 + 3 * kk + 0 + 0 ≤ 600000; omega), (by show 2414 + 30 * kk + 0 + 0 ≤ 7302250; omega)⟩ hl.1 rfl (Nat.le_of_ble_eq_true rfl) dL_law_541) (fun r u h H locs X => ?_)
      obtain ⟨rfl, rfl⟩ := h
      have X : gR D G τ (aL s) s H locs (gw β (mE G β (sp_as S (xs (nI (6 * kk) + 1).toNatClampNeg) (xs (nI (6 * kk) + 2).toNatClampNeg)).2) Lm ++ gw α (cE G α (sp_as S (xs (nI (6 * kk) + 1).toNatClampNeg) (xs (nI (6 * kk) + 2).toNatClampNeg)).2 J n) (Lc n)) := X.swap
      refine gl_eq (tgt := 976) hx hb dL_law_544 dL_law_545 (by decide) (fun _ => ?_) (fun hc => absurd rfl hc)
      refine lv_iinc (v := (nI (6 * kk) + 6)) (lv' := [(3, .int (nI (6 * kk) + 6)), (0, .ref b), (1, .ref (α 0)), (2, .ref (β 0))]) hx hb dL_law_976 hl (k := 0) rfl rfl (by decide) rfl (fun ls hl => ?_)
      refine lv_goto (tgt := 18) hx hb dL_law_979 (by decide) ?_
      have hl : lv_has ls 4 [(3, .int (nI (6 * (kk + 1)))), (0, .ref b), (1, .ref (α 0)), (2, .ref (β 0))] := by rw [show 6 * (kk + 1) = 6 * kk + 6 by omega, ← nI_add]; exact hl
      exact W.widen (by omega) (by omega) (ih (kk + 1) (sp_as S (xs (nI (6 * kk) + 1).toNatClampNeg) (xs (nI (6 * kk) + 2).toNatClampNeg)).2 J n α β H locs ls (by omega) (by omega) (Ok_as hO (xs (nI (6 * kk) + 1).toNatClampNeg) (xs (nI (6 * kk) + 2).toNatClampNeg)) (I_as hI (xs (nI (6 * kk) + 1).toNatClampNeg) (xs (nI (6 * kk) + 2).toNatClampNeg)) X hl)
    · refine lv_tableIn (tgt := 550) hx hb dL_law_33 (by rw [w9]; decide) (by rw [w9]; decide) (off := 517) (by rw [w9]; rfl) (by decide) ?_
      refine lv_aload_n hx hb dL_law_550 rfl (lv_at hl 2 rfl) ?_
      refine lv_aload_n hx hb dL_law_551 rfl (lv_at hl 1 rfl) ?_
      refine lv_iload_n hx hb dL_law_552 rfl (lv_at hl 0 rfl) ?_
      refine lv_iconst (v := 1) hx hb dL_law_553 (by decide) ?_
      refine lv_iadd hx hb dL_law_554 ?_
      refine va_sld hx hb hX hbl hbA X.2.2.2.1 (vp_ij (j := 1) h6 hL (by decide)) dL_law_555 ?_
      refine lv_aload_n hx hb dL_law_556 rfl (lv_at hl 1 rfl) ?_
      refine lv_iload_n hx hb dL_law_557 rfl (lv_at hl 0 rfl) ?_
      refine lv_iconst (v := 2) hx hb dL_law_558 (by decide) ?_
      refine lv_iadd hx hb dL_law_559 ?_
      refine va_sld hx hb hX hbl hbA X.2.2.2.1 (vp_ij (j := 2) h6 hL (by decide)) dL_law_560 ?_
      refine gx_l X (gr_V C X.sub (k := 0) (As := [.int (xs (nI (6 * kk) + 1).toNatClampNeg), .int (xs (nI (6 * kk) + 2).toNatClampNeg)]) (rest := []) (c_X10_sell l D G τ α S J n _ (xs (nI (6 * kk) + 1).toNatClampNeg) (xs (nI (6 * kk) + 2).toNatClampNeg) hO.1 hI.1 hI.2.1 hO.2.2.2.2.2.1) (Lc_in (by decide)) cE_0 rfl wl_587 wl_588 wl_589 wl_29 wl_590 (na := 2) (by decide +kernel) rfl ⟨Nat.le_of_ble_eq_true rfl, Nat.le_of_ble_eq_true rfl⟩ ⟨(by show 58 + 3 * kk + 0 ≤ 600000; omega), (by show 2414 + 30 * kk + 0 ≤ 7302250; omega)⟩ hl.1 rfl (Nat.le_of_ble_eq_true rfl) dL_law_561) (fun r u h H locs X => ?_)
      obtain ⟨rfl, rfl⟩ := h
      have X : gR D G τ (aL s) s H locs (gw α (cE G α (sp_sell S (xs (nI (6 * kk) + 1).toNatClampNeg) (xs (nI (6 * kk) + 2).toNatClampNeg)).2 J n) (Lc n) ++ gw β (mE G β S) Lm) := X.swap
      refine lv_aload_n hx hb dL_law_564 rfl (lv_at hl 3 rfl) ?_
      refine lv_aload_n hx hb dL_law_565 rfl (lv_at hl 1 rfl) ?_
      refine lv_iload_n hx hb dL_law_566 rfl (lv_at hl 0 rfl) ?_
      refine lv_iconst (v := 1) hx hb dL_law_567 (by decide) ?_
      refine lv_iadd hx hb dL_law_568 ?_
      refine va_sld hx hb hX hbl hbA X.2.2.2.1 (vp_ij (j := 1) h6 hL (by decide)) dL_law_569 ?_
      refine lv_aload_n hx hb dL_law_570 rfl (lv_at hl 1 rfl) ?_
      refine lv_iload_n hx hb dL_law_571 rfl (lv_at hl 0 rfl) ?_
      refine lv_iconst (v := 2) hx hb dL_law_572 (by decide) ?_
      refine lv_iadd hx hb dL_law_573 ?_
      refine va_sld hx hb hX hbl hbA X.2.2.2.1 (vp_ij (j := 2) h6 hL (by decide)) dL_law_574 ?_
      refine gx_l X (gr_V C X.sub (k := 0) (As := [.int (xs (nI (6 * kk) + 1).toNatClampNeg), .int (xs (nI (6 * kk) + 2).toNatClampNeg)]) (rest := [.long (sp_sell S (xs (nI (6 * kk) + 1).toNatClampNeg) (xs (nI (6 * kk) + 2).toNatClampNeg)).1]) (c_X11_sell l D G τ β S _ (xs (nI (6 * kk) + 1).toNatClampNeg) (xs (nI (6 * kk) + 2).toNatClampNeg) hO.1 hO.2.2.2.2.2.1) (by decide) mE_0 rfl wl_961 wl_962 wl_963 wl_40 wl_964 (na := 2) (by decide +kernel) rfl ⟨Nat.le_of_ble_eq_true rfl, Nat.le_of_ble_eq_true rfl⟩ ⟨(by show 58 + 3 * kk + 0 + 0 ≤ 600000; omega), (by show 2414 + 30 * kk + 0 + 0 ≤ 7302250; omega)⟩ hl.1 rfl (Nat.le_of_ble_eq_true rfl) dL_law_575) (fun r u h H locs X => ?_)
      obtain ⟨rfl, rfl⟩ := h
      have X : gR D G τ (aL s) s H locs (gw β (mE G β (sp_sell S (xs (nI (6 * kk) + 1).toNatClampNeg) (xs (nI (6 * kk) + 2).toNatClampNeg)).2) Lm ++ gw α (cE G α (sp_sell S (xs (nI (6 * kk) + 1).toNatClampNeg) (xs (nI (6 * kk) + 2).toNatClampNeg)).2 J n) (Lc n)) := X.swap
      refine gl_eq (tgt := 976) hx hb dL_law_578 dL_law_579 (by decide) (fun _ => ?_) (fun hc => absurd rfl hc)
      refine lv_iinc (v := (nI (6 * kk) + 6)) (lv' := [(3, .int (nI (6 * kk) + 6)), (0, .ref b), (1, .ref (α 0)), (2, .ref (β 0))]) hx hb dL_law_976 hl (k := 0) rfl rfl (by decide) rfl (fun ls hl => ?_)
      refine lv_goto (tgt := 18) hx hb dL_law_979 (by decide) ?_
      have hl : lv_has ls 4 [(3, .int (nI (6 * (kk + 1)))), (0, .ref b), (1, .ref (α 0)), (2, .ref (β 0))] := by rw [show 6 * (kk + 1) = 6 * kk + 6 by omega, ← nI_add]; exact hl
      exact W.widen (by omega) (by omega) (ih (kk + 1) (sp_sell S (xs (nI (6 * kk) + 1).toNatClampNeg) (xs (nI (6 * kk) + 2).toNatClampNeg)).2 J n α β H locs ls (by omega) (by omega) (Ok_sell hO (xs (nI (6 * kk) + 1).toNatClampNeg) (xs (nI (6 * kk) + 2).toNatClampNeg)) (I_sell hI (xs (nI (6 * kk) + 1).toNatClampNeg) (xs (nI (6 * kk) + 2).toNatClampNeg)) X hl)
    · refine lv_tableIn (tgt := 584) hx hb dL_law_33 (by rw [w9]; decide) (by rw [w9]; decide) (off := 551) (by rw [w9]; rfl) (by decide) ?_
      refine lv_aload_n hx hb dL_law_584 rfl (lv_at hl 2 rfl) ?_
      refine lv_aload_n hx hb dL_law_585 rfl (lv_at hl 1 rfl) ?_
      refine lv_iload_n hx hb dL_law_586 rfl (lv_at hl 0 rfl) ?_
      refine lv_iconst (v := 1) hx hb dL_law_587 (by decide) ?_
      refine lv_iadd hx hb dL_law_588 ?_
      refine va_sld hx hb hX hbl hbA X.2.2.2.1 (vp_ij (j := 1) h6 hL (by decide)) dL_law_589 ?_
      refine lv_aload_n hx hb dL_law_590 rfl (lv_at hl 1 rfl) ?_
      refine lv_iload_n hx hb dL_law_591 rfl (lv_at hl 0 rfl) ?_
      refine lv_iconst (v := 2) hx hb dL_law_592 (by decide) ?_
      refine lv_iadd hx hb dL_law_593 ?_
      refine va_sld hx hb hX hbl hbA X.2.2.2.1 (vp_ij (j := 2) h6 hL (by decide)) dL_law_594 ?_
      refine gx_l X (gr_V C X.sub (k := 0) (As := [.int (xs (nI (6 * kk) + 1).toNatClampNeg), .int (xs (nI (6 * kk) + 2).toNatClampNeg)]) (rest := []) (c_X10_holder l D G τ α S J n _ (xs (nI (6 * kk) + 1).toNatClampNeg) (xs (nI (6 * kk) + 2).toNatClampNeg) hO.1 hI.1 hI.2.1 hO.2.2.2.2.2.1) (Lc_in (by decide)) cE_0 rfl wl_605 wl_606 wl_607 wl_29 wl_608 (na := 2) (by decide +kernel) rfl ⟨Nat.le_of_ble_eq_true rfl, Nat.le_of_ble_eq_true rfl⟩ ⟨(by show 58 + 3 * kk + 0 ≤ 600000; omega), (by show 2414 + 30 * kk + 0 ≤ 7302250; omega)⟩ hl.1 rfl (Nat.le_of_ble_eq_true rfl) dL_law_595) (fun r u h H locs X => ?_)
      obtain ⟨rfl, rfl⟩ := h
      have X : gR D G τ (aL s) s H locs (gw α (cE G α (sp_holder S (xs (nI (6 * kk) + 1).toNatClampNeg) (xs (nI (6 * kk) + 2).toNatClampNeg)).2 J n) (Lc n) ++ gw β (mE G β S) Lm) := X.swap
      refine lv_aload_n hx hb dL_law_598 rfl (lv_at hl 3 rfl) ?_
      refine lv_aload_n hx hb dL_law_599 rfl (lv_at hl 1 rfl) ?_
      refine lv_iload_n hx hb dL_law_600 rfl (lv_at hl 0 rfl) ?_
      refine lv_iconst (v := 1) hx hb dL_law_601 (by decide) ?_
      refine lv_iadd hx hb dL_law_602 ?_
      refine va_sld hx hb hX hbl hbA X.2.2.2.1 (vp_ij (j := 1) h6 hL (by decide)) dL_law_603 ?_
      refine lv_aload_n hx hb dL_law_604 rfl (lv_at hl 1 rfl) ?_
      refine lv_iload_n hx hb dL_law_605 rfl (lv_at hl 0 rfl) ?_
      refine lv_iconst (v := 2) hx hb dL_law_606 (by decide) ?_
      refine lv_iadd hx hb dL_law_607 ?_
      refine va_sld hx hb hX hbl hbA X.2.2.2.1 (vp_ij (j := 2) h6 hL (by decide)) dL_law_608 ?_
      refine gx_l X (gr_V C X.sub (k := 0) (As := [.int (xs (nI (6 * kk) + 1).toNatClampNeg), .int (xs (nI (6 * kk) + 2).toNatClampNeg)]) (rest := [.long (sp_holder S (xs (nI (6 * kk) + 1).toNatClampNeg) (xs (nI (6 * kk) + 2).toNatClampNeg)).1]) (c_X11_holder l D G τ β S _ (xs (nI (6 * kk) + 1).toNatClampNeg) (xs (nI (6 * kk) + 2).toNatClampNeg) hO.1 hO.2.2.2.2.2.1) (by decide) mE_0 rfl wl_965 wl_966 wl_967 wl_40 wl_968 (na := 2) (by decide +kernel) rfl ⟨Nat.le_of_ble_eq_true rfl, Nat.le_of_ble_eq_true rfl⟩ ⟨(by show 58 + 3 * kk + 0 + 0 ≤ 600000; omega), (by show 2414 + 30 * kk + 0 + 0 ≤ 7302250; omega)⟩ hl.1 rfl (Nat.le_of_ble_eq_true rfl) dL_law_609) (fun r u h H locs X => ?_)
      obtain ⟨rfl, rfl⟩ := h
      have X : gR D G τ (aL s) s H locs (gw β (mE G β (sp_holder S (xs (nI (6 * kk) + 1).toNatClampNeg) (xs (nI (6 * kk) + 2).toNatClampNeg)).2) Lm ++ gw α (cE G α (sp_holder S (xs (nI (6 * kk) + 1).toNatClampNeg) (xs (nI (6 * kk) + 2).toNatClampNeg)).2 J n) (Lc n)) := X.swap
      refine gl_eq (tgt := 976) hx hb dL_law_612 dL_law_613 (by decide) (fun _ => ?_) (fun hc => absurd rfl hc)
      refine lv_iinc (v := (nI (6 * kk) + 6)) (lv' := [(3, .int (nI (6 * kk) + 6)), (0, .ref b), (1, .ref (α 0)), (2, .ref (β 0))]) hx hb dL_law_976 hl (k := 0) rfl rfl (by decide) rfl (fun ls hl => ?_)
      refine lv_goto (tgt := 18) hx hb dL_law_979 (by decide) ?_
      have hl : lv_has ls 4 [(3, .int (nI (6 * (kk + 1)))), (0, .ref b), (1, .ref (α 0)), (2, .ref (β 0))] := by rw [show 6 * (kk + 1) = 6 * kk + 6 by omega, ← nI_add]; exact hl
      exact W.widen (by omega) (by omega) (ih (kk + 1) (sp_holder S (xs (nI (6 * kk) + 1).toNatClampNeg) (xs (nI (6 * kk) + 2).toNatClampNeg)).2 J n α β H locs ls (by omega) (by omega) (Ok_holder hO (xs (nI (6 * kk) + 1).toNatClampNeg) (xs (nI (6 * kk) + 2).toNatClampNeg)) (I_holder hI (xs (nI (6 * kk) + 1).toNatClampNeg) (xs (nI (6 * kk) + 2).toNatClampNeg)) X hl)
    · refine lv_tableIn (tgt := 618) hx hb dL_law_33 (by rw [w9]; decide) (by rw [w9]; decide) (off := 585) (by rw [w9]; rfl) (by decide) ?_
      refine lv_aload_n hx hb dL_law_618 rfl (lv_at hl 2 rfl) ?_
      refine lv_aload_n hx hb dL_law_619 rfl (lv_at hl 1 rfl) ?_
      refine lv_iload_n hx hb dL_law_620 rfl (lv_at hl 0 rfl) ?_
      refine lv_iconst (v := 1) hx hb dL_law_621 (by decide) ?_
      refine lv_iadd hx hb dL_law_622 ?_
      refine va_sld hx hb hX hbl hbA X.2.2.2.1 (vp_ij (j := 1) h6 hL (by decide)) dL_law_623 ?_
      refine lv_aload_n hx hb dL_law_624 rfl (lv_at hl 1 rfl) ?_
      refine lv_iload_n hx hb dL_law_625 rfl (lv_at hl 0 rfl) ?_
      refine lv_iconst (v := 2) hx hb dL_law_626 (by decide) ?_
      refine lv_iadd hx hb dL_law_627 ?_
      refine va_sld hx hb hX hbl hbA X.2.2.2.1 (vp_ij (j := 2) h6 hL (by decide)) dL_law_628 ?_
      refine lv_aload_n hx hb dL_law_629 rfl (lv_at hl 1 rfl) ?_
      refine lv_iload_n hx hb dL_law_630 rfl (lv_at hl 0 rfl) ?_
      refine lv_iconst (v := 3) hx hb dL_law_631 (by decide) ?_
      refine lv_iadd hx hb dL_law_632 ?_
      refine va_sld hx hb hX hbl hbA X.2.2.2.1 (vp_ij (j := 3) h6 hL (by decide)) dL_law_633 ?_
      refine gx_l X (gr_V C X.sub (k := 0) (As := [.int (xs (nI (6 * kk) + 1).toNatClampNeg), .int (xs (nI (6 * kk) + 2).toNatClampNeg), .int (xs (nI (6 * kk) + 3).toNatClampNeg)]) (rest := []) (c_X10_due l D G τ α S J n _ (xs (nI (6 * kk) + 1).toNatClampNeg) (xs (nI (6 * kk) + 2).toNatClampNeg) (xs (nI (6 * kk) + 3).toNatClampNeg) hO.1 hI.1 hI.2.1 hO.2.2.2.2.1 hI.2.2) (Lc_in (by decide)) cE_0 rfl wl_613 wl_614 wl_615 wl_29 wl_616 (na := 3) (by decide +kernel) rfl ⟨Nat.le_of_ble_eq_true rfl, Nat.le_of_ble_eq_true rfl⟩ ⟨(by show 58 + 3 * kk + 0 ≤ 600000; omega), (by show 2414 + 30 * kk + 0 ≤ 7302250; omega)⟩ hl.1 rfl (Nat.le_of_ble_eq_true rfl) dL_law_634) (fun r u h H locs X => ?_)
      obtain ⟨rfl, rfl⟩ := h
      have X : gR D G τ (aL s) s H locs (gw α (cE G α (sp_due S (xs (nI (6 * kk) + 1).toNatClampNeg) (xs (nI (6 * kk) + 2).toNatClampNeg) (xs (nI (6 * kk) + 3).toNatClampNeg)).2 J n) (Lc n) ++ gw β (mE G β S) Lm) := X.swap
      refine lv_aload_n hx hb dL_law_637 rfl (lv_at hl 3 rfl) ?_
      refine lv_aload_n hx hb dL_law_638 rfl (lv_at hl 1 rfl) ?_
      refine lv_iload_n hx hb dL_law_639 rfl (lv_at hl 0 rfl) ?_
      refine lv_iconst (v := 1) hx hb dL_law_640 (by decide) ?_
      refine lv_iadd hx hb dL_law_641 ?_
      refine va_sld hx hb hX hbl hbA X.2.2.2.1 (vp_ij (j := 1) h6 hL (by decide)) dL_law_642 ?_
      refine lv_aload_n hx hb dL_law_643 rfl (lv_at hl 1 rfl) ?_
      refine lv_iload_n hx hb dL_law_644 rfl (lv_at hl 0 rfl) ?_
      refine lv_iconst (v := 2) hx hb dL_law_645 (by decide) ?_
      refine lv_iadd hx hb dL_law_646 ?_
      refine va_sld hx hb hX hbl hbA X.2.2.2.1 (vp_ij (j := 2) h6 hL (by decide)) dL_law_647 ?_
      refine lv_aload_n hx hb dL_law_648 rfl (lv_at hl 1 rfl) ?_
      refine lv_iload_n hx hb dL_law_649 rfl (lv_at hl 0 rfl) ?_
      refine lv_iconst (v := 3) hx hb dL_law_650 (by decide) ?_
      refine lv_iadd hx hb dL_law_651 ?_
      refine va_sld hx hb hX hbl hbA X.2.2.2.1 (vp_ij (j := 3) h6 hL (by decide)) dL_law_652 ?_
      refine gx_l X (gr_V C X.sub (k := 0) (As := [.int (xs (nI (6 * kk) + 1).toNatClampNeg), .int (xs (nI (6 * kk) + 2).toNatClampNeg), .int (xs (nI (6 * kk) + 3).toNatClampNeg)]) (rest := [.long (sp_due S (xs (nI (6 * kk) + 1).toNatClampNeg) (xs (nI (6 * kk) + 2).toNatClampNeg) (xs (nI (6 * kk) + 3).toNatClampNeg)).1]) (c_X11_due l D G τ β S _ (xs (nI (6 * kk) + 1).toNatClampNeg) (xs (nI (6 * kk) + 2).toNatClampNeg) (xs (nI (6 * kk) + 3).toNatClampNeg) hO.1 hO.2.1 hO.2.2.2.2.2.1) (by decide) mE_0 rfl wl_969 wl_970 wl_971 wl_40 wl_972 (na := 3) (by decide +kernel) rfl ⟨Nat.le_of_ble_eq_true rfl, Nat.le_of_ble_eq_true rfl⟩ ⟨(by show 58 + 3 * kk + 0 + 0 ≤ 600000; omega), (by show 2414 + 30 * kk + 0 + 0 ≤ 7302250; omega)⟩ hl.1 rfl (Nat.le_of_ble_eq_true rfl) dL_law_653) (fun r u h H locs X => ?_)
      obtain ⟨rfl, rfl⟩ := h
      have X : gR D G τ (aL s) s H locs (gw β (mE G β (sp_due S (xs (nI (6 * kk) + 1).toNatClampNeg) (xs (nI (6 * kk) + 2).toNatClampNeg) (xs (nI (6 * kk) + 3).toNatClampNeg)).2) Lm ++ gw α (cE G α (sp_due S (xs (nI (6 * kk) + 1).toNatClampNeg) (xs (nI (6 * kk) + 2).toNatClampNeg) (xs (nI (6 * kk) + 3).toNatClampNeg)).2 J n) (Lc n)) := X.swap
      refine gl_eq (tgt := 976) hx hb dL_law_656 dL_law_657 (by decide) (fun _ => ?_) (fun hc => absurd rfl hc)
      refine lv_iinc (v := (nI (6 * kk) + 6)) (lv' := [(3, .int (nI (6 * kk) + 6)), (0, .ref b), (1, .ref (α 0)), (2, .ref (β 0))]) hx hb dL_law_976 hl (k := 0) rfl rfl (by decide) rfl (fun ls hl => ?_)
      refine lv_goto (tgt := 18) hx hb dL_law_979 (by decide) ?_
      have hl : lv_has ls 4 [(3, .int (nI (6 * (kk + 1)))), (0, .ref b), (1, .ref (α 0)), (2, .ref (β 0))] := by rw [show 6 * (kk + 1) = 6 * kk + 6 by omega, ← nI_add]; exact hl
      exact W.widen (by omega) (by omega) (ih (kk + 1) (sp_due S (xs (nI (6 * kk) + 1).toNatClampNeg) (xs (nI (6 * kk) + 2).toNatClampNeg) (xs (nI (6 * kk) + 3).toNatClampNeg)).2 J n α β H locs ls (by omega) (by omega) (Ok_due hO (xs (nI (6 * kk) + 1).toNatClampNeg) (xs (nI (6 * kk) + 2).toNatClampNeg) (xs (nI (6 * kk) + 3).toNatClampNeg)) (I_due hI (xs (nI (6 * kk) + 1).toNatClampNeg) (xs (nI (6 * kk) + 2).toNatClampNeg) (xs (nI (6 * kk) + 3).toNatClampNeg)) X hl)
    · refine lv_tableIn (tgt := 662) hx hb dL_law_33 (by rw [w9]; decide) (by rw [w9]; decide) (off := 629) (by rw [w9]; rfl) (by decide) ?_
      refine lv_aload_n hx hb dL_law_662 rfl (lv_at hl 2 rfl) ?_
      refine lv_aload_n hx hb dL_law_663 rfl (lv_at hl 1 rfl) ?_
      refine lv_iload_n hx hb dL_law_664 rfl (lv_at hl 0 rfl) ?_
      refine lv_iconst (v := 1) hx hb dL_law_665 (by decide) ?_
      refine lv_iadd hx hb dL_law_666 ?_
      refine va_sld hx hb hX hbl hbA X.2.2.2.1 (vp_ij (j := 1) h6 hL (by decide)) dL_law_667 ?_
      refine gx_l X (gr_V C X.sub (k := 0) (As := [.int (xs (nI (6 * kk) + 1).toNatClampNeg)]) (rest := []) (c_X10_foretold l D G τ α S J n _ (xs (nI (6 * kk) + 1).toNatClampNeg) hO.1 hI.1 hI.2.1 hO.2.2.2.2.1 hI.2.2) (Lc_in (by decide)) cE_0 rfl wl_620 wl_621 wl_622 wl_29 wl_623 (na := 1) (by decide +kernel) rfl ⟨Nat.le_of_ble_eq_true rfl, Nat.le_of_ble_eq_true rfl⟩ ⟨(by show 58 + 3 * kk + 0 ≤ 600000; omega), (by show 2414 + 30 * kk + 0 ≤ 7302250; omega)⟩ hl.1 rfl (Nat.le_of_ble_eq_true rfl) dL_law_668) (fun r u h H locs X => ?_)
      obtain ⟨rfl, rfl⟩ := h
      have X : gR D G τ (aL s) s H locs (gw α (cE G α (sp_foretold S (xs (nI (6 * kk) + 1).toNatClampNeg)).2 J n) (Lc n) ++ gw β (mE G β S) Lm) := X.swap
      refine lv_aload_n hx hb dL_law_671 rfl (lv_at hl 3 rfl) ?_
      refine lv_aload_n hx hb dL_law_672 rfl (lv_at hl 1 rfl) ?_
      refine lv_iload_n hx hb dL_law_673 rfl (lv_at hl 0 rfl) ?_
      refine lv_iconst (v := 1) hx hb dL_law_674 (by decide) ?_
      refine lv_iadd hx hb dL_law_675 ?_
      refine va_sld hx hb hX hbl hbA X.2.2.2.1 (vp_ij (j := 1) h6 hL (by decide)) dL_law_676 ?_
      refine gx_l X (gr_V C X.sub (k := 0) (As := [.int (xs (nI (6 * kk) + 1).toNatClampNeg)]) (rest := [.long (sp_foretold S (xs (nI (6 * kk) + 1).toNatClampNeg)).1]) (c_X11_foretold l D G τ β S _ (xs (nI (6 * kk) + 1).toNatClampNeg) hO.1 hO.2.1 hO.2.2.2.2.2.1) (by decide) mE_0 rfl wl_973 wl_974 wl_975 wl_40 wl_976 (na := 1) (by decide +kernel) rfl ⟨Nat.le_of_ble_eq_true rfl, Nat.le_of_ble_eq_true rfl⟩ ⟨(by show 58 + 3 * kk + 0 + 0 ≤ 600000; omega), (by show 2414 + 30 * kk + 0 + 0 ≤ 7302250; omega)⟩ hl.1 rfl (Nat.le_of_ble_eq_true rfl) dL_law_677) (fun r u h H locs X => ?_)
      obtain ⟨rfl, rfl⟩ := h
      have X : gR D G τ (aL s) s H locs (gw β (mE G β (sp_foretold S (xs (nI (6 * kk) + 1).toNatClampNeg)).2) Lm ++ gw α (cE G α (sp_foretold S (xs (nI (6 * kk) + 1).toNatClampNeg)).2 J n) (Lc n)) := X.swap
      refine gl_eq (tgt := 976) hx hb dL_law_680 dL_law_681 (by decide) (fun _ => ?_) (fun hc => absurd rfl hc)
      refine lv_iinc (v := (nI (6 * kk) + 6)) (lv' := [(3, .int (nI (6 * kk) + 6)), (0, .ref b), (1, .ref (α 0)), (2, .ref (β 0))]) hx hb dL_law_976 hl (k := 0) rfl rfl (by decide) rfl (fun ls hl => ?_)
      refine lv_goto (tgt := 18) hx hb dL_law_979 (by decide) ?_
      have hl : lv_has ls 4 [(3, .int (nI (6 * (kk + 1)))), (0, .ref b), (1, .ref (α 0)), (2, .ref (β 0))] := by rw [show 6 * (kk + 1) = 6 * kk + 6 by omega, ← nI_add]; exact hl
      exact W.widen (by omega) (by omega) (ih (kk + 1) (sp_foretold S (xs (nI (6 * kk) + 1).toNatClampNeg)).2 J n α β H locs ls (by omega) (by omega) (Ok_foretold hO (xs (nI (6 * kk) + 1).toNatClampNeg)) (I_foretold hI (xs (nI (6 * kk) + 1).toNatClampNeg)) X hl)
    · refine lv_tableIn (tgt := 686) hx hb dL_law_33 (by rw [w9]; decide) (by rw [w9]; decide) (off := 653) (by rw [w9]; rfl) (by decide) ?_
      refine lv_aload_n hx hb dL_law_686 rfl (lv_at hl 2 rfl) ?_
      refine lv_aload_n hx hb dL_law_687 rfl (lv_at hl 1 rfl) ?_
      refine lv_iload_n hx hb dL_law_688 rfl (lv_at hl 0 rfl) ?_
      refine lv_iconst (v := 1) hx hb dL_law_689 (by decide) ?_
      refine lv_iadd hx hb dL_law_690 ?_
      refine va_sld hx hb hX hbl hbA X.2.2.2.1 (vp_ij (j := 1) h6 hL (by decide)) dL_law_691 ?_
      refine gx_l X (gr_V C X.sub (k := 0) (As := [.int (xs (nI (6 * kk) + 1).toNatClampNeg)]) (rest := []) (c_X10_income l D G τ α S J n _ (xs (nI (6 * kk) + 1).toNatClampNeg) hO.1) (Lc_in (by decide)) cE_0 rfl wl_624 wl_625 wl_626 wl_29 wl_627 (na := 1) (by decide +kernel) rfl ⟨Nat.le_of_ble_eq_true rfl, Nat.le_of_ble_eq_true rfl⟩ ⟨(by show 58 + 3 * kk + 0 ≤ 600000; omega), (by show 2414 + 30 * kk + 0 ≤ 7302250; omega)⟩ hl.1 rfl (Nat.le_of_ble_eq_true rfl) dL_law_692) (fun r u h H locs X => ?_)
      obtain ⟨rfl, rfl⟩ := h
      have X : gR D G τ (aL s) s H locs (gw α (cE G α (sp_income S (xs (nI (6 * kk) + 1).toNatClampNeg)).2 J n) (Lc n) ++ gw β (mE G β S) Lm) := X.swap
      refine lv_aload_n hx hb dL_law_695 rfl (lv_at hl 3 rfl) ?_
      refine lv_aload_n hx hb dL_law_696 rfl (lv_at hl 1 rfl) ?_
      refine lv_iload_n hx hb dL_law_697 rfl (lv_at hl 0 rfl) ?_
      refine lv_iconst (v := 1) hx hb dL_law_698 (by decide) ?_
      refine lv_iadd hx hb dL_law_699 ?_
      refine va_sld hx hb hX hbl hbA X.2.2.2.1 (vp_ij (j := 1) h6 hL (by decide)) dL_law_700 ?_
      refine gx_l X (gr_V C X.sub (k := 0) (As := [.int (xs (nI (6 * kk) + 1).toNatClampNeg)]) (rest := [.long (sp_income S (xs (nI (6 * kk) + 1).toNatClampNeg)).1]) (c_X11_income l D G τ β S _ (xs (nI (6 * kk) + 1).toNatClampNeg) hO.1) (by decide) mE_0 rfl wl_977 wl_978 wl_979 wl_40 wl_980 (na := 1) (by decide +kernel) rfl ⟨Nat.le_of_ble_eq_true rfl, Nat.le_of_ble_eq_true rfl⟩ ⟨(by show 58 + 3 * kk + 0 + 0 ≤ 600000; omega), (by show 2414 + 30 * kk + 0 + 0 ≤ 7302250; omega)⟩ hl.1 rfl (Nat.le_of_ble_eq_true rfl) dL_law_701) (fun r u h H locs X => ?_)
      obtain ⟨rfl, rfl⟩ := h
      have X : gR D G τ (aL s) s H locs (gw β (mE G β (sp_income S (xs (nI (6 * kk) + 1).toNatClampNeg)).2) Lm ++ gw α (cE G α (sp_income S (xs (nI (6 * kk) + 1).toNatClampNeg)).2 J n) (Lc n)) := X.swap
      refine gl_eq (tgt := 976) hx hb dL_law_704 dL_law_705 (by decide) (fun _ => ?_) (fun hc => absurd rfl hc)
      refine lv_iinc (v := (nI (6 * kk) + 6)) (lv' := [(3, .int (nI (6 * kk) + 6)), (0, .ref b), (1, .ref (α 0)), (2, .ref (β 0))]) hx hb dL_law_976 hl (k := 0) rfl rfl (by decide) rfl (fun ls hl => ?_)
      refine lv_goto (tgt := 18) hx hb dL_law_979 (by decide) ?_
      have hl : lv_has ls 4 [(3, .int (nI (6 * (kk + 1)))), (0, .ref b), (1, .ref (α 0)), (2, .ref (β 0))] := by rw [show 6 * (kk + 1) = 6 * kk + 6 by omega, ← nI_add]; exact hl
      exact W.widen (by omega) (by omega) (ih (kk + 1) (sp_income S (xs (nI (6 * kk) + 1).toNatClampNeg)).2 J n α β H locs ls (by omega) (by omega) (Ok_income hO (xs (nI (6 * kk) + 1).toNatClampNeg)) (I_income hI (xs (nI (6 * kk) + 1).toNatClampNeg)) X hl)
    · refine lv_tableIn (tgt := 710) hx hb dL_law_33 (by rw [w9]; decide) (by rw [w9]; decide) (off := 677) (by rw [w9]; rfl) (by decide) ?_
      refine lv_aload_n hx hb dL_law_710 rfl (lv_at hl 2 rfl) ?_
      refine lv_aload_n hx hb dL_law_711 rfl (lv_at hl 1 rfl) ?_
      refine lv_iload_n hx hb dL_law_712 rfl (lv_at hl 0 rfl) ?_
      refine lv_iconst (v := 1) hx hb dL_law_713 (by decide) ?_
      refine lv_iadd hx hb dL_law_714 ?_
      refine va_sld hx hb hX hbl hbA X.2.2.2.1 (vp_ij (j := 1) h6 hL (by decide)) dL_law_715 ?_
      refine gx_l X (gr_V C X.sub (k := 0) (As := [.int (xs (nI (6 * kk) + 1).toNatClampNeg)]) (rest := []) (c_X10_purse l D G τ α S J n _ (xs (nI (6 * kk) + 1).toNatClampNeg) hO.1 hI.1 hI.2.1) (Lc_in (by decide)) cE_0 rfl wl_630 wl_631 wl_632 wl_29 wl_633 (na := 1) (by decide +kernel) rfl ⟨Nat.le_of_ble_eq_true rfl, Nat.le_of_ble_eq_true rfl⟩ ⟨(by show 58 + 3 * kk + 0 ≤ 600000; omega), (by show 2414 + 30 * kk + 0 ≤ 7302250; omega)⟩ hl.1 rfl (Nat.le_of_ble_eq_true rfl) dL_law_716) (fun r u h H locs X => ?_)
      obtain ⟨rfl, rfl⟩ := h
      have X : gR D G τ (aL s) s H locs (gw α (cE G α (sp_purse S (xs (nI (6 * kk) + 1).toNatClampNeg)).2 J n) (Lc n) ++ gw β (mE G β S) Lm) := X.swap
      refine lv_aload_n hx hb dL_law_719 rfl (lv_at hl 3 rfl) ?_
      refine lv_aload_n hx hb dL_law_720 rfl (lv_at hl 1 rfl) ?_
      refine lv_iload_n hx hb dL_law_721 rfl (lv_at hl 0 rfl) ?_
      refine lv_iconst (v := 1) hx hb dL_law_722 (by decide) ?_
      refine lv_iadd hx hb dL_law_723 ?_
      refine va_sld hx hb hX hbl hbA X.2.2.2.1 (vp_ij (j := 1) h6 hL (by decide)) dL_law_724 ?_
      refine gx_l X (gr_V C X.sub (k := 0) (As := [.int (xs (nI (6 * kk) + 1).toNatClampNeg)]) (rest := [.long (sp_purse S (xs (nI (6 * kk) + 1).toNatClampNeg)).1]) (c_X11_purse l D G τ β S _ (xs (nI (6 * kk) + 1).toNatClampNeg) hO.1) (by decide) mE_0 rfl wl_983 wl_984 wl_985 wl_40 wl_986 (na := 1) (by decide +kernel) rfl ⟨Nat.le_of_ble_eq_true rfl, Nat.le_of_ble_eq_true rfl⟩ ⟨(by show 58 + 3 * kk + 0 + 0 ≤ 600000; omega), (by show 2414 + 30 * kk + 0 + 0 ≤ 7302250; omega)⟩ hl.1 rfl (Nat.le_of_ble_eq_true rfl) dL_law_725) (fun r u h H locs X => ?_)
      obtain ⟨rfl, rfl⟩ := h
      have X : gR D G τ (aL s) s H locs (gw β (mE G β (sp_purse S (xs (nI (6 * kk) + 1).toNatClampNeg)).2) Lm ++ gw α (cE G α (sp_purse S (xs (nI (6 * kk) + 1).toNatClampNeg)).2 J n) (Lc n)) := X.swap
      refine gl_eq (tgt := 976) hx hb dL_law_728 dL_law_729 (by decide) (fun _ => ?_) (fun hc => absurd rfl hc)
      refine lv_iinc (v := (nI (6 * kk) + 6)) (lv' := [(3, .int (nI (6 * kk) + 6)), (0, .ref b), (1, .ref (α 0)), (2, .ref (β 0))]) hx hb dL_law_976 hl (k := 0) rfl rfl (by decide) rfl (fun ls hl => ?_)
      refine lv_goto (tgt := 18) hx hb dL_law_979 (by decide) ?_
      have hl : lv_has ls 4 [(3, .int (nI (6 * (kk + 1)))), (0, .ref b), (1, .ref (α 0)), (2, .ref (β 0))] := by rw [show 6 * (kk + 1) = 6 * kk + 6 by omega, ← nI_add]; exact hl
      exact W.widen (by omega) (by omega) (ih (kk + 1) (sp_purse S (xs (nI (6 * kk) + 1).toNatClampNeg)).2 J n α β H locs ls (by omega) (by omega) (Ok_purse hO (xs (nI (6 * kk) + 1).toNatClampNeg)) (I_purse hI (xs (nI (6 * kk) + 1).toNatClampNeg)) X hl)
    · refine lv_tableIn (tgt := 734) hx hb dL_law_33 (by rw [w9]; decide) (by rw [w9]; decide) (off := 701) (by rw [w9]; rfl) (by decide) ?_
      refine lv_aload_n hx hb dL_law_734 rfl (lv_at hl 2 rfl) ?_
      refine lv_aload_n hx hb dL_law_735 rfl (lv_at hl 1 rfl) ?_
      refine lv_iload_n hx hb dL_law_736 rfl (lv_at hl 0 rfl) ?_
      refine lv_iconst (v := 1) hx hb dL_law_737 (by decide) ?_
      refine lv_iadd hx hb dL_law_738 ?_
      refine va_sld hx hb hX hbl hbA X.2.2.2.1 (vp_ij (j := 1) h6 hL (by decide)) dL_law_739 ?_
      refine gx_l X (gr_V C X.sub (k := 0) (As := [.int (xs (nI (6 * kk) + 1).toNatClampNeg)]) (rest := []) (c_X10_paid l D G τ α S J n _ (xs (nI (6 * kk) + 1).toNatClampNeg) hO.1) (Lc_in (by decide)) cE_0 rfl wl_639 wl_640 wl_641 wl_29 wl_642 (na := 1) (by decide +kernel) rfl ⟨Nat.le_of_ble_eq_true rfl, Nat.le_of_ble_eq_true rfl⟩ ⟨(by show 58 + 3 * kk + 0 ≤ 600000; omega), (by show 2414 + 30 * kk + 0 ≤ 7302250; omega)⟩ hl.1 rfl (Nat.le_of_ble_eq_true rfl) dL_law_740) (fun r u h H locs X => ?_)
      obtain ⟨rfl, rfl⟩ := h
      have X : gR D G τ (aL s) s H locs (gw α (cE G α (sp_paid S (xs (nI (6 * kk) + 1).toNatClampNeg)).2 J n) (Lc n) ++ gw β (mE G β S) Lm) := X.swap
      refine lv_aload_n hx hb dL_law_743 rfl (lv_at hl 3 rfl) ?_
      refine lv_aload_n hx hb dL_law_744 rfl (lv_at hl 1 rfl) ?_
      refine lv_iload_n hx hb dL_law_745 rfl (lv_at hl 0 rfl) ?_
      refine lv_iconst (v := 1) hx hb dL_law_746 (by decide) ?_
      refine lv_iadd hx hb dL_law_747 ?_
      refine va_sld hx hb hX hbl hbA X.2.2.2.1 (vp_ij (j := 1) h6 hL (by decide)) dL_law_748 ?_
      refine gx_l X (gr_V C X.sub (k := 0) (As := [.int (xs (nI (6 * kk) + 1).toNatClampNeg)]) (rest := [.long (sp_paid S (xs (nI (6 * kk) + 1).toNatClampNeg)).1]) (c_X11_paid l D G τ β S _ (xs (nI (6 * kk) + 1).toNatClampNeg) hO.1) (by decide) mE_0 rfl wl_991 wl_992 wl_993 wl_40 wl_994 (na := 1) (by decide +kernel) rfl ⟨Nat.le_of_ble_eq_true rfl, Nat.le_of_ble_eq_true rfl⟩ ⟨(by show 58 + 3 * kk + 0 + 0 ≤ 600000; omega), (by show 2414 + 30 * kk + 0 + 0 ≤ 7302250; omega)⟩ hl.1 rfl (Nat.le_of_ble_eq_true rfl) dL_law_749) (fun r u h H locs X => ?_)
      obtain ⟨rfl, rfl⟩ := h
      have X : gR D G τ (aL s) s H locs (gw β (mE G β (sp_paid S (xs (nI (6 * kk) + 1).toNatClampNeg)).2) Lm ++ gw α (cE G α (sp_paid S (xs (nI (6 * kk) + 1).toNatClampNeg)).2 J n) (Lc n)) := X.swap
      refine gl_eq (tgt := 976) hx hb dL_law_752 dL_law_753 (by decide) (fun _ => ?_) (fun hc => absurd rfl hc)
      refine lv_iinc (v := (nI (6 * kk) + 6)) (lv' := [(3, .int (nI (6 * kk) + 6)), (0, .ref b), (1, .ref (α 0)), (2, .ref (β 0))]) hx hb dL_law_976 hl (k := 0) rfl rfl (by decide) rfl (fun ls hl => ?_)
      refine lv_goto (tgt := 18) hx hb dL_law_979 (by decide) ?_
      have hl : lv_has ls 4 [(3, .int (nI (6 * (kk + 1)))), (0, .ref b), (1, .ref (α 0)), (2, .ref (β 0))] := by rw [show 6 * (kk + 1) = 6 * kk + 6 by omega, ← nI_add]; exact hl
      exact W.widen (by omega) (by omega) (ih (kk + 1) (sp_paid S (xs (nI (6 * kk) + 1).toNatClampNeg)).2 J n α β H locs ls (by omega) (by omega) (Ok_paid hO (xs (nI (6 * kk) + 1).toNatClampNeg)) (I_paid hI (xs (nI (6 * kk) + 1).toNatClampNeg)) X hl)
    · refine lv_tableIn (tgt := 758) hx hb dL_law_33 (by rw [w9]; decide) (by rw [w9]; decide) (off := 725) (by rw [w9]; rfl) (by decide) ?_
      refine lv_aload_n hx hb dL_law_758 rfl (lv_at hl 2 rfl) ?_
      refine lv_aload_n hx hb dL_law_759 rfl (lv_at hl 1 rfl) ?_
      refine lv_iload_n hx hb dL_law_760 rfl (lv_at hl 0 rfl) ?_
      refine lv_iconst (v := 1) hx hb dL_law_761 (by decide) ?_
      refine lv_iadd hx hb dL_law_762 ?_
      refine va_sld hx hb hX hbl hbA X.2.2.2.1 (vp_ij (j := 1) h6 hL (by decide)) dL_law_763 ?_
      refine lv_aload_n hx hb dL_law_764 rfl (lv_at hl 1 rfl) ?_
      refine lv_iload_n hx hb dL_law_765 rfl (lv_at hl 0 rfl) ?_
      refine lv_iconst (v := 2) hx hb dL_law_766 (by decide) ?_
      refine lv_iadd hx hb dL_law_767 ?_
      refine va_sld hx hb hX hbl hbA X.2.2.2.1 (vp_ij (j := 2) h6 hL (by decide)) dL_law_768 ?_
      refine lv_aload_n hx hb dL_law_769 rfl (lv_at hl 1 rfl) ?_
      refine lv_iload_n hx hb dL_law_770 rfl (lv_at hl 0 rfl) ?_
      refine lv_iconst (v := 3) hx hb dL_law_771 (by decide) ?_
      refine lv_iadd hx hb dL_law_772 ?_
      refine va_sld hx hb hX hbl hbA X.2.2.2.1 (vp_ij (j := 3) h6 hL (by decide)) dL_law_773 ?_
      refine lv_aload_n hx hb dL_law_774 rfl (lv_at hl 1 rfl) ?_
      refine lv_iload_n hx hb dL_law_775 rfl (lv_at hl 0 rfl) ?_
      refine lv_iconst (v := 4) hx hb dL_law_776 (by decide) ?_
      refine lv_iadd hx hb dL_law_777 ?_
      refine va_sld hx hb hX hbl hbA X.2.2.2.1 (vp_ij (j := 4) h6 hL (by decide)) dL_law_778 ?_
      refine gx_l X (gr_V C X.sub (k := 0) (As := [.int (xs (nI (6 * kk) + 1).toNatClampNeg), .int (xs (nI (6 * kk) + 2).toNatClampNeg), .int (xs (nI (6 * kk) + 3).toNatClampNeg), .int (xs (nI (6 * kk) + 4).toNatClampNeg)]) (rest := []) (c_X10_lives l D G τ α S J n _ (xs (nI (6 * kk) + 1).toNatClampNeg) (xs (nI (6 * kk) + 2).toNatClampNeg) (xs (nI (6 * kk) + 3).toNatClampNeg) (xs (nI (6 * kk) + 4).toNatClampNeg) hO.1) (Lc_in (by decide)) cE_0 rfl wl_643 wl_644 wl_645 wl_29 wl_646 (na := 4) (by decide +kernel) rfl ⟨Nat.le_of_ble_eq_true rfl, Nat.le_of_ble_eq_true rfl⟩ ⟨(by show 58 + 3 * kk + 0 ≤ 600000; omega), (by show 2414 + 30 * kk + 0 ≤ 7302250; omega)⟩ hl.1 rfl (Nat.le_of_ble_eq_true rfl) dL_law_779) (fun r u h H locs X => ?_)
      obtain ⟨rfl, rfl⟩ := h
      have X : gR D G τ (aL s) s H locs (gw α (cE G α (sp_lives S (xs (nI (6 * kk) + 1).toNatClampNeg) (xs (nI (6 * kk) + 2).toNatClampNeg) (xs (nI (6 * kk) + 3).toNatClampNeg) (xs (nI (6 * kk) + 4).toNatClampNeg)).2 J n) (Lc n) ++ gw β (mE G β S) Lm) := X.swap
      refine lv_aload_n hx hb dL_law_782 rfl (lv_at hl 3 rfl) ?_
      refine lv_aload_n hx hb dL_law_783 rfl (lv_at hl 1 rfl) ?_
      refine lv_iload_n hx hb dL_law_784 rfl (lv_at hl 0 rfl) ?_
      refine lv_iconst (v := 1) hx hb dL_law_785 (by decide) ?_
      refine lv_iadd hx hb dL_law_786 ?_
      refine va_sld hx hb hX hbl hbA X.2.2.2.1 (vp_ij (j := 1) h6 hL (by decide)) dL_law_787 ?_
      refine lv_aload_n hx hb dL_law_788 rfl (lv_at hl 1 rfl) ?_
      refine lv_iload_n hx hb dL_law_789 rfl (lv_at hl 0 rfl) ?_
      refine lv_iconst (v := 2) hx hb dL_law_790 (by decide) ?_
      refine lv_iadd hx hb dL_law_791 ?_
      refine va_sld hx hb hX hbl hbA X.2.2.2.1 (vp_ij (j := 2) h6 hL (by decide)) dL_law_792 ?_
      refine lv_aload_n hx hb dL_law_793 rfl (lv_at hl 1 rfl) ?_
      refine lv_iload_n hx hb dL_law_794 rfl (lv_at hl 0 rfl) ?_
      refine lv_iconst (v := 3) hx hb dL_law_795 (by decide) ?_
      refine lv_iadd hx hb dL_law_796 ?_
      refine va_sld hx hb hX hbl hbA X.2.2.2.1 (vp_ij (j := 3) h6 hL (by decide)) dL_law_797 ?_
      refine lv_aload_n hx hb dL_law_798 rfl (lv_at hl 1 rfl) ?_
      refine lv_iload_n hx hb dL_law_799 rfl (lv_at hl 0 rfl) ?_
      refine lv_iconst (v := 4) hx hb dL_law_800 (by decide) ?_
      refine lv_iadd hx hb dL_law_801 ?_
      refine va_sld hx hb hX hbl hbA X.2.2.2.1 (vp_ij (j := 4) h6 hL (by decide)) dL_law_802 ?_
      refine gx_l X (gr_V C X.sub (k := 0) (As := [.int (xs (nI (6 * kk) + 1).toNatClampNeg), .int (xs (nI (6 * kk) + 2).toNatClampNeg), .int (xs (nI (6 * kk) + 3).toNatClampNeg), .int (xs (nI (6 * kk) + 4).toNatClampNeg)]) (rest := [.long (sp_lives S (xs (nI (6 * kk) + 1).toNatClampNeg) (xs (nI (6 * kk) + 2).toNatClampNeg) (xs (nI (6 * kk) + 3).toNatClampNeg) (xs (nI (6 * kk) + 4).toNatClampNeg)).1]) (c_X11_lives l D G τ β S _ (xs (nI (6 * kk) + 1).toNatClampNeg) (xs (nI (6 * kk) + 2).toNatClampNeg) (xs (nI (6 * kk) + 3).toNatClampNeg) (xs (nI (6 * kk) + 4).toNatClampNeg) hO.1) (by decide) mE_0 rfl wl_995 wl_996 wl_997 wl_40 wl_998 (na := 4) (by decide +kernel) rfl ⟨Nat.le_of_ble_eq_true rfl, Nat.le_of_ble_eq_true rfl⟩ ⟨(by show 58 + 3 * kk + 0 + 0 ≤ 600000; omega), (by show 2414 + 30 * kk + 0 + 0 ≤ 7302250; omega)⟩ hl.1 rfl (Nat.le_of_ble_eq_true rfl) dL_law_803) (fun r u h H locs X => ?_)
      obtain ⟨rfl, rfl⟩ := h
      have X : gR D G τ (aL s) s H locs (gw β (mE G β (sp_lives S (xs (nI (6 * kk) + 1).toNatClampNeg) (xs (nI (6 * kk) + 2).toNatClampNeg) (xs (nI (6 * kk) + 3).toNatClampNeg) (xs (nI (6 * kk) + 4).toNatClampNeg)).2) Lm ++ gw α (cE G α (sp_lives S (xs (nI (6 * kk) + 1).toNatClampNeg) (xs (nI (6 * kk) + 2).toNatClampNeg) (xs (nI (6 * kk) + 3).toNatClampNeg) (xs (nI (6 * kk) + 4).toNatClampNeg)).2 J n) (Lc n)) := X.swap
      refine gl_eq (tgt := 976) hx hb dL_law_806 dL_law_807 (by decide) (fun _ => ?_) (fun hc => absurd rfl hc)
      refine lv_iinc (v := (nI (6 * kk) + 6)) (lv' := [(3, .int (nI (6 * kk) + 6)), (0, .ref b), (1, .ref (α 0)), (2, .ref (β 0))]) hx hb dL_law_976 hl (k := 0) rfl rfl (by decide) rfl (fun ls hl => ?_)
      refine lv_goto (tgt := 18) hx hb dL_law_979 (by decide) ?_
      have hl : lv_has ls 4 [(3, .int (nI (6 * (kk + 1)))), (0, .ref b), (1, .ref (α 0)), (2, .ref (β 0))] := by rw [show 6 * (kk + 1) = 6 * kk + 6 by omega, ← nI_add]; exact hl
      exact W.widen (by omega) (by omega) (ih (kk + 1) (sp_lives S (xs (nI (6 * kk) + 1).toNatClampNeg) (xs (nI (6 * kk) + 2).toNatClampNeg) (xs (nI (6 * kk) + 3).toNatClampNeg) (xs (nI (6 * kk) + 4).toNatClampNeg)).2 J n α β H locs ls (by omega) (by omega) (Ok_lives hO (xs (nI (6 * kk) + 1).toNatClampNeg) (xs (nI (6 * kk) + 2).toNatClampNeg) (xs (nI (6 * kk) + 3).toNatClampNeg) (xs (nI (6 * kk) + 4).toNatClampNeg)) (I_lives hI (xs (nI (6 * kk) + 1).toNatClampNeg) (xs (nI (6 * kk) + 2).toNatClampNeg) (xs (nI (6 * kk) + 3).toNatClampNeg) (xs (nI (6 * kk) + 4).toNatClampNeg)) X hl)
    · refine lv_tableIn (tgt := 812) hx hb dL_law_33 (by rw [w9]; decide) (by rw [w9]; decide) (off := 779) (by rw [w9]; rfl) (by decide) ?_
      refine lv_aload_n hx hb dL_law_812 rfl (lv_at hl 2 rfl) ?_
      refine lv_aload_n hx hb dL_law_813 rfl (lv_at hl 1 rfl) ?_
      refine lv_iload_n hx hb dL_law_814 rfl (lv_at hl 0 rfl) ?_
      refine lv_iconst (v := 1) hx hb dL_law_815 (by decide) ?_
      refine lv_iadd hx hb dL_law_816 ?_
      refine va_sld hx hb hX hbl hbA X.2.2.2.1 (vp_ij (j := 1) h6 hL (by decide)) dL_law_817 ?_
      refine lv_aload_n hx hb dL_law_818 rfl (lv_at hl 1 rfl) ?_
      refine lv_iload_n hx hb dL_law_819 rfl (lv_at hl 0 rfl) ?_
      refine lv_iconst (v := 2) hx hb dL_law_820 (by decide) ?_
      refine lv_iadd hx hb dL_law_821 ?_
      refine va_sld hx hb hX hbl hbA X.2.2.2.1 (vp_ij (j := 2) h6 hL (by decide)) dL_law_822 ?_
      refine lv_aload_n hx hb dL_law_823 rfl (lv_at hl 1 rfl) ?_
      refine lv_iload_n hx hb dL_law_824 rfl (lv_at hl 0 rfl) ?_
      refine lv_iconst (v := 3) hx hb dL_law_825 (by decide) ?_
      refine lv_iadd hx hb dL_law_826 ?_
      refine va_sld hx hb hX hbl hbA X.2.2.2.1 (vp_ij (j := 3) h6 hL (by decide)) dL_law_827 ?_
      refine gx_l X (gr_V C X.sub (k := 0) (As := [.int (xs (nI (6 * kk) + 1).toNatClampNeg), .int (xs (nI (6 * kk) + 2).toNatClampNeg), .int (xs (nI (6 * kk) + 3).toNatClampNeg)]) (rest := []) (c_X10_value l D G τ α S J n _ (xs (nI (6 * kk) + 1).toNatClampNeg) (xs (nI (6 * kk) + 2).toNatClampNeg) (xs (nI (6 * kk) + 3).toNatClampNeg) hO.1) (Lc_in (by decide)) cE_0 rfl wl_660 wl_661 wl_662 wl_29 wl_663 (na := 3) (by decide +kernel) rfl ⟨Nat.le_of_ble_eq_true rfl, Nat.le_of_ble_eq_true rfl⟩ ⟨(by show 58 + 3 * kk + 0 ≤ 600000; omega), (by show 2414 + 30 * kk + 0 ≤ 7302250; omega)⟩ hl.1 rfl (Nat.le_of_ble_eq_true rfl) dL_law_828) (fun r u h H locs X => ?_)
      obtain ⟨rfl, rfl⟩ := h
      have X : gR D G τ (aL s) s H locs (gw α (cE G α (sp_value S (xs (nI (6 * kk) + 1).toNatClampNeg) (xs (nI (6 * kk) + 2).toNatClampNeg) (xs (nI (6 * kk) + 3).toNatClampNeg)).2 J n) (Lc n) ++ gw β (mE G β S) Lm) := X.swap
      refine lv_aload_n hx hb dL_law_831 rfl (lv_at hl 3 rfl) ?_
      refine lv_aload_n hx hb dL_law_832 rfl (lv_at hl 1 rfl) ?_
      refine lv_iload_n hx hb dL_law_833 rfl (lv_at hl 0 rfl) ?_
      refine lv_iconst (v := 1) hx hb dL_law_834 (by decide) ?_
      refine lv_iadd hx hb dL_law_835 ?_
      refine va_sld hx hb hX hbl hbA X.2.2.2.1 (vp_ij (j := 1) h6 hL (by decide)) dL_law_836 ?_
      refine lv_aload_n hx hb dL_law_837 rfl (lv_at hl 1 rfl) ?_
      refine lv_iload_n hx hb dL_law_838 rfl (lv_at hl 0 rfl) ?_
      refine lv_iconst (v := 2) hx hb dL_law_839 (by decide) ?_
      refine lv_iadd hx hb dL_law_840 ?_
      refine va_sld hx hb hX hbl hbA X.2.2.2.1 (vp_ij (j := 2) h6 hL (by decide)) dL_law_841 ?_
      refine lv_aload_n hx hb dL_law_842 rfl (lv_at hl 1 rfl) ?_
      refine lv_iload_n hx hb dL_law_843 rfl (lv_at hl 0 rfl) ?_
      refine lv_iconst (v := 3) hx hb dL_law_844 (by decide) ?_
      refine lv_iadd hx hb dL_law_845 ?_
      refine va_sld hx hb hX hbl hbA X.2.2.2.1 (vp_ij (j := 3) h6 hL (by decide)) dL_law_846 ?_
      refine gx_l X (gr_V C X.sub (k := 0) (As := [.int (xs (nI (6 * kk) + 1).toNatClampNeg), .int (xs (nI (6 * kk) + 2).toNatClampNeg), .int (xs (nI (6 * kk) + 3).toNatClampNeg)]) (rest := [.long (sp_value S (xs (nI (6 * kk) + 1).toNatClampNeg) (xs (nI (6 * kk) + 2).toNatClampNeg) (xs (nI (6 * kk) + 3).toNatClampNeg)).1]) (c_X11_value l D G τ β S _ (xs (nI (6 * kk) + 1).toNatClampNeg) (xs (nI (6 * kk) + 2).toNatClampNeg) (xs (nI (6 * kk) + 3).toNatClampNeg) hO.1) (by decide) mE_0 rfl wl_999 wl_1000 wl_1001 wl_40 wl_1002 (na := 3) (by decide +kernel) rfl ⟨Nat.le_of_ble_eq_true rfl, Nat.le_of_ble_eq_true rfl⟩ ⟨(by show 58 + 3 * kk + 0 + 0 ≤ 600000; omega), (by show 2414 + 30 * kk + 0 + 0 ≤ 7302250; omega)⟩ hl.1 rfl (Nat.le_of_ble_eq_true rfl) dL_law_847) (fun r u h H locs X => ?_)
      obtain ⟨rfl, rfl⟩ := h
      have X : gR D G τ (aL s) s H locs (gw β (mE G β (sp_value S (xs (nI (6 * kk) + 1).toNatClampNeg) (xs (nI (6 * kk) + 2).toNatClampNeg) (xs (nI (6 * kk) + 3).toNatClampNeg)).2) Lm ++ gw α (cE G α (sp_value S (xs (nI (6 * kk) + 1).toNatClampNeg) (xs (nI (6 * kk) + 2).toNatClampNeg) (xs (nI (6 * kk) + 3).toNatClampNeg)).2 J n) (Lc n)) := X.swap
      refine gl_eq (tgt := 976) hx hb dL_law_850 dL_law_851 (by decide) (fun _ => ?_) (fun hc => absurd rfl hc)
      refine lv_iinc (v := (nI (6 * kk) + 6)) (lv' := [(3, .int (nI (6 * kk) + 6)), (0, .ref b), (1, .ref (α 0)), (2, .ref (β 0))]) hx hb dL_law_976 hl (k := 0) rfl rfl (by decide) rfl (fun ls hl => ?_)
      refine lv_goto (tgt := 18) hx hb dL_law_979 (by decide) ?_
      have hl : lv_has ls 4 [(3, .int (nI (6 * (kk + 1)))), (0, .ref b), (1, .ref (α 0)), (2, .ref (β 0))] := by rw [show 6 * (kk + 1) = 6 * kk + 6 by omega, ← nI_add]; exact hl
      exact W.widen (by omega) (by omega) (ih (kk + 1) (sp_value S (xs (nI (6 * kk) + 1).toNatClampNeg) (xs (nI (6 * kk) + 2).toNatClampNeg) (xs (nI (6 * kk) + 3).toNatClampNeg)).2 J n α β H locs ls (by omega) (by omega) (Ok_value hO (xs (nI (6 * kk) + 1).toNatClampNeg) (xs (nI (6 * kk) + 2).toNatClampNeg) (xs (nI (6 * kk) + 3).toNatClampNeg)) (I_value hI (xs (nI (6 * kk) + 1).toNatClampNeg) (xs (nI (6 * kk) + 2).toNatClampNeg) (xs (nI (6 * kk) + 3).toNatClampNeg)) X hl)
    · refine lv_tableIn (tgt := 856) hx hb dL_law_33 (by rw [w9]; decide) (by rw [w9]; decide) (off := 823) (by rw [w9]; rfl) (by decide) ?_
      refine lv_aload_n hx hb dL_law_856 rfl (lv_at hl 2 rfl) ?_
      refine lv_aload_n hx hb dL_law_857 rfl (lv_at hl 1 rfl) ?_
      refine lv_iload_n hx hb dL_law_858 rfl (lv_at hl 0 rfl) ?_
      refine lv_iconst (v := 1) hx hb dL_law_859 (by decide) ?_
      refine lv_iadd hx hb dL_law_860 ?_
      refine va_sld hx hb hX hbl hbA X.2.2.2.1 (vp_ij (j := 1) h6 hL (by decide)) dL_law_861 ?_
      refine lv_aload_n hx hb dL_law_862 rfl (lv_at hl 1 rfl) ?_
      refine lv_iload_n hx hb dL_law_863 rfl (lv_at hl 0 rfl) ?_
      refine lv_iconst (v := 2) hx hb dL_law_864 (by decide) ?_
      refine lv_iadd hx hb dL_law_865 ?_
      refine va_sld hx hb hX hbl hbA X.2.2.2.1 (vp_ij (j := 2) h6 hL (by decide)) dL_law_866 ?_
      refine gx_l X (gr_V C X.sub (k := 0) (As := [.int (xs (nI (6 * kk) + 1).toNatClampNeg), .int (xs (nI (6 * kk) + 2).toNatClampNeg)]) (rest := []) (c_X10_left l D G τ α S J n _ (xs (nI (6 * kk) + 1).toNatClampNeg) (xs (nI (6 * kk) + 2).toNatClampNeg) hO.1) (Lc_in (by decide)) cE_0 rfl wl_680 wl_681 wl_682 wl_29 wl_683 (na := 2) (by decide +kernel) rfl ⟨Nat.le_of_ble_eq_true rfl, Nat.le_of_ble_eq_true rfl⟩ ⟨(by show 58 + 3 * kk + 0 ≤ 600000; omega), (by show 2414 + 30 * kk + 0 ≤ 7302250; omega)⟩ hl.1 rfl (Nat.le_of_ble_eq_true rfl) dL_law_867) (fun r u h H locs X => ?_)
      obtain ⟨rfl, rfl⟩ := h
      have X : gR D G τ (aL s) s H locs (gw α (cE G α (sp_left S (xs (nI (6 * kk) + 1).toNatClampNeg) (xs (nI (6 * kk) + 2).toNatClampNeg)).2 J n) (Lc n) ++ gw β (mE G β S) Lm) := X.swap
      refine lv_aload_n hx hb dL_law_870 rfl (lv_at hl 3 rfl) ?_
      refine lv_aload_n hx hb dL_law_871 rfl (lv_at hl 1 rfl) ?_
      refine lv_iload_n hx hb dL_law_872 rfl (lv_at hl 0 rfl) ?_
      refine lv_iconst (v := 1) hx hb dL_law_873 (by decide) ?_
      refine lv_iadd hx hb dL_law_874 ?_
      refine va_sld hx hb hX hbl hbA X.2.2.2.1 (vp_ij (j := 1) h6 hL (by decide)) dL_law_875 ?_
      refine lv_aload_n hx hb dL_law_876 rfl (lv_at hl 1 rfl) ?_
      refine lv_iload_n hx hb dL_law_877 rfl (lv_at hl 0 rfl) ?_
      refine lv_iconst (v := 2) hx hb dL_law_878 (by decide) ?_
      refine lv_iadd hx hb dL_law_879 ?_
      refine va_sld hx hb hX hbl hbA X.2.2.2.1 (vp_ij (j := 2) h6 hL (by decide)) dL_law_880 ?_
      refine gx_l X (gr_V C X.sub (k := 0) (As := [.int (xs (nI (6 * kk) + 1).toNatClampNeg), .int (xs (nI (6 * kk) + 2).toNatClampNeg)]) (rest := [.long (sp_left S (xs (nI (6 * kk) + 1).toNatClampNeg) (xs (nI (6 * kk) + 2).toNatClampNeg)).1]) (c_X11_left l D G τ β S _ (xs (nI (6 * kk) + 1).toNatClampNeg) (xs (nI (6 * kk) + 2).toNatClampNeg) hO.1) (by decide) mE_0 rfl wl_1012 wl_1013 wl_1014 wl_40 wl_1015 (na := 2) (by decide +kernel) rfl ⟨Nat.le_of_ble_eq_true rfl, Nat.le_of_ble_eq_true rfl⟩ ⟨(by show 58 + 3 * kk + 0 + 0 ≤ 600000; omega), (by show 2414 + 30 * kk + 0 + 0 ≤ 7302250; omega)⟩ hl.1 rfl (Nat.le_of_ble_eq_true rfl) dL_law_881) (fun r u h H locs X => ?_)
      obtain ⟨rfl, rfl⟩ := h
      have X : gR D G τ (aL s) s H locs (gw β (mE G β (sp_left S (xs (nI (6 * kk) + 1).toNatClampNeg) (xs (nI (6 * kk) + 2).toNatClampNeg)).2) Lm ++ gw α (cE G α (sp_left S (xs (nI (6 * kk) + 1).toNatClampNeg) (xs (nI (6 * kk) + 2).toNatClampNeg)).2 J n) (Lc n)) := X.swap
      refine gl_eq (tgt := 976) hx hb dL_law_884 dL_law_885 (by decide) (fun _ => ?_) (fun hc => absurd rfl hc)
      refine lv_iinc (v := (nI (6 * kk) + 6)) (lv' := [(3, .int (nI (6 * kk) + 6)), (0, .ref b), (1, .ref (α 0)), (2, .ref (β 0))]) hx hb dL_law_976 hl (k := 0) rfl rfl (by decide) rfl (fun ls hl => ?_)
      refine lv_goto (tgt := 18) hx hb dL_law_979 (by decide) ?_
      have hl : lv_has ls 4 [(3, .int (nI (6 * (kk + 1)))), (0, .ref b), (1, .ref (α 0)), (2, .ref (β 0))] := by rw [show 6 * (kk + 1) = 6 * kk + 6 by omega, ← nI_add]; exact hl
      exact W.widen (by omega) (by omega) (ih (kk + 1) (sp_left S (xs (nI (6 * kk) + 1).toNatClampNeg) (xs (nI (6 * kk) + 2).toNatClampNeg)).2 J n α β H locs ls (by omega) (by omega) (Ok_left hO (xs (nI (6 * kk) + 1).toNatClampNeg) (xs (nI (6 * kk) + 2).toNatClampNeg)) (I_left hI (xs (nI (6 * kk) + 1).toNatClampNeg) (xs (nI (6 * kk) + 2).toNatClampNeg)) X hl)
    · refine lv_tableIn (tgt := 890) hx hb dL_law_33 (by rw [w9]; decide) (by rw [w9]; decide) (off := 857) (by rw [w9]; rfl) (by decide) ?_
      refine lv_aload_n hx hb dL_law_890 rfl (lv_at hl 2 rfl) ?_
      refine lv_aload_n hx hb dL_law_891 rfl (lv_at hl 1 rfl) ?_
      refine lv_iload_n hx hb dL_law_892 rfl (lv_at hl 0 rfl) ?_
      refine lv_iconst (v := 1) hx hb dL_law_893 (by decide) ?_
      refine lv_iadd hx hb dL_law_894 ?_
      refine va_sld hx hb hX hbl hbA X.2.2.2.1 (vp_ij (j := 1) h6 hL (by decide)) dL_law_895 ?_
      refine gx_l X (gr_V C X.sub (k := 0) (As := [.int (xs (nI (6 * kk) + 1).toNatClampNeg)]) (rest := []) (c_X10_tell l D G τ α S J n _ (xs (nI (6 * kk) + 1).toNatClampNeg) hO.1) (Lc_in (by decide)) cE_0 rfl wl_688 wl_689 wl_690 wl_29 wl_691 (na := 1) (by decide +kernel) rfl ⟨Nat.le_of_ble_eq_true rfl, Nat.le_of_ble_eq_true rfl⟩ ⟨(by show 58 + 3 * kk + 0 ≤ 600000; omega), (by show 2414 + 30 * kk + 0 ≤ 7302250; omega)⟩ hl.1 rfl (Nat.le_of_ble_eq_true rfl) dL_law_896) (fun r u h H locs X => ?_)
      obtain ⟨rfl, rfl⟩ := h
      have X : gR D G τ (aL s) s H locs (gw α (cE G α (sp_tell S (xs (nI (6 * kk) + 1).toNatClampNeg)).2 J n) (Lc n) ++ gw β (mE G β S) Lm) := X.swap
      refine lv_aload_n hx hb dL_law_899 rfl (lv_at hl 3 rfl) ?_
      refine lv_aload_n hx hb dL_law_900 rfl (lv_at hl 1 rfl) ?_
      refine lv_iload_n hx hb dL_law_901 rfl (lv_at hl 0 rfl) ?_
      refine lv_iconst (v := 1) hx hb dL_law_902 (by decide) ?_
      refine lv_iadd hx hb dL_law_903 ?_
      refine va_sld hx hb hX hbl hbA X.2.2.2.1 (vp_ij (j := 1) h6 hL (by decide)) dL_law_904 ?_
      refine gx_l X (gr_V C X.sub (k := 0) (As := [.int (xs (nI (6 * kk) + 1).toNatClampNeg)]) (rest := [.long (sp_tell S (xs (nI (6 * kk) + 1).toNatClampNeg)).1]) (c_X11_tell l D G τ β S _ (xs (nI (6 * kk) + 1).toNatClampNeg) hO.1) (by decide) mE_0 rfl wl_1016 wl_1017 wl_1018 wl_40 wl_1019 (na := 1) (by decide +kernel) rfl ⟨Nat.le_of_ble_eq_true rfl, Nat.le_of_ble_eq_true rfl⟩ ⟨(by show 58 + 3 * kk + 0 + 0 ≤ 600000; omega), (by show 2414 + 30 * kk + 0 + 0 ≤ 7302250; omega)⟩ hl.1 rfl (Nat.le_of_ble_eq_true rfl) dL_law_905) (fun r u h H locs X => ?_)
      obtain ⟨rfl, rfl⟩ := h
      have X : gR D G τ (aL s) s H locs (gw β (mE G β (sp_tell S (xs (nI (6 * kk) + 1).toNatClampNeg)).2) Lm ++ gw α (cE G α (sp_tell S (xs (nI (6 * kk) + 1).toNatClampNeg)).2 J n) (Lc n)) := X.swap
      refine gl_eq (tgt := 976) hx hb dL_law_908 dL_law_909 (by decide) (fun _ => ?_) (fun hc => absurd rfl hc)
      refine lv_iinc (v := (nI (6 * kk) + 6)) (lv' := [(3, .int (nI (6 * kk) + 6)), (0, .ref b), (1, .ref (α 0)), (2, .ref (β 0))]) hx hb dL_law_976 hl (k := 0) rfl rfl (by decide) rfl (fun ls hl => ?_)
      refine lv_goto (tgt := 18) hx hb dL_law_979 (by decide) ?_
      have hl : lv_has ls 4 [(3, .int (nI (6 * (kk + 1)))), (0, .ref b), (1, .ref (α 0)), (2, .ref (β 0))] := by rw [show 6 * (kk + 1) = 6 * kk + 6 by omega, ← nI_add]; exact hl
      exact W.widen (by omega) (by omega) (ih (kk + 1) (sp_tell S (xs (nI (6 * kk) + 1).toNatClampNeg)).2 J n α β H locs ls (by omega) (by omega) (Ok_tell hO (xs (nI (6 * kk) + 1).toNatClampNeg)) (I_tell hI (xs (nI (6 * kk) + 1).toNatClampNeg)) X hl)
    · refine lv_tableIn (tgt := 914) hx hb dL_law_33 (by rw [w9]; decide) (by rw [w9]; decide) (off := 881) (by rw [w9]; rfl) (by decide) ?_
      refine lv_aload_n hx hb dL_law_914 rfl (lv_at hl 2 rfl) ?_
      refine gx_l X (gr_V C X.sub (k := 0) (As := []) (rest := []) (c_X10_check l D G τ α S J n _ hO.1 hI.1 hI.2.1 hO.2.2.2.2.1 hI.2.2) (Lc_in (by decide)) cE_0 rfl wl_701 wl_702 wl_703 wl_29 wl_704 (na := 0) (by decide +kernel) rfl ⟨Nat.le_of_ble_eq_true rfl, Nat.le_of_ble_eq_true rfl⟩ ⟨(by show 58 + 3 * kk + 0 ≤ 600000; omega), (by show 2414 + 30 * kk + 0 ≤ 7302250; omega)⟩ hl.1 rfl (Nat.le_of_ble_eq_true rfl) dL_law_915) (fun r u h H locs X => ?_)
      obtain ⟨rfl, rfl⟩ := h
      have X : gR D G τ (aL s) s H locs (gw α (cE G α (sp_check S).2 J n) (Lc n) ++ gw β (mE G β S) Lm) := X.swap
      refine lv_aload_n hx hb dL_law_918 rfl (lv_at hl 3 rfl) ?_
      refine gx_l X (gr_V C X.sub (k := 0) (As := []) (rest := [.long (sp_check S).1]) (c_X11_check l D G τ β S _ hO.1 hO.2.1 hO.2.2.2.2.2.1) (by decide) mE_0 rfl wl_1020 wl_1021 wl_1022 wl_40 wl_1023 (na := 0) (by decide +kernel) rfl ⟨Nat.le_of_ble_eq_true rfl, Nat.le_of_ble_eq_true rfl⟩ ⟨(by show 58 + 3 * kk + 0 + 0 ≤ 600000; omega), (by show 2414 + 30 * kk + 0 + 0 ≤ 7302250; omega)⟩ hl.1 rfl (Nat.le_of_ble_eq_true rfl) dL_law_919) (fun r u h H locs X => ?_)
      obtain ⟨rfl, rfl⟩ := h
      have X : gR D G τ (aL s) s H locs (gw β (mE G β (sp_check S).2) Lm ++ gw α (cE G α (sp_check S).2 J n) (Lc n)) := X.swap
      refine gl_eq (tgt := 976) hx hb dL_law_922 dL_law_923 (by decide) (fun _ => ?_) (fun hc => absurd rfl hc)
      refine lv_iinc (v := (nI (6 * kk) + 6)) (lv' := [(3, .int (nI (6 * kk) + 6)), (0, .ref b), (1, .ref (α 0)), (2, .ref (β 0))]) hx hb dL_law_976 hl (k := 0) rfl rfl (by decide) rfl (fun ls hl => ?_)
      refine lv_goto (tgt := 18) hx hb dL_law_979 (by decide) ?_
      have hl : lv_has ls 4 [(3, .int (nI (6 * (kk + 1)))), (0, .ref b), (1, .ref (α 0)), (2, .ref (β 0))] := by rw [show 6 * (kk + 1) = 6 * kk + 6 by omega, ← nI_add]; exact hl
      exact W.widen (by omega) (by omega) (ih (kk + 1) (sp_check S).2 J n α β H locs ls (by omega) (by omega) (Ok_check hO) (I_check hI) X hl)
    · refine lv_tableIn (tgt := 928) hx hb dL_law_33 (by rw [w9]; decide) (by rw [w9]; decide) (off := 895) (by rw [w9]; rfl) (by decide) ?_
      refine lv_aload_n hx hb dL_law_928 rfl (lv_at hl 2 rfl) ?_
      refine lv_aload_n hx hb dL_law_929 rfl (lv_at hl 1 rfl) ?_
      refine lv_iload_n hx hb dL_law_930 rfl (lv_at hl 0 rfl) ?_
      refine lv_iconst (v := 1) hx hb dL_law_931 (by decide) ?_
      refine lv_iadd hx hb dL_law_932 ?_
      refine va_sld hx hb hX hbl hbA X.2.2.2.1 (vp_ij (j := 1) h6 hL (by decide)) dL_law_933 ?_
      refine gx_l X (gr_V C X.sub (k := 0) (As := [.int (xs (nI (6 * kk) + 1).toNatClampNeg)]) (rest := []) (c_X10_count l D G τ α S J n _ (xs (nI (6 * kk) + 1).toNatClampNeg) hO.1) (Lc_in (by decide)) cE_0 rfl wl_713 wl_714 wl_715 wl_29 wl_716 (na := 1) (by decide +kernel) rfl ⟨Nat.le_of_ble_eq_true rfl, Nat.le_of_ble_eq_true rfl⟩ ⟨(by show 58 + 3 * kk + 0 ≤ 600000; omega), (by show 2414 + 30 * kk + 0 ≤ 7302250; omega)⟩ hl.1 rfl (Nat.le_of_ble_eq_true rfl) dL_law_934) (fun r u h H locs X => ?_)
      obtain ⟨rfl, rfl⟩ := h
      have X : gR D G τ (aL s) s H locs (gw α (cE G α (sp_count S (xs (nI (6 * kk) + 1).toNatClampNeg)).2 J n) (Lc n) ++ gw β (mE G β S) Lm) := X.swap
      refine lv_aload_n hx hb dL_law_937 rfl (lv_at hl 3 rfl) ?_
      refine lv_aload_n hx hb dL_law_938 rfl (lv_at hl 1 rfl) ?_
      refine lv_iload_n hx hb dL_law_939 rfl (lv_at hl 0 rfl) ?_
      refine lv_iconst (v := 1) hx hb dL_law_940 (by decide) ?_
      refine lv_iadd hx hb dL_law_941 ?_
      refine va_sld hx hb hX hbl hbA X.2.2.2.1 (vp_ij (j := 1) h6 hL (by decide)) dL_law_942 ?_
      refine gx_l X (gr_V C X.sub (k := 0) (As := [.int (xs (nI (6 * kk) + 1).toNatClampNeg)]) (rest := [.long (sp_count S (xs (nI (6 * kk) + 1).toNatClampNeg)).1]) (c_X11_count l D G τ β S _ (xs (nI (6 * kk) + 1).toNatClampNeg) hO.1) (by decide) mE_0 rfl wl_1025 wl_1026 wl_1027 wl_40 wl_1028 (na := 1) (by decide +kernel) rfl ⟨Nat.le_of_ble_eq_true rfl, Nat.le_of_ble_eq_true rfl⟩ ⟨(by show 58 + 3 * kk + 0 + 0 ≤ 600000; omega), (by show 2414 + 30 * kk + 0 + 0 ≤ 7302250; omega)⟩ hl.1 rfl (Nat.le_of_ble_eq_true rfl) dL_law_943) (fun r u h H locs X => ?_)
      obtain ⟨rfl, rfl⟩ := h
      have X : gR D G τ (aL s) s H locs (gw β (mE G β (sp_count S (xs (nI (6 * kk) + 1).toNatClampNeg)).2) Lm ++ gw α (cE G α (sp_count S (xs (nI (6 * kk) + 1).toNatClampNeg)).2 J n) (Lc n)) := X.swap
      refine gl_eq (tgt := 976) hx hb dL_law_946 dL_law_947 (by decide) (fun _ => ?_) (fun hc => absurd rfl hc)
      refine lv_iinc (v := (nI (6 * kk) + 6)) (lv' := [(3, .int (nI (6 * kk) + 6)), (0, .ref b), (1, .ref (α 0)), (2, .ref (β 0))]) hx hb dL_law_976 hl (k := 0) rfl rfl (by decide) rfl (fun ls hl => ?_)
      refine lv_goto (tgt := 18) hx hb dL_law_979 (by decide) ?_
      have hl : lv_has ls 4 [(3, .int (nI (6 * (kk + 1)))), (0, .ref b), (1, .ref (α 0)), (2, .ref (β 0))] := by rw [show 6 * (kk + 1) = 6 * kk + 6 by omega, ← nI_add]; exact hl
      exact W.widen (by omega) (by omega) (ih (kk + 1) (sp_count S (xs (nI (6 * kk) + 1).toNatClampNeg)).2 J n α β H locs ls (by omega) (by omega) (Ok_count hO (xs (nI (6 * kk) + 1).toNatClampNeg)) (I_count hI (xs (nI (6 * kk) + 1).toNatClampNeg)) X hl)
    · refine lv_tableIn (tgt := 952) hx hb dL_law_33 (by rw [w9]; decide) (by rw [w9]; decide) (off := 919) (by rw [w9]; rfl) (by decide) ?_
      refine lv_aload_n hx hb dL_law_952 rfl (lv_at hl 2 rfl) ?_
      refine lv_aload_n hx hb dL_law_953 rfl (lv_at hl 1 rfl) ?_
      refine lv_iload_n hx hb dL_law_954 rfl (lv_at hl 0 rfl) ?_
      refine lv_iconst (v := 1) hx hb dL_law_955 (by decide) ?_
      refine lv_iadd hx hb dL_law_956 ?_
      refine va_sld hx hb hX hbl hbA X.2.2.2.1 (vp_ij (j := 1) h6 hL (by decide)) dL_law_957 ?_
      refine gx_l X (gr_V C X.sub (k := 0) (As := [.int (xs (nI (6 * kk) + 1).toNatClampNeg)]) (rest := []) (c_X10_found l D G τ α S J n _ (xs (nI (6 * kk) + 1).toNatClampNeg) hO.1) (Lc_in (by decide)) cE_0 rfl wl_717 wl_718 wl_719 wl_29 wl_720 (na := 1) (by decide +kernel) rfl ⟨Nat.le_of_ble_eq_true rfl, Nat.le_of_ble_eq_true rfl⟩ ⟨(by show 58 + 3 * kk + 0 ≤ 600000; omega), (by show 2414 + 30 * kk + 0 ≤ 7302250; omega)⟩ hl.1 rfl (Nat.le_of_ble_eq_true rfl) dL_law_958) (fun r u h H locs X => ?_)
      obtain ⟨rfl, rfl⟩ := h
      have X : gR D G τ (aL s) s H locs (gw α (cE G α (sp_found S (xs (nI (6 * kk) + 1).toNatClampNeg)).2 J n) (Lc n) ++ gw β (mE G β S) Lm) := X.swap
      refine lv_aload_n hx hb dL_law_961 rfl (lv_at hl 3 rfl) ?_
      refine lv_aload_n hx hb dL_law_962 rfl (lv_at hl 1 rfl) ?_
      refine lv_iload_n hx hb dL_law_963 rfl (lv_at hl 0 rfl) ?_
      refine lv_iconst (v := 1) hx hb dL_law_964 (by decide) ?_
      refine lv_iadd hx hb dL_law_965 ?_
      refine va_sld hx hb hX hbl hbA X.2.2.2.1 (vp_ij (j := 1) h6 hL (by decide)) dL_law_966 ?_
      refine gx_l X (gr_V C X.sub (k := 0) (As := [.int (xs (nI (6 * kk) + 1).toNatClampNeg)]) (rest := [.long (sp_found S (xs (nI (6 * kk) + 1).toNatClampNeg)).1]) (c_X11_found l D G τ β S _ (xs (nI (6 * kk) + 1).toNatClampNeg) hO.1) (by decide) mE_0 rfl wl_1029 wl_1030 wl_1031 wl_40 wl_1032 (na := 1) (by decide +kernel) rfl ⟨Nat.le_of_ble_eq_true rfl, Nat.le_of_ble_eq_true rfl⟩ ⟨(by show 58 + 3 * kk + 0 + 0 ≤ 600000; omega), (by show 2414 + 30 * kk + 0 + 0 ≤ 7302250; omega)⟩ hl.1 rfl (Nat.le_of_ble_eq_true rfl) dL_law_967) (fun r u h H locs X => ?_)
      obtain ⟨rfl, rfl⟩ := h
      have X : gR D G τ (aL s) s H locs (gw β (mE G β (sp_found S (xs (nI (6 * kk) + 1).toNatClampNeg)).2) Lm ++ gw α (cE G α (sp_found S (xs (nI (6 * kk) + 1).toNatClampNeg)).2 J n) (Lc n)) := X.swap
      refine gl_eq (tgt := 976) hx hb dL_law_970 dL_law_971 (by decide) (fun _ => ?_) (fun hc => absurd rfl hc)
      refine lv_iinc (v := (nI (6 * kk) + 6)) (lv' := [(3, .int (nI (6 * kk) + 6)), (0, .ref b), (1, .ref (α 0)), (2, .ref (β 0))]) hx hb dL_law_976 hl (k := 0) rfl rfl (by decide) rfl (fun ls hl => ?_)
      refine lv_goto (tgt := 18) hx hb dL_law_979 (by decide) ?_
      have hl : lv_has ls 4 [(3, .int (nI (6 * (kk + 1)))), (0, .ref b), (1, .ref (α 0)), (2, .ref (β 0))] := by rw [show 6 * (kk + 1) = 6 * kk + 6 by omega, ← nI_add]; exact hl
      exact W.widen (by omega) (by omega) (ih (kk + 1) (sp_found S (xs (nI (6 * kk) + 1).toNatClampNeg)).2 J n α β H locs ls (by omega) (by omega) (Ok_found hO (xs (nI (6 * kk) + 1).toNatClampNeg)) (I_found hI (xs (nI (6 * kk) + 1).toNatClampNeg)) X hl)
    · refine lv_tableOut (tgt := 976) hx hb dL_law_33 w9 (by decide) ?_
      refine lv_iinc (v := (nI (6 * kk) + 6)) (lv' := [(3, .int (nI (6 * kk) + 6)), (0, .ref b), (1, .ref (α 0)), (2, .ref (β 0))]) hx hb dL_law_976 hl (k := 0) rfl rfl (by decide) rfl (fun ls hl => ?_)
      refine lv_goto (tgt := 18) hx hb dL_law_979 (by decide) ?_
      have hl : lv_has ls 4 [(3, .int (nI (6 * (kk + 1)))), (0, .ref b), (1, .ref (α 0)), (2, .ref (β 0))] := by rw [show 6 * (kk + 1) = 6 * kk + 6 by omega, ← nI_add]; exact hl
      exact W.widen (by omega) (by omega) (ih (kk + 1) S J n α β H locs ls (by omega) (by omega) hO hI X hl)
