/-! ===== new cells; worlds side by side ===== -/
def ga (l : List Nat) : Nat → Nat := fun k => l.getD k 0
def ge (l : List va_E) : Nat → va_E := fun k => l.getD k (.inr (0, []))
theorem ge_set {l : List va_E} {k : Nat} {e : va_E} (hk : k < l.length) : va_up (ge l) k e = ge (l.set k e) := by
  funext j
  by_cases hj : j = k
  · subst hj
    simp [va_up, ge, List.getD_eq_getElem?_getD, List.getElem?_set_self hk]
  · simp [va_up, ge, hj, List.getD_eq_getElem?_getD, List.getElem?_set_ne (Ne.symm hj)]
/-- as gB, over any list of cells -/
def gR (D : va_G) (G : Nat → ClassId) (τ : Nat → Nat) (A : Nat → Prop) (s : State) (H : Heap) (locs : List Loc) (ws : va_W) : Prop := gE D G τ A s s.heap ∧ va_P D vwCl ws H ∧ va_D A ws ∧ va_S A s.heap H locs ∧ ∀ q, s.heap.size ≤ q → A q
section GAL
variable {p : Program} {l : Launch} {e : Env} {R : Room} {s : State} {m : MethodId} {args : Array Value} {below : List Frame} {meth : Method} {c : Code} {H : Heap} {locs : List Loc} {cells slots : Nat} {Q : State → Prop}
variable {cc : ByteArray} {nL : Nat} {own : String} {pc : Nat} {ls : Array Slot} {rest : List Value} {D : va_G} {G : Nat → ClassId} {τ : Nat → Nat} {A : Nat → Prop} {α : Nat → Nat} {E E' : Nat → va_E} {L : List Nat} {ws wr : va_W}
theorem gR.B (X : gR D G τ A s H locs ws) (h : ws = gw α E L) : gB D G τ A s H locs α E L := by
  subst h
  exact X
theorem gB.raw (B : gB D G τ A s H locs α E L) : gR D G τ A s H locs (gw α E L) := B
theorem va_P.left {cl : List vw_C} {a b : va_W} (h : va_P D cl (a ++ b) H) : va_P D cl a H := fun k q hk => h k q (by rw [List.getElem?_append_left (List.getElem?_eq_some_iff.mp hk).1]; exact hk)
theorem va_P.right {cl : List vw_C} {a b : va_W} (h : va_P D cl (a ++ b) H) : va_P D cl b H := fun k q hk => h (a.length + k) q (by rw [List.getElem?_append_right (by omega), show a.length + k - a.length = k by omega]; exact hk)
theorem va_D.left {a b : va_W} (h : va_D A (a ++ b)) : va_D A a := by
  have key : ∀ (k : Nat) (q : Nat × va_E), a[k]? = some q → (a ++ b)[k]? = some q := fun k q hk => by rw [List.getElem?_append_left (List.getElem?_eq_some_iff.mp hk).1]; exact hk
  exact ⟨fun i j p q hi hj e => h.1 i j p q (key i p hi) (key j q hj) e, fun k q hk => h.2 k q (key k q hk)⟩
theorem va_D.right {a b : va_W} (h : va_D A (a ++ b)) : va_D A b := by
  have key : ∀ (k : Nat) (q : Nat × va_E), b[k]? = some q → (a ++ b)[a.length + k]? = some q := fun k q hk => by rw [List.getElem?_append_right (by omega), show a.length + k - a.length = k by omega]; exact hk
  exact ⟨fun i j p q hi hj e => by have := h.1 _ _ p q (key i p hi) (key j q hj) e; omega, fun k q hk => h.2 _ q (key k q hk)⟩
theorem va_D.cross {a b : va_W} (h : va_D A (a ++ b)) {i j : Nat} {p q : Nat × va_E} (hi : a[i]? = some p) (hj : b[j]? = some q) : p.1 ≠ q.1 := by
  intro e
  have hl := (List.getElem?_eq_some_iff.mp hi).1
  have h1 : (a ++ b)[i]? = some p := by rw [List.getElem?_append_left hl]; exact hi
  have h2 : (a ++ b)[a.length + j]? = some q := by rw [List.getElem?_append_right (by omega), show a.length + j - a.length = j by omega]; exact hj
  have := h.1 _ _ p q h1 h2 e
  omega
theorem gR.swap {a b : va_W} (X : gR D G τ A s H locs (a ++ b)) : gR D G τ A s H locs (b ++ a) :=
  ⟨X.1, X.2.1.right.app X.2.1.left, X.2.2.1.right.app X.2.2.1.left (fun i j p q hi hj e => X.2.2.1.cross hj hi e.symm), X.2.2.2⟩
theorem gR.sub (X : gR D G τ A s H locs (wr ++ gw α E L)) : gB D G τ A s H locs α E L := ⟨X.1, X.2.1.right, X.2.2.1.right, X.2.2.2⟩
/-- behind a call over a part of the world: the rest is as it was -/
theorem gR.back (X : gR D G τ A s H locs (wr ++ gw α E L)) {u : gU} {t : State} {H1 : Heap} {locs1 : List Loc} (ht : t.heap = H1) (hB : gAt D (gA α L H.size) u t) (hk : ∀ q : Nat, q < H.size → ¬ gA α L H.size q → H1[q]? = H[q]?) (hS : va_S A s.heap H1 locs1) : gR D G τ A s H1 locs1 (wr ++ gw u.1 u.2.1 u.2.2) := by
  obtain ⟨h1, h2⟩ := hB
  rw [ht] at h1
  have B := X.sub
  have apart : ∀ (k : Nat) (q : Nat × va_E), wr[k]? = some q → q.1 < H.size ∧ ¬ gA α L H.size q.1 := by
    intro k q hq
    have hl := (X.2.1.left k q hq).lt
    refine ⟨hl, fun h => ?_⟩
    rcases h with ⟨k2, hk2, e2⟩ | h
    · obtain ⟨q0, hq0⟩ := gw_at (α := α) (E := E) hk2
      exact X.2.2.1.cross hq hq0 e2
    · omega
  refine ⟨X.1, va_P.app (fun k q hq => ?_) h1, va_D.app X.2.2.1.left (h2.weaken (fun _ _ _ h => B.sub _ h)) (fun i j x y hx hy e => ?_), hS, X.2.2.2.2⟩
  · obtain ⟨g1, g2⟩ := apart k q hq
    exact (X.2.1.left k q hq).kept (hk q.1 g1 g2)
  · exact (apart i x hx).2 (by rw [e]; exact h2.2 j y hy)
theorem gx_v {post : gU → Prop} {a : Array Value} {st0 : List Value} {mc ms : Nat} (X : gR D G τ A s H locs (wr ++ gw α E L)) (hr : va_Run p l e R s m args below meth c H locs cells slots mc ms (F0 m pc ls st0) rest (va_Qv post (gAt D (gA α L H.size)) (gA α L H.size) a) (gA α L H.size)) (kk : ∀ (u : gU), post u → ∀ (H1 : Heap) (locs1 : List Loc), gR D G τ A s H1 locs1 (wr ++ gw u.1 u.2.1 u.2.2) → W p l e R s m args below meth c H1 locs1 (cells + mc) (slots + ms) Q (F0 m (pc + 3) ls rest)) : W p l e R s m args below meth c H locs cells slots Q (F0 m pc ls st0) :=
  va_callv hr X.2.2.2.1 (fun q _ h => X.sub.sub q h) X.sub.sub (fun u t H1 locs1 ht _ hp hB _ hk hS => kk u hp H1 locs1 (X.back ht hB hk hS))
theorem gx_l {post : Int64 → gU → Prop} {a : Array Value} {st0 : List Value} {mc ms : Nat} (X : gR D G τ A s H locs (wr ++ gw α E L)) (hr : va_Run p l e R s m args below meth c H locs cells slots mc ms (F0 m pc ls st0) rest (va_Ql post (gAt D (gA α L H.size)) (gA α L H.size) a) (gA α L H.size)) (kk : ∀ (r : Int64) (u : gU), post r u → ∀ (H1 : Heap) (locs1 : List Loc), gR D G τ A s H1 locs1 (wr ++ gw u.1 u.2.1 u.2.2) → W p l e R s m args below meth c H1 locs1 (cells + mc) (slots + ms) Q (F0 m (pc + 3) ls (.long r :: rest))) : W p l e R s m args below meth c H locs cells slots Q (F0 m pc ls st0) :=
  va_calll hr X.2.2.2.1 (fun q _ h => X.sub.sub q h) X.sub.sub (fun r u t H1 locs1 ht _ hp hB _ hk hS => kk r u hp H1 locs1 (X.back ht hB hk hS))
theorem g_new (C : CallFix p m c cc nL s args gL own) (X : gR D G τ A s H locs ws) {ci : Nat} {fs : List Value} {Cn : String} {T : u_T} {N index : Nat} (hc : vwCl[ci]? = some (Cn, T, N)) (hin : ∀ w ∈ u_ws Cn T N, w ∈ gL) (ty : Nat → FieldType) (hty : ∀ k, k < N → parseFieldDescriptor (T k).2.2.1 = some (ty k)) (h1 : Cond.classLink own index Cn ∈ gL) (h2 : Cond.instantiable Cn N ∈ gL) (h3 : Cond.initialized Cn ∈ gL) (hfs : ∀ j, j < N → defaultValue (ty j) = vp_V fs j) (hcells : cells + 1 ≤ R.cells) (hslots : slots + N ≤ R.slots) (hdg : decode cc pc = .ok (.new index, 3))
    (kk : ∀ (q : Nat) (H1 : Heap), gR D G τ A s H1 locs (ws ++ [(q, .inr (ci, fs))]) → W p l e R s m args below meth c H1 locs (cells + 1) (slots + N) Q (F0 m (pc + 3) ls (.ref q :: rest))) : W p l e R s m args below meth c H locs cells slots Q (F0 m pc ls rest) :=
  va_new (D := D) (cl := vwCl) C.1 C.2.1 C.2.2.2.2 hin ty hty C.2.2.2.1 (C.2.2.2.2 _ h1) (C.2.2.2.2 _ h2) (C.2.2.2.2 _ h3) X.1.2.2.1 X.2.1 X.2.2.1 X.2.2.2.1 X.2.2.2.2 hc hfs hcells hslots hdg (fun q H1 hP hD hS => kk q H1 ⟨X.1, hP, hD, hS, X.2.2.2.2⟩)
theorem g_newi (C : CallFix p m c cc nL s args gL own) (X : gR D G τ A s H locs ws) (h1 : Cond.arrayClass .int ∈ gL) {n : Int32} {N' : Nat} (hn : ¬ n < 0) (hN : n.toNatClampNeg = N') (hb4 : N' * 4 ≤ 536870912) (hcells : cells + 1 ≤ R.cells) (hslots : slots + N' ≤ R.slots) (hdg : decode cc pc = .ok (.newarray .int, 2))
    (kk : ∀ (q : Nat) (H1 : Heap), gR D G τ A s H1 locs (ws ++ [(q, .inl (G 0, N', .inl (fun _ => 0)))]) → W p l e R s m args below meth c H1 locs (cells + 1) (slots + N') Q (F0 m (pc + 2) ls (.ref q :: rest))) : W p l e R s m args below meth c H locs cells slots Q (F0 m pc ls (.int n :: rest)) :=
  va_newa (atype := .int) (D := D) (cl := vwCl) (a0 := (N', .inl (fun _ => 0))) C.1 C.2.1 (C.2.2.2.2 _ h1) rfl X.1.2.2.1 X.2.1 X.2.2.1 X.2.2.2.1 X.2.2.2.2 (fun _ => rfl) hn hN hb4 hcells hslots hdg (fun q cA H1 hK hP hD hS => by
    have e1 := (hK.2 4 _ rfl).2
    have e2 := (hK.2 0 _ rfl).2
    have e3 : cA = G 0 := Option.some.inj (Eq.trans (Eq.symm e1) e2)
    subst e3
    exact kk q H1 ⟨X.1, hP, hD, hS, X.2.2.2.2⟩)
theorem g_newl (C : CallFix p m c cc nL s args gL own) (X : gR D G τ A s H locs ws) (h1 : Cond.arrayClass .long ∈ gL) {n : Int32} {N' : Nat} (hn : ¬ n < 0) (hN : n.toNatClampNeg = N') (hb4 : N' * 8 ≤ 536870912) (hcells : cells + 1 ≤ R.cells) (hslots : slots + N' ≤ R.slots) (hdg : decode cc pc = .ok (.newarray .long, 2))
    (kk : ∀ (q : Nat) (H1 : Heap), gR D G τ A s H1 locs (ws ++ [(q, .inl (G 1, N', .inr (.inl (fun _ => 0))))]) → W p l e R s m args below meth c H1 locs (cells + 1) (slots + N') Q (F0 m (pc + 2) ls (.ref q :: rest))) : W p l e R s m args below meth c H locs cells slots Q (F0 m pc ls (.int n :: rest)) :=
  va_newa (atype := .long) (D := D) (cl := vwCl) (a0 := (N', .inr (.inl (fun _ => 0)))) C.1 C.2.1 (C.2.2.2.2 _ h1) rfl X.1.2.2.1 X.2.1 X.2.2.1 X.2.2.2.1 X.2.2.2.2 (fun _ => rfl) hn hN hb4 hcells hslots hdg (fun q cA H1 hK hP hD hS => by
    have e1 := (hK.2 4 _ rfl).2
    have e2 := (hK.2 1 _ rfl).2
    have e3 : cA = G 1 := Option.some.inj (Eq.trans (Eq.symm e1) e2)
    subst e3
    exact kk q H1 ⟨X.1, hP, hD, hS, X.2.2.2.2⟩)
theorem g_newz (C : CallFix p m c cc nL s args gL own) (X : gR D G τ A s H locs ws) (h1 : Cond.arrayClass .boolean ∈ gL) {n : Int32} {N' : Nat} (hn : ¬ n < 0) (hN : n.toNatClampNeg = N') (hb4 : N' * 1 ≤ 536870912) (hcells : cells + 1 ≤ R.cells) (hslots : slots + N' ≤ R.slots) (hdg : decode cc pc = .ok (.newarray .boolean, 2))
    (kk : ∀ (q : Nat) (H1 : Heap), gR D G τ A s H1 locs (ws ++ [(q, .inl (G 2, N', .inl (fun _ => 0)))]) → W p l e R s m args below meth c H1 locs (cells + 1) (slots + N') Q (F0 m (pc + 2) ls (.ref q :: rest))) : W p l e R s m args below meth c H locs cells slots Q (F0 m pc ls (.int n :: rest)) :=
  va_newa (atype := .boolean) (D := D) (cl := vwCl) (a0 := (N', .inl (fun _ => 0))) C.1 C.2.1 (C.2.2.2.2 _ h1) rfl X.1.2.2.1 X.2.1 X.2.2.1 X.2.2.2.1 X.2.2.2.2 (fun _ => rfl) hn hN hb4 hcells hslots hdg (fun q cA H1 hK hP hD hS => by
    have e1 := (hK.2 4 _ rfl).2
    have e2 := (hK.2 2 _ rfl).2
    have e3 : cA = G 2 := Option.some.inj (Eq.trans (Eq.symm e1) e2)
    subst e3
    exact kk q H1 ⟨X.1, hP, hD, hS, X.2.2.2.2⟩)
theorem g_newr (C : CallFix p m c cc nL s args gL own) (X : gR D G τ A s H locs ws) {index : Nat} (h1 : Cond.classLink own index RX2 ∈ gL) {n : Int32} {N' : Nat} (hn : ¬ n < 0) (hN : n.toNatClampNeg = N') (hb4 : N' * 4 ≤ 536870912) (hcells : cells + 1 ≤ R.cells) (hslots : slots + N' ≤ R.slots) (hdg : decode cc pc = .ok (.anewarray index, 3))
    (kk : ∀ (q : Nat) (H1 : Heap), gR D G τ A s H1 locs (ws ++ [(q, .inl (G 3, N', .inr (.inr (.inr (.inr (fun _ => none))))))]) → W p l e R s m args below meth c H1 locs (cells + 1) (slots + N') Q (F0 m (pc + 3) ls (.ref q :: rest))) : W p l e R s m args below meth c H locs cells slots Q (F0 m pc ls (.int n :: rest)) :=
  va_newq (D := D) (cl := vwCl) C.1 C.2.1 C.2.2.2.1 (C.2.2.2.2 _ h1) X.1.2.1 X.1.2.2.1 X.2.1 X.2.2.1 X.2.2.2.1 X.2.2.2.2 hn hN hb4 hcells hslots hdg (fun q cA H1 hK hP hD hS => by
    obtain ⟨_, _, -, -, -, e1⟩ := (hK.2 4 _ rfl).2
    obtain ⟨_, _, -, -, -, e2⟩ := (hK.2 3 _ rfl).2
    have e3 : cA = G 3 := Option.some.inj (Eq.trans (Eq.symm e1) e2)
    subst e3
    exact kk q H1 ⟨X.1, hP, hD, hS, X.2.2.2.2⟩)
theorem gr_I (C : CallFix p m c cc nL s args gL own) (B : gB D G τ A s H locs α E L) {y : MethodName} {bytes : ByteArray} {n d mc ms idx b na : Nat} {As st : List Value} {Qc : Array Value → State → Outcome → State → Prop} {free : Addr → Prop}
    (hM : Met l y (.code y bytes n none :: gL) (rmd d mc ms) (gPc D G τ (.ref b :: As) α E L H.size) Qc mc ms free)
    (h1 : Cond.methodLink own idx y ∈ gL) (h2 : Cond.instanceMethod y ∈ gL) (h4 : Cond.initialized y.cls ∈ gL) (h5 : Cond.code y bytes n none ∈ gL) (hy1 : y.name = "<init>")
    (hd : y.cls ≠ "java/lang/invoke/MethodHandle" ∧ y.cls ≠ "java/lang/invoke/VarHandle" ∧ (parseMethodDescriptor y.desc).map (fun d => d.parameters.length) = some na) (hna : As.length = na)
    (hR : d + 1 ≤ R.frames ∧ 8 + (n + 11) + 37 * d ≤ R.locals) (hz : cells + mc ≤ R.cells ∧ slots + ms ≤ R.slots) (hs : ls.size = nL) (hst : st = As.reverse ++ .ref b :: rest) (hw : (rest.map fun v => v.category).sum ≤ 8) (hdg : decode cc pc = .ok (.invokespecial idx, 3)) :
    va_Run p l e R s m args below meth c H locs cells slots mc ms (F0 m pc ls st) rest (Qc (Value.ref b :: As).toArray) free :=
  va_runI (As := As) (rest := rest) C hM (cwI na C.2.2.2.2 (gL_C h5) rfl rfl rfl (C.2.2.2.2 _ h4) (C.2.2.2.2 _ h1) (C.2.2.2.2 _ h2) hy1 hd hR) ⟨gPc_blind, B.pre⟩ rfl hna hs hst (lv_room hw) hdg hz
theorem gr_IN (C : CallFix p m c cc nL s args gL own) (B : gB D G τ A s H locs α E L) {y : MethodName} {host : String} {bytes : ByteArray} {n d mc ms idx b na : Nat} {As st : List Value} {Qc : Array Value → State → Outcome → State → Prop} {free : Addr → Prop}
    (hM : Met l y (.code y bytes n none :: gL) (rmd d mc ms) (gPc D G τ (.ref b :: As) α E L H.size) Qc mc ms free)
    (h1 : Cond.methodLinkNest own idx y host ∈ gNs) (h2 : Cond.instanceMethod y ∈ gL) (h4 : Cond.initialized y.cls ∈ gL) (h5 : Cond.code y bytes n none ∈ gL) (hy1 : y.name = "<init>")
    (hd : y.cls ≠ "java/lang/invoke/MethodHandle" ∧ y.cls ≠ "java/lang/invoke/VarHandle" ∧ (parseMethodDescriptor y.desc).map (fun d => d.parameters.length) = some na) (hna : As.length = na)
    (hR : d + 1 ≤ R.frames ∧ 8 + (n + 11) + 37 * d ≤ R.locals) (hz : cells + mc ≤ R.cells ∧ slots + ms ≤ R.slots) (hs : ls.size = nL) (hst : st = As.reverse ++ .ref b :: rest) (hw : (rest.map fun v => v.category).sum ≤ 8) (hdg : decode cc pc = .ok (.invokespecial idx, 3)) :
    va_Run p l e R s m args below meth c H locs cells slots mc ms (F0 m pc ls st) rest (Qc (Value.ref b :: As).toArray) free :=
  va_runIN (As := As) (rest := rest) C hM ⟨va_cnB na C.2.2.2.2 (gL_C h5) rfl rfl rfl (B.1.1 _ h1) (C.2.2.2.2 _ h4) hd hR, hy1, C.2.2.2.2 _ h2⟩ ⟨gPc_blind, B.pre⟩ rfl hna hs hst (lv_room hw) hdg hz
theorem g_alen (C : CallFix p m c cc nL s args gL own) (B : gB D G τ A s H locs α E L) (k : Nat) (hk : k ∈ L) {n : Nat} {f : Nat → Int32} (he : E k = .inl (G 0, n, .inl f)) (hdg : decode cc pc = .ok (.arraylength, 1))
    (kk : W p l e R s m args below meth c H locs cells slots Q (F0 m (pc + 1) ls (.int (nI n) :: rest))) : W p l e R s m args below meth c H locs cells slots Q (F0 m pc ls (.ref (α k) :: rest)) := by
  obtain ⟨q0, hq⟩ := gw_at (α := α) (E := E) hk
  rw [he] at hq
  exact va_alen C.1 C.2.1 B.1.2.2.1 B.2.1 q0 0 hq rfl rfl hdg kk
theorem g_astq (C : CallFix p m c cc nL s args gL own) (B : gB D G τ A s H locs α E L) (k : Nat) (hk : k ∈ L) {n : Nat} {f : Nat → Option Nat} (he : E k = .inl (G 3, n, .inr (.inr (.inr (.inr f))))) (k2 : Nat) (hk2 : k2 ∈ L) {vs : List Value} (he2 : E k2 = .inr (2, vs)) {i : Int32} (hin : vp_in i n) {j : Nat} (hj : i.toNatClampNeg = j) (hdg : decode cc pc = .ok (.aastore, 1)) (hE : va_up E k (.inl (G 3, n, .inr (.inr (.inr (.inr (va_up f j (some (α k2)))))))) = E')
    (kk : ∀ (H1 : Heap) (locs1 : List Loc), gB D G τ A s H1 locs1 α E' L → W p l e R s m args below meth c H1 locs1 cells slots Q (F0 m (pc + 1) ls rest)) : W p l e R s m args below meth c H locs cells slots Q (F0 m pc ls (.ref (α k2) :: .int i :: .ref (α k) :: rest)) := by
  subst hj
  obtain ⟨q0, hq⟩ := gw_at (α := α) (E := E) hk
  obtain ⟨q2, hq2⟩ := gw_at (α := α) (E := E) hk2
  have hset := gw_set (e := .inl (G 3, n, .inr (.inr (.inr (.inr (va_up f i.toNatClampNeg (some (α k2)))))))) B.2.2.1 hk hq
  rw [he] at hq
  rw [he2] at hq2
  refine va_astq (r := (RX2, TX2, 16)) C.1 C.2.1 B.1.2.2.1 B.2.1 B.2.2.1 B.2.2.2.1 q0 3 q2 2 hq rfl hq2 rfl hin hdg (fun H1 locs1 hP hD hS => ?_)
  rw [hset, hE] at hP hD
  exact kk H1 locs1 ⟨B.1, hP, hD, hS, B.2.2.2.2⟩
end GAL
theorem df_0 : ∀ j, j < 7 → defaultValue (tyX0 j) = vp_V [.null, .int 0, .null, .null, .null, .null, .int 0] j := by decide +kernel
theorem df_1 : ∀ j, j < 5 → defaultValue (tyX1 j) = vp_V [.null, .null, .null, .null, .int 0] j := by decide +kernel
theorem df_2 : ∀ j, j < 16 → defaultValue (tyX2 j) = vp_V [.int 0, .int 0, .int 0, .int 0, .int 0, .long 0, .int 0, .null, .null, .int 0, .long 0, .int 0, .int 0, .long 0, .int 0, .long 0] j := by decide +kernel
theorem df_3 : ∀ j, j < 2 → defaultValue (tyX3 j) = vp_V [.null, .int 0] j := by decide +kernel
theorem df_4 : ∀ j, j < 2 → defaultValue (tyX4 j) = vp_V [.null, .null] j := by decide +kernel
theorem df_5 : ∀ j, j < 1 → defaultValue (tyX5 j) = vp_V [.null] j := by decide +kernel
theorem df_6 : ∀ j, j < 3 → defaultValue (tyX6 j) = vp_V [.null, .null, .null] j := by decide +kernel
theorem df_7 : ∀ j, j < 4 → defaultValue (tyX7 j) = vp_V [.long 0, .long 0, .long 0, .null] j := by decide +kernel
theorem df_8 : ∀ j, j < 4 → defaultValue (tyX8 j) = vp_V [.null, .null, .long 0, .int 0] j := by decide +kernel
theorem df_9 : ∀ j, j < 2 → defaultValue (tyX9 j) = vp_V [.null, .int 0] j := by decide +kernel
