/-! ===== worlds by index: a cell's number, its address, what it holds ===== -/
def gw (α : Nat → Nat) (E : Nat → va_E) (L : List Nat) : va_W := L.map (fun k => (α k, E k))
theorem gw_get {α : Nat → Nat} {E : Nat → va_E} {L : List Nat} (i : Nat) : (gw α E L)[i]? = (L[i]?).map (fun k => (α k, E k)) := by simp [gw]
theorem gw_at {α : Nat → Nat} {E : Nat → va_E} {L : List Nat} {k : Nat} (hk : k ∈ L) : ∃ q0 : Nat, (gw α E L)[q0]? = some (α k, E k) := by
  obtain ⟨i, hi⟩ := List.getElem?_of_mem hk
  exact ⟨i, by rw [gw_get, hi]; rfl⟩
theorem gw_set {A : Nat → Prop} {α : Nat → Nat} {E : Nat → va_E} {L : List Nat} {k q0 : Nat} {e : va_E} (hD : va_D A (gw α E L)) (hk : k ∈ L) (h : (gw α E L)[q0]? = some (α k, E k)) : (gw α E L).set q0 (α k, e) = gw α (va_up E k e) L := by
  obtain ⟨i, hi⟩ := List.getElem?_of_mem hk
  have h1 : (gw α E L)[i]? = some (α k, E k) := by rw [gw_get, hi]; rfl
  have hiq : i = q0 := hD.1 i q0 _ _ h1 h rfl
  subst hiq
  have hlen : i < (gw α E L).length := (List.getElem?_eq_some_iff.mp h1).1
  apply List.ext_getElem?
  intro j
  by_cases hj : j = i
  · subst hj
    rw [List.getElem?_set_self hlen, gw_get, hi]
    simp [va_up]
  · rw [List.getElem?_set_ne (Ne.symm hj), gw_get, gw_get]
    cases hL : L[j]? with
    | none => rfl
    | some k2 =>
      have hne : k2 ≠ k := by
        intro e2
        subst e2
        have h2 : (gw α E L)[j]? = some (α k2, E k2) := by rw [gw_get, hL]; rfl
        exact hj (hD.1 j i _ _ h2 h1 rfl)
      simp [va_up, hne]
/-- which cells a method may change: its world's, and those that it makes -/
def gA (α : Nat → Nat) (L : List Nat) (sz : Nat) : Nat → Prop := fun q => (∃ k, k ∈ L ∧ q = α k) ∨ sz ≤ q
/-- the array classes -/
def gT (G : Nat → ClassId) : List (ClassId × FieldType) := [(G 0, .int), (G 1, .long), (G 2, .boolean), (G 3, .object RX2)]
/-- the calls between nest mates -/
def gNs : List Cond := [.methodLinkNest RX10 9 yX5_init RX10, .methodLinkNest RX10 18 yX1_init RX10, .methodLinkNest RX10 35 yX0_init RX10, .methodLinkNest RX10 42 yX3_init RX10, .methodLinkNest RX10 58 yX7_init RX10, .methodLinkNest RX10 74 yX6_init RX10, .methodLinkNest RX10 81 yX9_init RX10, .methodLinkNest RX5 15 yX10_isWithin RX10, .methodLinkNest RX0 38 yX10_isWithin RX10, .methodLinkNest RX1 28 yX10_isWithin RX10, .methodLinkNest RX4 66 yX10_thousandths RX10, .methodLinkNest RX7 37 yX10_isHolder RX10, .methodLinkNest RX6 19 yX10_isWithin RX10, .methodLinkNest RX6 43 yX10_thousandths RX10]
def gNest (w : Cond) : Prop := ∃ (a : String) (i : Nat) (x : MethodName) (h : String), w = .methodLinkNest a i x h
theorem gNs_nest : ∀ w ∈ gNs, gNest w := by
  intro w hw
  simp only [gNs, List.mem_cons, List.not_mem_nil, or_false] at hw
  rcases hw with rfl | rfl | rfl | rfl | rfl | rfl | rfl | rfl | rfl | rfl | rfl | rfl | rfl | rfl <;> exact ⟨_, _, _, _, rfl⟩
def gN (U : State) : Prop := ∀ w ∈ gNs, va_Nw w U
theorem gN.moved {s U : State} (hW : s.WarmedH U.vm) (h : gN s) : gN U := by
  intro w hw
  have h1 := h w hw
  obtain ⟨a, i, x, hh, rfl⟩ := gNs_nest w hw
  exact va_Nw.warmM hW h1
theorem gN.same {s U : State} (hv : s.vm = U.vm) (h : gN s) : gN U := by
  intro w hw
  have h1 := h w hw
  obtain ⟨a, i, x, hh, rfl⟩ := gNs_nest w hw
  exact va_Nw.same rfl hv h1
/-- the three static rows of the decrees: least and most value, and the value without a decree -/
def gf0 : Nat → Int32 := fun j => if j = 5 then 12 else 0
def gf1 : Nat → Int32 := fun j => if j = 0 then 60 else if j = 5 then 240 else 1000
def gf2 : Nat → Int32 := fun j => if j = 1 then 500 else if j = 2 then 400 else if j = 5 then 180 else 0
def gZ (τ : Nat → Nat) (A : Nat → Prop) (U : State) (H : Heap) : Prop :=
  (va_Z RX1 "LEAST_VALUE" "[I" (.ref (τ 0)) A U H ∧ va_T .int (τ 0) 6 (fun j => .int (gf0 j)) A U H) ∧ (va_Z RX1 "MOST_VALUE" "[I" (.ref (τ 1)) A U H ∧ va_T .int (τ 1) 6 (fun j => .int (gf1 j)) A U H) ∧ (va_Z RX1 "WITHOUT_ONE" "[I" (.ref (τ 2)) A U H ∧ va_T .int (τ 2) 6 (fun j => .int (gf2 j)) A U H)
theorem gZ.to {τ : Nat → Nat} {A A1 : Nat → Prop} {s U : State} {H H1 : Heap} (hv : s.vm.Alike U.vm) (hq : ∀ a : Nat, a < H.size → ¬ A a → H1[a]? = H[a]?) (hA : ∀ q, A1 q → A q) (h : gZ τ A s H) : gZ τ A1 U H1 :=
  ⟨⟨((h.1.1.kept hq).narrow hA).moved hv, ((h.1.2.kept hq).narrow hA).moved hv⟩, ⟨((h.2.1.1.kept hq).narrow hA).moved hv, ((h.2.1.2.kept hq).narrow hA).moved hv⟩, ⟨((h.2.2.1.kept hq).narrow hA).moved hv, ((h.2.2.2.kept hq).narrow hA).moved hv⟩⟩
/-- what every method may rest on beside its world -/
def gE (D : va_G) (G : Nat → ClassId) (τ : Nat → Nat) (A : Nat → Prop) (U : State) (H : Heap) : Prop := gN U ∧ va_AO RX2 U ∧ va_K D vwCl (gT G) U ∧ gZ τ A U H
/-- a method's start -/
def gPc (D : va_G) (G : Nat → ClassId) (τ : Nat → Nat) (av : List Value) (α : Nat → Nat) (E : Nat → va_E) (L : List Nat) (sz : Nat) : Array Value → State → Prop := va_Pc av (fun U => U.heap.size = sz ∧ gE D G τ (gA α L sz) U U.heap ∧ va_P D vwCl (gw α E L) U.heap ∧ va_D (gA α L sz) (gw α E L))
theorem gPc_blind {D : va_G} {G : Nat → ClassId} {τ : Nat → Nat} {av : List Value} {α : Nat → Nat} {E : Nat → va_E} {L : List Nat} {sz : Nat} : FrameBlind (gPc D G τ av α E L sz) := by
  intro a U g mk q
  obtain ⟨q0, q1, ⟨e1, e2, e3, e4⟩, qP, qD⟩ := q
  exact ⟨q0, q1, ⟨gN.same (s := U) (U := U.calling g mk a) rfl e1, va_AO.moved (u := U) (U := U.calling g mk a) (Vm.Alike.refl U.vm) e2, va_K.moved (u := U) (U := U.calling g mk a) (Vm.Alike.refl U.vm) e3, gZ.to (s := U) (U := U.calling g mk a) (Vm.Alike.refl U.vm) (fun _ _ _ => rfl) (fun _ h => h) e4⟩, qP, qD⟩
/-- between a method's instructions -/
def gB (D : va_G) (G : Nat → ClassId) (τ : Nat → Nat) (A : Nat → Prop) (s : State) (H : Heap) (locs : List Loc) (α : Nat → Nat) (E : Nat → va_E) (L : List Nat) : Prop := gE D G τ A s s.heap ∧ va_P D vwCl (gw α E L) H ∧ va_D A (gw α E L) ∧ va_S A s.heap H locs ∧ ∀ q, s.heap.size ≤ q → A q
theorem gB.sub {D : va_G} {G : Nat → ClassId} {τ : Nat → Nat} {A : Nat → Prop} {s : State} {H : Heap} {locs : List Loc} {α : Nat → Nat} {E : Nat → va_E} {L : List Nat} (B : gB D G τ A s H locs α E L) : ∀ q, gA α L H.size q → A q := by
  intro q h
  rcases h with ⟨k, hk, rfl⟩ | h
  · obtain ⟨q0, hq⟩ := gw_at (α := α) (E := E) hk
    exact B.2.2.1.2 q0 _ hq
  · exact B.2.2.2.2 q (Nat.le_trans B.2.2.2.1.1 h)
theorem gB.pre {D : va_G} {G : Nat → ClassId} {τ : Nat → Nat} {A : Nat → Prop} {s : State} {H : Heap} {locs : List Loc} {α : Nat → Nat} {E : Nat → va_E} {L : List Nat} (B : gB D G τ A s H locs α E L) {av : List Value} : ∀ U : State, U.heap = H → s.WarmedH U.vm → gPc D G τ av α E L H.size av.toArray U := by
  intro U hU hW
  refine ⟨rfl, by rw [hU], ⟨gN.moved hW B.1.1, va_AO.moved hW.alike B.1.2.1, va_K.moved hW.alike B.1.2.2.1, ?_⟩, by rw [hU]; exact B.2.1, ⟨B.2.2.1.1, fun k q hk => ?_⟩⟩
  · refine gZ.to hW.alike ?_ B.sub B.1.2.2.2
    intro a h1 h2
    rw [hU]
    exact B.2.2.2.1.2.1 a h1 h2
  · rw [gw_get] at hk
    cases hL : L[k]? with
    | none => rw [hL] at hk; cases hk
    | some k2 =>
      rw [hL] at hk
      cases hk
      exact Or.inl ⟨k2, List.mem_of_getElem? hL, rfl⟩
theorem gB_start {D : va_G} {G : Nat → ClassId} {τ : Nat → Nat} {av : List Value} {α : Nat → Nat} {E : Nat → va_E} {L : List Nat} {sz : Nat} {args : Array Value} {s : State} (h : gPc D G τ av α E L sz args s) : args = av.toArray ∧ s.heap.size = sz ∧ gB D G τ (gA α L sz) s s.heap [] α E L := by
  obtain ⟨h0, h1, h2, h3, h4⟩ := h
  exact ⟨h0, h1, h2, h3, h4, va_S.rf, fun q hq => Or.inr (by omega)⟩
def rmd (d mc ms : Nat) : Room := { frames := d, cells := mc, slots := ms, locals := 37 * d }
/-- a contract out of its body's walk -/
theorem gM {l : Launch} {D : va_G} {G : Nat → ClassId} {τ : Nat → Nat} {α : Nat → Nat} {E : Nat → va_E} {L : List Nat} {sz : Nat} {y : MethodName} {cc : ByteArray} {nL d mc ms : Nat} {ret : Option FieldType} {own : String} (av : List Value) {Qc : Array Value → State → Outcome → State → Prop} {free : Addr → Prop}
    (hy : plainName y.cls = true) (ho : y.cls = own) (hn : (lg_sl av).length ≤ nL)
    (body : ∀ (p : Program) (e : Env) (s : State) (m : MethodId) (below : List Frame) (meth : Method) (c : Code) (ls : Array Slot), CallFix p m c cc nL s av.toArray gL own → meth.sig.returnType = ret → meth.locks = false → meth.name = y.name → s.heap.size = sz → gB D G τ (gA α L sz) s s.heap [] α E L → lv_has ls nL (lv_args 0 av) → W p l e (rmd d mc ms) s m av.toArray below meth c s.heap [] 0 0 (MQ below Qc av.toArray s mc ms free) (F0 m 0 ls [])) :
    Met l y (.code y cc nL ret :: gL) (rmd d mc ms) (gPc D G τ av α E L sz) Qc mc ms free := by
  refine Met.ofW (cc := cc) (maxL := nL) (ret := ret) hy rfl ?_
  intro p e s m args below meth c s₁ B hml hv
  obtain ⟨rfl, hsz, hB⟩ := gB_start hv
  have hts := atoms_spec (ws := .code y cc nL ret :: gL) B.pre
  have hl := lv_entry av (n := nL) hn
  rw [lg_entry_eq]
  subst ho
  exact body p e s m below meth c _ ⟨B.exec, B.bytes, hml, findClass_of_methodNamed B.named, fun w h => hts w (List.mem_cons_of_mem _ h)⟩ B.returns B.notSynchronized (name_of_methodNamed B.named B.method).1 hsz hB hl
theorem gL_V {own C : String} {idx n : Nat} {y : MethodName} {cc : ByteArray} {ret : Option FieldType} (h1 : Cond.methodLink own idx y ∈ gL) (h2 : Cond.instanceMethod y ∈ gL) (h3 : Cond.selects C y y ∈ gL) (h4 : Cond.initialized C ∈ gL) (h5 : Cond.code y cc n ret ∈ gL) : GoodIn gL (wsV own idx C y (.code y cc n ret :: gL)) := by
  intro w hw
  simp only [wsV, List.cons_append, List.nil_append, List.mem_cons] at hw
  rcases hw with rfl | rfl | rfl | rfl | rfl | hw
  · exact gL_good _ h1
  · exact gL_good _ h2
  · exact gL_good _ h3
  · exact gL_good _ h4
  · exact gL_good _ h5
  · exact gL_good _ hw
theorem gL_C {n : Nat} {y : MethodName} {cc : ByteArray} {ret : Option FieldType} (h5 : Cond.code y cc n ret ∈ gL) : GoodIn gL (.code y cc n ret :: gL) := by
  intro w hw
  rcases List.mem_cons.mp hw with rfl | hw
  · exact gL_good _ h5
  · exact gL_good _ hw
theorem gL_S {own : String} {idx n : Nat} {y : MethodName} {cc : ByteArray} {ret : Option FieldType} (h1 : Cond.methodLink own idx y ∈ gL) (h2 : Cond.static y ∈ gL) (h4 : Cond.initialized own ∈ gL) (h5 : Cond.code y cc n ret ∈ gL) : GoodIn gL (wsS own idx y (.code y cc n ret :: gL)) := by
  intro w hw
  simp only [wsS, List.cons_append, List.nil_append, List.mem_cons] at hw
  rcases hw with rfl | rfl | rfl | rfl | hw
  · exact gL_good _ h1
  · exact gL_good _ h2
  · exact gL_good _ h4
  · exact gL_good _ h5
  · exact gL_good _ hw
theorem gwl {own : String} {idx n : Nat} {y : MethodName} {cc : ByteArray} {ret : Option FieldType} (h1 : Cond.methodLink own idx y ∈ gL) (h2 : Cond.static y ∈ gL) (h4 : Cond.initialized y.cls ∈ gL) (h5 : Cond.code y cc n ret ∈ gL) : GoodIn gL (va_wsS own idx y (.code y cc n ret :: gL)) := by
  intro w hw
  simp only [va_wsS, List.cons_append, List.nil_append, List.mem_cons] at hw
  rcases hw with rfl | rfl | rfl | rfl | hw
  · exact gL_good _ h1
  · exact gL_good _ h2
  · exact gL_good _ h4
  · exact gL_good _ h5
  · exact gL_good _ hw
/-- what a method's answer world is: addresses, cells, the cells' numbers -/
abbrev gU : Type := (Nat → Nat) × (Nat → va_E) × List Nat
def gAt (D : va_G) (A : Nat → Prop) (u : gU) (t : State) : Prop := va_P D vwCl (gw u.1 u.2.1 u.2.2) t.heap ∧ va_D A (gw u.1 u.2.1 u.2.2)
/-! contracts: of methods that only read (Ri, Rl), and of those that write (Wv, Wi, Wl) -/
abbrev Ri (l : Launch) (D : va_G) (G : Nat → ClassId) (τ : Nat → Nat) (y : MethodName) (cc : ByteArray) (nL : Nat) (ret : Option FieldType) (d : Nat) (av : List Value) (α : Nat → Nat) (E : Nat → va_E) (L : List Nat) (sz : Nat) (post : Int32 → Prop) : Prop := Met l y (.code y cc nL ret :: gL) (rmd d 0 0) (gPc D G τ av α E L sz) (vp_Si post) 0 0 (fun _ => False)
abbrev Rl (l : Launch) (D : va_G) (G : Nat → ClassId) (τ : Nat → Nat) (y : MethodName) (cc : ByteArray) (nL : Nat) (ret : Option FieldType) (d : Nat) (av : List Value) (α : Nat → Nat) (E : Nat → va_E) (L : List Nat) (sz : Nat) (post : Int64 → Prop) : Prop := Met l y (.code y cc nL ret :: gL) (rmd d 0 0) (gPc D G τ av α E L sz) (vp_Sl post) 0 0 (fun _ => False)
abbrev Rq (l : Launch) (D : va_G) (G : Nat → ClassId) (τ : Nat → Nat) (y : MethodName) (cc : ByteArray) (nL : Nat) (ret : Option FieldType) (d : Nat) (av : List Value) (α : Nat → Nat) (E : Nat → va_E) (L : List Nat) (sz : Nat) (post : Option Nat → Prop) : Prop := Met l y (.code y cc nL ret :: gL) (rmd d 0 0) (gPc D G τ av α E L sz) (va_Sq post) 0 0 (fun _ => False)
abbrev Wi (l : Launch) (D : va_G) (G : Nat → ClassId) (τ : Nat → Nat) (y : MethodName) (cc : ByteArray) (nL : Nat) (ret : Option FieldType) (d mc ms : Nat) (av : List Value) (α : Nat → Nat) (E : Nat → va_E) (L : List Nat) (sz : Nat) (post : Int32 → gU → Prop) : Prop := Met l y (.code y cc nL ret :: gL) (rmd d mc ms) (gPc D G τ av α E L sz) (va_Qi post (gAt D (gA α L sz)) (gA α L sz)) mc ms (gA α L sz)
abbrev Wl (l : Launch) (D : va_G) (G : Nat → ClassId) (τ : Nat → Nat) (y : MethodName) (cc : ByteArray) (nL : Nat) (ret : Option FieldType) (d mc ms : Nat) (av : List Value) (α : Nat → Nat) (E : Nat → va_E) (L : List Nat) (sz : Nat) (post : Int64 → gU → Prop) : Prop := Met l y (.code y cc nL ret :: gL) (rmd d mc ms) (gPc D G τ av α E L sz) (va_Ql post (gAt D (gA α L sz)) (gA α L sz)) mc ms (gA α L sz)
abbrev Wv (l : Launch) (D : va_G) (G : Nat → ClassId) (τ : Nat → Nat) (y : MethodName) (cc : ByteArray) (nL : Nat) (ret : Option FieldType) (d mc ms : Nat) (av : List Value) (α : Nat → Nat) (E : Nat → va_E) (L : List Nat) (sz : Nat) (post : gU → Prop) : Prop := Met l y (.code y cc nL ret :: gL) (rmd d mc ms) (gPc D G τ av α E L sz) (va_Qv post (gAt D (gA α L sz)) (gA α L sz)) mc ms (gA α L sz)
section GLAYER
variable {p : Program} {l : Launch} {e : Env} {R : Room} {s : State} {m : MethodId} {args : Array Value} {below : List Frame} {meth : Method} {c : Code} {H : Heap} {locs : List Loc} {cells slots : Nat} {Q : State → Prop}
variable {cc : ByteArray} {nL : Nat} {own : String} {pc : Nat} {ls : Array Slot} {rest : List Value} {D : va_G} {G : Nat → ClassId} {τ : Nat → Nat} {A : Nat → Prop} {α : Nat → Nat} {E E' : Nat → va_E} {L : List Nat}
theorem g_get (C : CallFix p m c cc nL s args gL own) (B : gB D G τ A s H locs α E L) (k : Nat) (hk : k ∈ L) {ci : Nat} {fs : List Value} (he : E k = .inr (ci, fs)) {Cn : String} {T : u_T} {N index : Nat} (hc : vwCl[ci]? = some (Cn, T, N)) (hin : ∀ w ∈ u_ws Cn T N, w ∈ gL) (f : Nat) (hf : f < N) (hlink : Cond.fieldLink own index (T f).1 (T f).2.1 (T f).2.2.1 ∈ gL) {v : Value} (hv : fs[f]? = some v) (hdg : decode cc pc = .ok (.getfield index, 3))
    (kk : W p l e R s m args below meth c H locs cells slots Q (F0 m (pc + 3) ls (v :: rest))) : W p l e R s m args below meth c H locs cells slots Q (F0 m pc ls (.ref (α k) :: rest)) := by
  obtain ⟨q0, hq⟩ := gw_at (α := α) (E := E) hk
  rw [he] at hq
  exact va_get (D := D) (cl := vwCl) C.1 C.2.1 C.2.2.2.2 hin C.2.2.2.1 B.1.2.2.1 B.2.1 q0 hq hc f hf (C.2.2.2.2 _ hlink) (fun _ h => h) hv hdg kk
theorem g_put (C : CallFix p m c cc nL s args gL own) (B : gB D G τ A s H locs α E L) (k : Nat) (hk : k ∈ L) {ci : Nat} {fs : List Value} (he : E k = .inr (ci, fs)) {Cn : String} {T : u_T} {N index : Nat} (hc : vwCl[ci]? = some (Cn, T, N)) (hin : ∀ w ∈ u_ws Cn T N, w ∈ gL) (ty0 : Nat → FieldType) (hty : ∀ k, k < N → parseFieldDescriptor (T k).2.2.1 = some (ty0 k)) (hnm : ∀ a, a < N → ∀ b, b < N → a ≠ b → (T a).2.1 ≠ (T b).2.1) (f : Nat) (hf : f < N) (hlink : Cond.fieldLink own index (T f).1 (T f).2.1 (T f).2.2.1 ∈ gL) (hfin : (T f).2.2.2 = false) {ty : FieldType} {v : Value} (hd : parseFieldDescriptor (T f).2.2.1 = some ty) (hn : narrow ty v = v) (hfit : fits ty v = true) (hl : f < fs.length) (hdg : decode cc pc = .ok (.putfield index, 3)) (hE : va_up E k (.inr (ci, fs.set f v)) = E')
    (kk : ∀ (H1 : Heap) (locs1 : List Loc), gB D G τ A s H1 locs1 α E' L → W p l e R s m args below meth c H1 locs1 cells slots Q (F0 m (pc + 3) ls rest)) : W p l e R s m args below meth c H locs cells slots Q (F0 m pc ls (v :: .ref (α k) :: rest)) := by
  obtain ⟨q0, hq⟩ := gw_at (α := α) (E := E) hk
  have hset := gw_set (e := .inr (ci, fs.set f v)) B.2.2.1 hk hq
  rw [he] at hq
  refine va_put (D := D) (cl := vwCl) C.1 C.2.1 C.2.2.2.2 hin ty0 hty hnm C.2.2.2.1 B.1.2.2.1 B.2.1 B.2.2.1 B.2.2.2.1 q0 hq hc f hf (C.2.2.2.2 _ hlink) (fun _ h => h) hfin hd hn hfit hl hdg (fun H1 locs1 hP hD hS => ?_)
  rw [hset, hE] at hP hD
  exact kk H1 locs1 ⟨B.1, hP, hD, hS, B.2.2.2.2⟩
theorem g_putF (C : CallFix p m c cc nL s args gL own) (B : gB D G τ A s H locs α E L) (hinit : meth.name = "<init>") (k : Nat) (hk : k ∈ L) {ci : Nat} {fs : List Value} (he : E k = .inr (ci, fs)) {Cn : String} {T : u_T} {N index : Nat} (hc : vwCl[ci]? = some (Cn, T, N)) (hin : ∀ w ∈ u_ws Cn T N, w ∈ gL) (ty0 : Nat → FieldType) (hty : ∀ k, k < N → parseFieldDescriptor (T k).2.2.1 = some (ty0 k)) (hnm : ∀ a, a < N → ∀ b, b < N → a ≠ b → (T a).2.1 ≠ (T b).2.1) (f : Nat) (hf : f < N) (hlink : Cond.fieldLink own index (T f).1 (T f).2.1 (T f).2.2.1 ∈ gL) (hfin : (T f).2.2.2 = true) (hdecl : (T f).1 = own) {ty : FieldType} {v : Value} (hd : parseFieldDescriptor (T f).2.2.1 = some ty) (hn : narrow ty v = v) (hfit : fits ty v = true) (hl : f < fs.length) (hdg : decode cc pc = .ok (.putfield index, 3)) (hE : va_up E k (.inr (ci, fs.set f v)) = E')
    (kk : ∀ (H1 : Heap) (locs1 : List Loc), gB D G τ A s H1 locs1 α E' L → W p l e R s m args below meth c H1 locs1 cells slots Q (F0 m (pc + 3) ls rest)) : W p l e R s m args below meth c H locs cells slots Q (F0 m pc ls (v :: .ref (α k) :: rest)) := by
  obtain ⟨q0, hq⟩ := gw_at (α := α) (E := E) hk
  have hset := gw_set (e := .inr (ci, fs.set f v)) B.2.2.1 hk hq
  rw [he] at hq
  refine va_putF (D := D) (cl := vwCl) C.1 C.2.1 C.2.2.2.2 hin ty0 hty hnm C.2.2.2.1 B.1.2.2.1 B.2.1 B.2.2.1 B.2.2.2.1 q0 hq hc f hf (C.2.2.2.2 _ hlink) (fun _ h => h) hfin hinit hdecl hd hn hfit hl hdg (fun H1 locs1 hP hD hS => ?_)
  rw [hset, hE] at hP hD
  exact kk H1 locs1 ⟨B.1, hP, hD, hS, B.2.2.2.2⟩
theorem g_iald (C : CallFix p m c cc nL s args gL own) (B : gB D G τ A s H locs α E L) (k : Nat) (hk : k ∈ L) {n : Nat} {f : Nat → Int32} (he : E k = .inl (G 0, n, .inl f)) {i : Int32} (hin : vp_in i n) {j : Nat} (hj : i.toNatClampNeg = j) (hdg : decode cc pc = .ok (.iaload, 1))
    (kk : W p l e R s m args below meth c H locs cells slots Q (F0 m (pc + 1) ls (.int (f j) :: rest))) : W p l e R s m args below meth c H locs cells slots Q (F0 m pc ls (.int i :: .ref (α k) :: rest)) := by
  subst hj
  obtain ⟨q0, hq⟩ := gw_at (α := α) (E := E) hk
  rw [he] at hq
  exact va_iald C.1 C.2.1 B.1.2.2.1 B.2.1 q0 0 hq rfl hin hdg kk
theorem g_zald (C : CallFix p m c cc nL s args gL own) (B : gB D G τ A s H locs α E L) (k : Nat) (hk : k ∈ L) {n : Nat} {f : Nat → Int32} (he : E k = .inl (G 2, n, .inl f)) {i : Int32} (hin : vp_in i n) {j : Nat} (hj : i.toNatClampNeg = j) (hdg : decode cc pc = .ok (.baload, 1))
    (kk : W p l e R s m args below meth c H locs cells slots Q (F0 m (pc + 1) ls (.int (f j) :: rest))) : W p l e R s m args below meth c H locs cells slots Q (F0 m pc ls (.int i :: .ref (α k) :: rest)) := by
  subst hj
  obtain ⟨q0, hq⟩ := gw_at (α := α) (E := E) hk
  rw [he] at hq
  exact va_zald C.1 C.2.1 B.1.2.2.1 B.2.1 q0 2 hq rfl hin hdg kk
theorem g_lald (C : CallFix p m c cc nL s args gL own) (B : gB D G τ A s H locs α E L) (k : Nat) (hk : k ∈ L) {n : Nat} {f : Nat → Int64} (he : E k = .inl (G 1, n, .inr (.inl f))) {i : Int32} (hin : vp_in i n) {j : Nat} (hj : i.toNatClampNeg = j) (hdg : decode cc pc = .ok (.laload, 1))
    (kk : W p l e R s m args below meth c H locs cells slots Q (F0 m (pc + 1) ls (.long (f j) :: rest))) : W p l e R s m args below meth c H locs cells slots Q (F0 m pc ls (.int i :: .ref (α k) :: rest)) := by
  subst hj
  obtain ⟨q0, hq⟩ := gw_at (α := α) (E := E) hk
  rw [he] at hq
  exact va_lald C.1 C.2.1 B.1.2.2.1 B.2.1 q0 1 hq rfl hin hdg kk
theorem g_aldq (C : CallFix p m c cc nL s args gL own) (B : gB D G τ A s H locs α E L) (k : Nat) (hk : k ∈ L) {n : Nat} {f : Nat → Option Nat} (he : E k = .inl (G 3, n, .inr (.inr (.inr (.inr f))))) {i : Int32} (hin : vp_in i n) {j : Nat} (hj : i.toNatClampNeg = j) (hdg : decode cc pc = .ok (.aaload, 1))
    (kk : W p l e R s m args below meth c H locs cells slots Q (F0 m (pc + 1) ls (va_rf (f j) :: rest))) : W p l e R s m args below meth c H locs cells slots Q (F0 m pc ls (.int i :: .ref (α k) :: rest)) := by
  subst hj
  obtain ⟨q0, hq⟩ := gw_at (α := α) (E := E) hk
  rw [he] at hq
  exact va_aldq (C := RX2) C.1 C.2.1 B.1.2.2.1 B.2.1 q0 3 hq rfl hin hdg kk
theorem g_iast (C : CallFix p m c cc nL s args gL own) (B : gB D G τ A s H locs α E L) (k : Nat) (hk : k ∈ L) {n : Nat} {f : Nat → Int32} (he : E k = .inl (G 0, n, .inl f)) {i x : Int32} (hin : vp_in i n) {j : Nat} (hj : i.toNatClampNeg = j) (hdg : decode cc pc = .ok (.iastore, 1)) (hE : va_up E k (.inl (G 0, n, .inl (upd f j x))) = E')
    (kk : ∀ (H1 : Heap) (locs1 : List Loc), gB D G τ A s H1 locs1 α E' L → W p l e R s m args below meth c H1 locs1 cells slots Q (F0 m (pc + 1) ls rest)) : W p l e R s m args below meth c H locs cells slots Q (F0 m pc ls (.int x :: .int i :: .ref (α k) :: rest)) := by
  subst hj
  obtain ⟨q0, hq⟩ := gw_at (α := α) (E := E) hk
  have hset := gw_set (e := .inl (G 0, n, .inl (upd f i.toNatClampNeg x))) B.2.2.1 hk hq
  rw [he] at hq
  refine va_iast C.1 C.2.1 B.1.2.2.1 B.2.1 B.2.2.1 B.2.2.2.1 q0 0 hq rfl hin hdg (fun H1 locs1 hP hD hS => ?_)
  rw [hset, hE] at hP hD
  exact kk H1 locs1 ⟨B.1, hP, hD, hS, B.2.2.2.2⟩
theorem g_zast (C : CallFix p m c cc nL s args gL own) (B : gB D G τ A s H locs α E L) (k : Nat) (hk : k ∈ L) {n : Nat} {f : Nat → Int32} (he : E k = .inl (G 2, n, .inl f)) {i x : Int32} (hin : vp_in i n) {j : Nat} (hj : i.toNatClampNeg = j) (hdg : decode cc pc = .ok (.bastore, 1)) (hE : va_up E k (.inl (G 2, n, .inl (upd f j (vp_nar .boolean x)))) = E')
    (kk : ∀ (H1 : Heap) (locs1 : List Loc), gB D G τ A s H1 locs1 α E' L → W p l e R s m args below meth c H1 locs1 cells slots Q (F0 m (pc + 1) ls rest)) : W p l e R s m args below meth c H locs cells slots Q (F0 m pc ls (.int x :: .int i :: .ref (α k) :: rest)) := by
  subst hj
  obtain ⟨q0, hq⟩ := gw_at (α := α) (E := E) hk
  have hset := gw_set (e := .inl (G 2, n, .inl (upd f i.toNatClampNeg (vp_nar .boolean x)))) B.2.2.1 hk hq
  rw [he] at hq
  refine va_zast C.1 C.2.1 B.1.2.2.1 B.2.1 B.2.2.1 B.2.2.2.1 q0 2 hq rfl hin hdg (fun H1 locs1 hP hD hS => ?_)
  rw [hset, hE] at hP hD
  exact kk H1 locs1 ⟨B.1, hP, hD, hS, B.2.2.2.2⟩
theorem g_last (C : CallFix p m c cc nL s args gL own) (B : gB D G τ A s H locs α E L) (k : Nat) (hk : k ∈ L) {n : Nat} {f : Nat → Int64} (he : E k = .inl (G 1, n, .inr (.inl f))) {i : Int32} {x : Int64} (hin : vp_in i n) {j : Nat} (hj : i.toNatClampNeg = j) (hdg : decode cc pc = .ok (.lastore, 1)) (hE : va_up E k (.inl (G 1, n, .inr (.inl (vp_updL f j x)))) = E')
    (kk : ∀ (H1 : Heap) (locs1 : List Loc), gB D G τ A s H1 locs1 α E' L → W p l e R s m args below meth c H1 locs1 cells slots Q (F0 m (pc + 1) ls rest)) : W p l e R s m args below meth c H locs cells slots Q (F0 m pc ls (.long x :: .int i :: .ref (α k) :: rest)) := by
  subst hj
  obtain ⟨q0, hq⟩ := gw_at (α := α) (E := E) hk
  have hset := gw_set (e := .inl (G 1, n, .inr (.inl (vp_updL f i.toNatClampNeg x)))) B.2.2.1 hk hq
  rw [he] at hq
  refine va_last C.1 C.2.1 B.1.2.2.1 B.2.1 B.2.2.1 B.2.2.2.1 q0 1 hq rfl hin hdg (fun H1 locs1 hP hD hS => ?_)
  rw [hset, hE] at hP hD
  exact kk H1 locs1 ⟨B.1, hP, hD, hS, B.2.2.2.2⟩
/-- a static row of the decrees -/
theorem g_sget (C : CallFix p m c cc nL s args gL own) (B : gB D G τ A s H locs α E L) {n : String} {t : Nat} {index : Nat} (hZ : va_Z RX1 n "[I" (.ref t) A s s.heap) (hlink : Cond.fieldLink own index RX1 n "[I" ∈ gL) (hdg : decode cc pc = .ok (.getstatic index, 3))
    (kk : W p l e R s m args below meth c H locs cells slots Q (F0 m (pc + 3) ls (.ref t :: rest))) : W p l e R s m args below meth c H locs cells slots Q (F0 m pc ls rest) :=
  va_gets C.1 C.2.1 hZ B.2.2.2.1 C.2.2.2.1 (C.2.2.2.2 _ hlink) (fun _ h => h) hdg kk
theorem g_sald (C : CallFix p m c cc nL s args gL own) (B : gB D G τ A s H locs α E L) {t : Nat} {f : Nat → Int32} (hT : va_T .int t 6 (fun j => .int (f j)) A s s.heap) {i : Int32} (hin : vp_in i 6) {j : Nat} (hj : i.toNatClampNeg = j) (hdg : decode cc pc = .ok (.iaload, 1))
    (kk : W p l e R s m args below meth c H locs cells slots Q (F0 m (pc + 1) ls (.int (f j) :: rest))) : W p l e R s m args below meth c H locs cells slots Q (F0 m pc ls (.int i :: .ref t :: rest)) := by
  subst hj
  exact va_ti C.1 C.2.1 hT B.2.2.2.1 hin rfl hdg kk
theorem g_ldc (C : CallFix p m c cc nL s args gL own) {index : Nat} {v : Int32} (h : Cond.constant own index v ∈ gL) (hdg : decode cc pc = .ok (.ldc index, 2)) (kk : W p l e R s m args below meth c H locs cells slots Q (F0 m (pc + 2) ls (.int v :: rest))) : W p l e R s m args below meth c H locs cells slots Q (F0 m pc ls rest) := lv_ldc C.1 C.2.1 C.2.2.2.1 (C.2.2.2.2 _ h) hdg kk
theorem g_ldcw (C : CallFix p m c cc nL s args gL own) {index : Nat} {v : Int32} (h : Cond.constant own index v ∈ gL) (hdg : decode cc pc = .ok (.ldc_w index, 3)) (kk : W p l e R s m args below meth c H locs cells slots Q (F0 m (pc + 3) ls (.int v :: rest))) : W p l e R s m args below meth c H locs cells slots Q (F0 m pc ls rest) := lv_ldcw C.1 C.2.1 C.2.2.2.1 (C.2.2.2.2 _ h) hdg kk
theorem g_ldc2 (C : CallFix p m c cc nL s args gL own) {index : Nat} {v : Int64} (h : Cond.constantLong own index v ∈ gL) (hdg : decode cc pc = .ok (.ldc2_w index, 3)) (kk : W p l e R s m args below meth c H locs cells slots Q (F0 m (pc + 3) ls (.long v :: rest))) : W p l e R s m args below meth c H locs cells slots Q (F0 m pc ls rest) := lv_ldc2 C.1 C.2.1 C.2.2.2.1 (C.2.2.2.2 _ h) hdg kk
/-! calls: how each kind runs -/
theorem gr_V (C : CallFix p m c cc nL s args gL own) (B : gB D G τ A s H locs α E L) {y : MethodName} {bytes : ByteArray} {n d mc ms idx k ci na : Nat} {ret : Option FieldType} {As st : List Value} {Qc : Array Value → State → Outcome → State → Prop} {free : Addr → Prop} {Cn : String} {T : u_T} {N : Nat} {fs : List Value}
    (hM : Met l y (.code y bytes n ret :: gL) (rmd d mc ms) (gPc D G τ (.ref (α k) :: As) α E L H.size) Qc mc ms free) (hk : k ∈ L) (he : E k = .inr (ci, fs)) (hc : vwCl[ci]? = some (Cn, T, N))
    (h1 : Cond.methodLink own idx y ∈ gL) (h2 : Cond.instanceMethod y ∈ gL) (h3 : Cond.selects Cn y y ∈ gL) (h4 : Cond.initialized Cn ∈ gL) (h5 : Cond.code y bytes n ret ∈ gL)
    (hd : y.cls = Cn ∧ y.cls ≠ "java/lang/invoke/MethodHandle" ∧ y.cls ≠ "java/lang/invoke/VarHandle" ∧ (parseMethodDescriptor y.desc).map (fun d => d.parameters.length) = some na) (hna : As.length = na)
    (hR : d + 1 ≤ R.frames ∧ 8 + (n + 11) + 37 * d ≤ R.locals) (hz : cells + mc ≤ R.cells ∧ slots + ms ≤ R.slots) (hs : ls.size = nL) (hst : st = As.reverse ++ .ref (α k) :: rest) (hw : (rest.map fun v => v.category).sum ≤ 8) (hdg : decode cc pc = .ok (.invokevirtual idx, 3)) :
    va_Run p l e R s m args below meth c H locs cells slots mc ms (F0 m pc ls st) rest (Qc (Value.ref (α k) :: As).toArray) free := by
  obtain ⟨q0, hq⟩ := gw_at (α := α) (E := E) hk
  rw [he] at hq
  have hp : PreV s H Cn (α k) (gPc D G τ (.ref (α k) :: As) α E L H.size) As := ⟨gPc_blind, va_recv B.1.2.2.1 B.2.1 hc hq, B.pre⟩
  exact va_runV (As := As) (rest := rest) C hM (cwV na C.2.2.2.2 (gL_V h1 h2 h3 h4 h5) rfl rfl rfl hd hR) hp rfl hna hs hst (lv_room hw) hdg hz
theorem gr_S (C : CallFix p m c cc nL s args gL own) (B : gB D G τ A s H locs α E L) {y : MethodName} {bytes : ByteArray} {n d mc ms idx na : Nat} {ret : Option FieldType} {As st : List Value} {Qc : Array Value → State → Outcome → State → Prop} {free : Addr → Prop}
    (hM : Met l y (.code y bytes n ret :: gL) (rmd d mc ms) (gPc D G τ As α E L H.size) Qc mc ms free)
    (h1 : Cond.methodLink own idx y ∈ gL) (h2 : Cond.static y ∈ gL) (h4 : Cond.initialized y.cls ∈ gL) (h5 : Cond.code y bytes n ret ∈ gL)
    (hd : y.cls ≠ "java/lang/invoke/MethodHandle" ∧ y.cls ≠ "java/lang/invoke/VarHandle" ∧ (parseMethodDescriptor y.desc).map (fun d => d.parameters.length) = some na) (hna : As.length = na)
    (hR : d + 1 ≤ R.frames ∧ 8 + (n + 11) + 37 * d ≤ R.locals) (hz : cells + mc ≤ R.cells ∧ slots + ms ≤ R.slots) (hs : ls.size = nL) (hst : st = As.reverse ++ rest) (hw : (rest.map fun v => v.category).sum ≤ 8) (hdg : decode cc pc = .ok (.invokestatic idx, 3)) :
    va_Run p l e R s m args below meth c H locs cells slots mc ms (F0 m pc ls st) rest (Qc As.toArray) free :=
  va_runS (As := As) (rest := rest) C hM (va_cwS na C.2.2.2.2 (gwl h1 h2 h4 h5) rfl rfl rfl hd hR) ⟨gPc_blind, B.pre⟩ rfl hna hs hst (lv_room hw) hdg hz
theorem gr_SN (C : CallFix p m c cc nL s args gL own) (B : gB D G τ A s H locs α E L) {y : MethodName} {host : String} {bytes : ByteArray} {n d mc ms idx na : Nat} {ret : Option FieldType} {As st : List Value} {Qc : Array Value → State → Outcome → State → Prop} {free : Addr → Prop}
    (hM : Met l y (.code y bytes n ret :: gL) (rmd d mc ms) (gPc D G τ As α E L H.size) Qc mc ms free)
    (h1 : Cond.methodLinkNest own idx y host ∈ gNs) (h2 : Cond.static y ∈ gL) (h4 : Cond.initialized y.cls ∈ gL) (h5 : Cond.code y bytes n ret ∈ gL)
    (hd : y.cls ≠ "java/lang/invoke/MethodHandle" ∧ y.cls ≠ "java/lang/invoke/VarHandle" ∧ (parseMethodDescriptor y.desc).map (fun d => d.parameters.length) = some na) (hna : As.length = na)
    (hR : d + 1 ≤ R.frames ∧ 8 + (n + 11) + 37 * d ≤ R.locals) (hz : cells + mc ≤ R.cells ∧ slots + ms ≤ R.slots) (hs : ls.size = nL) (hst : st = As.reverse ++ rest) (hw : (rest.map fun v => v.category).sum ≤ 8) (hdg : decode cc pc = .ok (.invokestatic idx, 3)) :
    va_Run p l e R s m args below meth c H locs cells slots mc ms (F0 m pc ls st) rest (Qc As.toArray) free :=
  va_runSN (As := As) (rest := rest) C hM ⟨va_cnB na C.2.2.2.2 (gL_C h5) rfl rfl rfl (B.1.1 _ h1) (C.2.2.2.2 _ h4) hd hR, C.2.2.2.2 _ h2, trivial⟩ ⟨gPc_blind, B.pre⟩ rfl hna hs hst (lv_room hw) hdg hz
/-! what comes back -/
theorem gc_i {post : Int32 → Prop} {a : Array Value} {st0 : List Value} (hr : va_Run p l e R s m args below meth c H locs cells slots 0 0 (F0 m pc ls st0) rest (vp_Si post a) (fun _ => False)) (kk : ∀ r : Int32, post r → W p l e R s m args below meth c H locs cells slots Q (F0 m (pc + 3) ls (.int r :: rest))) : W p l e R s m args below meth c H locs cells slots Q (F0 m pc ls st0) := vp_callSi hr.run kk
theorem gc_l {post : Int64 → Prop} {a : Array Value} {st0 : List Value} (hr : va_Run p l e R s m args below meth c H locs cells slots 0 0 (F0 m pc ls st0) rest (vp_Sl post a) (fun _ => False)) (kk : ∀ r : Int64, post r → W p l e R s m args below meth c H locs cells slots Q (F0 m (pc + 3) ls (.long r :: rest))) : W p l e R s m args below meth c H locs cells slots Q (F0 m pc ls st0) := vp_callSl hr.run kk
theorem gc_q {post : Option Nat → Prop} {a : Array Value} {st0 : List Value} (hr : va_Run p l e R s m args below meth c H locs cells slots 0 0 (F0 m pc ls st0) rest (va_Sq post a) (fun _ => False)) (kk : ∀ r : Option Nat, post r → W p l e R s m args below meth c H locs cells slots Q (F0 m (pc + 3) ls (va_rf r :: rest))) : W p l e R s m args below meth c H locs cells slots Q (F0 m pc ls st0) := va_csq hr.run kk
def bI (P : Prop) [Decidable P] : Int32 := if P then 1 else 0
theorem gc_b {P : Prop} [Decidable P] {a : Array Value} {st0 : List Value} (hr : va_Run p l e R s m args below meth c H locs cells slots 0 0 (F0 m pc ls st0) rest (vp_Si (fun r => r = bI P) a) (fun _ => False)) (kt : P → W p l e R s m args below meth c H locs cells slots Q (F0 m (pc + 3) ls (.int 1 :: rest))) (kf : ¬ P → W p l e R s m args below meth c H locs cells slots Q (F0 m (pc + 3) ls (.int 0 :: rest))) : W p l e R s m args below meth c H locs cells slots Q (F0 m pc ls st0) := by
  refine gc_i hr (fun r h => ?_)
  by_cases hP : P
  · rw [h, bI, if_pos hP]; exact kt hP
  · rw [h, bI, if_neg hP]; exact kf hP
theorem gc_o {oI : Option Nat → Int32} {o : Option Nat} {a : Array Value} {st0 : List Value} (hr : va_Run p l e R s m args below meth c H locs cells slots 0 0 (F0 m pc ls st0) rest (vp_Si (fun r => r = oI o) a) (fun _ => False)) (kn : o = none → W p l e R s m args below meth c H locs cells slots Q (F0 m (pc + 3) ls (.int (oI none) :: rest))) (ks : ∀ f : Nat, o = some f → W p l e R s m args below meth c H locs cells slots Q (F0 m (pc + 3) ls (.int (oI (some f)) :: rest))) : W p l e R s m args below meth c H locs cells slots Q (F0 m pc ls st0) := by
  refine gc_i hr (fun r h => ?_)
  subst h
  cases o with
  | none => exact kn rfl
  | some f => exact ks f rfl
theorem gB.back (B : gB D G τ A s H locs α E L) {u : gU} {t : State} {H1 : Heap} {locs1 : List Loc} (ht : t.heap = H1) (hB : gAt D (gA α L H.size) u t) (hS : va_S A s.heap H1 locs1) : gB D G τ A s H1 locs1 u.1 u.2.1 u.2.2 := by
  obtain ⟨h1, h2⟩ := hB
  rw [ht] at h1
  exact ⟨B.1, h1, h2.weaken (fun _ _ _ h => B.sub _ h), hS, B.2.2.2.2⟩
theorem gc_wl {post : Int64 → gU → Prop} {a : Array Value} {st0 : List Value} {mc ms : Nat} (B : gB D G τ A s H locs α E L) (hr : va_Run p l e R s m args below meth c H locs cells slots mc ms (F0 m pc ls st0) rest (va_Ql post (gAt D (gA α L H.size)) (gA α L H.size) a) (gA α L H.size)) (kk : ∀ (r : Int64) (u : gU), post r u → ∀ (H1 : Heap) (locs1 : List Loc), gB D G τ A s H1 locs1 u.1 u.2.1 u.2.2 → W p l e R s m args below meth c H1 locs1 (cells + mc) (slots + ms) Q (F0 m (pc + 3) ls (.long r :: rest))) : W p l e R s m args below meth c H locs cells slots Q (F0 m pc ls st0) :=
  va_calll hr B.2.2.2.1 (fun q _ h => B.sub q h) B.sub (fun r u t H1 locs1 ht _ hp hB _ _ hS => kk r u hp H1 locs1 (B.back ht hB hS))
theorem gc_wi {post : Int32 → gU → Prop} {a : Array Value} {st0 : List Value} {mc ms : Nat} (B : gB D G τ A s H locs α E L) (hr : va_Run p l e R s m args below meth c H locs cells slots mc ms (F0 m pc ls st0) rest (va_Qi post (gAt D (gA α L H.size)) (gA α L H.size) a) (gA α L H.size)) (kk : ∀ (r : Int32) (u : gU), post r u → ∀ (H1 : Heap) (locs1 : List Loc), gB D G τ A s H1 locs1 u.1 u.2.1 u.2.2 → W p l e R s m args below meth c H1 locs1 (cells + mc) (slots + ms) Q (F0 m (pc + 3) ls (.int r :: rest))) : W p l e R s m args below meth c H locs cells slots Q (F0 m pc ls st0) :=
  va_calli hr B.2.2.2.1 (fun q _ h => B.sub q h) B.sub (fun r u t H1 locs1 ht _ hp hB _ _ hS => kk r u hp H1 locs1 (B.back ht hB hS))
theorem gc_wv {post : gU → Prop} {a : Array Value} {st0 : List Value} {mc ms : Nat} (B : gB D G τ A s H locs α E L) (hr : va_Run p l e R s m args below meth c H locs cells slots mc ms (F0 m pc ls st0) rest (va_Qv post (gAt D (gA α L H.size)) (gA α L H.size) a) (gA α L H.size)) (kk : ∀ (u : gU), post u → ∀ (H1 : Heap) (locs1 : List Loc), gB D G τ A s H1 locs1 u.1 u.2.1 u.2.2 → W p l e R s m args below meth c H1 locs1 (cells + mc) (slots + ms) Q (F0 m (pc + 3) ls rest)) : W p l e R s m args below meth c H locs cells slots Q (F0 m pc ls st0) :=
  va_callv hr B.2.2.2.1 (fun q _ h => B.sub q h) B.sub (fun u t H1 locs1 ht _ hp hB _ _ hS => kk u hp H1 locs1 (B.back ht hB hS))
/-! the ends -/
theorem ge_i (C : CallFix p m c cc nL s args gL own) {ty : FieldType} {v : Int32} {post : Int32 → Prop} (hr : meth.sig.returnType = some ty) (hn : narrow ty (.int v) = .int v) (hlk : meth.locks = false) (hp : post v) (hdg : decode cc pc = .ok (.ireturn, 1)) : W p l e R s m args below meth c s.heap [] cells slots (MQ below (vp_Si post) args s cells slots (fun _ => False)) (F0 m pc ls [.int v]) :=
  W.zret C.1 C.2.1 hr hn (fun t ht _ => ⟨v, rfl, hp, ht⟩) (fun q h => by cases h) hdg hlk
theorem ge_l (C : CallFix p m c cc nL s args gL own) {v : Int64} {post : Int64 → Prop} (hr : meth.sig.returnType = some .long) (hlk : meth.locks = false) (hp : post v) (hdg : decode cc pc = .ok (.lreturn, 1)) : W p l e R s m args below meth c s.heap [] cells slots (MQ below (vp_Sl post) args s cells slots (fun _ => False)) (F0 m pc ls [.long v]) :=
  W.lret C.1 C.2.1 hr (fun t ht _ => ⟨v, rfl, hp, ht⟩) (fun q h => by cases h) hdg hlk
theorem ge_wl (C : CallFix p m c cc nL s args gL own) (B : gB D G τ A s H locs α E L) {v : Int64} {post : Int64 → gU → Prop} (hr : meth.sig.returnType = some .long) (hlk : meth.locks = false) (hp : post v (α, E, L)) (hdg : decode cc pc = .ok (.lreturn, 1)) : W p l e R s m args below meth c H locs cells slots (MQ below (va_Ql post (gAt D A) A) args s cells slots A) (F0 m pc ls [.long v]) :=
  W.lret C.1 C.2.1 hr (fun t ht _ => ⟨⟨v, (α, E, L), rfl, hp, by rw [ht]; exact B.2.1, B.2.2.1⟩, B.2.2.2.1.F ht⟩) B.2.2.2.1.2.2 hdg hlk
theorem ge_wi (C : CallFix p m c cc nL s args gL own) (B : gB D G τ A s H locs α E L) {ty : FieldType} {v : Int32} {post : Int32 → gU → Prop} (hr : meth.sig.returnType = some ty) (hn : narrow ty (.int v) = .int v) (hlk : meth.locks = false) (hp : post v (α, E, L)) (hdg : decode cc pc = .ok (.ireturn, 1)) : W p l e R s m args below meth c H locs cells slots (MQ below (va_Qi post (gAt D A) A) args s cells slots A) (F0 m pc ls [.int v]) :=
  W.zret C.1 C.2.1 hr hn (fun t ht _ => ⟨⟨v, (α, E, L), rfl, hp, by rw [ht]; exact B.2.1, B.2.2.1⟩, B.2.2.2.1.F ht⟩) B.2.2.2.1.2.2 hdg hlk
theorem ge_wv (C : CallFix p m c cc nL s args gL own) (B : gB D G τ A s H locs α E L) {post : gU → Prop} (hr : meth.sig.returnType = none) (hlk : meth.locks = false) (hp : post (α, E, L)) (hdg : decode cc pc = .ok (.return_, 1)) : W p l e R s m args below meth c H locs cells slots (MQ below (va_Qv post (gAt D A) A) args s cells slots A) (F0 m pc ls []) :=
  W.vret C.1 C.2.1 hr (fun t ht _ => ⟨⟨(α, E, L), rfl, hp, by rw [ht]; exact B.2.1, B.2.2.1⟩, B.2.2.2.1.F ht⟩) B.2.2.2.1.2.2 hdg hlk
end GLAYER
