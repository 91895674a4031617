/-! MY OWN ROWS: a world is a map from addresses to cells (ZM); a contract says what the map is behind the method. No cell below b0 is ever written. -/
abbrev ZM : Type := Nat → Option va_E
def zup (M : ZM) (a : Nat) (e : va_E) : ZM := fun q => if q = a then some e else M q
theorem zup_self (M : ZM) (a : Nat) (e : va_E) : zup M a e a = some e := by simp [zup]
theorem zup_ne (M : ZM) {a q : Nat} (e : va_E) (h : q ≠ a) : zup M a e q = M q := by simp [zup, h]
theorem zup_zup (M : ZM) (a : Nat) (e e' : va_E) : zup (zup M a e) a e' = zup M a e' := by
  funext q; by_cases h : q = a <;> simp [zup, h]
theorem zup_comm (M : ZM) {a b : Nat} (e e' : va_E) (h : a ≠ b) : zup (zup M a e) b e' = zup (zup M b e') a e := by
  funext q
  by_cases h1 : q = a
  · subst h1; simp [zup, h]
  · by_cases h2 : q = b
    · subst h2; simp [zup, h1]
    · simp [zup, h1, h2]
def zA (b0 : Nat) : Nat → Prop := fun q => b0 ≤ q
def zM (D : va_G) (b0 : Nat) (M : ZM) (H : Heap) : Prop := ∀ (a : Nat) (e : va_E), M a = some e → b0 ≤ a ∧ va_at D vwCl (a, e) H
theorem zM.one {D : va_G} {b0 : Nat} {M : ZM} {H : Heap} (h : zM D b0 M H) {a : Nat} {e : va_E} (he : M a = some e) : va_P D vwCl [(a, e)] H := by
  intro k q hk
  have hz : k < 1 := (List.getElem?_eq_some_iff.mp hk).1
  rw [show k = 0 by omega] at hk
  cases hk
  exact (h a e he).2
theorem zM.two {D : va_G} {b0 : Nat} {M : ZM} {H : Heap} (h : zM D b0 M H) {a b : Nat} {e e' : va_E} (he : M a = some e) (he' : M b = some e') : va_P D vwCl [(a, e), (b, e')] H := by
  intro k q hk
  have hz : k < 2 := (List.getElem?_eq_some_iff.mp hk).1
  rcases (show k = 0 ∨ k = 1 by omega) with rfl | rfl
  · cases hk
    exact (h a e he).2
  · cases hk
    exact (h b e' he').2
theorem zM.lt {D : va_G} {b0 : Nat} {M : ZM} {H : Heap} (h : zM D b0 M H) {a : Nat} {e : va_E} (he : M a = some e) : a < H.size := (h a e he).2.lt
theorem zM.set {D : va_G} {b0 : Nat} {M : ZM} {H H1 : Heap} (h : zM D b0 M H) {a : Nat} {e e' : va_E} (he : M a = some e) (h1 : va_at D vwCl (a, e') H1) (oq : ∀ q : Nat, q ≠ a → H1[q]? = H[q]?) : zM D b0 (zup M a e') H1 := by
  intro q f hq
  by_cases hqa : q = a
  · subst hqa
    rw [zup_self] at hq
    cases hq
    exact ⟨(h q e he).1, h1⟩
  · rw [zup_ne _ _ hqa] at hq
    exact ⟨(h q f hq).1, (h q f hq).2.kept (oq q hqa)⟩
theorem zM.push {D : va_G} {b0 : Nat} {M : ZM} {H H1 : Heap} (h : zM D b0 M H) {a : Nat} {e' : va_E} (ha : a = H.size) (hb : b0 ≤ a) (h1 : va_at D vwCl (a, e') H1) (oq : ∀ q : Nat, q < H.size → H1[q]? = H[q]?) : zM D b0 (zup M a e') H1 := by
  intro q f hq
  by_cases hqa : q = a
  · subst hqa
    rw [zup_self] at hq
    cases hq
    exact ⟨hb, h1⟩
  · rw [zup_ne _ _ hqa] at hq
    exact ⟨(h q f hq).1, (h q f hq).2.kept (oq q (h.lt hq))⟩
/-- the kinds of arrays -/
def zT (aC : Nat → ClassId) : List (ClassId × FieldType) := [(aC 0, .int), (aC 1, .boolean), (aC 2, .object RX1), (aC 3, .object RX2), (aC 4, .object RX5), (aC 5, .array .int), (aC 6, .long)]
/-- words that stay true though they aren't 'good' -/
def zNest : Cond → Bool
  | .fieldLinkNest .. => true
  | .methodLinkNest .. => true
  | .castable .. => true
  | .declares .. => true
  | _ => false
def zW : List Cond := lw_tbl.filter goodWord
def zN : List Cond := lw_tbl.filter zNest
theorem zW_good {w : Cond} (h : w ∈ zW) : goodWord w = true := (List.mem_filter.mp h).2
theorem zN_warm {w : Cond} (h : zNest w = true) {s U : State} (hW : s.WarmedH U.vm) (hZ : va_Nw w s) : va_Nw w U := by
  cases w <;> first | exact va_Nw.warmF hW hZ | exact va_Nw.warmM hW hZ | exact va_Nw.warmC hW hZ | exact va_Nw.warmD hW hZ | (simp [zNest] at h)
theorem zN_tab {w : Cond} (h : zNest w = true) : w.onTables = true := by
  cases w <;> first | rfl | (simp [zNest] at h)
/-- the texts of the throws -/
def zStr : List (String × Nat × String) := [("UpdateSteps", 60, "no such kind, or not with this FROM or TO"), ("UpdateSteps", 67, "no more steps"), ("UpdateSteps", 234, "no such step"), ("UpdateSteps", 100, "no such template in this step"), ("UpdateSteps", 112, "no more templates"), ("UpdateSteps", 121, "no such pattern in this step"), ("UpdateSteps", 126, "no more rows of the pattern"), ("UpdateSteps", 236, "no such file"), ("UpdateSteps", 139, "a file has names alone"), ("UpdateSteps", 146, "no more rows of the file"), ("UpdateSteps", 245, "no such graph"), ("UpdateSteps", 190, "no such fact"), ("UpdateSteps", 193, "a fact has parts 0 to 2"), ("UpdateSteps", 212, "no such change"), ("UpdateSteps", 214, "a change has parts 0 to 4"), ("UpdateSteps", 232, "what is 0 to 4")]
/-- what isn't castable -/
def zNo : List (String × String) := [("java/lang/IllegalStateException", "java/lang/IllegalArgumentException"), ("java/lang/IndexOutOfBoundsException", "java/lang/IllegalArgumentException"), ("java/lang/IllegalArgumentException", "java/lang/IllegalStateException"), ("java/lang/IndexOutOfBoundsException", "java/lang/IllegalStateException"), ("java/lang/IllegalArgumentException", "java/lang/IndexOutOfBoundsException"), ("java/lang/IllegalStateException", "java/lang/IndexOutOfBoundsException")]
/-- the class of int[][] has been made -/
def zAA (U : State) : Prop := (Cond.arrayOver (.array .int)).before #[] U = true
theorem zAA_moved {u U : State} (hvm : u.vm.Alike U.vm) (h : zAA u) : zAA U := by
  obtain ⟨comp, c, k, h1, h2, h3, h4, h5⟩ := arrayOverA_spec h
  obtain ⟨k', hk', he⟩ := hvm.2.2 _ _ h3
  have hi : (U.vm.classes.findIdx? fun (x : Class) => match x.kind with | .array component _ => component == comp | _ => false) = some c := by
    have e1 := va_idx_bare U.vm comp
    have e2 := va_idx_bare u.vm comp
    have e3 : U.vm.bare = u.vm.bare := by first | exact hvm.bare_eq | exact hvm.bare_eq.symm
    rw [e3] at e1
    exact (e1.symm.trans e2).trans h2
  have hkind : k'.kind = .array comp (.array .int) := by rw [he]; exact h4
  have f1 : U.vm.findClass (FieldType.array .int).toString = some comp := by rw [hvm.findClass]; exact h1
  have f2 : U.vm.findClass ("[" ++ (FieldType.array .int).toString) = some c := by rw [hvm.findClass]; exact h5
  unfold zAA Cond.before Cond.holds
  simp only [Cond.value]
  rw [f1, Option.bind_some]
  refine (congrArg (fun o : Option Nat => (o.bind (fun c => (U.vm.classes[c]?).map fun (k : Class) => match k.kind with | .array _ ty => decide (ty = FieldType.array .int) && decide (U.vm.findClass ("[" ++ (FieldType.array .int).toString) = some c) | _ => false) == some true)) hi).trans ?_
  simp [hk', hkind, f2]
/-- all that the tables give, at any state -/
def zg (U : State) : Prop := (∀ w ∈ zW, w.before #[] U = true) ∧ (∀ w ∈ zN, va_Nw w U) ∧ (∀ C ∈ [RX1, RX2, RX5], va_AO C U) ∧ (∀ q ∈ zStr, ∃ a, vk_R q.1 q.2.1 q.2.2 a U) ∧ (∀ q ∈ zNo, va_Nc q.1 q.2 U) ∧ zAA U
theorem zg_warm {s U : State} (hW : s.WarmedH U.vm) (h : zg s) : zg U :=
  ⟨fun w hw => word_at hW (good_of_word (zW_good hw)) (h.1 w hw), fun w hw => zN_warm (List.mem_filter.mp hw).2 hW (h.2.1 w hw), fun C hC => va_AO.moved hW.alike (h.2.2.1 C hC),
    fun q hq => (h.2.2.2.1 q hq).elim fun a ha => ⟨a, vk_R.warm hW ha⟩, fun q hq => va_Nc.moved hW.alike (h.2.2.2.2.1 q hq), zAA_moved hW.alike h.2.2.2.2.2⟩
theorem zg_w {U : State} (h : zg U) {w : Cond} (hw : w ∈ zW) {A : Array Value} : w.before A U = true := word_at (State.WarmedH.refl U) (good_of_word (zW_good hw)) (h.1 w hw)
theorem zg_n {U : State} (h : zg U) {w : Cond} (hw : w ∈ zN) {A : Array Value} : w.before A U = true := va_Nw.use (zN_tab (List.mem_filter.mp hw).2) (h.2.1 w hw)
def zG (l : Launch) (D : va_G) (aC : Nat → ClassId) (b0 : Nat) (U : State) : Prop := l.stackTraces = false ∧ va_K D vwCl (zT aC) U ∧ zg U ∧ vx_Zq Bundle.tN "UNASSIGNED_STACK" Bundle.steD (zA b0) U U.heap ∧ vx_Zq Bundle.tN "SUPPRESSED_SENTINEL" Bundle.listD (zA b0) U U.heap ∧ b0 ≤ U.heap.size
theorem zG_to {l : Launch} {D : va_G} {aC : Nat → ClassId} {b0 : Nat} {s U : State} (h : zG l D aC b0 s) (hW : s.WarmedH U.vm) (hz : s.heap.size ≤ U.heap.size) (hk : ∀ q : Nat, q < s.heap.size → ¬ zA b0 q → U.heap[q]? = s.heap[q]?) : zG l D aC b0 U := by
  obtain ⟨h1, h2, h3, h4, h5, h6⟩ := h
  exact ⟨h1, va_K.moved hW.alike h2, zg_warm hW h3, vx_Zq.moved hW.alike (h4.kept hk), vx_Zq.moved hW.alike (h5.kept hk), Nat.le_trans h6 hz⟩
/-- a contract's start and end -/
def zPc (l : Launch) (D : va_G) (aC : Nat → ClassId) (b0 : Nat) (av : List Value) (M : ZM) (sz : Nat) : Array Value → State → Prop := fun v U => v = av.toArray ∧ zG l D aC b0 U ∧ zM D b0 M U.heap ∧ U.heap.size = sz
theorem zPc_blind {l : Launch} {D : va_G} {aC : Nat → ClassId} {b0 : Nat} {av : List Value} {M : ZM} {sz : Nat} : FrameBlind (zPc l D aC b0 av M sz) := by
  intro a U g mk h
  obtain ⟨h1, h2, h3, h4⟩ := h
  exact ⟨h1, zG_to (U := U.calling g mk a) h2 (State.WarmedH.refl U) (Nat.le_refl _) (fun _ _ _ => rfl), h3, h4⟩
def zQc (D : va_G) (b0 : Nat) (P : Option Value → ZM → Nat → Prop) : Array Value → State → Outcome → State → Prop := fun _ st o t => (∃ (r : Option Value) (M' : ZM) (sz' : Nat), o = .returned r ∧ P r M' sz' ∧ zM D b0 M' t.heap ∧ t.heap.size = sz') ∧ va_F (zA b0) st t
abbrev rz (n mc ms : Nat) : Room := { frames := 20 * n + 20, cells := mc, slots := ms, locals := 200 * n + 200 }
/-- THE CONTRACT of a method that returns -/
def Ct (l : Launch) (D : va_G) (aC : Nat → ClassId) (b0 : Nat) (y : MethodName) (cc : ByteArray) (maxL : Nat) (ret : Option FieldType) (n mc ms : Nat) (av : List Value) (M : ZM) (sz : Nat) (P : Option Value → ZM → Nat → Prop) : Prop :=
  Met l y [.code y cc maxL ret] (rz n mc ms) (zPc l D aC b0 av M sz) (zQc D b0 P) mc ms (zA b0)
/-- what stands fast in a method's body -/
def zC (p : Program) (l : Launch) (s : State) (m : MethodId) (c : Code) (D : va_G) (aC : Nat → ClassId) (b0 : Nat) (own : String) (cc : ByteArray) (nL : Nat) : Prop := p.tables.exec = Jvm.exec ∧ c.code = cc ∧ c.maxLocals = nL ∧ s.vm.findClass own = some m.cls ∧ zG l D aC b0 s
/-- the machine at frame g, the heap as M has it, of size sz -/
def Z (p : Program) (l : Launch) (e : Env) (R : Room) (s : State) (m : MethodId) (args : Array Value) (below : List Frame) (meth : Method) (c : Code) (D : va_G) (b0 : Nat) (M : ZM) (sz cells slots : Nat) (Q : State → Prop) (g : JFrame) : Prop :=
  ∀ (H : Heap) (locs : List Loc), zM D b0 M H → H.size = sz → va_S (zA b0) s.heap H locs → W p l e R s m args below meth c H locs cells slots Q g
section ZR
variable {p : Program} {l : Launch} {e : Env} {R : Room} {s : State} {m : MethodId} {args : Array Value} {below : List Frame} {meth : Method} {c : Code} {D : va_G} {aC : Nat → ClassId} {b0 : Nat} {M : ZM} {sz cells slots : Nat} {Q : State → Prop} {own : String} {cc : ByteArray} {nL pc : Nat} {ls : Array Slot} {rest : List Value} {a : Nat}
theorem zz {g g2 : JFrame} (h : ∀ (H : Heap) (locs : List Loc), W p l e R s m args below meth c H locs cells slots Q g2 → W p l e R s m args below meth c H locs cells slots Q g) (k : Z p l e R s m args below meth c D b0 M sz cells slots Q g2) : Z p l e R s m args below meth c D b0 M sz cells slots Q g :=
  fun H locs h1 h2 h3 => h H locs (k H locs h1 h2 h3)
theorem zb {g g2 g3 : JFrame} {P : Prop} (h : ∀ (H : Heap) (locs : List Loc), (P → W p l e R s m args below meth c H locs cells slots Q g2) → (¬ P → W p l e R s m args below meth c H locs cells slots Q g3) → W p l e R s m args below meth c H locs cells slots Q g)
    (k1 : P → Z p l e R s m args below meth c D b0 M sz cells slots Q g2) (k2 : ¬ P → Z p l e R s m args below meth c D b0 M sz cells slots Q g3) : Z p l e R s m args below meth c D b0 M sz cells slots Q g :=
  fun H locs h1 h2 h3 => h H locs (fun q => k1 q H locs h1 h2 h3) (fun q => k2 q H locs h1 h2 h3)
theorem zs {g : JFrame} {pc' : Nat} {st : List Value} {lv : List (Nat × Value)} (h : ∀ (H : Heap) (locs : List Loc), (∀ ls : Array Slot, lv_has ls nL lv → W p l e R s m args below meth c H locs cells slots Q (F0 m pc' ls st)) → W p l e R s m args below meth c H locs cells slots Q g)
    (k : ∀ ls : Array Slot, lv_has ls nL lv → Z p l e R s m args below meth c D b0 M sz cells slots Q (F0 m pc' ls st)) : Z p l e R s m args below meth c D b0 M sz cells slots Q g :=
  fun H locs h1 h2 h3 => h H locs (fun ls hl => k ls hl H locs h1 h2 h3)
theorem zi {x : Int32} {st : List Value} (k : ∀ y : Int32, y = x → Z p l e R s m args below meth c D b0 M sz cells slots Q (F0 m pc ls (.int y :: st))) : Z p l e R s m args below meth c D b0 M sz cells slots Q (F0 m pc ls (.int x :: st)) := k x rfl
theorem zeq {g : JFrame} {M' : ZM} (h : M = M') (k : Z p l e R s m args below meth c D b0 M' sz cells slots Q g) : Z p l e R s m args below meth c D b0 M sz cells slots Q g := h ▸ k
theorem zval {v v' : Value} {st : List Value} (h : v = v') (k : Z p l e R s m args below meth c D b0 M sz cells slots Q (F0 m pc ls (v' :: st))) : Z p l e R s m args below meth c D b0 M sz cells slots Q (F0 m pc ls (v :: st)) := h ▸ k
theorem zwid {g : JFrame} {k n : Nat} (h1 : cells ≤ k) (h2 : slots ≤ n) (kk : Z p l e R s m args below meth c D b0 M sz k n Q g) : Z p l e R s m args below meth c D b0 M sz cells slots Q g :=
  fun H locs a1 a2 a3 => W.widen h1 h2 (kk H locs a1 a2 a3)
/-- a field by its place in the pool of 'own' -/
def zFd (own : String) (idx ci k : Nat) : Prop := ∃ (C : String) (T : u_T) (N : Nat), vwCl[ci]? = some (C, T, N) ∧ k < N ∧ (∀ w ∈ u_ws C T N, w ∈ zW) ∧ (Cond.fieldLink own idx (T k).1 (T k).2.1 (T k).2.2.1 ∈ zW ∨ ∃ host : String, Cond.fieldLinkNest own idx (T k).1 (T k).2.1 (T k).2.2.1 host ∈ zN)
theorem z_get (C : zC p l s m c D aC b0 own cc nL) {idx ci k : Nat} (F : zFd own idx ci k) {fs : List Value} {v : Value} (he : M a = some (.inr (ci, fs))) (hv : fs[k]? = some v) (hdg : decode cc pc = .ok (.getfield idx, 3))
    (kk : Z p l e R s m args below meth c D b0 M sz cells slots Q (F0 m (pc + 3) ls (v :: rest))) : Z p l e R s m args below meth c D b0 M sz cells slots Q (F0 m pc ls (.ref a :: rest)) := by
  obtain ⟨hx, hb, -, hown, -, hK, hg, -⟩ := C
  obtain ⟨Cn, T, N, hc, hk, hin, hlk⟩ := F
  intro H locs h1 h2 h3
  rcases hlk with hlk | ⟨host, hlk⟩
  · exact va_get (D := D) hx hb (Ts := zW) (fun w hw => zg_w hg hw) hin hown hK (h1.one he) 0 rfl hc k hk (zg_w hg hlk) (fun _ h => h) hv hdg (kk H locs h1 h2 h3)
  · exact va_getN (D := D) hx hb (Ts := zW) (fun w hw => zg_w hg hw) hin hown hK (h1.one he) 0 rfl hc k hk (zg_n hg hlk) (fun _ h => h) hv hdg (kk H locs h1 h2 h3)
end ZR
