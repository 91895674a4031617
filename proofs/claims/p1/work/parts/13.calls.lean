section ZR4
variable {p : Program} {l : Launch} {e : Env} {R : Room} {s : State} {m : MethodId} {args : Array Value} {below : List Frame} {meth : Method} {c : Code} {D : va_G} {aC : Nat → ClassId} {b0 : Nat} {M : ZM} {sz cells slots : Nat} {Q : State → Prop} {own : String} {cc : ByteArray} {nL pc : Nat} {ls : Array Slot} {rest : List Value} {a : Nat}
/-- what a call asks of the tables: by the method's own link, or as a nest mate -/
def zLk (own : String) (idx : Nat) (y : MethodName) (cy : ByteArray) (maxL : Nat) (ret : Option FieldType) (n : Nat) : Prop :=
  (y.cls ≠ "java/lang/invoke/MethodHandle" ∧ y.cls ≠ "java/lang/invoke/VarHandle" ∧ (parseMethodDescriptor y.desc).map (fun d => d.parameters.length) = some n) ∧ Cond.code y cy maxL ret ∈ zW ∧ Cond.initialized y.cls ∈ zW ∧ (Cond.methodLink own idx y ∈ zW ∨ ∃ host : String, Cond.methodLinkNest own idx y host ∈ zN)
def zLkV (own : String) (idx : Nat) (y : MethodName) (cy : ByteArray) (maxL : Nat) (ret : Option FieldType) (n : Nat) : Prop := zLk own idx y cy maxL ret n ∧ Cond.instanceMethod y ∈ zW ∧ Cond.selects y.cls y y ∈ zW
def zLkS (own : String) (idx : Nat) (y : MethodName) (cy : ByteArray) (maxL : Nat) (ret : Option FieldType) (n : Nat) : Prop := zLk own idx y cy maxL ret n ∧ Cond.static y ∈ zW
def zLkI (own : String) (idx : Nat) (y : MethodName) (cy : ByteArray) (maxL n : Nat) : Prop := zLk own idx y cy maxL none n ∧ y.name = "<init>" ∧ Cond.instanceMethod y ∈ zW
theorem z_pre (C : zC p l s m c D aC b0 own cc nL) {H : Heap} {locs : List Loc} (h1 : zM D b0 M H) (h2 : H.size = sz) (h3 : va_S (zA b0) s.heap H locs) (av : List Value) : PreS s H (zPc l D aC b0 av M sz) av :=
  ⟨zPc_blind, fun U hU hW => ⟨rfl, zG_to C.2.2.2.2 hW (by rw [hU]; exact h3.1) (fun q a1 a2 => by rw [hU]; exact h3.2.1 q a1 a2), by rw [hU]; exact h1, by rw [hU]; exact h2⟩⟩
theorem z_one {y : MethodName} {cy : ByteArray} {maxL : Nat} {ret : Option FieldType} {ws : List Cond} (hg : zg s) (hc : Cond.code y cy maxL ret ∈ zW) (hw : ws = [.code y cy maxL ret]) : ∀ w ∈ ws, ∀ (a' : Array Value) (U : State), s.WarmedH U.vm → w.before a' U = true := by
  intro w h a' U hW
  rw [hw] at h
  rw [List.mem_singleton.mp h]
  exact word_at hW (good_of_word (zW_good hc)) (hg.1 _ hc)
/-- behind a call that has come back -/
theorem z_back {g0 : JFrame} {mc ms pc' : Nat} {P : Option Value → ZM → Nat → Prop} {H : Heap} {locs : List Loc} {av : Array Value} (h3 : va_S (zA b0) s.heap H locs) (hg0 : g0 = F0 m pc ls g0.stack) (hp : pc' = pc + 3)
    (hr : va_Run p l e R s m args below meth c H locs cells slots mc ms g0 rest (zQc D b0 P av) (zA b0))
    (kk : ∀ (r : Option Value) (M' : ZM) (sz' : Nat), P r M' sz' → Z p l e R s m args below meth c D b0 M' sz' (cells + mc) (slots + ms) Q (F0 m pc' ls (r.toList ++ rest))) : W p l e R s m args below meth c H locs cells slots Q g0 := by
  intro T hT X
  obtain ⟨v, st₀, t, T', L, h0, X', hL, e1, e2, ⟨⟨r, M', sz', hv, hP, hM, hz⟩, hf1, hf2⟩, st⟩ := hr T hT X
  cases hv
  rw [h0] at hf1 hf2
  obtain ⟨t2, a1, b1⟩ := kk v M' sz' hP T'.heap (locs ++ L) (by rw [e1]; exact hM) (by rw [e1]; exact hz)
    ⟨Nat.le_trans h3.1 (by rw [e1]; exact hf1), fun q a1 a2 => by rw [e1, hf2 q (Nat.lt_of_lt_of_le a1 h3.1) a2]; exact h3.2.1 q a1 a2, fun q hq => by
      rcases List.mem_append.mp hq with h | h
      · exact h3.2.2 q h
      · exact hL q h⟩ T' rfl X'
  refine ⟨t2, st t2 ?_, b1⟩
  subst hp
  rw [hg0]
  exact a1
theorem z_callV (C : zC p l s m c D aC b0 own cc nL) (hml : ls.size = nL) {idx : Nat} {y : MethodName} {cy : ByteArray} {maxL n nv mc ms ci : Nat} {ret : Option FieldType} {As fs : List Value} {P : Option Value → ZM → Nat → Prop} {st : List Value} {T : u_T} {N : Nat} (F : zLkV own idx y cy maxL ret n)
    (hM : Ct l D aC b0 y cy maxL ret nv mc ms (.ref a :: As) M sz P) (ha : M a = some (.inr (ci, fs))) (hci : vwCl[ci]? = some (y.cls, T, N)) (hn : As.length = n) (hst : st = As.reverse ++ .ref a :: rest) (hW : (rest.map fun v => v.category).sum ≤ 8)
    (hR : 20 * nv + 21 ≤ R.frames ∧ maxL + (200 * nv + 219) ≤ R.locals ∧ cells + mc ≤ R.cells ∧ slots + ms ≤ R.slots) (hdg : decode cc pc = .ok (.invokevirtual idx, 3))
    (kk : ∀ (r : Option Value) (M' : ZM) (sz' : Nat), P r M' sz' → Z p l e R s m args below meth c D b0 M' sz' (cells + mc) (slots + ms) Q (F0 m (pc + 3) ls (r.toList ++ rest))) : Z p l e R s m args below meth c D b0 M sz cells slots Q (F0 m pc ls st) := by
  intro H locs h1 h2 h3
  have hpre := z_pre C h1 h2 h3 (.ref a :: As)
  obtain ⟨hx, hb, hml2, hown, -, hK, hg, -⟩ := C
  obtain ⟨⟨hd, hcode, hini, hlk⟩, hinst, hsel⟩ := F
  subst hst
  have hts : ∀ w ∈ zW, w.before args s = true := fun w hw => zg_w hg hw
  have hrecv := va_recv (D := D) (cl := vwCl) (tys := zT aC) hK (h1.one ha) hci (q0 := 0) rfl
  have hlen : ∀ sig, parseMethodDescriptor y.desc = some sig → n = sig.parameters.length := fun sig h => by
    have h9 := hd.2.2
    rw [h] at h9
    exact (Option.some.inj h9).symm
  refine z_back (av := (Value.ref a :: As).toArray) h3 rfl rfl ?_ kk
  rcases hlk with hlk | ⟨host, hlk⟩
  · exact va_runV (Ts := zW) ⟨hx, hb, hml2, hown, hts⟩ hM ⟨⟨rfl, rfl, by show 20 * nv + 20 + 1 ≤ _; omega, by show 8 + (maxL + 11) + (200 * nv + 200) ≤ _; omega, z_one hg hcode rfl, List.mem_singleton.mpr rfl, hts _ hcode, hts _ hini, ⟨hd.1, hd.2.1⟩, hlen, hts _ hlk⟩, hts _ hinst, hts _ hsel⟩ ⟨hpre.1, hrecv, hpre.2⟩ rfl hn hml rfl (by show 2 * 0 + _ ≤ 8; omega) hdg ⟨hR.2.2.1, hR.2.2.2⟩
  · exact va_runVN (Ts := zW) ⟨hx, hb, hml2, hown, hts⟩ hM ⟨⟨⟨rfl, rfl, by show 20 * nv + 20 + 1 ≤ _; omega, by show 8 + (maxL + 11) + (200 * nv + 200) ≤ _; omega, z_one hg hcode rfl, List.mem_singleton.mpr rfl⟩, hts _ hcode, hts _ hini, ⟨hd.1, hd.2.1⟩, hlen, zg_n hg hlk⟩, hts _ hinst, hts _ hsel⟩ ⟨hpre.1, hrecv, hpre.2⟩ rfl hn hml rfl (by show 2 * 0 + _ ≤ 8; omega) hdg ⟨hR.2.2.1, hR.2.2.2⟩
theorem z_callS (C : zC p l s m c D aC b0 own cc nL) (hml : ls.size = nL) {idx : Nat} {y : MethodName} {cy : ByteArray} {maxL n nv mc ms : Nat} {ret : Option FieldType} {As : List Value} {P : Option Value → ZM → Nat → Prop} {st : List Value} (F : zLkS own idx y cy maxL ret n)
    (hM : Ct l D aC b0 y cy maxL ret nv mc ms As M sz P) (hn : As.length = n) (hst : st = As.reverse ++ rest) (hW : (rest.map fun v => v.category).sum ≤ 8)
    (hR : 20 * nv + 21 ≤ R.frames ∧ maxL + (200 * nv + 219) ≤ R.locals ∧ cells + mc ≤ R.cells ∧ slots + ms ≤ R.slots) (hdg : decode cc pc = .ok (.invokestatic idx, 3))
    (kk : ∀ (r : Option Value) (M' : ZM) (sz' : Nat), P r M' sz' → Z p l e R s m args below meth c D b0 M' sz' (cells + mc) (slots + ms) Q (F0 m (pc + 3) ls (r.toList ++ rest))) : Z p l e R s m args below meth c D b0 M sz cells slots Q (F0 m pc ls st) := by
  intro H locs h1 h2 h3
  have hpre := z_pre C h1 h2 h3 As
  obtain ⟨hx, hb, hml2, hown, -, hK, hg, -⟩ := C
  obtain ⟨⟨hd, hcode, hini, hlk⟩, hstt⟩ := F
  subst hst
  have hts : ∀ w ∈ zW, w.before args s = true := fun w hw => zg_w hg hw
  have hlen : ∀ sig, parseMethodDescriptor y.desc = some sig → n = sig.parameters.length := fun sig h => by
    have h9 := hd.2.2
    rw [h] at h9
    exact (Option.some.inj h9).symm
  refine z_back (av := As.toArray) h3 rfl rfl ?_ kk
  rcases hlk with hlk | ⟨host, hlk⟩
  · exact va_runS (Ts := zW) ⟨hx, hb, hml2, hown, hts⟩ hM ⟨⟨rfl, rfl, by show 20 * nv + 20 + 1 ≤ _; omega, by show 8 + (maxL + 11) + (200 * nv + 200) ≤ _; omega, z_one hg hcode rfl, List.mem_singleton.mpr rfl, hts _ hcode, hts _ hini, ⟨hd.1, hd.2.1⟩, hlen, hts _ hlk⟩, hts _ hstt⟩ hpre rfl hn hml rfl (by show 2 * 0 + _ ≤ 8; omega) hdg ⟨hR.2.2.1, hR.2.2.2⟩
  · exact va_runSN (Ts := zW) ⟨hx, hb, hml2, hown, hts⟩ hM ⟨⟨⟨rfl, rfl, by show 20 * nv + 20 + 1 ≤ _; omega, by show 8 + (maxL + 11) + (200 * nv + 200) ≤ _; omega, z_one hg hcode rfl, List.mem_singleton.mpr rfl⟩, hts _ hcode, hts _ hini, ⟨hd.1, hd.2.1⟩, hlen, zg_n hg hlk⟩, hts _ hstt, trivial⟩ hpre rfl hn hml rfl (by show 2 * 0 + _ ≤ 8; omega) hdg ⟨hR.2.2.1, hR.2.2.2⟩
theorem z_callI (C : zC p l s m c D aC b0 own cc nL) (hml : ls.size = nL) {idx : Nat} {y : MethodName} {cy : ByteArray} {maxL n nv mc ms : Nat} {As : List Value} {P : Option Value → ZM → Nat → Prop} {st : List Value} (F : zLkI own idx y cy maxL n)
    (hM : Ct l D aC b0 y cy maxL none nv mc ms (.ref a :: As) M sz P) (hn : As.length = n) (hst : st = As.reverse ++ .ref a :: rest) (hW : (rest.map fun v => v.category).sum ≤ 8)
    (hR : 20 * nv + 21 ≤ R.frames ∧ maxL + (200 * nv + 219) ≤ R.locals ∧ cells + mc ≤ R.cells ∧ slots + ms ≤ R.slots) (hdg : decode cc pc = .ok (.invokespecial idx, 3))
    (kk : ∀ (r : Option Value) (M' : ZM) (sz' : Nat), P r M' sz' → Z p l e R s m args below meth c D b0 M' sz' (cells + mc) (slots + ms) Q (F0 m (pc + 3) ls (r.toList ++ rest))) : Z p l e R s m args below meth c D b0 M sz cells slots Q (F0 m pc ls st) := by
  intro H locs h1 h2 h3
  have hpre := z_pre C h1 h2 h3 (.ref a :: As)
  obtain ⟨hx, hb, hml2, hown, -, hK, hg, -⟩ := C
  obtain ⟨⟨hd, hcode, hini, hlk⟩, hyi, hinst⟩ := F
  subst hst
  have hts : ∀ w ∈ zW, w.before args s = true := fun w hw => zg_w hg hw
  have hlen : ∀ sig, parseMethodDescriptor y.desc = some sig → n = sig.parameters.length := fun sig h => by
    have h9 := hd.2.2
    rw [h] at h9
    exact (Option.some.inj h9).symm
  refine z_back (av := (Value.ref a :: As).toArray) h3 rfl rfl ?_ kk
  rcases hlk with hlk | ⟨host, hlk⟩
  · exact va_runI (Ts := zW) ⟨hx, hb, hml2, hown, hts⟩ hM ⟨⟨rfl, rfl, by show 20 * nv + 20 + 1 ≤ _; omega, by show 8 + (maxL + 11) + (200 * nv + 200) ≤ _; omega, z_one hg hcode rfl, List.mem_singleton.mpr rfl, hts _ hcode, hts _ hini, ⟨hd.1, hd.2.1⟩, hlen, hts _ hlk⟩, hyi, hts _ hinst⟩ hpre rfl hn hml rfl (by show 2 * 0 + _ ≤ 8; omega) hdg ⟨hR.2.2.1, hR.2.2.2⟩
  · exact va_runIN (Ts := zW) ⟨hx, hb, hml2, hown, hts⟩ hM ⟨⟨⟨rfl, rfl, by show 20 * nv + 20 + 1 ≤ _; omega, by show 8 + (maxL + 11) + (200 * nv + 200) ≤ _; omega, z_one hg hcode rfl, List.mem_singleton.mpr rfl⟩, hts _ hcode, hts _ hini, ⟨hd.1, hd.2.1⟩, hlen, zg_n hg hlk⟩, hyi, hts _ hinst⟩ hpre rfl hn hml rfl (by show 2 * 0 + _ ≤ 8; omega) hdg ⟨hR.2.2.1, hR.2.2.2⟩
/-- Object.<init> -/
theorem z_obj (C : zC p l s m c D aC b0 own cc nL) (hml : ls.size = nL) {idx : Nat} (hlk : Cond.methodLink own idx objectInit ∈ zW) (hfr : 1 ≤ R.frames) (hlo : (rest.map fun v => v.category).sum + 12 ≤ R.locals) (hdg : decode cc pc = .ok (.invokespecial idx, 3))
    (kk : Z p l e R s m args below meth c D b0 M sz cells slots Q (F0 m (pc + 3) ls rest)) : Z p l e R s m args below meth c D b0 M sz cells slots Q (F0 m pc ls (.ref a :: rest)) := by
  intro H locs h1 h2 h3
  obtain ⟨hx, hb, hml2, hown, -, hK, hg, -⟩ := C
  exact W.objInit hx hb hown (zg_w hg hlk) (zg_w hg (w := .instanceMethod objectInit) (by decide +kernel)) (zg_w hg (w := .code objectInit ⟨#[0xb1]⟩ 1 none) (by decide +kernel)) rfl (by rw [hml2]; exact hml) rfl hdg hfr (by show 2 * 0 + _ + 12 ≤ _; omega) (kk H locs h1 h2 h3)
/-- the ends -/
theorem z_ends {P : Option Value → ZM → Nat → Prop} {v : Option Value} (hp : P v M sz) {H : Heap} {locs : List Loc} (h1 : zM D b0 M H) (h2 : H.size = sz) (h3 : va_S (zA b0) s.heap H locs) : ∀ t : State, t.heap = H → s.WarmedH t.vm → zQc D b0 P args s (.returned v) t :=
  fun t ht _ => ⟨⟨v, M, sz, rfl, hp, by rw [ht]; exact h1, by rw [ht]; exact h2⟩, h3.F ht⟩
theorem z_iret (C : zC p l s m c D aC b0 own cc nL) {P : Option Value → ZM → Nat → Prop} {v : Int32} (hr : meth.sig.returnType = some .int) (hlocks : meth.locks = false) (hdg : decode cc pc = .ok (.ireturn, 1)) (hp : P (some (.int v)) M sz) : Z p l e R s m args below meth c D b0 M sz cells slots (MQ below (zQc D b0 P) args s cells slots (zA b0)) (F0 m pc ls [.int v]) :=
  fun _ _ h1 h2 h3 => W.iret (v := v) C.1 C.2.1 hr (z_ends hp h1 h2 h3) h3.2.2 hdg hlocks
theorem z_zret (C : zC p l s m c D aC b0 own cc nL) {P : Option Value → ZM → Nat → Prop} {v : Int32} (hr : meth.sig.returnType = some .boolean) (hn : narrow .boolean (.int v) = .int v) (hlocks : meth.locks = false) (hdg : decode cc pc = .ok (.ireturn, 1)) (hp : P (some (.int v)) M sz) : Z p l e R s m args below meth c D b0 M sz cells slots (MQ below (zQc D b0 P) args s cells slots (zA b0)) (F0 m pc ls [.int v]) :=
  fun _ _ h1 h2 h3 => W.zret (v := v) C.1 C.2.1 hr hn (z_ends hp h1 h2 h3) h3.2.2 hdg hlocks
theorem z_vret (C : zC p l s m c D aC b0 own cc nL) {P : Option Value → ZM → Nat → Prop} (hr : meth.sig.returnType = none) (hlocks : meth.locks = false) (hdg : decode cc pc = .ok (.return_, 1)) (hp : P none M sz) : Z p l e R s m args below meth c D b0 M sz cells slots (MQ below (zQc D b0 P) args s cells slots (zA b0)) (F0 m pc ls []) :=
  fun _ _ h1 h2 h3 => W.vret C.1 C.2.1 hr (z_ends hp h1 h2 h3) h3.2.2 hdg hlocks
theorem z_aret (C : zC p l s m c D aC b0 own cc nL) {P : Option Value → ZM → Nat → Prop} {n : String} (hr : meth.sig.returnType = some (.object n)) (hlocks : meth.locks = false) (hdg : decode cc pc = .ok (.areturn, 1)) (hp : P (some (.ref a)) M sz) : Z p l e R s m args below meth c D b0 M sz cells slots (MQ below (zQc D b0 P) args s cells slots (zA b0)) (F0 m pc ls [.ref a]) :=
  fun _ _ h1 h2 h3 => W.aret C.1 C.2.1 hr (Or.inl ⟨n, rfl⟩) (Or.inr ⟨a, rfl⟩) (z_ends hp h1 h2 h3) h3.2.2 hdg hlocks
end ZR4
/-- a contract out of the walk of the body -/
theorem Ct.of {l : Launch} {D : va_G} {aC : Nat → ClassId} {b0 : Nat} {y : MethodName} {cc : ByteArray} {maxL : Nat} {ret : Option FieldType} {n mc ms : Nat} {av : List Value} {M : ZM} {sz : Nat} {P : Option Value → ZM → Nat → Prop} (hy : plainName y.cls = true) (hlen : (lg_sl av).length ≤ maxL)
    (body : ∀ (p : Program) (e : Env) (s : State) (m : MethodId) (below : List Frame) (meth : Method) (c : Code) (ls : Array Slot), zC p l s m c D aC b0 y.cls cc maxL → meth.sig.returnType = ret → meth.locks = false → meth.name = y.name → lv_has ls maxL (lv_args 0 av) →
      Z p l e (rz n mc ms) s m av.toArray below meth c D b0 M sz 0 0 (MQ below (zQc D b0 P) av.toArray s mc ms (zA b0)) (F0 m 0 ls [])) : Ct l D aC b0 y cc maxL ret n mc ms av M sz P := by
  refine Met.ofW (cc := cc) (maxL := maxL) (ret := ret) hy rfl ?_
  intro p e s m args below meth c s₁ B hml hv
  obtain ⟨rfl, hG, hM, hz⟩ := hv
  have hl := lv_entry av (n := maxL) hlen
  rw [lg_entry_eq]
  generalize (lg_sl av ++ List.replicate (maxL - (lg_sl av).length) Slot.unset).toArray = ls at hl ⊢
  exact body p e s m below meth c ls ⟨B.exec, B.bytes, hml, findClass_of_methodNamed B.named, hG⟩ B.returns B.notSynchronized (name_of_methodNamed B.named B.method).1 hl s.heap [] hM hz va_S.rf
