/-! methods that return or throw -/
def zXc (D : va_G) (b0 : Nat) (PX : String → ZM → Prop) : String → State → State → Prop := fun E st t => (∃ M' : ZM, PX E M' ∧ zM D b0 M' t.heap) ∧ va_F (zA b0) st t
def CtX (l : Launch) (D : va_G) (aC : Nat → ClassId) (b0 : Nat) (y : MethodName) (cc : ByteArray) (maxL : Nat) (ret : Option FieldType) (n mc ms : Nat) (av : List Value) (M : ZM) (sz : Nat) (P : Option Value → ZM → Nat → Prop) (PX : String → ZM → Prop) : Prop :=
  vx_Met l y [.code y cc maxL ret] (rz n mc ms) (zPc l D aC b0 av M sz) (zQc D b0 P) (zXc D b0 PX) mc ms (zA b0)
section ZR5
variable {p : Program} {l : Launch} {e : Env} {R : Room} {s : State} {m : MethodId} {args : Array Value} {below : List Frame} {meth : Method} {c : Code} {D : va_G} {aC : Nat → ClassId} {b0 : Nat} {M : ZM} {sz cells slots : Nat} {Q : State → Prop} {own : String} {cc : ByteArray} {nL pc : Nat} {ls : Array Slot} {rest : List Value} {a : Nat}
theorem z_ret {g : JFrame} {mc ms : Nat} {P : Option Value → ZM → Nat → Prop} {PX : String → ZM → Prop} (h1 : cells ≤ mc) (h2 : slots ≤ ms) (k : Z p l e R s m args below meth c D b0 M sz mc ms (MQ below (zQc D b0 P) args s mc ms (zA b0)) g) : Z p l e R s m args below meth c D b0 M sz cells slots (vx_MQ below (zQc D b0 P) (zXc D b0 PX) args s mc ms (zA b0)) g :=
  fun H locs a1 a2 a3 => W.widen h1 h2 (vx_ret (k H locs a1 a2 a3))
/-- what a throw asks of the tables -/
def zTh (own : String) (ik is ic : Nat) (cls text : String) : Prop := Bundle.fit cls = true ∧ Cond.classLink own ik cls ∈ zW ∧ Cond.initialized cls ∈ zW ∧ (own, is, text) ∈ zStr ∧ (∀ w ∈ vx_atS own ic cls ["java/lang/RuntimeException", "java/lang/Exception"], w ∈ zW ∨ w ∈ zN) ∧ (∀ w ∈ Cond.classLink own ik cls :: Cond.initialized cls :: vx_atS own ic cls ["java/lang/RuntimeException", "java/lang/Exception"], vx_ot w = true)
theorem z_throw (C : zC p l s m c D aC b0 own cc nL) (hml : ls.size = nL) {ik is ic mc ms : Nat} {cls text : String} {P : Option Value → ZM → Nat → Prop} {PX : String → ZM → Prop} (F : zTh own ik is ic cls text) (hnt : ∀ x ∈ c.exceptionTable.toList, False) (hlocks : meth.locks = false)
    (d0 : decode cc pc = .ok (.new ik, 3)) (d3 : decode cc (pc + 3) = .ok (.dup, 1)) (d4 : decode cc (pc + 4) = .ok (.ldc is, 2)) (d6 : decode cc (pc + 6) = .ok (.invokespecial ic, 3)) (d9 : decode cc (pc + 9) = .ok (.athrow, 1))
    (hR : 5 < R.frames ∧ (rest.map fun v => v.category).sum + 82 ≤ R.locals ∧ cells + 1 ≤ R.cells ∧ slots + 6 ≤ R.slots ∧ cells + 1 ≤ mc ∧ slots + 6 ≤ ms) (hp : PX cls M) :
    Z p l e R s m args below meth c D b0 M sz cells slots (vx_MQ below (zQc D b0 P) (zXc D b0 PX) args s mc ms (zA b0)) (F0 m pc ls rest) := by
  intro H locs h1 h2 h3
  obtain ⟨hx, hb, hml2, hown, hl, hK, hg, hU, hN, hlow⟩ := C
  obtain ⟨f1, f2, f3, f4, f5, f6⟩ := F
  obtain ⟨sa, hsa⟩ := hg.2.2.2.1 _ f4
  refine vx_throwS (text := text) (names := ["java/lang/RuntimeException", "java/lang/Exception"]) (A := zA b0) hx hb hl hown f1 (by decide +kernel) (zg_w hg f2) (zg_w hg f3) hsa (fun w hw => (f5 w hw).elim (fun q => zg_w hg q) (fun q => zg_n hg q)) f6 hU hN h3 (hml.trans hml2.symm) d0 d3 d4 d6 d9 (fun x hx9 => (hnt x hx9).elim) hR.1 (by show _ + 82 ≤ _; exact hR.2.1) hR.2.2.1 hR.2.2.2.1 hlocks (fun t _ t1 t2 => ?_) h3.2.2 hR.2.2.2.2.1 hR.2.2.2.2.2
  refine ⟨⟨M, hp, fun q f hq => ⟨(h1 q f hq).1, (h1 q f hq).2.kept (t2 q (h1.lt hq))⟩⟩, Nat.le_trans h3.1 t1, fun q a1 a2 => ?_⟩
  rw [t2 q (Nat.lt_of_lt_of_le a1 h3.1)]
  exact h3.2.1 q a1 a2
/-- behind a call that has come back, or thrown -/
theorem z_backX {g0 : JFrame} {mc ms pc' : Nat} {P : Option Value → ZM → Nat → Prop} {PX : String → ZM → Prop} {H : Heap} {locs : List Loc} {av : Array Value} (h3 : va_S (zA b0) s.heap H locs) (hg0 : g0 = F0 m pc ls g0.stack) (hp : pc' = pc + 3)
    (hr : vx_Run p l e R s m args below meth c H locs cells slots mc ms g0 rest (zQc D b0 P av) (zXc D b0 PX) (zA b0))
    (kx : ∀ (E : String) (M' : ZM), PX E M' → ∀ (H1 : Heap) (locs1 : List Loc) (q9 : Addr) (ce : Cell), zM D b0 M' H1 → va_S (zA b0) s.heap H1 locs1 → H1[q9]? = some ce → ce.vm = .none → s.vm.findClass E = some ce.cls → vx_W p l e R s m args below meth c H1 locs1 (cells + mc) (slots + ms) Q (F0 m pc ls rest) q9)
    (kk : ∀ (r : Option Value) (M' : ZM) (sz' : Nat), P r M' sz' → Z p l e R s m args below meth c D b0 M' sz' (cells + mc) (slots + ms) Q (F0 m pc' ls (r.toList ++ rest))) : W p l e R s m args below meth c H locs cells slots Q g0 := by
  intro T hT X
  rcases hr T hT X with ⟨v, st₀, t, T', L, h0, X', hL, e1, e2, ⟨⟨r, M', sz', hv, hP, hM, hz⟩, hf1, hf2⟩, st⟩ | ⟨q, st₀, t, T', L, E, ce, h0, X', hL, e1, e2, ⟨⟨M', hPX, hM⟩, hf1, hf2⟩, hce, hcv, hcl, st⟩
  · cases hv
    rw [h0] at hf1 hf2
    obtain ⟨t2, a1, b1⟩ := kk v M' sz' hP T'.heap (locs ++ L) (by rw [e1]; exact hM) (by rw [e1]; exact hz)
      ⟨Nat.le_trans h3.1 (by rw [e1]; exact hf1), fun q a1 a2 => by rw [e1, hf2 q (Nat.lt_of_lt_of_le a1 h3.1) a2]; exact h3.2.1 q a1 a2, fun q hq => by
        rcases List.mem_append.mp hq with h | h
        · exact h3.2.2 q h
        · exact hL q h⟩ T' rfl X'
    refine ⟨t2, st t2 ?_, b1⟩
    subst hp
    rw [hg0]
    exact a1
  · rw [h0] at hf1 hf2
    obtain ⟨t2, a1, b1⟩ := kx E M' hPX T'.heap (locs ++ L) q ce (by rw [e1]; exact hM)
      ⟨Nat.le_trans h3.1 (by rw [e1]; exact hf1), fun q a1 a2 => by rw [e1, hf2 q (Nat.lt_of_lt_of_le a1 h3.1) a2]; exact h3.2.1 q a1 a2, fun q hq => by
        rcases List.mem_append.mp hq with h | h
        · exact h3.2.2 q h
        · exact hL q h⟩ (by rw [e1]; exact hce) hcv hcl T' rfl X'
    refine ⟨t2, st.trans ?_, b1⟩
    rw [hg0]
    exact a1
/-- .. what is thrown goes on to the caller -/
theorem z_out {mc ms : Nat} {P : Option Value → ZM → Nat → Prop} {PX : String → ZM → Prop} {E : String} {M' : ZM} (hnt : ∀ x ∈ c.exceptionTable.toList, False) (hlocks : meth.locks = false) (hc : cells ≤ mc) (hs : slots ≤ ms) (hp : PX E M') {H1 : Heap} {locs1 : List Loc} {q9 : Addr} {ce : Cell} (h1 : zM D b0 M' H1) (h3 : va_S (zA b0) s.heap H1 locs1) (hce : H1[q9]? = some ce) (hcv : ce.vm = .none) (hcl : s.vm.findClass E = some ce.cls) :
    vx_W p l e R s m args below meth c H1 locs1 cells slots (vx_MQ below (zQc D b0 P) (zXc D b0 PX) args s mc ms (zA b0)) (F0 m pc ls rest) q9 :=
  vx_out (fun x hx9 => (hnt x hx9).elim) hlocks hce hcv hcl (fun t ht _ => ⟨⟨M', hp, by rw [ht]; exact h1⟩, h3.F ht⟩) h3.2.2 hc hs
theorem z_callVX (C : zC p l s m c D aC b0 own cc nL) (hml : ls.size = nL) {idx : Nat} {y : MethodName} {cy : ByteArray} {maxL n nv mc ms ci : Nat} {ret : Option FieldType} {As fs : List Value} {P : Option Value → ZM → Nat → Prop} {PX : String → ZM → Prop} {st : List Value} {T : u_T} {N : Nat} (F : zLkV own idx y cy maxL ret n) (hlk : Cond.methodLink own idx y ∈ zW)
    (hM : CtX l D aC b0 y cy maxL ret nv mc ms (.ref a :: As) M sz P PX) (ha : M a = some (.inr (ci, fs))) (hci : vwCl[ci]? = some (y.cls, T, N)) (hn : As.length = n) (hst : st = As.reverse ++ .ref a :: rest) (hW : (rest.map fun v => v.category).sum ≤ 8)
    (hR : 20 * nv + 21 ≤ R.frames ∧ maxL + (200 * nv + 219) ≤ R.locals ∧ cells + mc ≤ R.cells ∧ slots + ms ≤ R.slots) (hdg : decode cc pc = .ok (.invokevirtual idx, 3))
    (kx : ∀ (E : String) (M' : ZM), PX E M' → ∀ (H1 : Heap) (locs1 : List Loc) (q9 : Addr) (ce : Cell), zM D b0 M' H1 → va_S (zA b0) s.heap H1 locs1 → H1[q9]? = some ce → ce.vm = .none → s.vm.findClass E = some ce.cls → vx_W p l e R s m args below meth c H1 locs1 (cells + mc) (slots + ms) Q (F0 m pc ls rest) q9)
    (kk : ∀ (r : Option Value) (M' : ZM) (sz' : Nat), P r M' sz' → Z p l e R s m args below meth c D b0 M' sz' (cells + mc) (slots + ms) Q (F0 m (pc + 3) ls (r.toList ++ rest))) : Z p l e R s m args below meth c D b0 M sz cells slots Q (F0 m pc ls st) := by
  intro H locs h1 h2 h3
  have hpre := z_pre C h1 h2 h3 (.ref a :: As)
  obtain ⟨hx, hb, hml2, hown, -, hK, hg, -⟩ := C
  obtain ⟨⟨hd, hcode, hini, -⟩, hinst, hsel⟩ := F
  subst hst
  have hts : ∀ w ∈ zW, w.before args s = true := fun w hw => zg_w hg hw
  have hrecv := va_recv (D := D) (cl := vwCl) (tys := zT aC) hK (h1.one ha) hci (q0 := 0) rfl
  have hlen : ∀ sig, parseMethodDescriptor y.desc = some sig → n = sig.parameters.length := fun sig h => by
    have h9 := hd.2.2
    rw [h] at h9
    exact (Option.some.inj h9).symm
  refine z_backX (av := (Value.ref a :: As).toArray) h3 rfl rfl ?_ kx kk
  exact vx_runV (Ts := zW) ⟨hx, hb, hml2, hown, hts⟩ hM ⟨⟨rfl, rfl, by show 20 * nv + 20 + 1 ≤ _; omega, by show 8 + (maxL + 11) + (200 * nv + 200) ≤ _; omega, z_one hg hcode rfl, List.mem_singleton.mpr rfl, hts _ hcode, hts _ hini, ⟨hd.1, hd.2.1⟩, hlen, hts _ hlk⟩, hts _ hinst, hts _ hsel⟩ ⟨hpre.1, hrecv, hpre.2⟩ rfl hn hml rfl (by show 2 * 0 + _ ≤ 8; omega) hdg ⟨hR.2.2.1, hR.2.2.2⟩
end ZR5
theorem CtX.of {l : Launch} {D : va_G} {aC : Nat → ClassId} {b0 : Nat} {y : MethodName} {cc : ByteArray} {maxL : Nat} {ret : Option FieldType} {n mc ms : Nat} {av : List Value} {M : ZM} {sz : Nat} {P : Option Value → ZM → Nat → Prop} {PX : String → ZM → Prop} (hy : plainName y.cls = true) (hlen : (lg_sl av).length ≤ maxL)
    (body : ∀ (p : Program) (e : Env) (s : State) (m : MethodId) (below : List Frame) (meth : Method) (c : Code) (ls : Array Slot), zC p l s m c D aC b0 y.cls cc maxL → meth.sig.returnType = ret → meth.locks = false → (∀ x ∈ c.exceptionTable.toList, False) → lv_has ls maxL (lv_args 0 av) →
      Z p l e (rz n mc ms) s m av.toArray below meth c D b0 M sz 0 0 (vx_MQ below (zQc D b0 P) (zXc D b0 PX) av.toArray s mc ms (zA b0)) (F0 m 0 ls [])) : CtX l D aC b0 y cc maxL ret n mc ms av M sz P PX := by
  refine vx_ofW (cc := cc) (maxL := maxL) (ret := ret) hy rfl ?_
  intro p e s m args below meth c s₁ B hml hnt hv
  obtain ⟨rfl, hG, hM, hz⟩ := hv
  have hl := lv_entry av (n := maxL) hlen
  rw [lg_entry_eq]
  generalize (lg_sl av ++ List.replicate (maxL - (lg_sl av).length) Slot.unset).toArray = ls at hl ⊢
  exact body p e s m below meth c ls ⟨B.exec, B.bytes, hml, findClass_of_methodNamed B.named, hG⟩ B.returns B.notSynchronized hnt hl s.heap [] hM hz va_S.rf
