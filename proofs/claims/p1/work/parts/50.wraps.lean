/-! the law's own methods: a call, its answer into out[0], its throws caught -/
section ZR9
variable {p : Program} {l : Launch} {e : Env} {R : Room} {s : State} {m : MethodId} {args : Array Value} {below : List Frame} {meth : Method} {c : Code} {D : va_G} {aC : Nat → ClassId} {b0 : Nat} {M : ZM} {sz cells slots : Nat} {Q : State → Prop} {own : String} {cc : ByteArray} {nL pc : Nat} {ls : Array Slot} {rest : List Value} {a : Nat}
theorem z_last (C : zC p l s m c D aC b0 own cc nL) {n : Nat} {f : Nat → Int64} {i : Int32} {x : Int64} (ha : M a = some (.inl (aC 6, n, .inr (.inl f)))) (hin : vp_in i n) (hdg : decode cc pc = .ok (.lastore, 1))
    (kk : Z p l e R s m args below meth c D b0 (zup M a (.inl (aC 6, n, .inr (.inl (vp_updL f i.toNatClampNeg x))))) sz cells slots Q (F0 m (pc + 1) ls rest)) : Z p l e R s m args below meth c D b0 M sz cells slots Q (F0 m pc ls (.long x :: .int i :: .ref a :: rest)) := by
  obtain ⟨hx, hb, -, hown, -, hK, hg, -⟩ := C
  intro H locs h1 h2 h3
  obtain ⟨hb1, hc1⟩ := h1 a _ ha
  refine W.last hx hb hc1 ((hK.2 6 _ rfl).1 n (fun j => .long (f j))) (fun q => by cases q) (by show ¬ (i < 0 ∨ (arrV _ _ _).slots.size ≤ _); rw [arrV_size]; exact hin) rfl rfl hdg fun H1 e z oq => ?_
  refine kk H1 _ (h1.set ha ?_ oq) (z.trans h2) (h3.put z oq hb1)
  show H1[a]? = some (vp_cell _ _)
  rw [e, vp_cell_l, vp_cell_l, arrV_store]
  congr 2
  funext q
  by_cases hq : q = i.toNatClampNeg
  · subst hq
    simp [updV, vp_updL]
  · simp [updV, vp_updL, hq]
/-- caught by row x; the rows ahead of it name other classes -/
theorem z_catch (C : zC p l s m c D aC b0 own cc nL) {E name : String} {M' : ZM} (pre : List ExceptionTableEntry) (x : ExceptionTableEntry) (suf : List ExceptionTableEntry) (hsplit : c.exceptionTable.toList = pre ++ x :: suf)
    (hpass : ∀ z ∈ pre, covers z pc = false ∨ (z.catchType ≠ 0 ∧ ∃ nm : String, Cond.classLink own z.catchType nm ∈ zW ∧ (E, nm) ∈ zNo)) (hx9 : covers x pc = true) (h0 : x.catchType ≠ 0) (hlk : Cond.classLink own x.catchType name ∈ zW) (hcast : Cond.castable E name ∈ zN)
    {H1 : Heap} {locs1 : List Loc} {q9 : Addr} {ce : Cell} (h1 : zM D b0 M' H1) (h3 : va_S (zA b0) s.heap H1 locs1) (hce : H1[q9]? = some ce) (hcv : ce.vm = .none) (hcl : s.vm.findClass E = some ce.cls)
    (kk : ∀ sz' : Nat, Z p l e R s m args below meth c D b0 M' sz' cells slots Q (F0 m x.handlerPc ls [.ref q9])) : vx_W p l e R s m args below meth c H1 locs1 cells slots Q (F0 m pc ls rest) q9 := by
  obtain ⟨hx, hb, -, hown, -, hK, hg, -⟩ := C
  refine vx_catch hown pre x suf hsplit (fun z hz => ?_) hx9 h0 (zg_w hg hlk) (zg_n hg hcast) hce hcv hcl (kk H1.size H1 locs1 h1 rfl h3)
  rcases hpass z hz with q | ⟨q0, nm, q1, q2⟩
  · exact Or.inl q
  · exact Or.inr ⟨q0, nm, zg_w hg q1, hg.2.2.2.2.1 _ q2⟩
end ZR9
def CtW (l : Launch) (D : va_G) (aC : Nat → ClassId) (b0 : Nat) (y : MethodName) (cc : ByteArray) (maxL : Nat) (ret : Option FieldType) (hh : List (Nat × Nat × Nat × Nat)) (n mc ms : Nat) (av : List Value) (M : ZM) (sz : Nat) (P : Option Value → ZM → Nat → Prop) : Prop :=
  Met l y [.codeWith y cc maxL ret hh] (rz n mc ms) (zPc l D aC b0 av M sz) (zQc D b0 P) mc ms (zA b0)
theorem CtW.of {l : Launch} {D : va_G} {aC : Nat → ClassId} {b0 : Nat} {y : MethodName} {cc : ByteArray} {maxL : Nat} {ret : Option FieldType} {hh : List (Nat × Nat × Nat × Nat)} {n mc ms : Nat} {av : List Value} {M : ZM} {sz : Nat} {P : Option Value → ZM → Nat → Prop} (hy : plainName y.cls = true) (hlen : (lg_sl av).length ≤ maxL)
    (body : ∀ (p : Program) (e : Env) (s : State) (m : MethodId) (below : List Frame) (meth : Method) (c : Code) (ls : Array Slot), zC p l s m c D aC b0 y.cls cc maxL → meth.sig.returnType = ret → meth.locks = false → c.exceptionTable.toList = tableOf hh → lv_has ls maxL (lv_args 0 av) →
      Z p l e (rz n mc ms) s m av.toArray below meth c D b0 M sz 0 0 (MQ below (zQc D b0 P) av.toArray s mc ms (zA b0)) (F0 m 0 ls [])) : CtW l D aC b0 y cc maxL ret hh n mc ms av M sz P := by
  unfold CtW Met
  refine MetFree.of_bodyS (code := cc) (maxLocals := maxL) (ret := ret) hy ?_ ?_
  · intro args s m h hn
    obtain ⟨m9, meth, c, hn9, h1, h2, h3, h4, -, h5, h6, -⟩ := Cond.codeWith_spec (atoms_spec (ws := [.codeWith y cc maxL ret hh]) h _ List.mem_cons_self)
    cases hn.symm.trans hn9
    exact ⟨meth, c, h1, h2, h3, h4, h5, h6⟩
  · intro p e s m args below meth c s₁ B hml hv _
    obtain ⟨rfl, hG, hM, hz⟩ := hv
    have hh0 : s₁.heap = s.heap := by rw [B.state]; rfl
    have ht := vx_table (x := y) B (atoms_spec (ws := [.codeWith y cc maxL ret hh]) B.pre _ List.mem_cons_self)
    have hl := lv_entry av (n := maxL) hlen
    have K := fun ls => body p e s m below meth c ls ⟨B.exec, B.bytes, hml, findClass_of_methodNamed B.named, hG⟩ B.returns B.notSynchronized ht
    have hW : W p l e (rz n mc ms) s m av.toArray below meth c s.heap [] 0 0 (MQ below (zQc D b0 P) av.toArray s mc ms (zA b0)) (entryFrame m av.toArray maxL) := by
      rw [lg_entry_eq]
      generalize (lg_sl av ++ List.replicate (maxL - (lg_sl av).length) Slot.unset).toArray = ls at hl ⊢
      exact K ls hl s.heap [] hM hz va_S.rf
    obtain ⟨t, a1, o, b1, b2, b3⟩ := hW s₁ hh0 (Stand.of_body B)
    exact ⟨t, o, a1, b1, b2, b3.1, b3.2⟩
theorem cm_zup {aC : Nat → ClassId} {x : Nat} {iv av : Nat → Nat → Int32} {R : ZM} {w : Nat} {e : va_E} (h : w < x ∨ x + 133 ≤ w) : zup (cm aC x iv av R) w e = cm aC x iv av (zup R w e) := by
  funext q
  by_cases hq : q = w
  · subst hq; rw [zup_self, cm_out h, zup_self]
  · rw [zup_ne _ _ hq]
    by_cases hb : x ≤ q ∧ q < x + 133
    · simp only [cm]; rw [if_pos hb, if_pos hb]
    · rw [cm_out (by omega), cm_out (by omega), zup_ne _ _ hq]
