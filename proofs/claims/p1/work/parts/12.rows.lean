section ZR3
variable {p : Program} {l : Launch} {e : Env} {R : Room} {s : State} {m : MethodId} {args : Array Value} {below : List Frame} {meth : Method} {c : Code} {D : va_G} {aC : Nat → ClassId} {b0 : Nat} {M : ZM} {sz cells slots : Nat} {Q : State → Prop} {own : String} {cc : ByteArray} {nL pc : Nat} {ls : Array Slot} {rest : List Value} {a : Nat}
theorem zS_push {A : Nat → Prop} {H0 H H1 : Heap} {locs : List Loc} (h : va_S A H0 H locs) (hz : H1.size = H.size + 1) (o1 : ∀ q : Nat, q < H.size → H1[q]? = H[q]?) : va_S A H0 H1 locs :=
  ⟨Nat.le_trans h.1 (by omega), fun x h1 h2 => (o1 x (Nat.lt_of_lt_of_le h1 h.1)).trans (h.2.1 x h1 h2), h.2.2⟩
theorem zC.low (C : zC p l s m c D aC b0 own cc nL) {H : Heap} {locs : List Loc} (h : va_S (zA b0) s.heap H locs) : b0 ≤ H.size := Nat.le_trans C.2.2.2.2.2.2.2.2.2 h.1
/-- a class that can be made -/
def zNw (own : String) (idx ci N : Nat) (fs : List Value) : Prop := ∃ (C : String) (T : u_T) (ty : Nat → FieldType), vwCl[ci]? = some (C, T, N) ∧ (∀ w ∈ u_ws C T N, w ∈ zW) ∧ (∀ k, k < N → parseFieldDescriptor (T k).2.2.1 = some (ty k)) ∧ Cond.classLink own idx C ∈ zW ∧ Cond.instantiable C N ∈ zW ∧ Cond.initialized C ∈ zW ∧ ∀ j, j < N → defaultValue (ty j) = vp_V fs j
theorem z_new (C : zC p l s m c D aC b0 own cc nL) {idx ci N : Nat} {fs : List Value} (F : zNw own idx ci N fs) (hcells : cells + 1 ≤ R.cells) (hslots : slots + N ≤ R.slots) (hdg : decode cc pc = .ok (.new idx, 3))
    (kk : Z p l e R s m args below meth c D b0 (zup M sz (.inr (ci, fs))) (sz + 1) (cells + 1) (slots + N) Q (F0 m (pc + 3) ls (.ref sz :: rest))) : Z p l e R s m args below meth c D b0 M sz cells slots Q (F0 m pc ls rest) := by
  intro H locs h1 h2 h3
  have hlow := C.low h3
  obtain ⟨hx, hb, -, hown, -, hK, hg, -⟩ := C
  obtain ⟨Cn, T, ty, hc, hin, hty, hcl, hins, hini, hfs⟩ := F
  have hts : ∀ w ∈ zW, w.before args s = true := fun w hw => zg_w hg hw
  have hKn := hK.1 ci _ hc
  refine W.newcK hx hb hown (hts _ hcl) (hts _ hins) (hts _ hini) rfl hdg hcells hslots hKn.2.1 h2 fun H1 kC hkC e1 z1 o1 => ?_
  subst h2
  exact kk H1 locs (h1.push rfl hlow ⟨_, hc, (u_born ty hts hin hKn hkC e1 hty).to hfs⟩ o1) z1 (zS_push h3 z1 o1)
theorem z_newa (C : zC p l s m c D aC b0 own cc nL) (t0 : Nat) {atype : ArrayType} {n : Int32} {N' : Nat} {a0 : vp_A} (ht : (zT aC)[t0]? = some (aC t0, newarray.typeOf atype)) (hw : Cond.arrayClass (newarray.typeOf atype) ∈ zW) (hpr : ∀ (U : State) (cA : ClassId), va_RA U cA (newarray.typeOf atype) = (U.vm.findClass ("[" ++ (newarray.typeOf atype).toString) = some cA)) (ha : ∀ cA : ClassId, vp_cell cA a0 = arrV cA N' (fun _ => defaultValue (newarray.typeOf atype))) (hn : ¬ n < 0) (hN : n.toNatClampNeg = N') (hbytes : N' * componentBytes (newarray.typeOf atype) ≤ 536870912) (hcells : cells + 1 ≤ R.cells) (hslots : slots + N' ≤ R.slots) (hdg : decode cc pc = .ok (.newarray atype, 2))
    (kk : Z p l e R s m args below meth c D b0 (zup M sz (.inl (aC t0, a0))) (sz + 1) (cells + 1) (slots + N') Q (F0 m (pc + 2) ls (.ref sz :: rest))) : Z p l e R s m args below meth c D b0 M sz cells slots Q (F0 m pc ls (.int n :: rest)) := by
  intro H locs h1 h2 h3
  have hlow := C.low h3
  obtain ⟨hx, hb, -, hown, -, hK, hg, -⟩ := C
  refine va_newaK hx hb (zg_w hg hw) rfl hdg rfl hn hN hbytes hcells hslots h2 fun H1 cA e1 z1 o1 hA hf => ?_
  subst h2
  have hcA : cA = aC t0 := by
    have h9 := (hK.2 t0 _ ht).2
    rw [hpr] at h9
    exact Option.some.inj (hf.symm.trans h9)
  subst hcA
  exact kk H1 locs (h1.push rfl hlow (by show H1[Array.size H]? = some (vp_cell _ _); rw [ha]; exact e1) o1) z1 (zS_push h3 z1 o1)
theorem z_newq (C : zC p l s m c D aC b0 own cc nL) (t0 : Nat) {Cn : String} {idx : Nat} {n : Int32} {N' : Nat} (ht : (zT aC)[t0]? = some (aC t0, .object Cn)) (hC : Cn ∈ [RX1, RX2, RX5]) (hcl : Cond.classLink own idx Cn ∈ zW) (hn : ¬ n < 0) (hN : n.toNatClampNeg = N') (hbytes : N' * 4 ≤ 536870912) (hcells : cells + 1 ≤ R.cells) (hslots : slots + N' ≤ R.slots) (hdg : decode cc pc = .ok (.anewarray idx, 3))
    (kk : Z p l e R s m args below meth c D b0 (zup M sz (.inl (aC t0, N', .inr (.inr (.inr (.inr (fun _ => none))))))) (sz + 1) (cells + 1) (slots + N') Q (F0 m (pc + 3) ls (.ref sz :: rest))) : Z p l e R s m args below meth c D b0 M sz cells slots Q (F0 m pc ls (.int n :: rest)) := by
  intro H locs h1 h2 h3
  have hlow := C.low h3
  obtain ⟨hx, hb, -, hown, -, hK, hg, -⟩ := C
  subst hN
  refine W.anew hx hb hown (zg_w hg hcl) (va_AO.use (hg.2.2.1 Cn hC)) rfl hdg rfl hn hbytes hcells hslots fun cA kA comp f1 f2 f3 f4 => ?_
  subst h2
  have hcA : cA = aC t0 := by
    obtain ⟨_, _, -, -, -, h9⟩ := (hK.2 t0 _ ht).2
    exact Option.some.inj (f1.symm.trans h9)
  subst hcA
  generalize hH1 : H.push ({ cls := aC t0, slots := Array.replicate n.toNatClampNeg .null, vm := .none } : Cell) = H1
  have z1 : H1.size = H.size + 1 := by rw [← hH1, Array.size_push]
  have e1 : H1[H.size]? = some (arrV (aC t0) n.toNatClampNeg (fun _ => .null)) := by rw [← hH1, Array.getElem?_push_size, ← arrV_new]
  have o1 : ∀ q : Nat, q < H.size → H1[q]? = H[q]? := fun q hq => by rw [← hH1, Array.getElem?_push, if_neg (Nat.ne_of_lt hq)]
  exact kk H1 locs (h1.push rfl hlow (by show H1[Array.size H]? = some (vp_cell _ _); rw [vp_cell_q]; exact e1) o1) z1 (zS_push h3 z1 o1)
/-- the pool of a map -/
theorem zM.pool {H : Heap} (h : zM D b0 M H) : ∃ (L : List Nat) (f : Nat → va_E), (∀ q e, M q = some e → q ∈ L ∧ f q = e) ∧ (∀ q ∈ L, b0 ≤ q) ∧ va_P D vwCl ([] ++ va_pl L f) H ∧ va_D (zA b0) ([] ++ va_pl L f) := by
  refine ⟨(List.range H.size).filter (fun q => (M q).isSome), fun q => (M q).getD (.inr (0, [])), fun q e hq => ⟨List.mem_filter.mpr ⟨List.mem_range.mpr (h.lt hq), by rw [hq]; rfl⟩, by simp [hq]⟩, fun q hq => ?_, fun k q hk => ?_, ?_, fun k q hk => ?_⟩
  · obtain ⟨e, he⟩ := Option.isSome_iff_exists.mp (List.mem_filter.mp hq).2
    exact (h q e he).1
  · have hm := List.mem_of_getElem? hk
    rw [List.nil_append, va_pl, List.mem_map] at hm
    obtain ⟨x, hx, rfl⟩ := hm
    obtain ⟨e, he⟩ := Option.isSome_iff_exists.mp (List.mem_filter.mp hx).2
    rw [he]
    exact (h x e he).2
  · intro i j p q hi hj hpq
    rw [List.nil_append, va_pl, List.getElem?_map, Option.map_eq_some_iff] at hi hj
    obtain ⟨x, hx, rfl⟩ := hi
    obtain ⟨y, hy, rfl⟩ := hj
    dsimp only at hpq
    subst hpq
    have hnd : List.Pairwise (fun a b : Nat => a ≠ b) ((List.range H.size).filter (fun q => (M q).isSome)) := List.Pairwise.filter _ List.nodup_range
    obtain ⟨hi1, hi2⟩ := List.getElem?_eq_some_iff.mp hx
    obtain ⟨hj1, hj2⟩ := List.getElem?_eq_some_iff.mp hy
    rcases Nat.lt_trichotomy i j with h9 | h9 | h9
    · exact absurd (hi2.trans hj2.symm) (List.pairwise_iff_getElem.mp hnd i j hi1 hj1 h9)
    · exact h9
    · exact absurd (hj2.trans hi2.symm) (List.pairwise_iff_getElem.mp hnd j i hj1 hi1 h9)
  · have hm := List.mem_of_getElem? hk
    rw [List.nil_append, va_pl, List.mem_map] at hm
    obtain ⟨x, hx, rfl⟩ := hm
    obtain ⟨e, he⟩ := Option.isSome_iff_exists.mp (List.mem_filter.mp hx).2
    exact (h x e he).1
/-- System.arraycopy of ints -/
theorem z_copy (C : zC p l s m c D aC b0 own cc nL) (hml : ls.size = nL) {idx a1 n0 n1 : Nat} {f g : Nat → Int32} {sp dp n : Int32} (hlk : Cond.methodLink own idx arraycopyName ∈ zW) (h0 : M a1 = some (.inl (aC 0, n0, .inl f))) (h1 : M a = some (.inl (aC 0, n1, .inl g))) (k1 : ¬ sp < 0) (k2 : ¬ dp < 0) (k3 : ¬ n < 0) (k4 : sp.toNatClampNeg + n.toNatClampNeg ≤ n0) (k5 : dp.toNatClampNeg + n.toNatClampNeg ≤ n1)
    (hfr : 1 ≤ R.frames) (hlo : (rest.map fun v => v.category).sum + 200 ≤ R.locals) (hdg : decode cc pc = .ok (.invokestatic idx, 3))
    (kk : ∀ sz' : Nat, Z p l e R s m args below meth c D b0 (zup M a (.inl (aC 0, n1, .inl (va_cpy f g sp.toNatClampNeg dp.toNatClampNeg n.toNatClampNeg)))) sz' cells slots Q (F0 m (pc + 3) ls rest)) : Z p l e R s m args below meth c D b0 M sz cells slots Q (F0 m pc ls (.int n :: .int dp :: .ref a :: .int sp :: .ref a1 :: rest)) := by
  obtain ⟨hx, hb, hml2, hown, -, hK, hg, -⟩ := C
  intro H locs q1 q2 q3
  obtain ⟨L, F, hL, hbL, hP, hD⟩ := q1.pool
  obtain ⟨i0, e0⟩ := hL _ _ h0
  obtain ⟨i1, e1⟩ := hL _ _ h1
  obtain ⟨j0, hj0⟩ := va_pl_get (X := []) (f := F) i0
  obtain ⟨j1, hj1⟩ := va_pl_get (X := []) (f := F) i1
  refine va_copyi (D := D) hx hb (hml2.trans hml.symm) hown (zg_w hg hlk) (zg_w hg (w := .native arraycopyName) (by decide +kernel)) (zg_w hg (w := .static arraycopyName) (by decide +kernel)) (zg_w hg (w := .initialized "java/lang/System") (by decide +kernel)) hK hP hD q3 j0 j1 0 0 (hj0.trans (by rw [e0])) (hj1.trans (by rw [e1])) rfl rfl rfl k1 k2 k3 k4 k5 (fun _ _ => rfl) hfr (Nat.le_trans (Nat.add_le_add_left (by decide +kernel) _) hlo) hdg (fun H1 locs1 hP1 hD1 hS1 => ?_)
  rw [va_pl_set hD i1 hj1] at hP1
  refine kk H1.size H1 locs1 (fun q e hq => ?_) rfl hS1
  by_cases hqa : q = a
  · subst hqa
    rw [zup_self] at hq
    cases hq
    obtain ⟨j2, hj2⟩ := va_pl_get (X := []) (f := va_up F q (.inl (aC 0, n1, .inl (va_cpy f g sp.toNatClampNeg dp.toNatClampNeg n.toNatClampNeg)))) i1
    have h9 := hP1 _ _ hj2
    rw [va_up_self] at h9
    exact ⟨hbL _ i1, h9⟩
  · rw [zup_ne _ _ hqa] at hq
    obtain ⟨i2, e2⟩ := hL _ _ hq
    obtain ⟨j2, hj2⟩ := va_pl_get (X := []) (f := va_up F a (.inl (aC 0, n1, .inl (va_cpy f g sp.toNatClampNeg dp.toNatClampNeg n.toNatClampNeg)))) i2
    have h9 := hP1 _ _ hj2
    rw [va_up_ne _ _ hqa, e2] at h9
    exact ⟨hbL _ i2, h9⟩
end ZR3
