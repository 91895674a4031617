/-! rows for the law's own body: the script, the long cell, calls of its methods -/
section ZRL
variable {p : Program} {l : Launch} {e : Env} {R : Room} {s : State} {m : MethodId} {args : Array Value} {below : List Frame} {meth : Method} {c : Code} {D : va_G} {aC : Nat → ClassId} {b0 : Nat} {M : ZM} {sz cells slots : Nat} {Q : State → Prop} {own : String} {cc : ByteArray} {nL pc : Nat} {ls : Array Slot} {rest : List Value} {a : Nat} {H : Heap} {locs : List Loc}
theorem lv_lcmp_eq (hexec : p.tables.exec = Jvm.exec) (hb : c.code = cc) {x y : Int64} (hxy : x = y) (hdg : decode cc pc = .ok (.lcmp, 1))
    (k : W p l e R s m args below meth c H locs cells slots Q (F0 m (pc + 1) ls (.int 0 :: rest))) : W p l e R s m args below meth c H locs cells slots Q (F0 m pc ls (.long y :: .long x :: rest)) := by
  subst hxy
  intro T hT X
  obtain ⟨t, a, b⟩ := k T hT X
  refine ⟨t, ?_, b⟩
  jvm_step X.here [X.here.top, hexec, hb, hdg]
  exact a
theorem z_lald (C : zC p l s m c D aC b0 own cc nL) {n : Nat} {f : Nat → Int64} {i : Int32} (ha : M a = some (.inl (aC 6, n, .inr (.inl f)))) (hin : vp_in i n) (hdg : decode cc pc = .ok (.laload, 1))
    (kk : Z p l e R s m args below meth c D b0 M sz cells slots Q (F0 m (pc + 1) ls (.long (f i.toNatClampNeg) :: rest))) : Z p l e R s m args below meth c D b0 M sz cells slots Q (F0 m pc ls (.int i :: .ref a :: rest)) := by
  obtain ⟨hx, hb, -, hown, -, hK, hg, -⟩ := C
  exact fun H locs h1 h2 h3 => va_lald (D := D) hx hb hK (h1.one ha) 0 6 rfl rfl hin hdg (kk H locs h1 h2 h3)
/-- a number of the script -/
theorem z_sld (C : zC p l s m c D aC b0 own cc nL) {b L i : Nat} {xs : Nat → Int32} (hX : va_X b L xs s s.heap) (hbl : b < s.heap.size) (hbA : b < b0) (hi : i < L) (hL : L < 2 ^ 31) (hdg : decode cc pc = .ok (.iaload, 1))
    (kk : Z p l e R s m args below meth c D b0 M sz cells slots Q (F0 m (pc + 1) ls (.int (xs i) :: rest))) : Z p l e R s m args below meth c D b0 M sz cells slots Q (F0 m pc ls (.int (nI i) :: .ref b :: rest)) := by
  obtain ⟨hx, hb, -⟩ := C
  intro H locs h1 h2 h3
  refine va_sld hx hb hX hbl (show ¬ zA b0 b by unfold zA; omega) h3 (vp_in_nI hi hL) hdg ?_
  rw [nI_clamp (by omega)]
  exact kk H locs h1 h2 h3
theorem z_slen (C : zC p l s m c D aC b0 own cc nL) {b L : Nat} {xs : Nat → Int32} (hX : va_X b L xs s s.heap) (hbl : b < s.heap.size) (hbA : b < b0) (hdg : decode cc pc = .ok (.arraylength, 1))
    (kk : Z p l e R s m args below meth c D b0 M sz cells slots Q (F0 m (pc + 1) ls (.int (nI L) :: rest))) : Z p l e R s m args below meth c D b0 M sz cells slots Q (F0 m pc ls (.ref b :: rest)) := by
  obtain ⟨hx, hb, -⟩ := C
  intro H locs h1 h2 h3
  exact va_slen hx hb hX hbl (show ¬ zA b0 b by unfold zA; omega) h3 hdg (kk H locs h1 h2 h3)
def zLkW (own : String) (idx : Nat) (y : MethodName) (cy : ByteArray) (maxL : Nat) (ret : Option FieldType) (hh : List (Nat × Nat × Nat × Nat)) (n : Nat) : Prop :=
  (y.cls ≠ "java/lang/invoke/MethodHandle" ∧ y.cls ≠ "java/lang/invoke/VarHandle" ∧ (parseMethodDescriptor y.desc).map (fun d => d.parameters.length) = some n) ∧ Cond.codeWith y cy maxL ret hh ∈ zW ∧ Cond.initialized y.cls ∈ zW ∧ Cond.methodLink own idx y ∈ zW ∧ Cond.static y ∈ zW
theorem zdSW (C : zC p l s m c D aC b0 own cc nL) (hml : ls.size = nL) {idx : Nat} {y : MethodName} {cy : ByteArray} {maxL n nv mc ms : Nat} {ret : Option FieldType} {hh : List (Nat × Nat × Nat × Nat)} {As : List Value} {r0 : Option Value} {M0 : ZM} {st st' : List Value} (F : zLkW own idx y cy maxL ret hh n)
    (hM : CtW l D aC b0 y cy maxL ret hh nv mc ms As M sz (zd r0 M0)) (hn : As.length = n) (hst : st = As.reverse ++ rest) (hW : (rest.map fun v => v.category).sum ≤ 8)
    (hR : 20 * nv + 21 ≤ R.frames ∧ maxL + (200 * nv + 219) ≤ R.locals ∧ cells + mc ≤ R.cells ∧ slots + ms ≤ R.slots) (hdg : decode cc pc = .ok (.invokestatic idx, 3)) (hs : r0.toList ++ rest = st')
    (kk : ∀ sz' : Nat, Z p l e R s m args below meth c D b0 M0 sz' (cells + mc) (slots + ms) Q (F0 m (pc + 3) ls st')) : Z p l e R s m args below meth c D b0 M sz cells slots Q (F0 m pc ls st) := by
  intro H locs h1 h2 h3
  have hpre := z_pre C h1 h2 h3 As
  obtain ⟨hx, hb, hml2, hown, -, hK, hg, -⟩ := C
  obtain ⟨hd, hcode, hini, hlk, hstt⟩ := F
  subst hst
  have hts : ∀ w ∈ zW, w.before args s = true := fun w hw => zg_w hg hw
  have hlen : ∀ sig, parseMethodDescriptor y.desc = some sig → n = sig.parameters.length := fun sig h => by
    have h9 := hd.2.2
    rw [h] at h9
    exact (Option.some.inj h9).symm
  refine z_back (P := zd r0 M0) (av := As.toArray) h3 rfl rfl ?_ (fun r M' sz' hp => by obtain ⟨rfl, rfl⟩ := hp; rw [hs]; exact kk sz')
  exact vx_runSW (Ts := zW) ⟨hx, hb, hml2, hown, hts⟩ hM ⟨⟨rfl, rfl, by show 20 * nv + 20 + 1 ≤ _; omega, by show 8 + (maxL + 11) + (200 * nv + 200) ≤ _; omega, (fun w h a' U hW => by rw [List.mem_singleton.mp h]; exact word_at hW (good_of_word (zW_good hcode)) (hg.1 _ hcode)), List.mem_singleton.mpr rfl⟩, hts _ hcode, hts _ hini, ⟨hd.1, hd.2.1⟩, hlen, hts _ hlk, hts _ hstt⟩ hpre rfl hn hml rfl (by show 2 * 0 + _ ≤ 8; omega) hdg ⟨hR.2.2.1, hR.2.2.2⟩
end ZRL
