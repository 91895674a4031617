section ZR7
variable {p : Program} {l : Launch} {e : Env} {R : Room} {s : State} {m : MethodId} {args : Array Value} {below : List Frame} {meth : Method} {c : Code} {D : va_G} {aC : Nat → ClassId} {b0 : Nat} {M : ZM} {sz cells slots : Nat} {Q : State → Prop} {own : String} {cc : ByteArray} {nL pc : Nat} {ls : Array Slot} {rest : List Value} {a : Nat}
theorem zsz {g : JFrame} {sz' : Nat} (h : sz = sz') (k : Z p l e R s m args below meth c D b0 M sz' cells slots Q g) : Z p l e R s m args below meth c D b0 M sz cells slots Q g := h ▸ k
theorem zcs {g : JFrame} {k n : Nat} (h1 : cells = k) (h2 : slots = n) (kk : Z p l e R s m args below meth c D b0 M sz k n Q g) : Z p l e R s m args below meth c D b0 M sz cells slots Q g := by subst h1; subst h2; exact kk
theorem zdI (C : zC p l s m c D aC b0 own cc nL) (hml : ls.size = nL) {idx : Nat} {y : MethodName} {cy : ByteArray} {maxL n nv mc ms : Nat} {As : List Value} {M0 : ZM} {s0 : Nat} {st : List Value} (F : zLkI own idx y cy maxL n)
    (hM : Ct l D aC b0 y cy maxL none nv mc ms (.ref a :: As) M sz (zdz none M0 s0)) (hn : As.length = n) (hst : st = As.reverse ++ .ref a :: rest) (hW : (rest.map fun v => v.category).sum ≤ 8)
    (hR : 20 * nv + 21 ≤ R.frames ∧ maxL + (200 * nv + 219) ≤ R.locals ∧ cells + mc ≤ R.cells ∧ slots + ms ≤ R.slots) (hdg : decode cc pc = .ok (.invokespecial idx, 3))
    (kk : Z p l e R s m args below meth c D b0 M0 s0 (cells + mc) (slots + ms) Q (F0 m (pc + 3) ls rest)) : Z p l e R s m args below meth c D b0 M sz cells slots Q (F0 m pc ls st) :=
  z_callI C hml F hM hn hst hW hR hdg (fun r M' sz' hp => by obtain ⟨rfl, rfl, rfl⟩ := hp; exact kk)
/-- new int[n], new boolean[n] with n written out -/
theorem z_newi (C : zC p l s m c D aC b0 own cc nL) {n : Int32} {N' : Nat} (hn : ¬ n < 0) (hN : n.toNatClampNeg = N') (hb : N' ≤ 100000) (hcells : cells + 1 ≤ R.cells) (hslots : slots + N' ≤ R.slots) (hdg : decode cc pc = .ok (.newarray .int, 2))
    (kk : Z p l e R s m args below meth c D b0 (zup M sz (.inl (aC 0, N', .inl (fun _ => 0)))) (sz + 1) (cells + 1) (slots + N') Q (F0 m (pc + 2) ls (.ref sz :: rest))) : Z p l e R s m args below meth c D b0 M sz cells slots Q (F0 m pc ls (.int n :: rest)) :=
  z_newa (atype := .int) (a0 := (N', .inl (fun _ => 0))) C 0 rfl aw_int (fun _ _ => rfl) (fun _ => rfl) hn hN (by show N' * 4 ≤ _; omega) hcells hslots hdg kk
theorem z_newz (C : zC p l s m c D aC b0 own cc nL) {n : Int32} {N' : Nat} (hn : ¬ n < 0) (hN : n.toNatClampNeg = N') (hb : N' ≤ 100000) (hcells : cells + 1 ≤ R.cells) (hslots : slots + N' ≤ R.slots) (hdg : decode cc pc = .ok (.newarray .boolean, 2))
    (kk : Z p l e R s m args below meth c D b0 (zup M sz (.inl (aC 1, N', .inl (fun _ => 0)))) (sz + 1) (cells + 1) (slots + N') Q (F0 m (pc + 2) ls (.ref sz :: rest))) : Z p l e R s m args below meth c D b0 M sz cells slots Q (F0 m pc ls (.int n :: rest)) :=
  z_newa (atype := .boolean) (a0 := (N', .inl (fun _ => 0))) C 1 rfl aw_boolean (fun _ _ => rfl) (fun _ => rfl) hn hN (by show N' * 1 ≤ _; omega) hcells hslots hdg kk
end ZR7
