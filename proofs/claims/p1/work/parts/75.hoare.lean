/-! Contracts that end in some memory of a given form, and loops over such. -/
def zpI {α β : Type} (G : α → β → ZM) (P : Int32 → α → β → Prop) : Option Value → ZM → Nat → Prop := fun r M' _ => ∃ w a b, r = some (.int w) ∧ M' = G a b ∧ P w a b
def zpN {α β : Type} (G : α → β → ZM) (P : α → β → Prop) : Option Value → ZM → Nat → Prop := fun r M' _ => ∃ a b, r = none ∧ M' = G a b ∧ P a b
theorem zpI_mk {α β : Type} {G : α → β → ZM} {P : Int32 → α → β → Prop} {w : Int32} {a : α} {b : β} {sz : Nat} (h : P w a b) : zpI G P (some (.int w)) (G a b) sz := ⟨w, a, b, rfl, rfl, h⟩
theorem zpN_mk {α β : Type} {G : α → β → ZM} {P : α → β → Prop} {a : α} {b : β} {sz : Nat} (h : P a b) : zpN G P none (G a b) sz := ⟨a, b, rfl, rfl, h⟩
section ZR8
variable {p : Program} {l : Launch} {e : Env} {R : Room} {s : State} {m : MethodId} {args : Array Value} {below : List Frame} {meth : Method} {c : Code} {D : va_G} {aC : Nat → ClassId} {b0 : Nat} {M : ZM} {sz cells slots : Nat} {Q : State → Prop} {own : String} {cc : ByteArray} {nL pc : Nat} {ls : Array Slot} {rest : List Value} {a : Nat} {α β : Type} {G : α → β → ZM}
theorem zqVI (C : zC p l s m c D aC b0 own cc nL) (hml : ls.size = nL) {idx : Nat} {y : MethodName} {cy : ByteArray} {maxL n nv mc ms ci : Nat} {ret : Option FieldType} {As fs : List Value} {P : Int32 → α → β → Prop} {st : List Value} {T : u_T} {N : Nat} (F : zLkV own idx y cy maxL ret n)
    (hM : Ct l D aC b0 y cy maxL ret nv mc ms (.ref a :: As) M sz (zpI G P)) (ha : M a = some (.inr (ci, fs))) (hci : vwCl[ci]? = some (y.cls, T, N)) (hn : As.length = n) (hst : st = As.reverse ++ .ref a :: rest) (hW : (rest.map fun v => v.category).sum ≤ 8)
    (hR : 20 * nv + 21 ≤ R.frames ∧ maxL + (200 * nv + 219) ≤ R.locals ∧ cells + mc ≤ R.cells ∧ slots + ms ≤ R.slots) (hdg : decode cc pc = .ok (.invokevirtual idx, 3))
    (kk : ∀ (w : Int32) (a1 : α) (b1 : β) (sz' : Nat), P w a1 b1 → Z p l e R s m args below meth c D b0 (G a1 b1) sz' (cells + mc) (slots + ms) Q (F0 m (pc + 3) ls (.int w :: rest))) : Z p l e R s m args below meth c D b0 M sz cells slots Q (F0 m pc ls st) :=
  z_callV C hml F hM ha hci hn hst hW hR hdg (fun r M' sz' hp => by obtain ⟨w, a1, b1, rfl, rfl, hp⟩ := hp; exact kk w a1 b1 sz' hp)
theorem zqVN (C : zC p l s m c D aC b0 own cc nL) (hml : ls.size = nL) {idx : Nat} {y : MethodName} {cy : ByteArray} {maxL n nv mc ms ci : Nat} {ret : Option FieldType} {As fs : List Value} {P : α → β → Prop} {st : List Value} {T : u_T} {N : Nat} (F : zLkV own idx y cy maxL ret n)
    (hM : Ct l D aC b0 y cy maxL ret nv mc ms (.ref a :: As) M sz (zpN G P)) (ha : M a = some (.inr (ci, fs))) (hci : vwCl[ci]? = some (y.cls, T, N)) (hn : As.length = n) (hst : st = As.reverse ++ .ref a :: rest) (hW : (rest.map fun v => v.category).sum ≤ 8)
    (hR : 20 * nv + 21 ≤ R.frames ∧ maxL + (200 * nv + 219) ≤ R.locals ∧ cells + mc ≤ R.cells ∧ slots + ms ≤ R.slots) (hdg : decode cc pc = .ok (.invokevirtual idx, 3))
    (kk : ∀ (a1 : α) (b1 : β) (sz' : Nat), P a1 b1 → Z p l e R s m args below meth c D b0 (G a1 b1) sz' (cells + mc) (slots + ms) Q (F0 m (pc + 3) ls rest)) : Z p l e R s m args below meth c D b0 M sz cells slots Q (F0 m pc ls st) :=
  z_callV C hml F hM ha hci hn hst hW hR hdg (fun r M' sz' hp => by obtain ⟨a1, b1, rfl, rfl, hp⟩ := hp; exact kk a1 b1 sz' hp)
theorem zqSI (C : zC p l s m c D aC b0 own cc nL) (hml : ls.size = nL) {idx : Nat} {y : MethodName} {cy : ByteArray} {maxL n nv mc ms : Nat} {ret : Option FieldType} {As : List Value} {P : Int32 → α → β → Prop} {st : List Value} (F : zLkS own idx y cy maxL ret n)
    (hM : Ct l D aC b0 y cy maxL ret nv mc ms As M sz (zpI G P)) (hn : As.length = n) (hst : st = As.reverse ++ rest) (hW : (rest.map fun v => v.category).sum ≤ 8)
    (hR : 20 * nv + 21 ≤ R.frames ∧ maxL + (200 * nv + 219) ≤ R.locals ∧ cells + mc ≤ R.cells ∧ slots + ms ≤ R.slots) (hdg : decode cc pc = .ok (.invokestatic idx, 3))
    (kk : ∀ (w : Int32) (a1 : α) (b1 : β) (sz' : Nat), P w a1 b1 → Z p l e R s m args below meth c D b0 (G a1 b1) sz' (cells + mc) (slots + ms) Q (F0 m (pc + 3) ls (.int w :: rest))) : Z p l e R s m args below meth c D b0 M sz cells slots Q (F0 m pc ls st) :=
  z_callS C hml F hM hn hst hW hR hdg (fun r M' sz' hp => by obtain ⟨w, a1, b1, rfl, rfl, hp⟩ := hp; exact kk w a1 b1 sz' hp)
theorem zqSN (C : zC p l s m c D aC b0 own cc nL) (hml : ls.size = nL) {idx : Nat} {y : MethodName} {cy : ByteArray} {maxL n nv mc ms : Nat} {ret : Option FieldType} {As : List Value} {P : α → β → Prop} {st : List Value} (F : zLkS own idx y cy maxL ret n)
    (hM : Ct l D aC b0 y cy maxL ret nv mc ms As M sz (zpN G P)) (hn : As.length = n) (hst : st = As.reverse ++ rest) (hW : (rest.map fun v => v.category).sum ≤ 8)
    (hR : 20 * nv + 21 ≤ R.frames ∧ maxL + (200 * nv + 219) ≤ R.locals ∧ cells + mc ≤ R.cells ∧ slots + ms ≤ R.slots) (hdg : decode cc pc = .ok (.invokestatic idx, 3))
    (kk : ∀ (a1 : α) (b1 : β) (sz' : Nat), P a1 b1 → Z p l e R s m args below meth c D b0 (G a1 b1) sz' (cells + mc) (slots + ms) Q (F0 m (pc + 3) ls rest)) : Z p l e R s m args below meth c D b0 M sz cells slots Q (F0 m pc ls st) :=
  z_callS C hml F hM hn hst hW hR hdg (fun r M' sz' hp => by obtain ⟨a1, b1, rfl, rfl, hp⟩ := hp; exact kk a1 b1 sz' hp)
theorem z_loop {γ : Type} {h : Nat} {G : γ → ZM} {I : Nat → γ → Prop} {lv : Nat → γ → List (Nat × Value)} (N : Nat)
    (hs : ∀ (j : Nat) (a : γ) (sz : Nat) (ls : Array Slot), j < N → I j a → lv_has ls nL (lv j a) → (∀ (a' : γ) (sz' : Nat) (ls' : Array Slot), I (j + 1) a' → lv_has ls' nL (lv (j + 1) a') → Z p l e R s m args below meth c D b0 (G a') sz' cells slots Q (F0 m h ls' [])) → Z p l e R s m args below meth c D b0 (G a) sz cells slots Q (F0 m h ls []))
    (he : ∀ (a : γ) (sz : Nat) (ls : Array Slot), I N a → lv_has ls nL (lv N a) → Z p l e R s m args below meth c D b0 (G a) sz cells slots Q (F0 m h ls [])) :
    ∀ (a : γ) (sz : Nat) (ls : Array Slot), I 0 a → lv_has ls nL (lv 0 a) → Z p l e R s m args below meth c D b0 (G a) sz cells slots Q (F0 m h ls []) := by
  have key : ∀ (d j : Nat), j + d = N → ∀ (a : γ) (sz : Nat) (ls : Array Slot), I j a → lv_has ls nL (lv j a) → Z p l e R s m args below meth c D b0 (G a) sz cells slots Q (F0 m h ls []) := by
    intro d
    induction d with
    | zero => intro j hj a sz ls hI hl; rw [Nat.add_zero] at hj; subst hj; exact he a sz ls hI hl
    | succ d ih => intro j hj a sz ls hI hl; exact hs j a sz ls (by omega) hI hl (fun a' sz' ls' h1 h2 => ih (j + 1) (by omega) a' sz' ls' h1 h2)
  exact key N 0 (Nat.zero_add _)
end ZR8
theorem Ct.imp {l : Launch} {D : va_G} {aC : Nat → ClassId} {b0 : Nat} {y : MethodName} {cc : ByteArray} {maxL : Nat} {ret : Option FieldType} {n mc ms : Nat} {av : List Value} {M : ZM} {sz : Nat} {P P' : Option Value → ZM → Nat → Prop} (h : Ct l D aC b0 y cc maxL ret n mc ms av M sz P) (hp : ∀ r M' sz', P r M' sz' → P' r M' sz') : Ct l D aC b0 y cc maxL ret n mc ms av M sz P' := by
  intro p e h1 h2 h3 s m args below a1 a2 a3 a4
  obtain ⟨n, o, b1, b2, b3, ⟨⟨r, M', sz', c1, c2, c3⟩, c4⟩, c5⟩ := h p e h1 h2 h3 s m args below a1 a2 a3 a4
  exact ⟨n, o, b1, b2, b3, ⟨⟨r, M', sz', c1, hp _ _ _ c2, c3⟩, c4⟩, c5⟩
theorem Ct.toI {l : Launch} {D : va_G} {aC : Nat → ClassId} {b0 : Nat} {y : MethodName} {cc : ByteArray} {maxL : Nat} {ret : Option FieldType} {n mc ms : Nat} {av : List Value} {M : ZM} {sz : Nat} {α β : Type} {G : α → β → ZM} {P : Int32 → α → β → Prop} {w : Int32} {a : α} {b : β} (h : Ct l D aC b0 y cc maxL ret n mc ms av M sz (zd (some (.int w)) (G a b))) (hp : P w a b) : Ct l D aC b0 y cc maxL ret n mc ms av M sz (zpI G P) :=
  h.imp (fun r M' sz' q => by obtain ⟨rfl, rfl⟩ := q; exact zpI_mk hp)
theorem Ct.toN {l : Launch} {D : va_G} {aC : Nat → ClassId} {b0 : Nat} {y : MethodName} {cc : ByteArray} {maxL : Nat} {ret : Option FieldType} {n mc ms : Nat} {av : List Value} {M : ZM} {sz : Nat} {α β : Type} {G : α → β → ZM} {P : α → β → Prop} {a : α} {b : β} (h : Ct l D aC b0 y cc maxL ret n mc ms av M sz (zd none (G a b))) (hp : P a b) : Ct l D aC b0 y cc maxL ret n mc ms av M sz (zpN G P) :=
  h.imp (fun r M' sz' q => by obtain ⟨rfl, rfl⟩ := q; exact zpN_mk hp)
