/-! contracts whose end is one value and one map -/
def zd (r0 : Option Value) (M0 : ZM) : Option Value → ZM → Nat → Prop := fun r M' _ => r = r0 ∧ M' = M0
def zdz (r0 : Option Value) (M0 : ZM) (s0 : Nat) : Option Value → ZM → Nat → Prop := fun r M' sz' => r = r0 ∧ M' = M0 ∧ sz' = s0
def bI (p : Prop) [Decidable p] : Int32 := if p then 1 else 0
theorem bI_t {p : Prop} [Decidable p] (h : p) : bI p = 1 := if_pos h
theorem bI_f {p : Prop} [Decidable p] (h : ¬ p) : bI p = 0 := if_neg h
theorem bI_0 {p : Prop} [Decidable p] : bI p = 0 ↔ ¬ p := by
  by_cases h : p <;> simp [bI, h]
theorem bI_n {p : Prop} [Decidable p] : ¬ bI p = 0 ↔ p := by
  by_cases h : p <;> simp [bI, h]
theorem bI_nar {p : Prop} [Decidable p] : narrow .boolean (.int (bI p)) = .int (bI p) := by
  by_cases h : p <;> simp [bI, h] <;> rfl
theorem bI_fit {p : Prop} [Decidable p] : fits .boolean (.int (bI p)) = true := by
  by_cases h : p <;> simp [bI, h] <;> rfl
section ZR6
variable {p : Program} {l : Launch} {e : Env} {R : Room} {s : State} {m : MethodId} {args : Array Value} {below : List Frame} {meth : Method} {c : Code} {D : va_G} {aC : Nat → ClassId} {b0 : Nat} {M : ZM} {sz cells slots : Nat} {Q : State → Prop} {own : String} {cc : ByteArray} {nL pc : Nat} {ls : Array Slot} {rest : List Value} {a : Nat}
theorem zbn {g g2 g3 : JFrame} {P : Prop} (h : ∀ (H : Heap) (locs : List Loc), (¬ P → W p l e R s m args below meth c H locs cells slots Q g2) → (P → W p l e R s m args below meth c H locs cells slots Q g3) → W p l e R s m args below meth c H locs cells slots Q g)
    (k1 : ¬ P → Z p l e R s m args below meth c D b0 M sz cells slots Q g2) (k2 : P → Z p l e R s m args below meth c D b0 M sz cells slots Q g3) : Z p l e R s m args below meth c D b0 M sz cells slots Q g :=
  fun H locs h1 h2 h3 => h H locs (fun q => k1 q H locs h1 h2 h3) (fun q => k2 q H locs h1 h2 h3)
theorem zst {st st' : List Value} (h : st = st') (k : Z p l e R s m args below meth c D b0 M sz cells slots Q (F0 m pc ls st')) : Z p l e R s m args below meth c D b0 M sz cells slots Q (F0 m pc ls st) := h ▸ k
theorem zdV (C : zC p l s m c D aC b0 own cc nL) (hml : ls.size = nL) {idx : Nat} {y : MethodName} {cy : ByteArray} {maxL n nv mc ms ci : Nat} {ret : Option FieldType} {As fs : List Value} {r0 : Option Value} {M0 : ZM} {st st' : List Value} {T : u_T} {N : Nat} (F : zLkV own idx y cy maxL ret n)
    (hM : Ct l D aC b0 y cy maxL ret nv mc ms (.ref a :: As) M sz (zd r0 M0)) (ha : M a = some (.inr (ci, fs))) (hci : vwCl[ci]? = some (y.cls, T, N)) (hn : As.length = n) (hst : st = As.reverse ++ .ref a :: rest) (hW : (rest.map fun v => v.category).sum ≤ 8)
    (hR : 20 * nv + 21 ≤ R.frames ∧ maxL + (200 * nv + 219) ≤ R.locals ∧ cells + mc ≤ R.cells ∧ slots + ms ≤ R.slots) (hdg : decode cc pc = .ok (.invokevirtual idx, 3)) (hs : r0.toList ++ rest = st')
    (kk : ∀ sz' : Nat, Z p l e R s m args below meth c D b0 M0 sz' (cells + mc) (slots + ms) Q (F0 m (pc + 3) ls st')) : Z p l e R s m args below meth c D b0 M sz cells slots Q (F0 m pc ls st) :=
  z_callV C hml F hM ha hci hn hst hW hR hdg (fun r M' sz' hp => by obtain ⟨rfl, rfl⟩ := hp; rw [hs]; exact kk sz')
theorem zdS (C : zC p l s m c D aC b0 own cc nL) (hml : ls.size = nL) {idx : Nat} {y : MethodName} {cy : ByteArray} {maxL n nv mc ms : Nat} {ret : Option FieldType} {As : List Value} {r0 : Option Value} {M0 : ZM} {st st' : List Value} (F : zLkS own idx y cy maxL ret n)
    (hM : Ct l D aC b0 y cy maxL ret nv mc ms As M sz (zd r0 M0)) (hn : As.length = n) (hst : st = As.reverse ++ rest) (hW : (rest.map fun v => v.category).sum ≤ 8)
    (hR : 20 * nv + 21 ≤ R.frames ∧ maxL + (200 * nv + 219) ≤ R.locals ∧ cells + mc ≤ R.cells ∧ slots + ms ≤ R.slots) (hdg : decode cc pc = .ok (.invokestatic idx, 3)) (hs : r0.toList ++ rest = st')
    (kk : ∀ sz' : Nat, Z p l e R s m args below meth c D b0 M0 sz' (cells + mc) (slots + ms) Q (F0 m (pc + 3) ls st')) : Z p l e R s m args below meth c D b0 M sz cells slots Q (F0 m pc ls st) :=
  z_callS C hml F hM hn hst hW hR hdg (fun r M' sz' hp => by obtain ⟨rfl, rfl⟩ := hp; rw [hs]; exact kk sz')
end ZR6
