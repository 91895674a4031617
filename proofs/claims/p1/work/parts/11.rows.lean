section ZR2
variable {p : Program} {l : Launch} {e : Env} {R : Room} {s : State} {m : MethodId} {args : Array Value} {below : List Frame} {meth : Method} {c : Code} {D : va_G} {aC : Nat → ClassId} {b0 : Nat} {M : ZM} {sz cells slots : Nat} {Q : State → Prop} {own : String} {cc : ByteArray} {nL pc : Nat} {ls : Array Slot} {rest : List Value} {a : Nat}
/-- a field that may be written, by its place in the pool of 'own' -/
def zFp (own : String) (idx ci k : Nat) (ty : FieldType) (fin : Bool) : Prop := ∃ (C : String) (T : u_T) (N : Nat) (ty0 : Nat → FieldType), vwCl[ci]? = some (C, T, N) ∧ k < N ∧ (∀ w ∈ u_ws C T N, w ∈ zW) ∧ (∀ k, k < N → parseFieldDescriptor (T k).2.2.1 = some (ty0 k)) ∧ (∀ a, a < N → ∀ b, b < N → a ≠ b → (T a).2.1 ≠ (T b).2.1) ∧ ty0 k = ty ∧ (T k).2.2.2 = fin ∧
  ((fin = true ∧ (T k).1 = own ∧ Cond.fieldLink own idx (T k).1 (T k).2.1 (T k).2.2.1 ∈ zW) ∨ (fin = false ∧ (Cond.fieldLink own idx (T k).1 (T k).2.1 (T k).2.2.1 ∈ zW ∨ ∃ host : String, Cond.fieldLinkNest own idx (T k).1 (T k).2.1 (T k).2.2.1 host ∈ zN)))
theorem z_put (C : zC p l s m c D aC b0 own cc nL) {idx ci k : Nat} {ty : FieldType} {fin : Bool} (F : zFp own idx ci k ty fin) (hini : fin = true → meth.name = "<init>") {fs : List Value} {v : Value} (he : M a = some (.inr (ci, fs))) (hl : k < fs.length) (hn : narrow ty v = v) (hfit : fits ty v = true) (hdg : decode cc pc = .ok (.putfield idx, 3))
    (kk : Z p l e R s m args below meth c D b0 (zup M a (.inr (ci, fs.set k v))) sz cells slots Q (F0 m (pc + 3) ls rest)) : Z p l e R s m args below meth c D b0 M sz cells slots Q (F0 m pc ls (v :: .ref a :: rest)) := by
  obtain ⟨hx, hb, -, hown, -, hK, hg, -⟩ := C
  obtain ⟨Cn, T, N, ty0, hc, hk, hin, hty, hnm, h0, hfin, hlk⟩ := F
  have hts : ∀ w ∈ zW, w.before args s = true := fun w hw => zg_w hg hw
  have hap := va_apart (own := own) (D := D) hts hin ty0 hty hnm hK hc
  have hd : parseFieldDescriptor (T k).2.2.1 = some ty := by rw [hty k hk, h0]
  intro H locs h1 h2 h3
  obtain ⟨hb1, r, hr1, cell, q1, q2, q3, q4⟩ := h1 a _ he
  have hr : r = (Cn, T, N) := Option.some.inj (hr1.symm.trans hc)
  subst hr
  obtain ⟨hS, hfc, kC, hkC, hkind⟩ := hK.1 ci _ hc
  obtain ⟨cf, kf, fi, f, hi, hsl⟩ := hS k hk
  have hlay := hts _ (hin _ (u_in_lay hk))
  unfold u_lay at hlay
  have hst := (u_facts hfc hkC (u_lays hts hin hk) hi).1
  have fin1 : ∀ (H1 : Heap), H1[a]? = some (cell.setSlot f.slot v) → H1.size = H.size → (∀ q, q ≠ a → H1[q]? = H[q]?) → W p l e R s m args below meth c H1 (locs ++ [⟨a, f.slot⟩]) cells slots Q (F0 m (pc + 3) ls rest) := by
    intro H1 e1 e2 e3
    rw [hsl] at e1 ⊢
    exact kk H1 _ (h1.set he ⟨_, hc, t_OB.to (V := updV (vp_V fs) k v) ⟨_, e1, q2, q3, t_set q4 hap hk v⟩ (fun j _ => vp_updV_set hl v j)⟩ e3) (e2.trans h2) (h3.put e2 e3 hb1)
  rcases hlk with ⟨hf, hdecl, hlk⟩ | ⟨hf, hlk⟩
  · subst hf
    rw [if_pos hfin] at hlay
    have hcf : m.cls = cf := by
      obtain ⟨_, _, c', _, _, _, -, -, hf', -, -, -, hown2, -⟩ := Cond.laysFinal_spec hlay
      have e1 : c' = cf := by have := hi.symm.trans hf'; simp at this; exact this.1.symm
      rw [hdecl] at hown2
      rw [← e1]; exact Option.some.inj (hown.symm.trans hown2)
    have h6 := u_fits hfc hkC hkind (Or.inr hlay) hi hd hn hfit
    exact W.putFinK hx hb hown (zg_w hg hlk) hi hst hcf (hini rfl) (by rw [q2]; exact h6) q1 q3 (by rw [hsl]; exact k2_hasslot (q4 k hk)) rfl rfl hdg fin1
  · subst hf
    rw [if_neg (by rw [hfin]; decide)] at hlay
    have h6 := u_store hfc hkC hkind hlay hi hd hn hfit
    rcases hlk with hlk | ⟨host, hlk⟩
    · exact W.putK hx hb (f := f) ⟨hown, zg_w hg hlk, ⟨_, _, _, hi⟩, hst⟩ (by rw [q2]; exact h6) q1 q3 (by rw [hsl]; exact k2_hasslot (q4 k hk)) rfl rfl hdg fin1
    · exact va_WputK hx hb (f := f) hown (zg_n hg hlk) hi hst (by rw [q2]; exact h6) q1 q3 (by rw [hsl]; exact k2_hasslot (q4 k hk)) rfl rfl hdg fin1
theorem z_iald (C : zC p l s m c D aC b0 own cc nL) {n : Nat} {f : Nat → Int32} {i : Int32} (ha : M a = some (.inl (aC 0, n, .inl f))) (hin : vp_in i n) (hdg : decode cc pc = .ok (.iaload, 1))
    (kk : Z p l e R s m args below meth c D b0 M sz cells slots Q (F0 m (pc + 1) ls (.int (f i.toNatClampNeg) :: rest))) : Z p l e R s m args below meth c D b0 M sz cells slots Q (F0 m pc ls (.int i :: .ref a :: rest)) := by
  obtain ⟨hx, hb, -, hown, -, hK, hg, -⟩ := C
  exact fun H locs h1 h2 h3 => va_iald (D := D) hx hb hK (h1.one ha) 0 0 rfl rfl hin hdg (kk H locs h1 h2 h3)
theorem z_zald (C : zC p l s m c D aC b0 own cc nL) {n : Nat} {f : Nat → Int32} {i : Int32} (ha : M a = some (.inl (aC 1, n, .inl f))) (hin : vp_in i n) (hdg : decode cc pc = .ok (.baload, 1))
    (kk : Z p l e R s m args below meth c D b0 M sz cells slots Q (F0 m (pc + 1) ls (.int (f i.toNatClampNeg) :: rest))) : Z p l e R s m args below meth c D b0 M sz cells slots Q (F0 m pc ls (.int i :: .ref a :: rest)) := by
  obtain ⟨hx, hb, -, hown, -, hK, hg, -⟩ := C
  exact fun H locs h1 h2 h3 => va_zald (D := D) hx hb hK (h1.one ha) 0 1 rfl rfl hin hdg (kk H locs h1 h2 h3)
theorem z_aald (C : zC p l s m c D aC b0 own cc nL) (t0 : Nat) {Cn : String} {n : Nat} {f : Nat → Option Nat} {i : Int32} (ht : (zT aC)[t0]? = some (aC t0, .object Cn)) (ha : M a = some (.inl (aC t0, n, .inr (.inr (.inr (.inr f)))))) (hin : vp_in i n) {v : Value} (hv : va_rf (f i.toNatClampNeg) = v) (hdg : decode cc pc = .ok (.aaload, 1))
    (kk : Z p l e R s m args below meth c D b0 M sz cells slots Q (F0 m (pc + 1) ls (v :: rest))) : Z p l e R s m args below meth c D b0 M sz cells slots Q (F0 m pc ls (.int i :: .ref a :: rest)) := by
  obtain ⟨hx, hb, -, hown, -, hK, hg, -⟩ := C
  subst hv
  exact fun H locs h1 h2 h3 => va_aldq (D := D) hx hb hK (h1.one ha) 0 t0 rfl ht hin hdg (kk H locs h1 h2 h3)
theorem z_alen (C : zC p l s m c D aC b0 own cc nL) (t0 : Nat) {ty : FieldType} {x : vp_A} (ht : (zT aC)[t0]? = some (aC t0, ty)) (ha : M a = some (.inl (aC t0, x))) {v : Int32} (hv : Int32.ofNat x.1 = v) (hdg : decode cc pc = .ok (.arraylength, 1))
    (kk : Z p l e R s m args below meth c D b0 M sz cells slots Q (F0 m (pc + 1) ls (.int v :: rest))) : Z p l e R s m args below meth c D b0 M sz cells slots Q (F0 m pc ls (.ref a :: rest)) := by
  obtain ⟨hx, hb, -, hown, -, hK, hg, -⟩ := C
  exact fun H locs h1 h2 h3 => va_alen (D := D) hx hb hK (h1.one ha) 0 t0 rfl ht hv hdg (kk H locs h1 h2 h3)
theorem z_iast (C : zC p l s m c D aC b0 own cc nL) {n : Nat} {f : Nat → Int32} {i x : Int32} (ha : M a = some (.inl (aC 0, n, .inl f))) (hin : vp_in i n) (hdg : decode cc pc = .ok (.iastore, 1))
    (kk : Z p l e R s m args below meth c D b0 (zup M a (.inl (aC 0, n, .inl (upd f i.toNatClampNeg x)))) sz cells slots Q (F0 m (pc + 1) ls rest)) : Z p l e R s m args below meth c D b0 M sz cells slots Q (F0 m pc ls (.int x :: .int i :: .ref a :: rest)) := by
  obtain ⟨hx, hb, -, hown, -, hK, hg, -⟩ := C
  intro H locs h1 h2 h3
  obtain ⟨hb1, hc1⟩ := h1 a _ ha
  refine W.iast hx hb hc1 ((hK.2 0 _ rfl).1 n (fun j => .int (f j))) (fun q => by cases q) (by show ¬ (i < 0 ∨ (arrV _ _ _).slots.size ≤ _); rw [arrV_size]; exact hin) rfl rfl hdg fun H1 e z oq => ?_
  refine kk H1 _ (h1.set ha ?_ oq) (z.trans h2) (h3.put z oq hb1)
  show H1[a]? = some (vp_cell _ _)
  rw [e, vp_cell_i, vp_cell_i, arrV_store]
  congr 2
  funext q
  by_cases hq : q = i.toNatClampNeg
  · subst hq
    simp [updV, upd]
  · simp [updV, upd, hq]
theorem z_zast (C : zC p l s m c D aC b0 own cc nL) {n : Nat} {f : Nat → Int32} {i x : Int32} (ha : M a = some (.inl (aC 1, n, .inl f))) (hin : vp_in i n) (hx1 : narrow .boolean (.int x) = .int x) (hdg : decode cc pc = .ok (.bastore, 1))
    (kk : Z p l e R s m args below meth c D b0 (zup M a (.inl (aC 1, n, .inl (upd f i.toNatClampNeg x)))) sz cells slots Q (F0 m (pc + 1) ls rest)) : Z p l e R s m args below meth c D b0 M sz cells slots Q (F0 m pc ls (.int x :: .int i :: .ref a :: rest)) := by
  obtain ⟨hx, hb, -, hown, -, hK, hg, -⟩ := C
  intro H locs h1 h2 h3
  obtain ⟨hb1, hc1⟩ := h1 a _ ha
  refine W.zast hx hb hc1 ((hK.2 1 _ rfl).1 n (fun j => .int (f j))) (fun q => by cases q) (by show ¬ (i < 0 ∨ (arrV _ _ _).slots.size ≤ _); rw [arrV_size]; exact hin) rfl rfl hdg fun H1 e z oq => ?_
  refine kk H1 _ (h1.set ha ?_ oq) (z.trans h2) (h3.put z oq hb1)
  show H1[a]? = some (vp_cell _ _)
  rw [e, hx1, vp_cell_i, vp_cell_i, arrV_store]
  congr 2
  funext q
  by_cases hq : q = i.toNatClampNeg
  · subst hq
    simp [updV, upd]
  · simp [updV, upd, hq]
theorem z_aast (C : zC p l s m c D aC b0 own cc nL) (t0 : Nat) {r : vw_C} {n v ci : Nat} {vs : List Value} {f : Nat → Option Nat} {i : Int32} (ht : (zT aC)[t0]? = some (aC t0, .object r.1)) (ha : M a = some (.inl (aC t0, n, .inr (.inr (.inr (.inr f)))))) (hv : M v = some (.inr (ci, vs))) (hc : vwCl[ci]? = some r) (hin : vp_in i n) (hdg : decode cc pc = .ok (.aastore, 1))
    (kk : Z p l e R s m args below meth c D b0 (zup M a (.inl (aC t0, n, .inr (.inr (.inr (.inr (va_up f i.toNatClampNeg (some v)))))))) sz cells slots Q (F0 m (pc + 1) ls rest)) : Z p l e R s m args below meth c D b0 M sz cells slots Q (F0 m pc ls (.ref v :: .int i :: .ref a :: rest)) := by
  obtain ⟨hx, hb, -, hown, -, hK, hg, -⟩ := C
  intro H locs h1 h2 h3
  obtain ⟨hb1, hc1⟩ := h1 a _ ha
  have hlt : i.toNatClampNeg < n := Nat.not_le.mp fun q => hin (Or.inr q)
  have h0 : ¬ i < 0 := fun q => hin (Or.inl q)
  obtain ⟨r', hr', cellV, g1, g2, g3, -⟩ := (h1 v _ hv).2
  have hcls := (hK.1 ci r hc).2
  obtain ⟨kA, comp, k1, k2, k3, -⟩ := (hK.2 t0 _ ht).2
  have hcomp : comp = D.1 ci := Option.some.inj (k3.symm.trans hcls.1)
  subst hcomp
  obtain ⟨kC, hkC, -⟩ := hcls.2
  refine W.aast hx hb hc1 (fun q h => by cases h) (fun h => by cases h) k1 k2 rfl hkC ⟨h0, by show _ < (arrV _ _ _).slots.size; rw [arrV_size]; exact hlt⟩ g1 (fun q h => by rw [g3] at h; cases h) (by rw [g2]; exact hkC) (by rw [g2]; exact va_assign hcls) rfl rfl hdg fun H1 e z oq => ?_
  refine kk H1 _ (h1.set ha ?_ oq) (z.trans h2) (h3.put z oq hb1)
  show H1[a]? = some (vp_cell _ _)
  rw [e, vp_cell_q, vp_cell_q, arrV_store]
  congr 2
  funext q
  by_cases hq : q = i.toNatClampNeg
  · subst hq
    simp [updV, va_up, va_rf]
  · simp [updV, va_up, hq]
end ZR2
