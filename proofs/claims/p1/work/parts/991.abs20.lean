/-! Rows of rows; values by depth. -/
section ZR9
variable {p : Program} {l : Launch} {e : Env} {R : Room} {s : State} {m : MethodId} {args : Array Value} {below : List Frame} {meth : Method} {c : Code} {D : va_G} {aC : Nat → ClassId} {b0 : Nat} {M : ZM} {sz cells slots : Nat} {Q : State → Prop} {own : String} {cc : ByteArray} {nL pc : Nat} {ls : Array Slot} {rest : List Value} {a : Nat}
theorem z_aaldA (C : zC p l s m c D aC b0 own cc nL) {n : Nat} {f : Nat → Option Nat} {i : Int32} (ha : M a = some (.inl (aC 5, n, .inr (.inr (.inr (.inr f)))))) (hin : vp_in i n) {v : Value} (hv : va_rf (f i.toNatClampNeg) = v) (hdg : decode cc pc = .ok (.aaload, 1))
    (kk : Z p l e R s m args below meth c D b0 M sz cells slots Q (F0 m (pc + 1) ls (v :: rest))) : Z p l e R s m args below meth c D b0 M sz cells slots Q (F0 m pc ls (.int i :: .ref a :: rest)) := by
  obtain ⟨hx, hb, -, hown, -, hK, hg, -⟩ := C
  subst hv
  intro H locs h1 h2 h3
  have hlt : i.toNatClampNeg < n := Nat.not_le.mp fun q => hin (Or.inr q)
  exact W.aald (v := va_rf (f i.toNatClampNeg)) (ty := .array .int) hx hb ((h1.one ha) 0 _ rfl) ((hK.2 5 (aC 5, .array .int) rfl).1 n (fun j => va_rf (f j))) rfl (fun q => by cases q) (by show ¬ (i < 0 ∨ (arrV _ _ _).slots.size ≤ _); rw [arrV_size]; exact hin) (by show (arrV _ _ _).slots[_]? = _; rw [arrV_read _ _ hlt]) rfl rfl hdg (kk H locs h1 h2 h3)
end ZR9
def VA (av : Nat → Nat → Int32) (r : Nat) (σ : Sg) : Prop := ∀ k, k < 4 → av (22 + r) k = σ k
def agP (iv av : Nat → Nat → Int32) (r : Nat) (σ : Sg) (a : Int32) (q : Nat) (w : Int32) (iv' av' : Nat → Nat → Int32) : Prop := iv' = iv ∧ (∀ k, k ≠ 22 + r → av' k = av k) ∧ ((w = 0 ∧ agr σ a (nI q) = none) ∨ ∃ σ', w = 1 ∧ agr σ a (nI q) = some σ' ∧ VA av' r σ')
theorem lt0 {a : Int32} : a < 0 ↔ a.toInt < 0 := by rw [Int32.lt_iff_toInt_lt]; exact Iff.rfl
theorem ag_v {a : Int32} (ha : isNm a ∨ isV a) (h : a < 0) : isV a := by
  rcases ha with q | q
  · have := lt0.mp h; have := q.1; omega
  · exact q
theorem ag_n {a : Int32} (ha : isNm a ∨ isV a) (h : ¬ a < 0) : isNm a := by
  rcases ha with q | q
  · exact q
  · exact absurd (lt0.mpr (by have := q.2; omega)) h
theorem vl_n {σ : Sg} {a : Int32} (h : isNm a) : vl σ a = a := by
  unfold vl
  rw [if_neg (fun r => by have := h.1; have := r.2; omega)]
theorem vl_v {σ : Sg} {a : Int32} (h : isV a) : vl σ a = σ (sl a) := if_pos h
theorem ag_1 {iv av : Nat → Nat → Int32} {r : Nat} {σ : Sg} {a : Int32} {q : Nat} (ha : isNm a ∨ isV a) (hV : VA av r σ) (h : ¬ a < 0) (e : a = nI q) : agP iv av r σ a q 1 iv av :=
  ⟨rfl, fun _ _ => rfl, Or.inr ⟨σ, rfl, by rw [agr_n (ag_n ha h), vl_n (ag_n ha h), if_pos e], hV⟩⟩
theorem ag_0 {iv av : Nat → Nat → Int32} {r : Nat} {σ : Sg} {a : Int32} {q : Nat} (ha : isNm a ∨ isV a) (h : ¬ a < 0) (e : ¬ a = nI q) : agP iv av r σ a q 0 iv av :=
  ⟨rfl, fun _ _ => rfl, Or.inl ⟨rfl, by rw [agr_n (ag_n ha h), vl_n (ag_n ha h), if_neg e]⟩⟩
theorem ag_set {iv av : Nat → Nat → Int32} {r : Nat} {σ : Sg} {a : Int32} {q : Nat} (hv : isV a) (hV : VA av r σ) (h : σ (sl a) = -1) : agP iv av r σ a q 1 iv (u1 av (22 + r) (upd (av (22 + r)) (Int32.toNatClampNeg (nI (sl a))) (nI q))) := by
  have hs := (sl_s hv).1
  rw [nI_clamp (by omega)]
  refine ⟨rfl, fun k hk => u1_k _ _ hk, Or.inr ⟨upd σ (sl a) (nI q), rfl, by rw [agr_v hv, vl_v hv, if_pos h], fun k hk => ?_⟩⟩
  rw [u1_s]
  unfold upd
  split
  · rfl
  · exact hV k hk
theorem ag_eq {iv av : Nat → Nat → Int32} {r : Nat} {σ : Sg} {a : Int32} {q : Nat} (hv : isV a) (hV : VA av r σ) (h : ¬ σ (sl a) = -1) (e : σ (sl a) = nI q) : agP iv av r σ a q 1 iv av :=
  ⟨rfl, fun _ _ => rfl, Or.inr ⟨σ, rfl, by rw [agr_v hv, vl_v hv, if_neg h, if_pos e], hV⟩⟩
theorem ag_ne {iv av : Nat → Nat → Int32} {r : Nat} {σ : Sg} {a : Int32} {q : Nat} (hv : isV a) (h : ¬ σ (sl a) = -1) (e : ¬ σ (sl a) = nI q) : agP iv av r σ a q 0 iv av :=
  ⟨rfl, fun _ _ => rfl, Or.inl ⟨rfl, by rw [agr_v hv, vl_v hv, if_neg h, if_neg e]⟩⟩
theorem ag_no {iv av iv' av' : Nat → Nat → Int32} {r : Nat} {σ : Sg} {a : Int32} {q : Nat} {w : Int32} (h : agP iv av r σ a q w iv' av') (hw : w = 0) : agr σ a (nI q) = none := by
  rcases h.2.2 with q | ⟨σ', q, _⟩
  · exact q.2
  · rw [hw] at q; exact absurd q (by decide)
theorem ag_ok {iv av iv' av' : Nat → Nat → Int32} {r : Nat} {σ : Sg} {a : Int32} {q : Nat} {w : Int32} (h : agP iv av r σ a q w iv' av') (hw : ¬ w = 0) : ∃ σ', agr σ a (nI q) = some σ' ∧ VA av' r σ' := by
  rcases h.2.2 with q | ⟨σ', _, q⟩
  · exact absurd q.1 hw
  · exact ⟨σ', q⟩
def fcP (iv av : Nat → Nat → Int32) (r : Nat) (rw' : Rw) (σ : Sg) (c : Nat) (w : Int32) (iv' av' : Nat → Nat → Int32) : Prop := iv' = iv ∧ (∀ k, k ≠ 22 + (r + 1) → av' k = av k) ∧ ((w = 0 ∧ mtc rw' σ c = none) ∨ ∃ σ', w = 1 ∧ mtc rw' σ c = some σ' ∧ VA av' (r + 1) σ')
theorem VA_cpy {av : Nat → Nat → Int32} {r : Nat} {σ : Sg} (h : VA av r σ) : VA (u1 av (22 + (r + 1)) (va_cpy (av (22 + r)) (av (22 + (r + 1))) (Int32.toNatClampNeg 0) (Int32.toNatClampNeg 0) (Int32.toNatClampNeg 4))) (r + 1) σ := by
  intro k hk
  rw [u1_s]
  unfold va_cpy
  rw [show Int32.toNatClampNeg 0 = 0 by decide, show Int32.toNatClampNeg 4 = 4 by decide, if_pos (by omega), Nat.sub_zero, Nat.zero_add]
  exact h k hk
def kpA (r : Nat) (iv av iv' av' : Nat → Nat → Int32) : Prop := iv' = iv ∧ ∀ k, k ≠ 22 + r → av' k = av k
theorem kpA_f {r : Nat} {iv av iv1 av1 iv2 av2 : Nat → Nat → Int32} {σ : Sg} {a w : Int32} {q : Nat} (h : kpA r iv av iv1 av1) (h2 : agP iv1 av1 r σ a q w iv2 av2) : kpA r iv av iv2 av2 := ⟨h2.1.trans h.1, fun k hk => (h2.2.1 k hk).trans (h.2 k hk)⟩
/-- rows of a pattern in cells -/
def PRc (iv av : Nat → Nat → Int32) (i : Nat) (ps : List Rw) : Prop := iv (61 + 6 * i + 4) 2 = nI ps.length ∧ ps.length ≤ 4 ∧ (∀ t ∈ ps, okR t) ∧ ∀ j t, ps[j]? = some t → av (61 + 6 * i + 4 + 1) (3 * j) = t.1 ∧ av (61 + 6 * i + 4 + 1) (3 * j + 1) = t.2.1 ∧ av (61 + 6 * i + 4 + 1) (3 * j + 2) = t.2.2
