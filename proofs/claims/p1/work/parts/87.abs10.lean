/-! A row of a pattern held against a fact, in the reference. -/
def NX (A : Nat → Nat → Int32) (w : Nat) (σ : Sg) : Prop := ∀ k, k < 4 → A 36 (4 * w + k) = σ k
theorem vinN_s {A : Nat → Nat → Int32} {w : Nat} {σ : Sg} (hw : w ≤ 5000) (h : NX A w σ) (t : Int32) : fX9_valueInN A (nI w) t = vl σ t := by
  unfold fX9_valueInN vl
  by_cases q : isV t
  · rw [if_neg (fun r => isVar_s.mp r q), if_pos q, vplace q, nI_clamp (by have := (sl_s q).1; omega)]
    exact h _ (sl_s q).1
  · rw [if_pos (isVar_s.mpr q), if_neg q]
def ftP (v : Nat → Int32) (A : Nat → Nat → Int32) (σ : Sg) (a : Int32) (q m : Nat) (w' : Int32) (v' : Nat → Int32) (A' : Nat → Nat → Int32) : Prop :=
  v' = v ∧ (∀ k, k ≠ 36 → A' k = A k) ∧ (∀ k, k < 4 * m → A' 36 k = A 36 k) ∧ ((w' = 0 ∧ agr σ a (nI q) = none) ∨ ∃ σ', w' = 1 ∧ agr σ a (nI q) = some σ' ∧ NX A' m σ')
theorem agr_v {σ : Sg} {a q : Int32} (h : isV a) : agr σ a q = if vl σ a = -1 then some (upd σ (sl a) q) else if vl σ a = q then some σ else none := by
  unfold agr vl
  rw [if_neg (fun r => by have := Int32.le_iff_toInt_le.mp r; have e : (0 : Int32).toInt = 0 := rfl; have := h.2; omega), if_pos h]
theorem agr_n {σ : Sg} {a q : Int32} (h : isNm a) : agr σ a q = if vl σ a = q then some σ else none := by
  unfold agr vl
  rw [if_pos (Int32.le_iff_toInt_le.mpr (by have e : (0 : Int32).toInt = 0 := rfl; have := h.1; omega)), if_neg (show ¬ isV a from fun r => by have := h.1; have := r.2; omega)]
theorem nm_n1 {σ : Sg} {a : Int32} (h : isNm a) : ¬ vl σ a = -1 := by
  unfold vl
  rw [if_neg (fun r => by have := h.1; have := r.2; omega)]
  intro q
  have e : (-1 : Int32).toInt = -1 := by decide
  have := h.1
  rw [q, e] at this
  omega
theorem ft_set {v : Nat → Int32} {A : Nat → Nat → Int32} {σ : Sg} {a : Int32} {q m : Nat} (hm : m ≤ 5000) (hN : NX A m σ) (h1 : vl σ a = -1) (h2 : ¬ fX9_isVariable a = 0) : ftP v A σ a q m 1 v (u1 A 36 (upd (A 36) (Int32.toNatClampNeg (4 * nI m - 1 - a)) (nI q))) := by
  have hv : isV a := Decidable.not_not.mp (fun r => h2 (isVar_s.mpr r))
  have hs := (sl_s hv).1
  rw [vplace hv, nI_clamp (by omega)]
  refine ⟨rfl, fun k hk => by simp [u1, hk], fun k hk => by simp [u1, upd, show k ≠ 4 * m + sl a by omega], Or.inr ⟨upd σ (sl a) (nI q), rfl, by rw [agr_v hv, if_pos h1], fun k hk => ?_⟩⟩
  simp only [u1, if_true, upd]
  by_cases e : k = sl a
  · rw [if_pos (by omega), if_pos e]
  · rw [if_neg (by omega), if_neg e]; exact hN k hk
theorem ft_eq {v : Nat → Int32} {A : Nat → Nat → Int32} {σ : Sg} {a : Int32} {q m : Nat} (hq : q < 2 ^ 31) (hN : NX A m σ) (ha : isNm a ∨ isV a) (h : vl σ a = nI q) : ftP v A σ a q m 1 v A := by
  refine ⟨rfl, fun _ _ => rfl, fun _ _ => rfl, Or.inr ⟨σ, rfl, ?_, hN⟩⟩
  rcases ha with r | r
  · rw [agr_n r, if_pos h]
  · rw [agr_v r, if_neg (by rw [h]; exact nI_n1 hq), if_pos h]
theorem ft_ne {v : Nat → Int32} {A : Nat → Nat → Int32} {σ : Sg} {a : Int32} {q m : Nat} (ha : isNm a ∨ isV a) (h1 : ¬ vl σ a = -1 ∨ fX9_isVariable a = 0) (h : ¬ vl σ a = nI q) : ftP v A σ a q m 0 v A := by
  refine ⟨rfl, fun _ _ => rfl, fun _ _ => rfl, Or.inl ⟨rfl, ?_⟩⟩
  rcases ha with r | r
  · rw [agr_n r, if_neg h]
  · rw [agr_v r, if_neg (h1.resolve_right (fun s => isVar_s.mp s r)), if_neg h]
/-! The search by breadth, as the reference does it. -/
noncomputable def sW (S : St) (fr : Nat) (ps : List Rw) (j : Nat) : List Sg := bfsW (cds (S.1 fr)) (ps.take j) [fun _ => -1]
noncomputable def sN (S : St) (fr : Nat) (ps : List Rw) (j : Nat) : Nat := bfsN (cds (S.1 fr)) (ps.take j) [fun _ => -1]
theorem sW_0 {S : St} {fr : Nat} {ps : List Rw} : sW S fr ps 0 = [fun _ => -1] := by unfold sW; rw [List.take_zero]; rfl
theorem sN_0 {S : St} {fr : Nat} {ps : List Rw} : sN S fr ps 0 = 0 := by unfold sN; rw [List.take_zero]; rfl
theorem sW_step {S : St} {fr : Nat} {ps : List Rw} {j : Nat} {r : Rw} (h : ps[j]? = some r) : sW S fr ps (j + 1) = lev (cds (S.1 fr)) r (sW S fr ps j) := by
  unfold sW
  rw [List.take_succ, h, bfsW_append]
  rfl
theorem sN_step {S : St} {fr : Nat} {ps : List Rw} {j : Nat} {r : Rw} (h : ps[j]? = some r) : sN S fr ps (j + 1) = sN S fr ps j + (sW S fr ps j).length * (cds (S.1 fr)).length := by
  unfold sN sW
  rw [List.take_succ, h, bfsN_append]
  rfl
theorem sW_end {S : St} {fr : Nat} {ps : List Rw} : sW S fr ps ps.length = sols (cds (S.1 fr)) ps (fun _ => -1) ∧ sN S fr ps ps.length = wk (cds (S.1 fr)) ps (fun _ => -1) := by
  unfold sW sN
  rw [List.take_length]
  exact bfs_one _ _ _
theorem sN_le {S : St} {fr : Nat} {ps : List Rw} {j : Nat} : sN S fr ps j ≤ wk (cds (S.1 fr)) ps (fun _ => -1) := by
  rw [← sW_end.2]
  unfold sN
  rw [List.take_length]
  have := bfsN_append (cds (S.1 fr)) (ps.take j) (ps.drop j) [fun _ => -1]
  rw [List.take_append_drop] at this
  omega
theorem sN_lt {S : St} {fr : Nat} {ps : List Rw} {j w : Nat} {r : Rw} (h : ps[j]? = some r) (hw : w < (sW S fr ps j).length) : sN S fr ps j + (w + 1) * (cds (S.1 fr)).length ≤ wk (cds (S.1 fr)) ps (fun _ => -1) := by
  have h1 := sN_le (S := S) (fr := fr) (ps := ps) (j := j + 1)
  rw [sN_step h] at h1
  have h2 : (w + 1) * (cds (S.1 fr)).length ≤ (sW S fr ps j).length * (cds (S.1 fr)).length := Nat.mul_le_mul_right _ (by omega)
  omega
def WV (A : Nat → Nat → Int32) (ws : List Sg) : Prop := ∀ u σ, ws[u]? = some σ → VW A u σ
def NV (A : Nat → Nat → Int32) (ws : List Sg) : Prop := ∀ u σ, ws[u]? = some σ → NX A u σ
/-- what the search leaves as it is -/
def FQ (v : Nat → Int32) (A : Nat → Nat → Int32) (v' : Nat → Int32) (A' : Nat → Nat → Int32) : Prop :=
  (∀ k, k ≠ 41 → k ≠ 43 → k ≠ 45 → k ≠ 47 → v' k = v k) ∧ (∀ k, k < 35 ∨ 37 < k → A' k = A k)
theorem FQ.low {v v1 : Nat → Int32} {A A1 : Nat → Nat → Int32} (h : FQ v A v1 A1) : ∀ k, k < 19 → A1 k = A k := fun k hk => h.2 k (by omega)
theorem FQ.S {v v1 : Nat → Int32} {A A1 : Nat → Nat → Int32} (h : FQ v A v1 A1) : FS v A v1 A1 := ⟨fun k _ _ a b c d => h.1 k a b c d, fun k a => h.2 k (by omega)⟩
noncomputable def slB (v : Nat → Int32) (A : Nat → Nat → Int32) (S : St) (fr : Nat) (v' : Nat → Int32) (A' : Nat → Nat → Int32) : Prop :=
  FQ v A v' A' ∧ v' 41 = v 41 ∧ v' 47 = nI (cds (S.1 fr)).length ∧ ∀ i, i < (cds (S.1 fr)).length → ∃ t, t < 120 ∧ A' 37 i = nI t ∧ A' 20 t = nI (pt ((cds (S.1 fr)).getD i 0) 0) ∧ A' 21 t = nI (pt ((cds (S.1 fr)).getD i 0) 1) ∧ A' 22 t = nI (pt ((cds (S.1 fr)).getD i 0) 2)
theorem slB_to {v v1 v2 : Nat → Int32} {A A1 A2 : Nat → Nat → Int32} {S : St} {fr : Nat} (h : slB v A S fr v1 A1) (hv : ∀ k, k ≠ 43 → k ≠ 45 → v2 k = v1 k) (hA : ∀ k, k ≠ 35 → k ≠ 36 → A2 k = A1 k) : slB v A S fr v2 A2 := by
  refine ⟨⟨fun k a b c d => (hv k b c).trans (h.1.1 k a b c d), fun k hk => (hA k (by omega) (by omega)).trans (h.1.2 k hk)⟩, (hv 41 (by decide) (by decide)).trans h.2.1, (hv 47 (by decide) (by decide)).trans h.2.2.1, ?_⟩
  rw [hA 37 (by decide) (by decide), hA 20 (by decide) (by decide), hA 21 (by decide) (by decide), hA 22 (by decide) (by decide)]
  exact h.2.2.2
theorem slB_0 {v v1 : Nat → Int32} {A A1 : Nat → Nat → Int32} {S : St} {fr : Nat} (h : luP v A S fr v1 A1) : slB v A S fr v1 A1 :=
  ⟨⟨fun k _ _ _ d => h.2.1 k d, fun k hk => h.2.2.1 k (by omega)⟩, h.2.1 41 (by decide), h.1, h.2.2.2⟩
/-- the heads of the loops: by rows of the pattern, by ways, by facts -/
def sl0 (v : Nat → Int32) (A : Nat → Nat → Int32) (S : St) (fr j : Nat) (v' : Nat → Int32) (A' : Nat → Nat → Int32) : Prop := slB v A S fr v' A' ∧ v' 43 = 1 ∧ ∀ k, k < j → A' 35 k = -1
def sl1 (v : Nat → Int32) (A : Nat → Nat → Int32) (S : St) (fr : Nat) (ps : List Rw) (j : Nat) (sp : Int32) (v' : Nat → Int32) (A' : Nat → Nat → Int32) : Prop :=
  slB v A S fr v' A' ∧ sp = nI (sN S fr ps j) ∧ sN S fr ps j ≤ 5000 ∧ v' 43 = nI (sW S fr ps j).length ∧ (sW S fr ps j).length ≤ 5000 ∧ WV A' (sW S fr ps j)
def sl2 (v : Nat → Int32) (A : Nat → Nat → Int32) (S : St) (fr : Nat) (ps : List Rw) (j : Nat) (r : Rw) (w : Nat) (sp : Int32) (v' : Nat → Int32) (A' : Nat → Nat → Int32) : Prop :=
  slB v A S fr v' A' ∧ sp = nI (sN S fr ps j + w * (cds (S.1 fr)).length) ∧ sN S fr ps j + w * (cds (S.1 fr)).length ≤ 5000 ∧ v' 43 = nI (sW S fr ps j).length ∧ WV A' (sW S fr ps j) ∧ v' 45 = nI (nxt (cds (S.1 fr)) r (sW S fr ps j) w 0).length ∧ NV A' (nxt (cds (S.1 fr)) r (sW S fr ps j) w 0)
def sl3 (v : Nat → Int32) (A : Nat → Nat → Int32) (S : St) (fr : Nat) (ws : List Sg) (r : Rw) (w i : Nat) (v' : Nat → Int32) (A' : Nat → Nat → Int32) : Prop :=
  slB v A S fr v' A' ∧ v' 43 = nI ws.length ∧ WV A' ws ∧ v' 45 = nI (nxt (cds (S.1 fr)) r ws w i).length ∧ NV A' (nxt (cds (S.1 fr)) r ws w i)
/-- copying a way's values -/
def sl4 (σ : Sg) (M : Nat) (v3 : Nat → Int32) (A3 : Nat → Nat → Int32) (k : Nat) (v' : Nat → Int32) (A' : Nat → Nat → Int32) : Prop :=
  v' = v3 ∧ (∀ q, q ≠ 36 → A' q = A3 q) ∧ (∀ x, x < 4 * M → A' 36 x = A3 36 x) ∧ ∀ k', k' < k → A' 36 (4 * M + k') = σ k'
theorem sl4_next {σ : Sg} {M : Nat} {v3 v' : Nat → Int32} {A3 A' : Nat → Nat → Int32} {k : Nat} (h : sl4 σ M v3 A3 k v' A') (z : Int32) (hz : z = σ k) : sl4 σ M v3 A3 (k + 1) v' (u1 A' 36 (upd (A' 36) (4 * M + k) z)) := by
  refine ⟨h.1, fun q hq => by rw [← h.2.1 q hq]; simp [u1, hq], fun x hx => ?_, fun k' hk' => ?_⟩
  · rw [← h.2.2.1 x hx]; simp [u1, upd, show x ≠ 4 * M + k by omega]
  · simp only [u1, if_true, upd]
    by_cases e : k' = k
    · rw [if_pos (by omega), hz, e]
    · rw [if_neg (by omega)]; exact h.2.2.2 k' (by omega)
theorem NV_low {A A' : Nat → Nat → Int32} {ws : List Sg} (h : NV A ws) (hk : ∀ x, x < 4 * ws.length → A' 36 x = A 36 x) : NV A' ws := by
  intro u σ hu k hk'
  have := (List.getElem?_eq_some_iff.mp hu).1
  rw [hk _ (by omega)]
  exact h u σ hu k hk'
theorem NV_add {A : Nat → Nat → Int32} {ws : List Sg} {σ : Sg} (h : NV A ws) (h2 : NX A ws.length σ) : NV A (ws ++ [σ]) := by
  intro u σ' hu
  rw [List.getElem?_append] at hu
  split at hu
  · exact h u σ' hu
  · rename_i hlt
    have := (List.getElem?_eq_some_iff.mp hu).1
    have e : u = ws.length := by simp at this; omega
    subst e
    simp at hu
    rw [← hu]; exact h2
theorem WV_same {A A' : Nat → Nat → Int32} {ws : List Sg} (h : WV A ws) (e : A' 35 = A 35) : WV A' ws := by
  intro u σ hu k hk
  rw [e]; exact h u σ hu k hk
theorem NV_same {A A' : Nat → Nat → Int32} {ws : List Sg} (h : NV A ws) (e : A' 36 = A 36) : NV A' ws := by
  intro u σ hu k hk
  rw [e]; exact h u σ hu k hk
def PRr (A : Nat → Nat → Int32) (i : Nat) (ps : List Rw) : Prop := A 10 i = nI ps.length ∧ ps.length ≤ 4 ∧ (∀ t ∈ ps, okR t) ∧ ∀ j t, ps[j]? = some t → A 11 (4 * i + j) = t.1 ∧ A 12 (4 * i + j) = t.2.1 ∧ A 13 (4 * i + j) = t.2.2
theorem PRr.kept {A A' : Nat → Nat → Int32} {i : Nat} {ps : List Rw} (h : PRr A i ps) (hk : ∀ k, k < 19 → A' k = A k) : PRr A' i ps := by
  unfold PRr at h ⊢
  rw [hk 10 (by decide), hk 11 (by decide), hk 12 (by decide), hk 13 (by decide)]
  exact h
theorem ER.P {A : Nat → Nat → Int32} {i : Nat} {q : Sq} (h : ER A i q) (hq : okQ q) : PRr A i q.2.2.2.2.2 := ⟨h.2.2.2.2.2.2.1, hq.2.2.2.2.2.2.2.2.2.2.1, hq.2.2.2.2.2.2.2.2.2.1, h.2.2.2.2.2.2.2⟩
