/-! A row that adds, in its parts. -/
theorem VW.set {A : Nat → Nat → Int32} {w : Nat} {σ : Sg} {g : Nat → Int32} (h : VW A w σ) : VW (u1 A 23 g) w σ := fun k hk => by simp only [u1]; exact h k hk
theorem ad_term {σ : Sg} (hσ : okG σ) {t : TR} (ht : okT t) (hl : ¬ lo σ t) : (isNw t.1 ∨ isPn (vl σ t.1)) ∧ (isNw t.2.2.1 ∨ isPn (vl σ t.2.2.1)) ∧ nn (vl σ t.2.1) < 100 ∧ vl σ t.2.1 = nI (nn (vl σ t.2.1)) := by
  have p3 : isNm (vl σ t.2.1) := Decidable.not_not.mp (fun q => hl (Or.inr (Or.inr q)))
  refine ⟨?_, ?_, ?_, (nI_of_nn p3.1).symm⟩
  · rcases ht.1 with q | q | q
    · exact Or.inr ((vl_p hσ (Or.inl q)).resolve_left (fun q => hl (Or.inl q)))
    · exact Or.inr ((vl_p hσ (Or.inr q)).resolve_left (fun q => hl (Or.inl q)))
    · exact Or.inl q.2
  · rcases ht.2.2 with q | q | q
    · exact Or.inr ((vl_p hσ (Or.inl q)).resolve_left (fun q => hl (Or.inr (Or.inl q))))
    · exact Or.inr ((vl_p hσ (Or.inr q)).resolve_left (fun q => hl (Or.inr (Or.inl q))))
    · exact Or.inl q.2
  · have := nn_lt (n := 99) p3.1 (by have := p3.2; omega) (by decide); omega
theorem nI_n1 {y : Nat} (h : y < 2 ^ 31) : ¬ nI y = -1 := by
  intro q
  have := congrArg Int32.toInt q
  rw [nI_toInt h] at this
  have e : (-1 : Int32).toInt = -1 := by decide
  omega
theorem cms_no {v v' : Nat → Int32} {A A' : Nat → Nat → Int32} {S : St} {σ m : Sg} {t w : Int32} (h : cmsP v A S σ m t w v' A') (hw : w = -1) : blk σ S.2.2 m t = none := by
  rcases h.2 with q | ⟨b1, m1, y, _, hy, e, _⟩
  · exact q.1
  · rw [hw] at e; exact absurd e.symm (nI_n1 (by omega))
theorem cms_ok {v v' : Nat → Int32} {A A' : Nat → Nat → Int32} {S : St} {σ m : Sg} {t w : Int32} (h : cmsP v A S σ m t w v' A') (hw : ¬ w = -1) : ∃ b1 m1 y, blk σ S.2.2 m t = some (b1, m1, y) ∧ y < 160 ∧ w = nI y ∧ RC v' A' (S.1, S.2.1, b1) ∧ (∀ k, k < 4 → A' 38 k = m1 k) ∧ okm m1 := by
  rcases h.2 with q | q
  · exact absurd q.2 hw
  · exact q
theorem addRow_eq {to : Nat} {σ : Sg} {S : St} {m : Sg} {t : TR} (ha : t.2.2.2 = true) (hl : ¬ lo σ t) : addRow to σ S m t = (match blk σ S.2.2 m t.1 with
    | none => none
    | some (b1, m1, x) => match blk σ b1 m1 t.2.2.1 with
      | none => none
      | some (b2, m2, y) => match stPut (S.1, S.2.1, b2) to (cd x (nn (vl σ t.2.1)) y) with
        | none => none
        | some S' => some (S', m2)) := by
  have hh : ¬ (t.2.2.2 = false ∨ lo σ t) := by
    rintro (q | q)
    · rw [ha] at q; cases q
    · exact hl q
  unfold addRow
  exact if_neg hh
theorem ad_fail {to : Nat} {σ : Sg} {ts : List TR} {j : Nat} {t : TR} {S S' : St} {m' : Sg} (hj : ts[j]? = some t) (e : addRows to σ (ts.take j) S (fun _ => -1) = some (S', m')) (h : addRow to σ S' m' t = none) : addSol to ts S σ = none := by
  unfold addSol
  rw [addRows_none (j := j + 1) (by rw [addRows_step hj, e]; exact h)]
  rfl
def adP (v : Nat → Int32) (A : Nat → Nat → Int32) (to : Nat) (σ : Sg) (ts : List TR) (S : St) (w' : Int32) (v' : Nat → Int32) (A' : Nat → Nat → Int32) : Prop :=
  FR v A v' A' ∧ ((addSol to ts S σ = none ∧ w' = 0) ∨ ∃ S', addSol to ts S σ = some S' ∧ w' = 1 ∧ RC v' A' S')
theorem ad_no1 {v v' : Nat → Int32} {A A' : Nat → Nat → Int32} {to : Nat} {σ : Sg} {ts : List TR} {j : Nat} {t : TR} {S S' : St} {m' : Sg} (hj : ts[j]? = some t) (e : addRows to σ (ts.take j) S (fun _ => -1) = some (S', m')) (ha : t.2.2.2 = true) (hl : ¬ lo σ t) (hf : FR v A v' A') (hb : blk σ S'.2.2 m' t.1 = none) : adP v A to σ ts S 0 v' A' :=
  ⟨hf, Or.inl ⟨ad_fail hj e (by rw [addRow_eq ha hl, hb]), rfl⟩⟩
theorem ad_no2 {v v' : Nat → Int32} {A A' : Nat → Nat → Int32} {to : Nat} {σ : Sg} {ts : List TR} {j : Nat} {t : TR} {S S' : St} {m' : Sg} {b1 y : Nat} {m1 : Sg} (hj : ts[j]? = some t) (e : addRows to σ (ts.take j) S (fun _ => -1) = some (S', m')) (ha : t.2.2.2 = true) (hl : ¬ lo σ t) (hf : FR v A v' A') (hb : blk σ S'.2.2 m' t.1 = some (b1, m1, y)) (hc : blk σ b1 m1 t.2.2.1 = none) : adP v A to σ ts S 0 v' A' :=
  ⟨hf, Or.inl ⟨ad_fail hj e (by rw [addRow_eq ha hl, hb]; simp only [hc]), rfl⟩⟩
theorem ad_no3 {v v' : Nat → Int32} {A A' : Nat → Nat → Int32} {to : Nat} {σ : Sg} {ts : List TR} {j : Nat} {t : TR} {S S' : St} {m' : Sg} {b1 y b2 z : Nat} {m1 m2 : Sg} (hj : ts[j]? = some t) (e : addRows to σ (ts.take j) S (fun _ => -1) = some (S', m')) (ha : t.2.2.2 = true) (hl : ¬ lo σ t) (hf : FR v A v' A') (hb : blk σ S'.2.2 m' t.1 = some (b1, m1, y)) (hc : blk σ b1 m1 t.2.2.1 = some (b2, m2, z))
    (hd : stPut (S'.1, tS S'.2.1 to true, b2) to (cd y (nn (vl σ t.2.1)) z) = none) : adP v A to σ ts S 0 v' A' :=
  ⟨hf, Or.inl ⟨ad_fail hj e (by rw [stPut_T] at hd; rw [addRow_eq ha hl, hb]; simp only [hc, hd]), rfl⟩⟩
theorem ad_ok {v v' : Nat → Int32} {A A' : Nat → Nat → Int32} {to : Nat} {σ : Sg} {ts : List TR} {j : Nat} {t : TR} {S S' S2 : St} {m' : Sg} {b1 y b2 z : Nat} {m1 m2 : Sg} (hj : ts[j]? = some t) (e : addRows to σ (ts.take j) S (fun _ => -1) = some (S', m')) (ha : t.2.2.2 = true) (hl : ¬ lo σ t) (hf : FR v A v' A') (hb : blk σ S'.2.2 m' t.1 = some (b1, m1, y)) (hc : blk σ b1 m1 t.2.2.1 = some (b2, m2, z))
    (hd : stPut (S'.1, tS S'.2.1 to true, b2) to (cd y (nn (vl σ t.2.1)) z) = some S2) (hR : RC v' A' S2) (hm : ∀ k, k < 4 → A' 38 k = m2 k) (hk : okm m2) : adI v A to σ (ts.take (j + 1)) S v' A' := by
  refine ⟨hf, S2, m2, ?_, hR, hm, hk⟩
  rw [addRows_step hj, e]
  rw [stPut_T] at hd
  show addRow to σ S' m' t = _
  rw [addRow_eq ha hl, hb]
  simp only [hc, hd]
theorem cmP_no {v v' : Nat → Int32} {A A' : Nat → Nat → Int32} {S : St} {g c : Nat} {w : Int32} (h : comeP v A S g c w v' A') (hw : w = 0) : stPut S g c = none := by
  rcases h.2.2 with q | ⟨_, _, e, _⟩
  · exact q.1
  · rw [hw] at e; exact absurd e (by decide)
theorem cmP_ok {v v' : Nat → Int32} {A A' : Nat → Nat → Int32} {S : St} {g c : Nat} {w : Int32} (h : comeP v A S g c w v' A') (hw : ¬ w = 0) : ∃ S', stPut S g c = some S' ∧ RC v' A' S' := by
  rcases h.2.2 with q | ⟨S', e, _, h⟩
  · exact absurd q.2 hw
  · exact ⟨S', e, h⟩
theorem ad_end {v v' : Nat → Int32} {A A' : Nat → Nat → Int32} {to : Nat} {σ : Sg} {ts : List TR} {S : St} (h : adI v A to σ (ts.take ts.length) S v' A') : adP v A to σ ts S 1 v' A' := by
  obtain ⟨hf, S', m', e, hR, _⟩ := h
  rw [List.take_length] at e
  exact ⟨hf, Or.inr ⟨S', by unfold addSol; rw [e]; rfl, rfl, hR⟩⟩
