/-! All changes of a run noted, in the reference; a run step by step. -/
def naM1 (P0 : Pd) (f : Nat → Nat × Nat) (j : Nat) (y : Cg) : Prop := ∃ i, i < j ∧ y = ((f i).1, (f i).2, true) ∧ P0 (f i).1 (f i).2 = false
def naM2 (P0 P : Pd) (n : Nat) (f f0 : Nat → Nat × Nat) (j : Nat) (y : Cg) : Prop := naM1 P0 f n y ∨ ∃ i, i < j ∧ y = ((f0 i).1, (f0 i).2, false) ∧ P (f0 i).1 (f0 i).2 = false
theorem naM1_skip {P0 : Pd} {f : Nat → Nat × Nat} {j : Nat} (h : P0 (f j).1 (f j).2 = true) (y : Cg) : naM1 P0 f j y ↔ naM1 P0 f (j + 1) y := by
  constructor
  · rintro ⟨i, hi, r⟩; exact ⟨i, by omega, r⟩
  · rintro ⟨i, hi, r⟩
    refine ⟨i, ?_, r⟩
    by_cases e : i = j
    · rw [e, h] at r; cases r.2
    · omega
theorem naM1_add {P0 : Pd} {f : Nat → Nat × Nat} {j : Nat} (h : P0 (f j).1 (f j).2 = false) (y : Cg) : naM1 P0 f (j + 1) y ↔ naM1 P0 f j y ∨ y = ((f j).1, (f j).2, true) := by
  constructor
  · rintro ⟨i, hi, r⟩
    by_cases e : i = j
    · rw [e] at r; exact Or.inr r.1
    · exact Or.inl ⟨i, by omega, r⟩
  · rintro (⟨i, hi, r⟩ | r)
    · exact ⟨i, by omega, r⟩
    · exact ⟨j, by omega, r, h⟩
theorem naM2_skip {P0 P : Pd} {n : Nat} {f f0 : Nat → Nat × Nat} {j : Nat} (h : P (f0 j).1 (f0 j).2 = true) (y : Cg) : naM2 P0 P n f f0 j y ↔ naM2 P0 P n f f0 (j + 1) y := by
  unfold naM2
  constructor
  · rintro (r | ⟨i, hi, r⟩)
    · exact Or.inl r
    · exact Or.inr ⟨i, by omega, r⟩
  · rintro (r | ⟨i, hi, r⟩)
    · exact Or.inl r
    · refine Or.inr ⟨i, ?_, r⟩
      by_cases e : i = j
      · rw [e, h] at r; cases r.2
      · omega
theorem naM2_add {P0 P : Pd} {n : Nat} {f f0 : Nat → Nat × Nat} {j : Nat} (h : P (f0 j).1 (f0 j).2 = false) (y : Cg) : naM2 P0 P n f f0 (j + 1) y ↔ naM2 P0 P n f f0 j y ∨ y = ((f0 j).1, (f0 j).2, false) := by
  unfold naM2
  constructor
  · rintro (r | ⟨i, hi, r⟩)
    · exact Or.inl (Or.inl r)
    · by_cases e : i = j
      · rw [e] at r; exact Or.inr r.1
      · exact Or.inl (Or.inr ⟨i, by omega, r⟩)
  · rintro ((r | ⟨i, hi, r⟩) | r)
    · exact Or.inl r
    · exact Or.inr ⟨i, by omega, r⟩
    · exact Or.inr ⟨j, by omega, r, h⟩
theorem naM1_new {v : Nat → Int32} {A : Nat → Nat → Int32} {S : St} {P0 : Pd} {n : Nat} {f : Nat → Nat × Nat} {j : Nat} (hL : RLs v A S n f) (hj : j < n) {L : List Cg} (h : ∀ y, y ∈ L ↔ naM1 P0 f j y) : ∀ y ∈ L, ¬ (y.1 = (f j).1 ∧ y.2.1 = (f j).2) := by
  intro y hy q
  obtain ⟨i, hi, r, _⟩ := (h y).mp hy
  rw [r] at q
  have := hL.2.1 i j (by omega) hj (Prod.ext q.1 q.2)
  omega
theorem naM2_new {v : Nat → Int32} {A : Nat → Nat → Int32} {S S0 : St} {n n0 : Nat} {f f0 : Nat → Nat × Nat} {j : Nat} (hL : RLs v A S n f) (hO : OLs v A S0 n0 f0) (hj : j < n0) (hf : S.1 (f0 j).1 (f0 j).2 = false) {L : List Cg} (h : ∀ y, y ∈ L ↔ naM2 S0.1 S.1 n f f0 j y) : ∀ y ∈ L, ¬ (y.1 = (f0 j).1 ∧ y.2.1 = (f0 j).2) := by
  intro y hy q
  rcases (h y).mp hy with ⟨i, hi, r, _⟩ | ⟨i, hi, r, _⟩
  · rw [r] at q
    have := (hL.2.2.1 (f0 j).1 (f0 j).2).mpr ⟨i, hi, Prod.ext q.1 q.2⟩
    rw [hf] at this; cases this
  · rw [r] at q
    have := hO.2.1 i j (by omega) hj (Prod.ext q.1 q.2)
    omega
def naP (v : Nat → Int32) (A : Nat → Nat → Int32) (P0 P : Pd) (v' : Nat → Int32) (A' : Nat → Nat → Int32) : Prop := FN v A v' A' ∧ ∃ L, v' 34 = nI L.length ∧ L.length ≤ 240 ∧ chR A' L ∧ okC L ∧ isCh P0 P L
theorem na_end {v v' : Nat → Int32} {A A' : Nat → Nat → Int32} {S S0 : St} {n n0 : Nat} {f f0 : Nat → Nat × Nat} (ho : okS S) (ho0 : okS S0) (hL : RLs v A S n f) (hO : OLs v A S0 n0 f0) (h : naI v A (naM2 S0.1 S.1 n f f0 n0) (n + n0) v' A') : naP v A S0.1 S.1 v' A' := by
  have h1 := (RL_n hL ho).2
  have h2 := OL_n hO ho0
  obtain ⟨hf, L, a1, a2, a3, a4, a5, a6⟩ := h
  refine ⟨hf, L, a1, by omega, a3, a5, a4, fun g c b => ?_⟩
  rw [a6]
  constructor
  · rintro (⟨i, hi, r, r2⟩ | ⟨i, hi, r, r2⟩)
    · cases r
      exact Or.inl ⟨rfl, (hL.2.2.1 _ _).mpr ⟨i, hi, rfl⟩, r2⟩
    · cases r
      exact Or.inr ⟨rfl, r2, (hO.2.2.1 _ _).mpr ⟨i, hi, rfl⟩⟩
  · rintro (⟨rfl, q1, q2⟩ | ⟨rfl, q1, q2⟩)
    · obtain ⟨i, hi, e⟩ := (hL.2.2.1 g c).mp q1
      exact Or.inl ⟨i, hi, by rw [e], by rw [e]; exact q2⟩
    · obtain ⟨i, hi, e⟩ := (hO.2.2.1 g c).mp q2
      exact Or.inr ⟨i, hi, by rw [e], by rw [e]; exact q1⟩
theorem RLs.FN {v v' : Nat → Int32} {A A' : Nat → Nat → Int32} {S : St} {n : Nat} {f : Nat → Nat × Nat} (h : RLs v A S n f) (hf : FN v A v' A') : RLs v' A' S n f := by
  unfold RLs at h ⊢
  rw [hf.1 20 (by decide), hf.1 26 (by decide), hf.2 19 (by decide), hf.2 20 (by decide), hf.2 21 (by decide), hf.2 22 (by decide), hf.2 23 (by decide)]
  exact h
theorem OLs.FN {v v' : Nat → Int32} {A A' : Nat → Nat → Int32} {S : St} {n : Nat} {f : Nat → Nat × Nat} (h : OLs v A S n f) (hf : FN v A v' A') : OLs v' A' S n f := by
  unfold OLs at h ⊢
  rw [hf.1 27 (by decide), hf.1 33 (by decide), hf.2 24 (by decide), hf.2 25 (by decide), hf.2 26 (by decide), hf.2 27 (by decide), hf.2 28 (by decide)]
  exact h
theorem find_neg {v : Nat → Int32} {A : Nat → Nat → Int32} {S : St} {n : Nat} {f : Nat → Nat × Nat} (h : RLs v A S n f) (ho : okS S) {g c : Nat} (hg : g < 7) (hc : okc c) : (¬ 0 ≤ fX9_find v A (nI g) (nI (pt c 0)) (nI (pt c 1)) (nI (pt c 2)) → S.1 g c = false) ∧ (0 ≤ fX9_find v A (nI g) (nI (pt c 0)) (nI (pt c 1)) (nI (pt c 2)) → S.1 g c = true) := by
  have hn := (RL_n h ho).2
  rcases find_s h ho hg hc with ⟨hf, e⟩ | ⟨j, hj, _, hf, e⟩
  · rw [e]; exact ⟨fun _ => hf, fun q => absurd q (by decide)⟩
  · rw [e]; exact ⟨fun q => absurd (nI_pos' (by omega)) q, fun _ => hf⟩
/-- the sequence, as the reference holds it -/
def QR (v : Nat → Int32) (A : Nat → Nat → Int32) (Q : List Sq) : Prop := v 1 = nI Q.length ∧ Q.length ≤ 12 ∧ ∀ i q, Q[i]? = some q → ER A i q ∧ okQ q
theorem aRun_append (TN : Nat → Bool) (FL : Nat → List Nat) : ∀ (l l' : List Sq) (i : Nat) (S : St) (w : Nat), aRun TN FL (l ++ l') i S w = (match aRun TN FL l i S w with
    | .inl a => .inl a
    | .inr a => aRun TN FL l' (i + l.length) a.1 a.2)
  | [], l', i, S, w => rfl
  | q :: qs, l', i, S, w => by
    rw [List.cons_append, aRun, aRun]
    split
    · rw [aRun_append TN FL qs l' (i + 1), List.length_cons, show i + 1 + qs.length = i + (qs.length + 1) by omega]
    · rfl
theorem aRun_step {TN : Nat → Bool} {FL : Nat → List Nat} {Q : List Sq} {j : Nat} {q : Sq} {S S' : St} {w' : Nat} (hj : Q[j]? = some q) (e : aRun TN FL (Q.take j) 0 S 0 = .inr (S', w')) : aRun TN FL (Q.take (j + 1)) 0 S 0 = (if (aAct TN FL q S').1 = 0 ∨ (q.2.2.2.1 = true ∧ (aAct TN FL q S').1 < 4) then .inr ((aAct TN FL q S').2.1, w' + (aAct TN FL q S').2.2) else .inl (j, (aAct TN FL q S').1)) := by
  have hl := (List.getElem?_eq_some_iff.mp hj).1
  rw [List.take_succ, hj, aRun_append, e]
  show aRun TN FL [q] (0 + (Q.take j).length) S' w' = _
  rw [List.length_take, Nat.min_eq_left (by omega), Nat.zero_add]
  simp only [aRun]
theorem aRun_fail {TN : Nat → Bool} {FL : Nat → List Nat} {Q : List Sq} {j : Nat} {S : St} {a : Nat × Nat} (h : aRun TN FL (Q.take j) 0 S 0 = .inl a) : aRun TN FL Q 0 S 0 = .inl a := by
  rw [← List.take_append_drop j Q, aRun_append, h]
/-- all but what steps change -/
def rnF (v : Nat → Int32) (A : Nat → Nat → Int32) (v' : Nat → Int32) (A' : Nat → Nat → Int32) : Prop := v' 0 = 0 ∧ v' 1 = v 1 ∧ v' 34 = v 34 ∧ (∀ q, q < 19 ∨ (29 ≤ q ∧ q ≤ 33) → A' q = A q)
def rn0 (v : Nat → Int32) (A : Nat → Nat → Int32) (S : St) (v' : Nat → Int32) (A' : Nat → Nat → Int32) : Prop := rnF v A v' A' ∧ v' 42 = -1 ∧ v' 41 = 0 ∧ RC v' A' S ∧ OC v' A' S
def rn1 (TN : Nat → Bool) (FL : Nat → List Nat) (v : Nat → Int32) (A : Nat → Nat → Int32) (S : St) (Q : List Sq) (j : Nat) (v' : Nat → Int32) (A' : Nat → Nat → Int32) : Prop := rnF v A v' A' ∧ v' 42 = -1 ∧ OC v' A' S ∧ ∃ S' w', aRun TN FL (Q.take j) 0 S 0 = .inr (S', w') ∧ RC v' A' S' ∧ v' 41 = nI w'
def rnP (TN : Nat → Bool) (FL : Nat → List Nat) (v : Nat → Int32) (A : Nat → Nat → Int32) (S : St) (Q : List Sq) (w : Int32) (v' : Nat → Int32) (A' : Nat → Nat → Int32) : Prop :=
  v' 0 = 0 ∧ v' 1 = v 1 ∧ (∀ q, q < 19 → A' q = A q) ∧
  (∀ i rs, aRun TN FL Q 0 S 0 = .inl (i, rs) → w = (-1) - nI rs ∧ v' 42 = nI i ∧ v' 41 = 0 ∧ RC v' A' S ∧ v' 34 = v 34 ∧ ∀ q, 29 ≤ q → q ≤ 33 → A' q = A q) ∧
  (∀ S' wk', aRun TN FL Q 0 S 0 = .inr (S', wk') → v' 42 = -1 ∧ v' 41 = nI wk' ∧ RC v' A' S' ∧ ∃ L, w = nI L.length ∧ v' 34 = nI L.length ∧ L.length ≤ 240 ∧ chR A' L ∧ okC L ∧ isCh S.1 S'.1 L)
theorem rn0_0 {v v1 : Nat → Int32} {A A1 : Nat → Nat → Int32} {S : St} (hR : RC v A S) (h : keP (upd v 0 0) A S v1 A1) : rn0 v A S (upd (upd v1 41 0) 42 (-1)) A1 := by
  have e : ∀ k, k ≠ 27 → k ≠ 33 → k ≠ 41 → k ≠ 42 → (upd (upd v1 41 0) 42 (-1)) k = (upd v 0 0) k := fun k a b c d => by rw [← h.1 k a b]; simp [upd, c, d]
  refine ⟨⟨by rw [e 0 (by decide) (by decide) (by decide) (by decide)]; simp [upd], by rw [e 1 (by decide) (by decide) (by decide) (by decide)]; simp [upd], by rw [e 34 (by decide) (by decide) (by decide) (by decide)]; simp [upd], fun q hq => h.2.1 q (by omega)⟩, by simp [upd], by simp [upd], ?_, ?_⟩
  · exact RC_v hR (by rw [e 20 (by decide) (by decide) (by decide) (by decide)]; simp [upd]) (by rw [e 26 (by decide) (by decide) (by decide) (by decide)]; simp [upd]) (fun q _ h2 => h.2.1 q (by omega))
  · exact h.2.2.kept (by simp [upd]) (by simp [upd]) (fun _ _ _ => rfl)
theorem rn0_34 {v v1 : Nat → Int32} {A A1 : Nat → Nat → Int32} {S : St} {g : Nat → Int32} (h : rn0 v A S v1 A1) : rn0 v A S v1 (u1 A1 34 g) := by
  have e : ∀ q, q ≠ 34 → u1 A1 34 g q = A1 q := fun q hq => by simp [u1, hq]
  exact ⟨⟨h.1.1, h.1.2.1, h.1.2.2.1, fun q hq => (e q (by omega)).trans (h.1.2.2.2 q hq)⟩, h.2.1, h.2.2.1, RC_made h.2.2.2.1 (by decide), h.2.2.2.2.kept rfl rfl (fun q _ h2 => e q (by omega))⟩
theorem rn1_0 {TN : Nat → Bool} {FL : Nat → List Nat} {v v1 : Nat → Int32} {A A1 : Nat → Nat → Int32} {S : St} {Q : List Sq} (h : rn0 v A S v1 A1) : rn1 TN FL v A S Q 0 v1 A1 :=
  ⟨h.1, h.2.1, h.2.2.2.2, S, 0, by rw [List.take_zero]; rfl, h.2.2.2.1, h.2.2.1⟩
theorem rn1_F {v v1 v2 : Nat → Int32} {A A1 A2 : Nat → Nat → Int32} (h : rnF v A v1 A1) (hf : FS v1 A1 v2 A2) : rnF v A v2 A2 :=
  ⟨(hf.1 0 (by decide) (by decide) (by decide) (by decide) (by decide) (by decide)).trans h.1, (hf.1 1 (by decide) (by decide) (by decide) (by decide) (by decide) (by decide)).trans h.2.1, (hf.1 34 (by decide) (by decide) (by decide) (by decide) (by decide) (by decide)).trans h.2.2.1, fun q hq => (hf.2 q (by omega)).trans (h.2.2.2 q hq)⟩
theorem rn1_O {v1 v2 : Nat → Int32} {A1 A2 : Nat → Nat → Int32} {S : St} (h : OC v1 A1 S) (hf : FS v1 A1 v2 A2) : OC v2 A2 S :=
  h.kept (hf.1 27 (by decide) (by decide) (by decide) (by decide) (by decide) (by decide)) (hf.1 33 (by decide) (by decide) (by decide) (by decide) (by decide) (by decide)) (fun q h1 h2 => hf.2 q (by omega))
theorem rn1_next {TN : Nat → Bool} {FL : Nat → List Nat} {v v1 v2 : Nat → Int32} {A A1 A2 : Nat → Nat → Int32} {S S' : St} {Q : List Sq} {j w' : Nat} {q : Sq} {w : Int32} (hj : Q[j]? = some q) (hF : rnF v A v1 A1) (h42 : v1 42 = -1) (hO : OC v1 A1 S) (e : aRun TN FL (Q.take j) 0 S 0 = .inr (S', w')) (h41 : v1 41 = nI w') (h : AR v1 A1 (aAct TN FL q S') w v2 A2) (hz : (aAct TN FL q S').1 = 0 ∨ (q.2.2.2.1 = true ∧ (aAct TN FL q S').1 < 4)) : rn1 TN FL v A S Q (j + 1) v2 A2 := by
  have h4 : (aAct TN FL q S').1 < 4 := by rcases hz with r | r <;> omega
  refine ⟨rn1_F hF h.2.1, (h.2.1.1 42 (by decide) (by decide) (by decide) (by decide) (by decide) (by decide)).trans h42, rn1_O hO h.2.1, _, _, by rw [aRun_step hj e, if_pos hz], (h.2.2 h4).1, ?_⟩
  rw [(h.2.2 h4).2, h41, nI_add]
theorem rn_fail {TN : Nat → Bool} {FL : Nat → List Nat} {v v1 v2 v3 : Nat → Int32} {A A1 A2 A3 : Nat → Nat → Int32} {S S' : St} {Q : List Sq} {j w' : Nat} {q : Sq} {w : Int32} (hj : Q[j]? = some q) (hF : rnF v A v1 A1) (e : aRun TN FL (Q.take j) 0 S 0 = .inr (S', w')) (h : AR v1 A1 (aAct TN FL q S') w v2 A2) (hz : ¬ ((aAct TN FL q S').1 = 0 ∨ (q.2.2.2.1 = true ∧ (aAct TN FL q S').1 < 4))) (hb : gbP v2 A2 S v3 A3) : rnP TN FL v A S Q ((-1) - w) (upd (upd v3 42 (nI j)) 41 0) A3 := by
  have hr : aRun TN FL Q 0 S 0 = .inl (j, (aAct TN FL q S').1) := aRun_fail (j := j + 1) (by rw [aRun_step hj e, if_neg hz])
  have hF2 := rn1_F hF h.2.1
  have ev : ∀ k, k ≠ 20 → k ≠ 26 → k ≠ 41 → k ≠ 42 → (upd (upd v3 42 (nI j)) 41 0) k = v2 k := fun k a b c d => by rw [← hb.1 k a b]; simp [upd, c, d]
  refine ⟨by rw [ev 0 (by decide) (by decide) (by decide) (by decide)]; exact hF2.1, by rw [ev 1 (by decide) (by decide) (by decide) (by decide)]; exact hF2.2.1, fun q hq => (hb.2.1 q (by omega)).trans (hF2.2.2.2 q (by omega)), fun i rs hi => ?_, fun S2 w2 hi => by rw [hr] at hi; cases hi⟩
  rw [hr] at hi
  cases hi
  exact ⟨by rw [h.1], by simp [upd], by simp [upd], RC_v hb.2.2 (by simp [upd]) (by simp [upd]) (fun _ _ _ => rfl), by rw [ev 34 (by decide) (by decide) (by decide) (by decide)]; exact hF2.2.2.1, fun q h1 h2 => (hb.2.1 q (by omega)).trans (hF2.2.2.2 q (by omega))⟩
theorem rn_end {TN : Nat → Bool} {FL : Nat → List Nat} {v v1 v2 : Nat → Int32} {A A1 A2 : Nat → Nat → Int32} {S S' : St} {Q : List Sq} {w' : Nat} (hF : rnF v A v1 A1) (h42 : v1 42 = -1) (e : aRun TN FL (Q.take Q.length) 0 S 0 = .inr (S', w')) (hR : RC v1 A1 S') (h41 : v1 41 = nI w') (h : naP v1 A1 S.1 S'.1 v2 A2) : rnP TN FL v A S Q (v2 34) v2 A2 := by
  rw [List.take_length] at e
  obtain ⟨hf, L, a1, a2, a3, a4, a5⟩ := h
  refine ⟨(hf.1 0 (by decide)).trans hF.1, (hf.1 1 (by decide)).trans hF.2.1, fun q hq => (hf.2 q (by omega)).trans (hF.2.2.2 q (by omega)), fun i rs hi => (by rw [e] at hi; cases hi), fun S2 w2 hi => ?_⟩
  rw [e] at hi
  cases hi
  exact ⟨(hf.1 42 (by decide)).trans h42, (hf.1 41 (by decide)).trans h41, RC_v hR (hf.1 20 (by decide)) (hf.1 26 (by decide)) (fun q _ h2 => hf.2 q (by omega)), L, a1, a1, a2, a3, a4, a5⟩
theorem aAct_le {TN : Nat → Bool} {FL : Nat → List Nat} {q : Sq} {S : St} : (aAct TN FL q S).1 ≤ 5 := by
  unfold aAct aRew aWipe aMake aRead aBring
  dsimp only
  repeat' split
  all_goals first | decide | (show _ ≤ _; simp)
