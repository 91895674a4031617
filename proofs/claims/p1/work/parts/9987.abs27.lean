/-! All changes; a run on the cells. -/
noncomputable def cpN (P0 P : Pd) : Nat → Nat
  | 0 => 0
  | j + 1 => cpN P0 P j + ((cds (P0 j)).length + (cds (P j)).length)
theorem cpN_7 {P0 P : Pd} : cpN P0 P 7 = card P0 + card P := by
  rw [card_sum, card_sum]
  simp only [cpN]
  omega
theorem cpN_mono {P0 P : Pd} : ∀ d j, cpN P0 P j ≤ cpN P0 P (j + d)
  | 0, j => Nat.le_refl _
  | d + 1, j => Nat.le_trans (cpN_mono d j) (by show cpN P0 P (j + d) ≤ cpN P0 P (j + d) + _; omega)
theorem cpN_le {P0 P : Pd} (h0 : card P0 ≤ 120) (h1 : card P ≤ 120) {j : Nat} (hj : j < 7) : cpN P0 P j + ((cds (P0 j)).length + (cds (P j)).length) ≤ 240 := by
  have := cpN_mono (P0 := P0) (P := P) (7 - (j + 1)) (j + 1)
  rw [show j + 1 + (7 - (j + 1)) = 7 by omega, cpN_7] at this
  have e : cpN P0 P (j + 1) = cpN P0 P j + ((cds (P0 j)).length + (cds (P j)).length) := rfl
  omega
def cmJ (P0 P : Pd) (j : Nat) (L : List Cg) : Prop := srC L ∧ L.length ≤ cpN P0 P j ∧ ∀ g c b, (g, c, b) ∈ L ↔ g < j ∧ ((b = true ∧ P g c = true ∧ P0 g c = false) ∨ (b = false ∧ P g c = false ∧ P0 g c = true))
theorem cmJ_0 {P0 P : Pd} : cmJ P0 P 0 [] := ⟨List.Pairwise.nil, Nat.le_refl _, fun g c b => by simp⟩
theorem cmJ_next {P0 P : Pd} {j : Nat} {L M : List Cg} (h0 : okP P0) (h1 : okP P) (h : cmJ P0 P j L) (hm : mgR j (cds (P0 j)) (cds (P j)) (cds (P0 j)).length (cds (P j)).length M) : cmJ P0 P (j + 1) (L ++ M) := by
  have hM : ∀ g c b, (g, c, b) ∈ M ↔ g = j ∧ ((b = true ∧ P g c = true ∧ P0 g c = false) ∨ (b = false ∧ P g c = false ∧ P0 g c = true)) := by
    intro g c b
    constructor
    · intro q
      have e : g = j := hm.2.1 _ q
      subst e
      refine ⟨rfl, ?_⟩
      cases b with
      | true =>
        have := (hm.2.2.1 c).mp q
        rw [List.take_length, cds_mem (okP_g h1 g), cds_mem (okP_g h0 g)] at this
        exact Or.inl ⟨rfl, this.1, by simpa using this.2⟩
      | false =>
        have := (hm.2.2.2.1 c).mp q
        rw [List.take_length, cds_mem (okP_g h1 g), cds_mem (okP_g h0 g)] at this
        exact Or.inr ⟨rfl, by simpa using this.2, this.1⟩
    · rintro ⟨rfl, (⟨rfl, q1, q2⟩ | ⟨rfl, q1, q2⟩)⟩
      · refine (hm.2.2.1 c).mpr ?_
        rw [List.take_length, cds_mem (okP_g h1 g), cds_mem (okP_g h0 g)]
        exact ⟨q1, by simp [q2]⟩
      · refine (hm.2.2.2.1 c).mpr ?_
        rw [List.take_length, cds_mem (okP_g h1 g), cds_mem (okP_g h0 g)]
        exact ⟨q2, by simp [q1]⟩
  refine ⟨?_, ?_, fun g c b => ?_⟩
  · unfold srC
    rw [List.pairwise_append]
    refine ⟨h.1, hm.1, fun y hy z hz => Or.inl ?_⟩
    obtain ⟨g, c, b⟩ := y
    have e := hm.2.1 z hz
    have := ((h.2.2 g c b).mp hy).1
    show g < z.1
    omega
  · rw [List.length_append]
    have e : cpN P0 P (j + 1) = cpN P0 P j + ((cds (P0 j)).length + (cds (P j)).length) := rfl
    have h2 := h.2.1
    have h3 := hm.2.2.2.2.1
    omega
  · rw [List.mem_append, h.2.2, hM]
    constructor
    · rintro (q | q)
      · exact ⟨by omega, q.2⟩
      · exact ⟨by omega, q.2⟩
    · rintro ⟨q, r⟩
      by_cases e : g = j
      · exact Or.inr ⟨e, r⟩
      · exact Or.inl ⟨by omega, r⟩
def cpI (iv av : Nat → Nat → Int32) (P0 P : Pd) (j : Nat) (iv' av' : Nat → Nat → Int32) : Prop := FH iv av iv' av' ∧ ∃ L, cmJ P0 P j L ∧ CHc iv' av' L
def cpP (iv av : Nat → Nat → Int32) (P0 P : Pd) (iv' av' : Nat → Nat → Int32) : Prop := FH iv av iv' av' ∧ ∃ L, CHc iv' av' L ∧ L.length ≤ 240 ∧ okC L ∧ isCh P0 P L
theorem cp_end {iv av iv' av' : Nat → Nat → Int32} {S0 S : St} (h0 : okS S0) (h1 : okS S) (h : cpI iv av S0.1 S.1 7 iv' av') : cpP iv av S0.1 S.1 iv' av' := by
  obtain ⟨hf, L, hL, hc⟩ := h
  have hch : isCh S0.1 S.1 L := ⟨hL.1, fun g c b => by
    rw [hL.2.2]
    constructor
    · exact fun q => q.2
    · intro q
      refine ⟨?_, q⟩
      rcases q with q | q
      · exact (h1.1 g c q.2.1).1
      · exact (h0.1 g c q.2.2).1⟩
  refine ⟨hf, L, hc, ?_, fun y hy => ?_, hch⟩
  · have := hL.2.1
    rw [cpN_7] at this
    have := h0.2.1
    have := h1.2.1
    omega
  · obtain ⟨g, c, b⟩ := y
    rcases (hch.2 g c b).mp hy with q | q
    · exact h1.1 g c q.2.1
    · exact h0.1 g c q.2.2
/-- what a run leaves as it is -/
def FRn (iv av iv' av' : Nat → Nat → Int32) : Prop := iv' 0 5 = iv 0 5 ∧ (∀ k f, ((18 < k ∧ k ≠ 20 ∧ k < 41) ∨ 56 < k) → ¬ (61 ≤ k ∧ f = 7) → iv' k f = iv k f) ∧ ∀ k, ((18 < k ∧ k < 22) ∨ (28 < k ∧ k < 41) ∨ 56 < k) → av' k = av k
def QC (iv av : Nat → Nat → Int32) (Q : List Sq) : Prop := iv 0 5 = nI Q.length ∧ Q.length ≤ 12 ∧ ∀ i q, Q[i]? = some q → EC iv av i q ∧ okQ q
theorem EC.keptR {iv av iv' av' : Nat → Nat → Int32} {i : Nat} {q : Sq} (h : EC iv av i q) (hf : FRn iv av iv' av') : EC iv' av' i q := by
  unfold EC at h ⊢
  rw [hf.2.1 (61 + 6 * i) 3 (by omega) (by omega), hf.2.1 (61 + 6 * i) 4 (by omega) (by omega), hf.2.1 (61 + 6 * i) 5 (by omega) (by omega), hf.2.1 (61 + 6 * i) 6 (by omega) (by omega), hf.2.1 (61 + 6 * i + 1) 2 (by omega) (by omega), hf.2.1 (61 + 6 * i + 1) 1 (by omega) (by omega), hf.2.1 (61 + 6 * i + 4) 2 (by omega) (by omega), hf.2.1 (61 + 6 * i + 4) 1 (by omega) (by omega), hf.2.2 (61 + 6 * i + 1 + 1) (by omega), hf.2.2 (61 + 6 * i + 3) (by omega), hf.2.2 (61 + 6 * i + 4 + 1) (by omega)]
  exact h
theorem FLc.keptR {iv av iv' av' : Nat → Nat → Int32} {TN : Nat → Bool} {FL : Nat → List Nat} (h : FLc iv av TN FL) (hf : FRn iv av iv' av') : FLc iv' av' TN FL := by
  intro f hf4
  rw [hf.2.1 (29 + 3 * f + 1) 2 (by omega) (by omega), hf.2.1 (29 + 3 * f + 1) 1 (by omega) (by omega), hf.2.1 (29 + 3 * f) 1 (by omega) (by omega), hf.2.2 (29 + 3 * f + 1 + 1) (by omega)]
  exact h f hf4
theorem FRn_K {iv av iv1 av1 iv2 av2 : Nat → Nat → Int32} (h : FRn iv av iv1 av1) (hf : FK iv1 av1 iv2 av2) : FRn iv av iv2 av2 := ⟨(hf.1 0 5 (by omega) (by omega)).trans h.1, fun k f a b => (hf.1 k f (by omega) b).trans (h.2.1 k f a b), fun k a => (hf.2 k (by omega)).trans (h.2.2 k a)⟩
theorem GS_K {iv1 av1 iv2 av2 : Nat → Nat → Int32} {S : St} (h : GS iv1 av1 41 S) (hf : FK iv1 av1 iv2 av2) : GS iv2 av2 41 S := ⟨fun g hg => (h.1 g hg).kept (hf.1 _ _ (by omega) (by omega)) (hf.1 _ _ (by omega) (by omega)) (hf.2 _ (by omega)), (hf.1 41 1 (by omega) (by omega)).trans h.2⟩
theorem SC_GS {iv av : Nat → Nat → Int32} {S : St} (h : SC iv av S) : GS iv av 3 S := ⟨h.2.1, h.2.2⟩
def rk0 (iv av : Nat → Nat → Int32) (S : St) (iv' av' : Nat → Nat → Int32) : Prop := FRn iv av iv' av' ∧ GS iv' av' 41 S ∧ SC iv' av' S ∧ iv' 2 4 = 0
theorem rk0_0 {iv av iv1 av1 : Nat → Nat → Int32} {S : St} (hS : SC iv av S) (h : bkP 41 iv av S iv1 av1) : rk0 iv av S (u2 iv1 2 4 0) av1 := by
  refine ⟨⟨by rw [u2_k _ _ _ _ (by decide), h.2.1 0 5 (by omega)], fun k f a b => by rw [u2_k _ _ _ _ (by omega), h.2.1 k f (by omega)], fun k a => h.2.2 k (by omega)⟩, ⟨fun g hg => (h.1.1 g hg).kept (u2_k _ _ _ _ (by omega)) (u2_k _ _ _ _ (by omega)) rfl, by rw [u2_k _ _ _ _ (by decide)]; exact h.1.2⟩, ⟨hS.1, fun g hg => (hS.2.1 g hg).kept (by rw [u2_k _ _ _ _ (by omega), h.2.1 _ _ (by omega)]) (by rw [u2_k _ _ _ _ (by omega), h.2.1 _ _ (by omega)]) (h.2.2 _ (by omega)), by rw [u2_k _ _ _ _ (by decide), h.2.1 3 1 (by omega)]; exact hS.2.2⟩, u2_s _ _ _ _⟩
theorem rk0_7 {iv av iv1 av1 : Nat → Nat → Int32} {S : St} {i : Nat} {z : Int32} (h : rk0 iv av S iv1 av1) : rk0 iv av S (u2 iv1 (61 + 6 * i) 7 z) av1 := by
  refine ⟨⟨by rw [u2_k _ _ _ _ (by omega)]; exact h.1.1, fun k f a b => ?_, h.1.2.2⟩, ⟨fun g hg => (h.2.1.1 g hg).kept (u2_k _ _ _ _ (by omega)) (u2_k _ _ _ _ (by omega)) rfl, by rw [u2_k _ _ _ _ (by omega)]; exact h.2.1.2⟩, ⟨h.2.2.1.1, fun g hg => (h.2.2.1.2.1 g hg).kept (u2_k _ _ _ _ (by omega)) (u2_k _ _ _ _ (by omega)) rfl, by rw [u2_k _ _ _ _ (by omega)]; exact h.2.2.1.2.2⟩, by rw [u2_k _ _ _ _ (by omega)]; exact h.2.2.2⟩
  by_cases q : k = 61 + 6 * i
  · subst q
    rw [u2_f _ _ _ (fun r => b ⟨by omega, r⟩)]
    exact h.1.2.1 _ f a b
  · rw [u2_k _ _ _ _ q]; exact h.1.2.1 k f a b
def rk1 (TN : Nat → Bool) (FL : Nat → List Nat) (iv av : Nat → Nat → Int32) (S : St) (Q : List Sq) (j : Nat) (iv' av' : Nat → Nat → Int32) : Prop := FRn iv av iv' av' ∧ GS iv' av' 41 S ∧ ∃ S' w', aRun TN FL (Q.take j) 0 S 0 = .inr (S', w') ∧ SC iv' av' S' ∧ iv' 2 4 = nI w'
theorem rk1_0 {TN : Nat → Bool} {FL : Nat → List Nat} {iv av iv1 av1 : Nat → Nat → Int32} {S : St} {Q : List Sq} (h : rk0 iv av S iv1 av1) : rk1 TN FL iv av S Q 0 iv1 av1 := ⟨h.1, h.2.1, S, 0, by rw [List.take_zero]; rfl, h.2.2.1, h.2.2.2⟩
theorem rk1_next {TN : Nat → Bool} {FL : Nat → List Nat} {iv av iv1 av1 iv2 av2 : Nat → Nat → Int32} {S S' : St} {Q : List Sq} {j w' : Nat} {q : Sq} {w : Int32} (hj : Q[j]? = some q) (hF : FRn iv av iv1 av1) (hB : GS iv1 av1 41 S) (e : aRun TN FL (Q.take j) 0 S 0 = .inr (S', w')) (hw : iv1 2 4 = nI w') (h : AC iv1 av1 (aAct TN FL q S') w iv2 av2) (hz : (aAct TN FL q S').1 = 0 ∨ (q.2.2.2.1 = true ∧ (aAct TN FL q S').1 < 4)) : rk1 TN FL iv av S Q (j + 1) iv2 av2 := by
  have h4 : (aAct TN FL q S').1 < 4 := by rcases hz with r | r <;> omega
  refine ⟨FRn_K hF h.2.1, GS_K hB h.2.1, _, _, by rw [aRun_step hj e, if_pos hz], (h.2.2 h4).1, ?_⟩
  rw [(h.2.2 h4).2, hw, nI_add]
def rcP (TN : Nat → Bool) (FL : Nat → List Nat) (iv av : Nat → Nat → Int32) (S : St) (Q : List Sq) (w : Int32) (iv' av' : Nat → Nat → Int32) : Prop :=
  iv' 0 5 = iv 0 5 ∧ (∀ k f, ((18 < k ∧ k ≠ 20 ∧ k < 41) ∨ 60 < k) → ¬ (61 ≤ k ∧ f = 7) → iv' k f = iv k f) ∧ (∀ k, ((28 < k ∧ k < 41) ∨ 60 < k) → av' k = av k) ∧
  (∀ i rs, aRun TN FL Q 0 S 0 = .inl (i, rs) → w = (-1) - nI rs ∧ iv' 0 6 = nI i ∧ iv' 0 7 = 0 ∧ SC iv' av' S ∧ iv' 57 3 = iv 57 3 ∧ ∀ k, 58 ≤ k → k ≤ 60 → av' k = av k) ∧
  (∀ S' wk', aRun TN FL Q 0 S 0 = .inr (S', wk') → iv' 0 6 = -1 ∧ iv' 0 7 = nI wk' ∧ SC iv' av' S' ∧ ∃ L, w = nI L.length ∧ CHc iv' av' L ∧ L.length ≤ 240 ∧ okC L ∧ isCh S.1 S'.1 L)
theorem rk_fail {TN : Nat → Bool} {FL : Nat → List Nat} {iv av iv1 av1 iv2 av2 iv3 av3 : Nat → Nat → Int32} {S S' : St} {Q : List Sq} {j w' : Nat} {q : Sq} {w : Int32} (hS : okS S) (hj : Q[j]? = some q) (hF : FRn iv av iv1 av1) (e : aRun TN FL (Q.take j) 0 S 0 = .inr (S', w')) (h : AC iv1 av1 (aAct TN FL q S') w iv2 av2) (hz : ¬ ((aAct TN FL q S').1 = 0 ∨ (q.2.2.2.1 = true ∧ (aAct TN FL q S').1 < 4))) (hb : bkP 3 iv2 av2 S iv3 av3) : rcP TN FL iv av S Q ((-1) - w) (u2 (u2 iv3 0 6 (nI j)) 0 7 0) av3 := by
  have hr : aRun TN FL Q 0 S 0 = .inl (j, (aAct TN FL q S').1) := aRun_fail (j := j + 1) (by rw [aRun_step hj e, if_neg hz])
  have hF2 := FRn_K hF h.2.1
  have ev : ∀ k f, k ≠ 0 → (k < 3 ∨ 18 < k) → (u2 (u2 iv3 0 6 (nI j)) 0 7 0) k f = iv2 k f := fun k f a b => by rw [u2_k _ _ _ _ a, u2_k _ _ _ _ a, hb.2.1 k f (by omega)]
  refine ⟨by rw [u2_f _ _ _ (by decide), u2_f _ _ _ (by decide), hb.2.1 0 5 (by omega)]; exact hF2.1, fun k f a b => (ev k f (by omega) (by omega)).trans (hF2.2.1 k f (by omega) b), fun k a => (hb.2.2 k (by omega)).trans (hF2.2.2 k (by omega)), fun i rs hi => ?_, fun S2 w2 hi => by rw [hr] at hi; cases hi⟩
  rw [hr] at hi
  cases hi
  refine ⟨by rw [h.1], by rw [u2_f _ _ _ (by decide), u2_s], u2_s _ _ _ _, ⟨hS, fun g hg => (hb.1.1 g hg).kept (by rw [u2_k _ _ _ _ (by omega), u2_k _ _ _ _ (by omega)]) (by rw [u2_k _ _ _ _ (by omega), u2_k _ _ _ _ (by omega)]) rfl, by rw [u2_k _ _ _ _ (by decide), u2_k _ _ _ _ (by decide)]; exact hb.1.2⟩, (ev 57 3 (by decide) (by omega)).trans (hF2.2.1 57 3 (by omega) (by omega)), fun k h1 h2 => (hb.2.2 k (by omega)).trans (hF2.2.2 k (by omega))⟩
theorem rk_end {TN : Nat → Bool} {FL : Nat → List Nat} {iv av iv1 av1 iv2 av2 : Nat → Nat → Int32} {S S' : St} {Q : List Sq} {w' : Nat} {z : Int32} (hF : FRn iv av iv1 av1) (e : aRun TN FL (Q.take Q.length) 0 S 0 = .inr (S', w')) (hS : SC iv1 av1 S') (hz : z = nI w') (h : cpP (u2 (u2 iv1 0 6 (-1)) 0 7 z) av1 S.1 S'.1 iv2 av2) : rcP TN FL iv av S Q (iv2 57 3) iv2 av2 := by
  rw [List.take_length] at e
  obtain ⟨hf, L, a1, a2, a3, a4⟩ := h
  have ev : ∀ k f, k ≠ 0 → k ≠ 57 → iv2 k f = iv1 k f := fun k f a b => by rw [hf.1 k f b, u2_k _ _ _ _ a, u2_k _ _ _ _ a]
  refine ⟨by rw [hf.1 0 5 (by decide), u2_f _ _ _ (by decide), u2_f _ _ _ (by decide)]; exact hF.1, fun k f a b => (ev k f (by omega) (by omega)).trans (hF.2.1 k f (by omega) b), fun k a => (hf.2 k (by omega)).trans (hF.2.2 k (by omega)), fun i rs hi => (by rw [e] at hi; cases hi), fun S2 w2 hi => ?_⟩
  rw [e] at hi
  cases hi
  exact ⟨by rw [hf.1 0 6 (by decide), u2_f _ _ _ (by decide), u2_s], by rw [hf.1 0 7 (by decide), u2_s]; exact hz, ⟨hS.1, fun g hg => (hS.2.1 g hg).kept (ev _ _ (by omega) (by omega)) (ev _ _ (by omega) (by omega)) (hf.2 _ (by omega)), (ev 3 1 (by decide) (by decide)).trans hS.2.2⟩, L, a1.1, a1, a2, a3, a4⟩
theorem pov_z {a : Nat} {s : Bool} (h : ¬ (s && decide (a ≤ 3)) = true) (h0 : ¬ a = 0) : ¬ (a = 0 ∨ (s = true ∧ a < 4)) := by
  rintro (q | q)
  · exact h0 q
  · exact h (by simp [q.1]; omega)
theorem pov_y {a : Nat} {s : Bool} (h : (s && decide (a ≤ 3)) = true) : s = true ∧ a < 4 := by
  simp at h; exact ⟨h.1, by omega⟩
