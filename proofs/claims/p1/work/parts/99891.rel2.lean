/-! step, silent, clear on both. -/
theorem EC.cells {iv av iv' av' : Nat → Nat → Int32} {i : Nat} {q : Sq} (h : EC iv av i q) (h0 : ∀ f, f ≠ 7 → iv' (61 + 6 * i) f = iv (61 + 6 * i) f) (h1 : ∀ f, iv' (61 + 6 * i + 1) f = iv (61 + 6 * i + 1) f) (h4 : ∀ f, iv' (61 + 6 * i + 4) f = iv (61 + 6 * i + 4) f) (a2 : av' (61 + 6 * i + 1 + 1) = av (61 + 6 * i + 1 + 1)) (a3 : av' (61 + 6 * i + 3) = av (61 + 6 * i + 3)) (a5 : av' (61 + 6 * i + 4 + 1) = av (61 + 6 * i + 4 + 1)) : EC iv' av' i q := by
  unfold EC at h ⊢
  rw [h0 3 (by decide), h0 4 (by decide), h0 5 (by decide), h0 6 (by decide), h1 2, h1 1, h4 2, h4 1, a2, a3, a5]
  exact h
theorem begin_s (iv av : Nat → Nat → Int32) (k : Nat) (a b c : Int32) : (fX5_begin iv av k a b c).2 = av ∧ (∀ q f, q ≠ k → q ≠ k + 1 → q ≠ k + 4 → (fX5_begin iv av k a b c).1 q f = iv q f) ∧ (fX5_begin iv av k a b c).1 k 3 = a ∧ (fX5_begin iv av k a b c).1 k 4 = b ∧ (fX5_begin iv av k a b c).1 k 5 = c ∧ (fX5_begin iv av k a b c).1 k 6 = 0 ∧ (fX5_begin iv av k a b c).1 (k + 1) 2 = 0 ∧ (fX5_begin iv av k a b c).1 (k + 1) 1 = iv (k + 1) 1 ∧ (fX5_begin iv av k a b c).1 (k + 4) 2 = 0 ∧ (fX5_begin iv av k a b c).1 (k + 4) 1 = iv (k + 4) 1 := by
  refine ⟨rfl, fun q f h1 h2 h3 => ?_, ?_, ?_, ?_, ?_, ?_, ?_, ?_, ?_⟩
  · simp [fX5_begin, u2, h1, h2, h3]
  all_goals simp [fX5_begin, u2]
theorem nn_i {t : Int32} (h : 0 ≤ t.toInt) : (nn t : Int) = t.toInt := by
  obtain ⟨j, hj, e⟩ := nI_of (x := t) (fun q => by rw [Int32.lt_iff_toInt_lt] at q; have : (0 : Int32).toInt = 0 := rfl; omega)
  unfold nn
  rw [e, nI_clamp hj, nI_toInt hj]
def eS (a b c : Int32) : Sq := (nn a, if a.toInt = 2 ∨ 6 ≤ a.toInt then nn b else 0, c, false, [], [])
theorem okQ_new {a b c : Int32} (h : vS a.toInt b.toInt c.toInt) : okQ (eS a b c) := by
  obtain ⟨h1, h2, h3, h4⟩ := h
  have ha := nn_i h1.1
  refine ⟨by show nn a ≤ 9; omega, ?_, ?_, ?_, ?_, fun t ht => by simp [eS] at ht, fun _ t ht => by simp [eS] at ht, fun _ t ht => by simp [eS] at ht, by show ([] : List TR).length ≤ 6; decide, fun t ht => by simp [eS] at ht, by show ([] : List Rw).length ≤ 4; decide, fun _ => rfl⟩
  · show (if a.toInt = 2 ∨ 6 ≤ a.toInt then nn b else 0) < 7
    split
    · rename_i q
      have hb := h2 q
      have := nn_i hb.1
      split at hb <;> omega
    · omega
  · intro q
    have q : nn a = 9 := q
    show (if a.toInt = 2 ∨ 6 ≤ a.toInt then nn b else 0) < 4
    rw [if_pos (Or.inr (by omega))]
    have hb := h2 (Or.inr (by omega))
    rw [if_pos (by omega)] at hb
    have := nn_i hb.1
    omega
  · intro q
    have q : nn a = 3 ∨ nn a = 5 := q
    exact h3 (by omega)
  · intro q
    have q : ¬ (nn a = 3 ∨ nn a = 5) := q
    have := h4 (by omega)
    show 0 ≤ c.toInt ∧ c.toInt ≤ 6
    split at this <;> omega
theorem get_new {Q : List Sq} {e q : Sq} {i : Nat} (h : (Q ++ [e])[i]? = some q) : (i < Q.length ∧ Q[i]? = some q) ∨ (i = Q.length ∧ q = e) := by
  rw [List.getElem?_append] at h
  split at h
  · exact Or.inl ⟨by assumption, h⟩
  · have hlt := (List.getElem?_eq_some_iff.mp h).1
    have e1 : i = Q.length := by simp at hlt; omega
    subst e1
    simp at h
    exact Or.inr ⟨rfl, h.symm⟩
theorem step_c {iv av : Nat → Nat → Int32} {W : Om} {a b c : Int32} (h : RelC iv av W) (hv : vS a.toInt b.toInt c.toInt) (hn : W.1.length < 12) : (fX8_step iv av a b c).1 = 0 ∧ (fX8_step iv av a b c).2.1 = nI W.1.length ∧ RelC (fX8_step iv av a b c).2.2.1 (fX8_step iv av a b c).2.2.2 (W.1 ++ [eS a b c], W.2) := by
  have h5 := h.1.1
  have hlt : iv 0 5 < 12 := by rw [h5]; exact nI_lt (b := 12) hn (by decide)
  have hb := begin_s iv av (61 + 6 * W.1.length) a (if a.toInt = 2 ∨ 6 ≤ a.toInt then b else 0) c
  have h05 : (fX5_begin iv av (61 + 6 * W.1.length) a (if a.toInt = 2 ∨ 6 ≤ a.toInt then b else 0) c).1 0 5 = nI W.1.length := by rw [hb.2.1 0 5 (by omega) (by omega) (by omega)]; exact h5
  rw [step8.2 hv, if_pos hlt, h5, nI_clamp (by omega)]
  dsimp only
  rw [h05, nI_1]
  refine ⟨rfl, nI_p1 _, ?_⟩
  have hk : ∀ q f, q ≠ 61 + 6 * W.1.length → q ≠ 61 + 6 * W.1.length + 1 → q ≠ 61 + 6 * W.1.length + 4 → ¬ (q = 0 ∧ f = 5) → (u2 (fX5_begin iv av (61 + 6 * W.1.length) a (if a.toInt = 2 ∨ 6 ≤ a.toInt then b else 0) c).1 0 5 (nI (W.1.length + 1))) q f = iv q f := by
    intro q f h1 h2 h3 h4
    by_cases q0 : q = 0
    · subst q0
      rw [u2_f _ _ _ (fun r => h4 ⟨rfl, r⟩)]; exact hb.2.1 0 f h1 h2 h3
    · rw [u2_k _ _ _ _ q0]; exact hb.2.1 q f h1 h2 h3
  have hn0 : ∀ q f, 0 < q → (u2 (fX5_begin iv av (61 + 6 * W.1.length) a (if a.toInt = 2 ∨ 6 ≤ a.toInt then b else 0) c).1 0 5 (nI (W.1.length + 1))) q f = (fX5_begin iv av (61 + 6 * W.1.length) a (if a.toInt = 2 ∨ 6 ≤ a.toInt then b else 0) c).1 q f := fun q f hq => u2_k _ _ _ _ (by omega)
  have ha := hv.1
  refine RelC_steps h ⟨fun k f h1 h2 => hk k f (by omega) (by omega) (by omega) h2, fun k hk => by rw [hb.1]⟩ ⟨by rw [u2_s, List.length_append]; rfl, by rw [List.length_append, List.length_singleton]; omega, fun i q hq => ?_⟩ (fun j hj => ?_)
  · rcases get_new hq with ⟨hi, hq⟩ | ⟨rfl, rfl⟩
    · have := h.1.2.2 i q hq
      refine ⟨this.1.cells (fun f _ => hk _ f (by omega) (by omega) (by omega) (by omega)) (fun f => hk _ f (by omega) (by omega) (by omega) (by omega)) (fun f => hk _ f (by omega) (by omega) (by omega) (by omega)) (by rw [hb.1]) (by rw [hb.1]) (by rw [hb.1]), this.2⟩
    · refine ⟨⟨?_, ?_, ?_, ?_, ?_, ?_, fun j t ht => by simp [eS] at ht, ?_, ?_, fun j t ht => by simp [eS] at ht⟩, okQ_new hv⟩
      · rw [hn0 _ _ (by omega), hb.2.2.1]; exact (nI_of_nn ha.1).symm
      · rw [hn0 _ _ (by omega), hb.2.2.2.1]
        show _ = nI (if a.toInt = 2 ∨ 6 ≤ a.toInt then nn b else 0)
        split
        · rename_i q; exact (nI_of_nn (hv.2.1 q).1).symm
        · rfl
      · rw [hn0 _ _ (by omega)]; exact hb.2.2.2.2.1
      · rw [hn0 _ _ (by omega)]; exact hb.2.2.2.2.2.1
      · rw [hn0 _ _ (by omega)]; exact hb.2.2.2.2.2.2.1
      · rw [hn0 _ _ (by omega), hb.2.2.2.2.2.2.2.1]; exact ((h.2.2.2.2.2.2.2.2 _ hn).1).elim (fun _ q => q.2.2)
      · rw [hn0 _ _ (by omega)]; exact hb.2.2.2.2.2.2.2.2.1
      · rw [hn0 _ _ (by omega), hb.2.2.2.2.2.2.2.2.2]; exact ((h.2.2.2.2.2.2.2.2 _ hn).2.1).elim (fun _ q => q.2.2)
  · have hm := h.2.2.2.2.2.2.2.2 j hj
    by_cases e : j = W.1.length
    · subst e
      obtain ⟨⟨c1, _, _, m1⟩, ⟨c2, _, _, m2⟩, _⟩ := hm
      refine ⟨⟨0, by decide, ?_, ?_⟩, ⟨0, by decide, ?_, ?_⟩, Or.inl ?_⟩
      · rw [hn0 _ _ (by omega)]; exact hb.2.2.2.2.2.2.1
      · rw [hn0 _ _ (by omega), hb.2.2.2.2.2.2.2.1]; exact m1
      · rw [hn0 _ _ (by omega)]; exact hb.2.2.2.2.2.2.2.2.1
      · rw [hn0 _ _ (by omega), hb.2.2.2.2.2.2.2.2.2]; exact m2
      · rw [hn0 _ _ (by omega)]; exact hb.2.2.2.2.2.1
    · rw [hk (61 + 6 * j + 1) 2 (by omega) (by omega) (by omega) (by omega), hk (61 + 6 * j + 1) 1 (by omega) (by omega) (by omega) (by omega), hk (61 + 6 * j + 4) 2 (by omega) (by omega) (by omega) (by omega), hk (61 + 6 * j + 4) 1 (by omega) (by omega) (by omega) (by omega), hk (61 + 6 * j) 6 (by omega) (by omega) (by omega) (by omega)]
      exact hm
theorem step_r {v : Nat → Int32} {A : Nat → Nat → Int32} {W : Om} {a b c : Int32} (h : RelR v A W) (hv : vS a.toInt b.toInt c.toInt) (hn : W.1.length < 12) : (fX9_step v A a b c).1 = nI W.1.length ∧ (fX9_step v A a b c).2.1 0 = 0 ∧ RelR (fX9_step v A a b c).2.1 (fX9_step v A a b c).2.2 (W.1 ++ [eS a b c], W.2) := by
  have h1 := h.1.1
  have hne : ¬ v 1 = 12 := by rw [h1, show (12 : Int32) = nI 12 from rfl, nI_eq (by omega) (by decide)]; omega
  rw [step9.2 hv, if_neg hne]
  unfold st9
  rw [h1, nI_clamp (by omega), nI_1]
  dsimp only
  refine ⟨nI_p1 _, by simp [upd], ?_⟩
  have ha := hv.1
  refine RelR_steps h (fun k h0 h1 => by simp [upd, h0, h1]) (fun q hq _ => by simp [u1, show q ≠ 1 by omega, show q ≠ 2 by omega, show q ≠ 3 by omega, show q ≠ 4 by omega, show q ≠ 5 by omega, show q ≠ 10 by omega]) ⟨by rw [List.length_append]; simp [upd], by rw [List.length_append, List.length_singleton]; omega, fun i q hq => ?_⟩ (fun j hj => ?_)
  · rcases get_new hq with ⟨hi, hq⟩ | ⟨rfl, rfl⟩
    · have := h.1.2.2 i q hq
      refine ⟨?_, this.2⟩
      have hE := this.1
      have hne : i ≠ W.1.length := by omega
      unfold ER at hE ⊢
      simpa [u1, upd, hne] using hE
    · refine ⟨?_, okQ_new hv⟩
      refine ⟨?_, fun hq => ?_, ?_, ?_, ?_, fun j t ht => by simp [eS] at ht, ?_, fun j t ht => by simp [eS] at ht⟩
      · simp [u1, upd]; exact (nI_of_nn ha.1).symm
      · have hq : nn a = 2 ∨ 6 ≤ nn a := hq
        have hx := nn_i ha.1
        have hc : a.toInt = 2 ∨ 6 ≤ a.toInt := by omega
        simp [u1, upd]
        show b = nI (if a.toInt = 2 ∨ 6 ≤ a.toInt then nn b else 0)
        rw [if_pos hc]
        exact (nI_of_nn (hv.2.1 hc).1).symm
      · simp [u1, upd, eS]
      · simp [u1, upd, eS, tI]
      · simp [u1, upd, eS]; rfl
      · simp [u1, upd, eS]; rfl
  · have hm := h.2.2.2.2.2.2.2 j hj
    by_cases e : j = W.1.length
    · subst e
      refine ⟨⟨0, by decide, by simp [u1, upd]; rfl⟩, ⟨0, by decide, by simp [u1, upd]; rfl⟩, Or.inl (by simp [u1, upd])⟩
    · simpa [u1, upd, e] using hm
theorem al_step {iv av : Nat → Nat → Int32} {v : Nat → Int32} {A : Nat → Nat → Int32} {W : Om} (hC : RelC iv av W) (hR : RelR v A W) (a b c : Int32) : ∃ (f : Nat) (W' : Om), (fX8_step iv av a b c).1 = f ∧ (f = 0 ∨ f = 1 ∨ f = 2) ∧ (fX9_step v A a b c).2.1 0 = (if f = 0 then 0 else if f = 1 then 1 else 2) ∧ (f = 0 → (fX8_step iv av a b c).2.1 = (fX9_step v A a b c).1) ∧ RelC (fX8_step iv av a b c).2.2.1 (fX8_step iv av a b c).2.2.2 W' ∧ RelR (fX9_step v A a b c).2.1 (fX9_step v A a b c).2.2 W' := by
  by_cases hv : vS a.toInt b.toInt c.toInt
  · by_cases hn : W.1.length < 12
    · have h1 := step_c hC hv hn
      have h2 := step_r hR hv hn
      exact ⟨0, _, h1.1, Or.inl rfl, h2.2.1, fun _ => h1.2.1.trans h2.1.symm, h1.2.2, h2.2.2⟩
    · have e12 : W.1.length = 12 := by have := hC.1.2.1; omega
      have c1 : ¬ iv 0 5 < 12 := by rw [hC.1.1, e12]; decide
      have c2 : v 1 = 12 := by rw [hR.1.1, e12]; rfl
      refine ⟨2, W, ?_, Or.inr (Or.inr rfl), ?_, fun q => absurd q (by decide), ?_, ?_⟩
      · rw [step8.2 hv, if_neg c1]
      · rw [step9.2 hv, if_pos c2]; simp [upd]
      · rw [step8.2 hv, if_neg c1]; exact hC
      · rw [step9.2 hv, if_pos c2]; exact hR.fault 2
  · refine ⟨1, W, ?_, Or.inr (Or.inl rfl), ?_, fun q => absurd q (by decide), ?_, ?_⟩
    · rw [step8.1 hv]
    · rw [step9.1 hv]; simp [upd]
    · rw [step8.1 hv]; exact hC
    · rw [step9.1 hv]; exact hR.fault 1
