/-! A step of the sequence changed; silent, clear, fails on both. -/
theorem sn_is {iv : Nat → Nat → Int32} {v : Nat → Int32} {a : Int32} {n : Nat} (h8 : iv 0 5 = nI n) (h9 : v 1 = nI n) (hn : n ≤ 12) : (∃ i, i < n ∧ a = nI i ∧ fX8_stepNumbered iv a = 0 ∧ ¬ fX9_isStep v a = 0) ∨ (fX8_stepNumbered iv a = 3 ∧ fX9_isStep v a = 0) := by
  unfold fX8_stepNumbered fX9_isStep
  rw [h8, h9]
  by_cases h : a < 0
  · exact Or.inr ⟨by rw [if_pos h], by rw [if_pos h]⟩
  · obtain ⟨i, hi, rfl⟩ := nI_of h
    by_cases h2 : i < n
    · exact Or.inl ⟨i, h2, rfl, by rw [if_neg h, if_pos (nI_lt h2 (by omega))], by rw [if_neg h, if_neg (nI_ge h2 (by omega))]; decide⟩
    · exact Or.inr ⟨by rw [if_neg h, if_neg (nI_nlt (by omega) hi)], by rw [if_neg h, if_pos (nI_le (by omega) hi)]⟩
theorem EC.off {iv av iv' av' : Nat → Nat → Int32} {i j : Nat} {q : Sq} (hij : j ≠ i) (h : EC iv av j q) (hk : ∀ k f, k < 61 + 6 * i ∨ 66 + 6 * i < k → iv' k f = iv k f) (ha : ∀ k, k < 61 + 6 * i ∨ 66 + 6 * i < k → av' k = av k) : EC iv' av' j q :=
  h.cells (fun f _ => hk _ f (by omega)) (fun f => hk _ f (by omega)) (fun f => hk _ f (by omega)) (ha _ (by omega)) (ha _ (by omega)) (ha _ (by omega))
theorem RelC_set {iv av iv' av' : Nat → Nat → Int32} {W : Om} {i : Nat} {q' : Sq} (h : RelC iv av W) (hi : i < W.1.length) (hk : ∀ k f, k < 61 + 6 * i ∨ 66 + 6 * i < k → iv' k f = iv k f) (ha : ∀ k, k < 61 + 6 * i ∨ 66 + 6 * i < k → av' k = av k) (hE : EC iv' av' i q') (ho : okQ q') : RelC iv' av' (W.1.set i q', W.2) := by
  refine RelC_steps h ⟨fun k f h1 _ => hk k f (by omega), fun k h1 => ha k (by omega)⟩ ⟨?_, ?_, ?_⟩ ?_
  · rw [hk 0 5 (by omega), List.length_set]; exact h.1.1
  · rw [List.length_set]; exact h.1.2.1
  · intro j q hq
    rw [List.getElem?_set] at hq
    by_cases e : i = j
    · subst e
      rw [if_pos rfl, if_pos hi] at hq
      cases hq
      exact ⟨hE, ho⟩
    · rw [if_neg e] at hq
      have := h.1.2.2 j q hq
      exact ⟨this.1.off (fun r => e r.symm) hk ha, this.2⟩
  · intro j hj
    by_cases e : j = i
    · subst e
      exact ⟨⟨_, ho.2.2.2.2.2.2.2.2.1, hE.2.2.2.2.1, hE.2.2.2.2.2.1⟩, ⟨_, ho.2.2.2.2.2.2.2.2.2.2.1, hE.2.2.2.2.2.2.2.1, hE.2.2.2.2.2.2.2.2.1⟩, by rw [hE.2.2.2.1]; exact tI_b _⟩
    · have hm := h.2.2.2.2.2.2.2.2 j hj
      rw [hk (61 + 6 * j + 1) 2 (by omega), hk (61 + 6 * j + 1) 1 (by omega), hk (61 + 6 * j + 4) 2 (by omega), hk (61 + 6 * j + 4) 1 (by omega), hk (61 + 6 * j) 6 (by omega)]
      exact hm
theorem RelR_set {v v' : Nat → Int32} {A A' : Nat → Nat → Int32} {W : Om} {i : Nat} {q' : Sq} (h : RelR v A W) (hi : i < W.1.length) (hv : ∀ k, k ≠ 0 → v' k = v k) (hA : ∀ q, 14 ≤ q → A' q = A q) (hk : ∀ j q, j ≠ i → ER A j q → okQ q → ER A' j q) (hm : ∀ j, j ≠ i → A' 5 j = A 5 j ∧ A' 10 j = A 10 j ∧ A' 4 j = A 4 j) (hE : ER A' i q') (ho : okQ q') : RelR v' A' (W.1.set i q', W.2) := by
  refine RelR_steps h (fun k h0 _ => hv k h0) (fun q hq _ => hA q hq) ⟨?_, ?_, ?_⟩ ?_
  · rw [hv 1 (by decide), List.length_set]; exact h.1.1
  · rw [List.length_set]; exact h.1.2.1
  · intro j q hq
    rw [List.getElem?_set] at hq
    by_cases e : i = j
    · subst e
      rw [if_pos rfl, if_pos hi] at hq
      cases hq
      exact ⟨hE, ho⟩
    · rw [if_neg e] at hq
      have := h.1.2.2 j q hq
      exact ⟨hk j q (fun r => e r.symm) this.1 this.2, this.2⟩
  · intro j hj
    by_cases e : j = i
    · subst e
      exact ⟨⟨_, ho.2.2.2.2.2.2.2.2.1, hE.2.2.2.2.1⟩, ⟨_, ho.2.2.2.2.2.2.2.2.2.2.1, hE.2.2.2.2.2.2.1⟩, by rw [hE.2.2.2.1]; exact tI_b _⟩
    · have hq := h.2.2.2.2.2.2.2 j hj
      rw [(hm j e).1, (hm j e).2.1, (hm j e).2.2]
      exact hq
theorem bI_s {b : Int32} (hb : b = 0 ∨ b = 1) : b = tI (decide (b = 1)) := by rcases hb with rfl | rfl <;> rfl
theorem al_silent {iv av : Nat → Nat → Int32} {v : Nat → Int32} {A : Nat → Nat → Int32} {W : Om} (hC : RelC iv av W) (hR : RelR v A W) (a b : Int32) (hb : b = 0 ∨ b = 1) : ∃ (f : Nat) (W' : Om), (fX8_silent iv av a b).1 = f ∧ (f = 0 ∨ f = 3) ∧ (fX9_silent v A a b).2.1 0 = (if f = 0 then 0 else 1) ∧ (f = 0 → (fX8_silent iv av a b).2.1 = (fX9_silent v A a b).1) ∧ RelC (fX8_silent iv av a b).2.2.1 (fX8_silent iv av a b).2.2.2 W' ∧ RelR (fX9_silent v A a b).2.1 (fX9_silent v A a b).2.2 W' := by
  have tb := bI_s hb
  have h12 := hC.1.2.1
  unfold fX8_silent fX9_silent
  rcases sn_is (a := a) hC.1.1 hR.1.1 h12 with ⟨i, hi, rfl, h1, h2⟩ | ⟨h1, h2⟩
  · rw [if_pos h1, if_neg h2, nI_clamp (by omega)]
    dsimp only
    obtain ⟨q, hq⟩ : ∃ q, W.1[i]? = some q := ⟨_, List.getElem?_eq_getElem hi⟩
    have eC := hC.1.2.2 i q hq
    have eR := hR.1.2.2 i q hq
    refine ⟨0, (W.1.set i (q.1, q.2.1, q.2.2.1, decide (b = 1), q.2.2.2.2.1, q.2.2.2.2.2), W.2), rfl, Or.inl rfl, by simp [upd], fun _ => by rw [eC.1.2.2.2.1, eR.1.2.2.2.1], ?_, ?_⟩
    · refine RelC_set hC hi (fun k f hk => u2_k _ _ _ _ (by omega)) (fun _ _ => rfl) ?_ eC.2
      obtain ⟨c1, c2, c3, c4, c5, c6, c7, c8, c9, c10⟩ := eC.1
      exact ⟨(u2_f _ _ _ (by decide)).trans c1, (u2_f _ _ _ (by decide)).trans c2, (u2_f _ _ _ (by decide)).trans c3, (u2_s _ _ _ _).trans tb, (u2_k _ _ _ _ (by omega)).trans c5, (u2_k _ _ _ _ (by omega)).trans c6, c7, (u2_k _ _ _ _ (by omega)).trans c8, (u2_k _ _ _ _ (by omega)).trans c9, c10⟩
    · refine RelR_set hR hi (fun k hk => by simp [upd, hk]) (fun q hq => u1_k _ _ (by omega)) (fun j q hj hE _ => ?_) (fun j hj => ⟨by simp [u1], by simp [u1], by simp [u1, upd, hj]⟩) ?_ eR.2
      · unfold ER at hE ⊢
        simpa [u1, upd, hj] using hE
      · obtain ⟨c1, c2, c3, c4, c5, c6, c7, c8⟩ := eR.1
        have e4 : u1 A 4 (upd (A 4) i b) 4 i = b := by simp [u1, upd]
        exact ⟨(congrFun (u1_k _ _ (by decide)) i).trans c1, fun h => (congrFun (u1_k _ _ (by decide)) i).trans (c2 h), (congrFun (u1_k _ _ (by decide)) i).trans c3, e4.trans tb, (congrFun (u1_k _ _ (by decide)) i).trans c5, fun j t h => by rw [u1_k _ _ (show 6 ≠ 4 by decide), u1_k _ _ (show 7 ≠ 4 by decide), u1_k _ _ (show 8 ≠ 4 by decide), u1_k _ _ (show 9 ≠ 4 by decide)]; exact c6 j t h, (congrFun (u1_k _ _ (by decide)) i).trans c7, fun j t h => by rw [u1_k _ _ (show 11 ≠ 4 by decide), u1_k _ _ (show 12 ≠ 4 by decide), u1_k _ _ (show 13 ≠ 4 by decide)]; exact c8 j t h⟩
  · have e3 : ¬ fX8_stepNumbered iv a = 0 := by rw [h1]; decide
    rw [if_neg e3, if_pos h2]
    exact ⟨3, W, h1, Or.inr rfl, by simp [upd], fun q => absurd q (by decide), hC, hR.fault 1⟩
theorem al_clear {iv av : Nat → Nat → Int32} {v : Nat → Int32} {A : Nat → Nat → Int32} {W : Om} (hC : RelC iv av W) (hR : RelR v A W) : (fX8_clear iv av).1 = (fX9_clear v A).1 ∧ (fX9_clear v A).2.1 0 = 0 ∧ RelC (fX8_clear iv av).2.1 (fX8_clear iv av).2.2 ([], W.2) ∧ RelR (fX9_clear v A).2.1 (fX9_clear v A).2.2 ([], W.2) := by
  refine ⟨hC.1.1.trans hR.1.1.symm, by simp [fX9_clear, upd], ?_, ?_⟩
  · have e : ∀ k f, 0 < k → u2 iv 0 5 0 k f = iv k f := fun k f hk => u2_k _ _ _ _ (by omega)
    refine RelC_steps hC ⟨fun k f h1 h2 => if_neg h2, fun _ _ => rfl⟩ ⟨by show u2 iv 0 5 0 0 5 = nI 0; rw [u2_s, nI_0], Nat.zero_le _, fun i q hq => by simp at hq⟩ (fun j hj => ?_)
    have hm := hC.2.2.2.2.2.2.2.2 j hj
    show (∃ c, c ≤ 6 ∧ u2 iv 0 5 0 (61 + 6 * j + 1) 2 = nI c ∧ u2 iv 0 5 0 (61 + 6 * j + 1) 1 = nI 6) ∧ (∃ c, c ≤ 4 ∧ u2 iv 0 5 0 (61 + 6 * j + 4) 2 = nI c ∧ u2 iv 0 5 0 (61 + 6 * j + 4) 1 = nI 4) ∧ (u2 iv 0 5 0 (61 + 6 * j) 6 = 0 ∨ u2 iv 0 5 0 (61 + 6 * j) 6 = 1)
    rw [e (61 + 6 * j + 1) 2 (by omega), e (61 + 6 * j + 1) 1 (by omega), e (61 + 6 * j + 4) 2 (by omega), e (61 + 6 * j + 4) 1 (by omega), e (61 + 6 * j) 6 (by omega)]
    exact hm
  · refine RelR_steps hR (fun k h0 h1 => by simp [fX9_clear, upd, h0, h1]) (fun q hq h2 => u1_k _ _ (by omega)) ⟨by simp [fX9_clear, upd, nI_0], Nat.zero_le _, fun i q hq => by simp at hq⟩ (fun j hj => ?_)
    have hm := hR.2.2.2.2.2.2.2 j hj
    unfold fX9_clear
    dsimp only
    rw [u1_k _ _ (show 5 ≠ 34 by decide), u1_k _ _ (show 10 ≠ 34 by decide), u1_k _ _ (show 4 ≠ 34 by decide)]
    exact hm
theorem al_fails {iv av : Nat → Nat → Int32} {v : Nat → Int32} {A : Nat → Nat → Int32} {W : Om} (hC : RelC iv av W) (hR : RelR v A W) : fX8_fails iv = (fX9_fails v A).1 ∧ (fX9_fails v A).2.1 0 = 0 ∧ RelR (fX9_fails v A).2.1 (fX9_fails v A).2.2 W :=
  ⟨hC.2.2.2.2.2.2.1.trans hR.2.2.2.2.2.1.symm, by simp [fX9_fails, upd], hR.fault 0⟩
