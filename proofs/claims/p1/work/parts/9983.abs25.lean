/-! One step on the cells. -/
theorem out39 {k : Nat} (h : k ≤ 9) (h3 : ¬ nI k = 3) (h4 : ¬ nI k = 4) (h5 : ¬ nI k = 5) (h6 : ¬ nI k = 6) (h7 : ¬ nI k = 7) (h8 : ¬ nI k = 8) (h9 : ¬ nI k = 9) : k < 3 := by
  rcases (show k < 3 ∨ k = 3 ∨ k = 4 ∨ k = 5 ∨ k = 6 ∨ k = 7 ∨ k = 8 ∨ k = 9 by omega) with q | rfl | rfl | rfl | rfl | rfl | rfl | rfl
  · exact q
  · exact absurd rfl h3
  · exact absurd rfl h4
  · exact absurd rfl h5
  · exact absurd rfl h6
  · exact absurd rfl h7
  · exact absurd rfl h8
  · exact absurd rfl h9
theorem AC_eq {iv av iv' av' : Nat → Nat → Int32} {a b : Nat × St × Nat} {w : Int32} (h : AC iv av a w iv' av') (e : b = a) : AC iv av b w iv' av' := e ▸ h
/-! The store kept and brought back. -/
def GS (iv av : Nat → Nat → Int32) (k : Nat) (S : St) : Prop := (∀ g, g < 7 → GC iv av (k + 1 + 1 + 2 * g) (S.1 g) (S.2.1 g)) ∧ iv k 1 = nI S.2.2
theorem becG {iv av : Nat → Nat → Int32} {k k2 : Nat} {p : Nat → Bool} {t : Bool} (h : GC iv av k2 p t) (hl : (cds p).length ≤ 120) : GC (fX2_become iv av k k2).1 (fX2_become iv av k k2).2 k p t ∧ GF k iv av (fX2_become iv av k k2).1 (fX2_become iv av k k2).2 := by
  unfold fX2_become
  dsimp only
  refine ⟨⟨by rw [u2_f _ _ _ (by decide), u2_s]; exact h.1, by rw [u2_s]; exact h.2.1, fun i hi => ?_⟩, fun k' f' hk => by rw [u2_k _ _ _ _ hk, u2_k _ _ _ _ hk], fun k' hk => u1_k _ _ hk⟩
  rw [u1_s, h.1, nI_clamp (by omega)]
  unfold va_cpy
  rw [show Int32.toNatClampNeg 0 = 0 by decide, if_pos (by omega), Nat.sub_zero, Nat.zero_add]
  exact h.2.2 i hi
theorem bec_i {iv av : Nat → Nat → Int32} {k k2 : Nat} {S : St} (hd : k + 18 ≤ k2 ∨ k2 + 18 ≤ k) (hl : ∀ g, g < 7 → (cds (S.1 g)).length ≤ 120) (h : ∀ g, g < 7 → GC iv av (k2 + 1 + 1 + 2 * g) (S.1 g) (S.2.1 g)) : ∀ i, i ≤ 7 →
    (∀ g, g < i → GC (stX6_become_2 k k2 iv av i).1 (stX6_become_2 k k2 iv av i).2 (k + 1 + 1 + 2 * g) (S.1 g) (S.2.1 g)) ∧ (∀ q f, (q < k + 2 ∨ k + 15 < q) → (stX6_become_2 k k2 iv av i).1 q f = iv q f) ∧ (∀ q, (q < k + 2 ∨ k + 15 < q) → (stX6_become_2 k k2 iv av i).2 q = av q)
  | 0, _ => ⟨fun g hg => absurd hg (Nat.not_lt_zero _), fun _ _ _ => rfl, fun _ _ => rfl⟩
  | i + 1, hi => by
    obtain ⟨h1, h2, h3⟩ := bec_i hd hl h i (by omega)
    have hG : GC (stX6_become_2 k k2 iv av i).1 (stX6_become_2 k k2 iv av i).2 (k2 + 1 + 1 + 2 * i) (S.1 i) (S.2.1 i) := (h i (by omega)).kept (h2 _ _ (by omega)) (h2 _ _ (by omega)) (h3 _ (by omega))
    have hb := becG (k := k + 1 + 1 + 2 * i) hG (hl i (by omega))
    have e1 : (stX6_become_2 k k2 iv av (i + 1)).1 = (fX2_become (stX6_become_2 k k2 iv av i).1 (stX6_become_2 k k2 iv av i).2 (k + 1 + 1 + 2 * i) (k2 + 1 + 1 + 2 * i)).1 := rfl
    have e2 : (stX6_become_2 k k2 iv av (i + 1)).2 = (fX2_become (stX6_become_2 k k2 iv av i).1 (stX6_become_2 k k2 iv av i).2 (k + 1 + 1 + 2 * i) (k2 + 1 + 1 + 2 * i)).2 := rfl
    rw [e1, e2]
    refine ⟨fun g hg => ?_, fun q f hq => ?_, fun q hq => ?_⟩
    · by_cases e : g = i
      · subst e; exact hb.1
      · exact (h1 g (by omega)).kept (hb.2.1 _ _ (by omega)) (hb.2.1 _ _ (by omega)) (hb.2.2 _ (by omega))
    · rw [hb.2.1 q f (by omega)]; exact h2 q f hq
    · rw [hb.2.2 q (by omega)]; exact h3 q hq
def bkP (k : Nat) (iv av : Nat → Nat → Int32) (S : St) (iv' av' : Nat → Nat → Int32) : Prop := GS iv' av' k S ∧ (∀ q f, (q < k ∨ k + 15 < q) → iv' q f = iv q f) ∧ ∀ q, (q < k ∨ k + 15 < q) → av' q = av q
theorem bec_s {iv av : Nat → Nat → Int32} {k k2 : Nat} {S : St} (hd : k + 18 ≤ k2 ∨ k2 + 18 ≤ k) (hl : ∀ g, g < 7 → (cds (S.1 g)).length ≤ 120) (h : GS iv av k2 S) : bkP k iv av S (fX6_become iv av k k2).1 (fX6_become iv av k k2).2 := by
  obtain ⟨h1, h2, h3⟩ := bec_i hd hl h.1 7 (Nat.le_refl _)
  unfold fX6_become
  dsimp only
  refine ⟨⟨fun g hg => (h1 g hg).kept (u2_k _ _ _ _ (by omega)) (u2_k _ _ _ _ (by omega)) rfl, by rw [u2_s, h2 k2 1 (by omega)]; exact h.2⟩, fun q f hq => ?_, fun q hq => h3 q (by omega)⟩
  rw [u2_k _ _ _ _ (by omega)]
  exact h2 q f (by omega)
theorem hX6_become {l : Launch} {D : va_G} {aC : Nat → ClassId} {b0 sz x : Nat} {iv av : Nat → Nat → Int32} {R : ZM} {k k2 : Nat} {S : St} (hk : ck k = 4) (hk2 : ck k2 = 4) (hd : k + 18 ≤ k2 ∨ k2 + 18 ≤ k) (hl : ∀ g, g < 7 → (cds (S.1 g)).length ≤ 120) (h : GS iv av k2 S) :
    Ct l D aC b0 yX6_become cX6_become 3 none 1 0 0 [.ref (x + k), .ref (x + k2)] (cm aC x iv av R) sz (zpN (fun iv av => cm aC x iv av R) (bkP k iv av S)) :=
  Ct.toN (G := fun iv av => cm aC x iv av R) (ctX6_become hk hk2 hd (fun j hj => ⟨_, hl j hj, (h.1 j hj).1⟩) (fun j hj => by rw [(h.1 j hj).2.1]; exact tI_b _)) (bec_s hd hl h)
