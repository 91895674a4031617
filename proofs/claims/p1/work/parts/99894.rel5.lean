/-! template on both. -/
theorem tmb8 {a b : Int32} : fX8_templateMayBe a b = 0 ↔ ¬ (a = 2 ∨ (a = 0 ∧ ¬ b = 0) ∨ (a = 1 ∧ b = 0)) := by
  unfold fX8_templateMayBe
  by_cases h2 : a = 2 <;> by_cases h0 : a = 0 <;> by_cases h1 : a = 1 <;> by_cases hb : b = 0 <;> simp_all
def vT (k b c d e : Int32) : Prop := (k = 2 ∨ (k = 0 ∧ ¬ e = 0) ∨ (k = 1 ∧ e = 0)) ∧ tmS b k e ∧ tmS c k 0 ∧ tmS d k e
theorem tmc {c k e : Int32} : tmS c k 0 ↔ (¬ isNw c ∧ tmS c k e) := by
  unfold tmS isNm isV isNw
  constructor
  · rintro (h | h | h)
    · exact ⟨fun q => by omega, Or.inl h⟩
    · exact ⟨fun q => by omega, Or.inr (Or.inl h)⟩
    · exact absurd rfl h.1
  · rintro ⟨h, q | q | q⟩
    · exact Or.inl q
    · exact Or.inr (Or.inl q)
    · exact absurd q.2 h
theorem tpl8 {iv av : Nat → Nat → Int32} {a b c d e : Int32} (hs : fX8_stepNumbered iv a = 0) : (¬ vT (iv (61 + 6 * (Int32.toNatClampNeg a)) 3) b c d e → fX8_template iv av a b c d e = (1, 0, iv, av)) ∧ (vT (iv (61 + 6 * (Int32.toNatClampNeg a)) 3) b c d e → fX8_template iv av a b c d e = if fX3_isFull iv ((61 + 6 * (Int32.toNatClampNeg a)) + 1) = 0 then (0, (fX5_addTemplate iv av (61 + 6 * (Int32.toNatClampNeg a)) b c d e).1, (fX5_addTemplate iv av (61 + 6 * (Int32.toNatClampNeg a)) b c d e).2.1, (fX5_addTemplate iv av (61 + 6 * (Int32.toNatClampNeg a)) b c d e).2.2) else (2, 0, iv, av)) := by
  unfold fX8_template
  rw [if_pos hs]
  generalize iv (61 + 6 * (Int32.toNatClampNeg a)) 3 = k
  by_cases h1 : fX8_templateMayBe k e = 0
  · rw [if_pos h1]
    exact ⟨fun _ => rfl, fun q => absurd q.1 (tmb8.mp h1)⟩
  · rw [if_neg h1]
    have g1 := Classical.not_not.mp (fun q => h1 (tmb8.mpr q))
    by_cases h2 : fX8_templateTermMayBe k e b = 0
    · rw [if_pos h2]
      exact ⟨fun _ => rfl, fun q => absurd q.2.1 (tt8.mp h2)⟩
    · rw [if_neg h2]
      have g2 := Classical.not_not.mp (fun q => h2 (tt8.mpr q))
      by_cases h3 : fX8_isNewBlank c = 0
      · rw [if_pos h3]
        have g3 := isNew8.mp h3
        by_cases h4 : fX8_templateTermMayBe k e c = 0
        · rw [if_pos h4]
          exact ⟨fun _ => rfl, fun q => absurd (tmc.mp q.2.2.1).2 (tt8.mp h4)⟩
        · rw [if_neg h4]
          have g4 := tmc.mpr ⟨g3, Classical.not_not.mp (fun q => h4 (tt8.mpr q))⟩
          by_cases h5 : fX8_templateTermMayBe k e d = 0
          · rw [if_pos h5]
            exact ⟨fun _ => rfl, fun q => absurd q.2.2.2 (tt8.mp h5)⟩
          · rw [if_neg h5]
            have g5 := Classical.not_not.mp (fun q => h5 (tt8.mpr q))
            exact ⟨fun q => absurd ⟨g1, g2, g4, g5⟩ q, fun _ => rfl⟩
      · rw [if_neg h3]
        have g3 := Classical.not_not.mp (fun q => h3 (isNew8.mpr q))
        exact ⟨fun _ => rfl, fun q => absurd g3 (tmc (e := e).mp q.2.2.1).1⟩
/-- the reference's new row -/
def tn9 (v : Nat → Int32) (A : Nat → Nat → Int32) (a b c d e : Int32) : Int32 × (Nat → Int32) × (Nat → Nat → Int32) := ((upd (A 5) (Int32.toNatClampNeg (a)) ((A 5 (Int32.toNatClampNeg (a))) + (1))) (Int32.toNatClampNeg (a)), (upd v 0 0), (u1 (u1 (u1 (u1 (u1 A 6 (upd (A 6) (Int32.toNatClampNeg (((6) * (a)) + (A 5 (Int32.toNatClampNeg (a))))) (b))) 7 (upd (A 7) (Int32.toNatClampNeg (((6) * (a)) + (A 5 (Int32.toNatClampNeg (a))))) (c))) 8 (upd (A 8) (Int32.toNatClampNeg (((6) * (a)) + (A 5 (Int32.toNatClampNeg (a))))) (d))) 9 (upd (A 9) (Int32.toNatClampNeg (((6) * (a)) + (A 5 (Int32.toNatClampNeg (a))))) (e))) 5 (upd (A 5) (Int32.toNatClampNeg (a)) ((A 5 (Int32.toNatClampNeg (a))) + (1)))))
theorem ttail {α : Type} {k b c d e : Int32} (X Z : α) : (¬ (tmS b k e ∧ tmS c k 0 ∧ tmS d k e) → (if fX9_mayStand b k e = 0 then X else if fX9_mayStand c k 0 = 0 then X else if fX9_mayStand d k e = 0 then X else Z) = X) ∧ ((tmS b k e ∧ tmS c k 0 ∧ tmS d k e) → (if fX9_mayStand b k e = 0 then X else if fX9_mayStand c k 0 = 0 then X else if fX9_mayStand d k e = 0 then X else Z) = Z) := by
  by_cases h2 : fX9_mayStand b k e = 0
  · rw [if_pos h2]
    exact ⟨fun _ => rfl, fun q => absurd q.1 (mst9.mp h2)⟩
  · rw [if_neg h2]
    have g2 := Classical.not_not.mp (fun q => h2 (mst9.mpr q))
    by_cases h3 : fX9_mayStand c k 0 = 0
    · rw [if_pos h3]
      exact ⟨fun _ => rfl, fun q => absurd q.2.1 (mst9.mp h3)⟩
    · rw [if_neg h3]
      have g3 := Classical.not_not.mp (fun q => h3 (mst9.mpr q))
      by_cases h4 : fX9_mayStand d k e = 0
      · rw [if_pos h4]
        exact ⟨fun _ => rfl, fun q => absurd q.2.2 (mst9.mp h4)⟩
      · rw [if_neg h4]
        have g4 := Classical.not_not.mp (fun q => h4 (mst9.mpr q))
        exact ⟨fun q => absurd ⟨g2, g3, g4⟩ q, fun _ => rfl⟩
theorem tpl9 {v : Nat → Int32} {A : Nat → Nat → Int32} {a b c d e : Int32} {k : Nat} (hs : ¬ fX9_isStep v a = 0) (hk : A 1 (Int32.toNatClampNeg a) = nI k) (hk9 : k ≤ 9) : (¬ vT (nI k) b c d e → fX9_template v A a b c d e = (0, upd v 0 2, A)) ∧ (vT (nI k) b c d e → fX9_template v A a b c d e = if A 5 (Int32.toNatClampNeg a) = 6 then (0, upd v 0 3, A) else tn9 v A a b c d e) := by
  unfold fX9_template
  rw [if_neg hs, hk]
  by_cases h3 : 3 ≤ k
  · rw [if_pos (show (3 : Int32) ≤ nI k from nI_le h3 (by omega))]
    refine ⟨fun _ => rfl, fun q => ?_⟩
    have n2 : ∀ j, j < 3 → ¬ nI k = nI j := fun j hj r => by rw [nI_eq (by omega) (by omega)] at r; omega
    rcases q.1 with r | r | r
    · exact absurd r (n2 2 (by decide))
    · exact absurd r.1 (n2 0 (by decide))
    · exact absurd r.1 (n2 1 (by decide))
  · rcases (show k = 0 ∨ k = 1 ∨ k = 2 by omega) with rfl | rfl | rfl
    · rw [if_neg (show ¬ (3 : Int32) ≤ nI 0 by decide), if_pos (show nI 0 = 0 from rfl)]
      by_cases he : e = 0
      · rw [if_pos he]
        exact ⟨fun _ => rfl, fun q => absurd q.1 (by subst he; decide)⟩
      · rw [if_neg he, if_neg (show ¬ nI 0 = 1 by decide)]
        exact ⟨fun q => (ttail _ _).1 (fun r => q ⟨Or.inr (Or.inl ⟨rfl, he⟩), r⟩), fun q => (ttail _ _).2 q.2⟩
    · rw [if_neg (show ¬ (3 : Int32) ≤ nI 1 by decide), if_neg (show ¬ nI 1 = 0 by decide), if_pos (show nI 1 = 1 from rfl)]
      by_cases he : e = 0
      · rw [if_pos he]
        exact ⟨fun q => (ttail _ _).1 (fun r => q ⟨Or.inr (Or.inr ⟨rfl, he⟩), r⟩), fun q => (ttail _ _).2 q.2⟩
      · rw [if_neg he]
        refine ⟨fun _ => rfl, fun q => ?_⟩
        rcases q.1 with r | r | r
        · exact absurd r (by decide)
        · exact absurd r.1 (by decide)
        · exact absurd r.2 he
    · rw [if_neg (show ¬ (3 : Int32) ≤ nI 2 by decide), if_neg (show ¬ nI 2 = 0 by decide), if_neg (show ¬ nI 2 = 1 by decide)]
      exact ⟨fun q => (ttail _ _).1 (fun r => q ⟨Or.inl rfl, r⟩), fun q => (ttail _ _).2 q.2⟩
theorem al_template {iv av : Nat → Nat → Int32} {v : Nat → Int32} {A : Nat → Nat → Int32} {W : Om} (hC : RelC iv av W) (hR : RelR v A W) (a b c d e : Int32) (he : e = 0 ∨ e = 1) : ∃ (f : Nat) (W' : Om), (fX8_template iv av a b c d e).1 = f ∧ (f = 0 ∨ f = 3 ∨ f = 1 ∨ f = 2) ∧ (fX9_template v A a b c d e).2.1 0 = (if f = 0 then 0 else if f = 3 then 1 else if f = 1 then 2 else 3) ∧ (f = 0 → (fX8_template iv av a b c d e).2.1 = (fX9_template v A a b c d e).1) ∧ RelC (fX8_template iv av a b c d e).2.2.1 (fX8_template iv av a b c d e).2.2.2 W' ∧ RelR (fX9_template v A a b c d e).2.1 (fX9_template v A a b c d e).2.2 W' := by
  have h12 := hC.1.2.1
  have te := bI_s he
  have bad : ∀ (f : Nat) (z : Int32), fX8_template iv av a b c d e = (f, 0, iv, av) → fX9_template v A a b c d e = (0, upd v 0 z, A) → ((f = 3 ∧ z = 1) ∨ (f = 1 ∧ z = 2) ∨ (f = 2 ∧ z = 3)) → ∃ (f : Nat) (W' : Om), (fX8_template iv av a b c d e).1 = f ∧ (f = 0 ∨ f = 3 ∨ f = 1 ∨ f = 2) ∧ (fX9_template v A a b c d e).2.1 0 = (if f = 0 then 0 else if f = 3 then 1 else if f = 1 then 2 else 3) ∧ (f = 0 → (fX8_template iv av a b c d e).2.1 = (fX9_template v A a b c d e).1) ∧ RelC (fX8_template iv av a b c d e).2.2.1 (fX8_template iv av a b c d e).2.2.2 W' ∧ RelR (fX9_template v A a b c d e).2.1 (fX9_template v A a b c d e).2.2 W' := by
    intro f z hx hy h
    rw [hx, hy]
    rcases h with ⟨rfl, rfl⟩ | ⟨rfl, rfl⟩ | ⟨rfl, rfl⟩
    · exact ⟨3, W, rfl, by decide, by simp [upd], fun q => absurd q (by decide), hC, hR.fault 1⟩
    · exact ⟨1, W, rfl, by decide, by simp [upd], fun q => absurd q (by decide), hC, hR.fault 2⟩
    · exact ⟨2, W, rfl, by decide, by simp [upd], fun q => absurd q (by decide), hC, hR.fault 3⟩
  rcases sn_is (a := a) hC.1.1 hR.1.1 h12 with ⟨i, hi, rfl, h1, h2⟩ | ⟨h1, h2⟩
  · have hcl : Int32.toNatClampNeg (nI i) = i := nI_clamp (by omega)
    obtain ⟨q, hq⟩ : ∃ q, W.1[i]? = some q := ⟨_, List.getElem?_eq_getElem hi⟩
    have eC := hC.1.2.2 i q hq
    have eR := hR.1.2.2 i q hq
    have t8 := tpl8 (iv := iv) (av := av) (b := b) (c := c) (d := d) (e := e) h1
    have t9 := tpl9 (A := A) (b := b) (c := c) (d := d) (e := e) h2 (by rw [hcl]; exact eR.1.1) eC.2.1
    rw [hcl] at t8 t9
    rw [eC.1.1] at t8
    by_cases hv : vT (nI q.1) b c d e
    · obtain ⟨c1, c2, c3, c4, c5, c6, c7, c8, c9, c10⟩ := eC.1
      obtain ⟨r1, r2, r3, r4, r5, r6, r7, r8⟩ := eR.1
      have hl6 := eC.2.2.2.2.2.2.2.2.2.1
      have t8 := t8.2 hv
      have t9 := t9.2 hv
      by_cases hf : q.2.2.2.2.1.length = 6
      · rw [if_neg (full_s c5 c6 (by omega) (by omega))] at t8
        rw [if_pos (by rw [r5, hf]; rfl)] at t9
        exact bad 2 3 t8 t9 (by decide)
      · have n6 : ¬ A 5 i = 6 := by rw [r5, show (6 : Int32) = nI 6 from rfl, nI_eq (by omega) (by decide)]; exact hf
        have ap := app_s (av := u1 av (61 + 6 * i + 3) (upd (av (61 + 6 * i + 3)) q.2.2.2.2.1.length e)) (x := b) (y := c) (z := d) c5 c6 (by omega) (by decide)
        have e6 : (6 : Int32) * nI i + nI q.2.2.2.2.1.length = nI (6 * i + q.2.2.2.2.1.length) := by rw [show (6 : Int32) * nI i = nI (6 * i) from pk_mul 6 i, nI_add]
        have hadd : fX5_addTemplate iv av (61 + 6 * i) b c d e = (nI (q.2.2.2.2.1.length + 1), u2 iv (61 + 6 * i + 1) 2 (nI (q.2.2.2.2.1.length + 1)), u1 (u1 av (61 + 6 * i + 3) (upd (av (61 + 6 * i + 3)) q.2.2.2.2.1.length e)) (61 + 6 * i + 1 + 1) (up3 (av (61 + 6 * i + 1 + 1)) q.2.2.2.2.1.length b c d)) := by
          unfold fX5_addTemplate
          rw [if_pos ap.1, c5, nI_clamp (by omega), ap.2, u1_k (j := 61 + 6 * i + 1 + 1) _ _ (by omega)]
        rw [if_pos ap.1, hadd] at t8
        rw [if_neg n6] at t9
        unfold tn9 at t9
        rw [hcl, r5, e6, nI_clamp (by omega), nI_1] at t9
        rw [t8, t9]
        dsimp only
        have ho : okQ (q.1, q.2.1, q.2.2.1, q.2.2.2.1, q.2.2.2.2.1 ++ [(b, c, d, decide (e = 1))], q.2.2.2.2.2) := by
          obtain ⟨o1, o2, o3, o4, o5, o6, o7, o8, o9, o10, o11, o12⟩ := eC.2
          have tr : ∀ t : Int32, tmS t (nI q.1) e → isNm t ∨ isV t ∨ (decide (e = 1) = true ∧ isNw t) := fun t h => by
            rcases h with h | h | h
            · exact Or.inl h
            · exact Or.inr (Or.inl h.2)
            · exact Or.inr (Or.inr ⟨by rcases he with r | r; exact absurd r h.1; simp [r], h.2⟩)
          have nk : ∀ j, j < 3 → (nI q.1 = nI j ↔ q.1 = j) := fun j hj => nI_eq (by omega) (by omega)
          refine ⟨o1, o2, o3, o4, o5, fun t ht => ?_, fun h0 t ht => ?_, fun h1 t ht => ?_, ?_, o10, o11, o12⟩
          · rcases List.mem_append.mp ht with r | r
            · exact o6 t r
            · rw [List.mem_singleton] at r
              subst r
              refine ⟨tr b hv.2.1, ?_, tr d hv.2.2.2⟩
              rcases hv.2.2.1 with h | h | h
              · exact Or.inl h
              · exact Or.inr h.2
              · exact absurd rfl h.1
          · rcases List.mem_append.mp ht with r | r
            · exact o7 h0 t r
            · rw [List.mem_singleton] at r
              subst r
              have h0 : q.1 = 0 := h0
              rcases hv.1 with h | h | h
              · exact absurd ((nk 2 (by decide)).mp h) (by omega)
              · rcases he with r | r
                · exact absurd r h.2
                · simp [r]
              · exact absurd ((nk 1 (by decide)).mp h.1) (by omega)
          · rcases List.mem_append.mp ht with r | r
            · exact o8 h1 t r
            · rw [List.mem_singleton] at r
              subst r
              have h1 : q.1 = 1 := h1
              rcases hv.1 with h | h | h
              · exact absurd ((nk 2 (by decide)).mp h) (by omega)
              · exact absurd ((nk 0 (by decide)).mp h.1) (by omega)
              · simp [h.2]
          · show (q.2.2.2.2.1 ++ [(b, c, d, decide (e = 1))]).length ≤ 6
            rw [List.length_append, List.length_singleton]; omega
        refine ⟨0, (W.1.set i (q.1, q.2.1, q.2.2.1, q.2.2.2.1, q.2.2.2.2.1 ++ [(b, c, d, decide (e = 1))], q.2.2.2.2.2), W.2), rfl, Or.inl rfl, by simp [upd], fun _ => by simp [upd], ?_, ?_⟩
        · refine RelC_set hC hi (fun k f hk => u2_k _ _ _ _ (by omega)) (fun k hk => (u1_k _ _ (by omega)).trans (u1_k _ _ (by omega))) ?_ ho
          refine ⟨(u2_k _ _ _ _ (by omega)).trans c1, (u2_k _ _ _ _ (by omega)).trans c2, (u2_k _ _ _ _ (by omega)).trans c3, (u2_k _ _ _ _ (by omega)).trans c4, ?_, (u2_f _ _ _ (by decide)).trans c6, fun j t ht => ?_, (u2_k _ _ _ _ (by omega)).trans c8, (u2_k _ _ _ _ (by omega)).trans c9, fun j t ht => ?_⟩
          · rw [u2_s]; show nI _ = nI (q.2.2.2.2.1 ++ [(b, c, d, decide (e = 1))]).length
            rw [List.length_append]; rfl
          · rw [u1_s, u1_k (j := 61 + 6 * i + 3) _ _ (by omega), u1_s]
            rcases get_end ht with ⟨hj, ht⟩ | ⟨rfl, rfl⟩
            · rw [up3_lo (by omega), up3_lo (by omega), up3_lo (by omega)]
              refine ⟨(c7 j t ht).1, (c7 j t ht).2.1, (c7 j t ht).2.2.1, ?_⟩
              unfold upd
              rw [if_neg (by omega)]
              exact (c7 j t ht).2.2.2
            · refine ⟨up3_0, up3_1, up3_2, ?_⟩
              unfold upd
              rw [if_pos rfl]
              exact te
          · rw [u1_k (j := 61 + 6 * i + 4 + 1) _ _ (by omega), u1_k (j := 61 + 6 * i + 4 + 1) _ _ (by omega)]; exact c10 j t ht
        · refine RelR_set hR hi (fun k hk => by simp [upd, hk]) (fun q hq => by simp [u1, show q ≠ 5 by omega, show q ≠ 6 by omega, show q ≠ 7 by omega, show q ≠ 8 by omega, show q ≠ 9 by omega]) (fun j q' hj hE hoq => ?_) (fun j hj => ⟨by simp [u1, upd, hj], by simp [u1], by simp [u1]⟩) ?_ ho
          · obtain ⟨d1, d2, d3, d4, d5, d6, d7, d8⟩ := hE
            have hl := hoq.2.2.2.2.2.2.2.2.1
            refine ⟨by simpa [u1] using d1, fun h => by simpa [u1] using d2 h, by simpa [u1] using d3, by simpa [u1] using d4, by simpa [u1, upd, hj] using d5, fun j' t h => ?_, by simpa [u1] using d7, fun j' t h => by simpa [u1] using d8 j' t h⟩
            have hlt := (List.getElem?_eq_some_iff.mp h).1
            have hne : ¬ 6 * j + j' = 6 * i + q.2.2.2.2.1.length := by omega
            simpa [u1, upd, hne] using d6 j' t h
          · refine ⟨by simpa [u1] using r1, fun h => by simpa [u1] using r2 h, by simpa [u1] using r3, by simpa [u1] using r4, by simp [u1, upd], fun j' t h => ?_, by simpa [u1] using r7, fun j t h => by simpa [u1] using r8 j t h⟩
            rcases get_end h with ⟨hj, ht⟩ | ⟨rfl, rfl⟩
            · have hne : ¬ j' = q.2.2.2.2.1.length := by omega
              simpa [u1, upd, hne] using r6 j' t ht
            · simpa [u1, upd] using te
    · exact bad 1 2 (t8.1 hv) (t9.1 hv) (by decide)
  · have e3 : ¬ fX8_stepNumbered iv a = 0 := by rw [h1]; decide
    exact bad 3 1 (by unfold fX8_template; rw [if_neg e3, h1]) (by unfold fX9_template; rw [if_pos h2]) (by decide)
