/-! Rows put on: pattern and template on both. -/
def up3 (g : Nat → Int32) (c : Nat) (x y z : Int32) : Nat → Int32 := upd (upd (upd g (3 * c) x) (3 * c + 1) y) (3 * c + 2) z
theorem up3_lo {g : Nat → Int32} {c p : Nat} {x y z : Int32} (h : p < 3 * c) : up3 g c x y z p = g p := by
  unfold up3 upd
  rw [if_neg (by omega), if_neg (by omega), if_neg (by omega)]
theorem up3_0 {g : Nat → Int32} {c : Nat} {x y z : Int32} : up3 g c x y z (3 * c) = x := by
  unfold up3 upd
  rw [if_neg (by omega), if_neg (by omega), if_pos rfl]
theorem up3_1 {g : Nat → Int32} {c : Nat} {x y z : Int32} : up3 g c x y z (3 * c + 1) = y := by
  unfold up3 upd
  rw [if_neg (by omega), if_pos rfl]
theorem up3_2 {g : Nat → Int32} {c : Nat} {x y z : Int32} : up3 g c x y z (3 * c + 2) = z := by
  unfold up3 upd
  rw [if_pos rfl]
theorem app_s {iv av : Nat → Nat → Int32} {k c m : Nat} {x y z : Int32} (h2 : iv k 2 = nI c) (h1 : iv k 1 = nI m) (hc : c < m) (hm : m ≤ 100) : fX3_isFull iv k = 0 ∧ fX3_append iv av k x y z = (nI (c + 1), u2 iv k 2 (nI (c + 1)), u1 av (k + 1) (up3 (av (k + 1)) c x y z)) := by
  have e0 : fX3_isFull iv k = 0 := by unfold fX3_isFull; rw [h2, h1, if_pos (nI_lt hc (by omega))]
  refine ⟨e0, ?_⟩
  have e : (3 : Int32) * nI c = nI (3 * c) := pk_mul 3 c
  have e1 : nI (3 * c) + 1 = nI (3 * c + 1) := nI_1 _
  have e2 : nI (3 * c) + 2 = nI (3 * c + 2) := nI_add _ 2
  unfold fX3_append
  rw [if_pos e0, h2, e, e1, e2, nI_clamp (by omega), nI_clamp (by omega), nI_clamp (by omega), nI_1, u1_u1, u1_u1]
  rfl
theorem full_s {iv : Nat → Nat → Int32} {k c m : Nat} (h2 : iv k 2 = nI c) (h1 : iv k 1 = nI m) (hc : m ≤ c) (hm : c < 2 ^ 31) : ¬ fX3_isFull iv k = 0 := by
  unfold fX3_isFull
  rw [h2, h1, if_neg (nI_nlt hc hm)]
  decide
theorem get_end {α : Type} {l : List α} {e q : α} {i : Nat} (h : (l ++ [e])[i]? = some q) : (i < l.length ∧ l[i]? = some q) ∨ (i = l.length ∧ q = e) := by
  rw [List.getElem?_append] at h
  split at h
  · exact Or.inl ⟨by assumption, h⟩
  · have hlt := (List.getElem?_eq_some_iff.mp h).1
    have e1 : i = l.length := by simp at hlt; omega
    subst e1
    simp at h
    exact Or.inr ⟨rfl, h.symm⟩
/-! Which terms may stand. -/
def tmS (a b c : Int32) : Prop := isNm a ∨ (b = 2 ∧ isV a) ∨ (¬ c = 0 ∧ isNw a)
theorem isNm9 {a : Int32} : fX9_isName a = 0 ↔ ¬ isNm a := by
  unfold fX9_isName
  rw [isIn_s]
  exact Iff.rfl
theorem mst9 {a b c : Int32} : fX9_mayStand a b c = 0 ↔ ¬ tmS a b c := by
  have e1 := @isNm9 a
  have e2 := @isVar_s a
  have e3 := @isNew_s a
  unfold fX9_mayStand tmS
  revert e1 e2 e3
  generalize isNm a = P
  generalize isV a = V
  generalize isNw a = N
  generalize fX9_isName a = x
  generalize fX9_isVariable a = y
  generalize fX9_isNew a = z
  intro e1 e2 e3
  by_cases hx : x = 0 <;> by_cases hy : y = 0 <;> by_cases hz : z = 0 <;> by_cases hk : b = 2 <;> by_cases he : c = 0 <;> simp_all
theorem tt8 {k e t : Int32} : fX8_templateTermMayBe k e t = 0 ↔ ¬ tmS t k e := by
  have e1 := @isName8 t
  have e2 := @isVar8 t
  have e3 := @isNew8 t
  unfold fX8_templateTermMayBe tmS
  revert e1 e2 e3
  generalize isNm t = P
  generalize isV t = V
  generalize isNw t = N
  generalize fX8_isName t = x
  generalize fX8_isVariable t = y
  generalize fX8_isNewBlank t = z
  intro e1 e2 e3
  by_cases hx : x = 0 <;> by_cases hy : y = 0 <;> by_cases hz : z = 0 <;> by_cases hk : k = 2 <;> by_cases he : e = 0 <;> simp_all
theorem ptm8 {a : Int32} : fX8_patternTermMayBe a = 0 ↔ ¬ (isNm a ∨ isV a) := by
  have e1 := @isName8 a
  have e2 := @isVar8 a
  unfold fX8_patternTermMayBe
  revert e1 e2
  generalize isNm a = P
  generalize isV a = V
  generalize fX8_isName a = x
  generalize fX8_isVariable a = y
  intro e1 e2
  by_cases hx : x = 0 <;> by_cases hy : y = 0 <;> simp_all
theorem tm_pat {a : Int32} : tmS a 2 0 ↔ isNm a ∨ isV a := by
  unfold tmS
  exact ⟨fun h => h.elim Or.inl (fun h => h.elim (fun q => Or.inr q.2) (fun q => absurd rfl q.1)), fun h => h.elim Or.inl (fun q => Or.inr (Or.inl ⟨rfl, q⟩))⟩
theorem al_pattern {iv av : Nat → Nat → Int32} {v : Nat → Int32} {A : Nat → Nat → Int32} {W : Om} (hC : RelC iv av W) (hR : RelR v A W) (a b c d : Int32) : ∃ (f : Nat) (W' : Om), (fX8_pattern iv av a b c d).1 = f ∧ (f = 0 ∨ f = 3 ∨ f = 1 ∨ f = 2) ∧ (fX9_pattern v A a b c d).2.1 0 = (if f = 0 then 0 else if f = 3 then 1 else if f = 1 then 2 else 3) ∧ (f = 0 → (fX8_pattern iv av a b c d).2.1 = (fX9_pattern v A a b c d).1) ∧ RelC (fX8_pattern iv av a b c d).2.2.1 (fX8_pattern iv av a b c d).2.2.2 W' ∧ RelR (fX9_pattern v A a b c d).2.1 (fX9_pattern v A a b c d).2.2 W' := by
  have h12 := hC.1.2.1
  have bad : ∀ (x : Nat × Int32 × (Nat → Nat → Int32) × (Nat → Nat → Int32)) (y : Int32 × (Nat → Int32) × (Nat → Nat → Int32)) (f : Nat) (z : Int32), x = (f, 0, iv, av) → y = (0, upd v 0 z, A) → ((f = 3 ∧ z = 1) ∨ (f = 1 ∧ z = 2) ∨ (f = 2 ∧ z = 3)) → ∃ (f : Nat) (W' : Om), x.1 = f ∧ (f = 0 ∨ f = 3 ∨ f = 1 ∨ f = 2) ∧ y.2.1 0 = (if f = 0 then 0 else if f = 3 then 1 else if f = 1 then 2 else 3) ∧ (f = 0 → x.2.1 = y.1) ∧ RelC x.2.2.1 x.2.2.2 W' ∧ RelR y.2.1 y.2.2 W' := by
    intro x y f z hx hy h
    subst hx hy
    rcases h with ⟨rfl, rfl⟩ | ⟨rfl, rfl⟩ | ⟨rfl, rfl⟩
    · exact ⟨3, W, rfl, by decide, by simp [upd], fun q => absurd q (by decide), hC, hR.fault 1⟩
    · exact ⟨1, W, rfl, by decide, by simp [upd], fun q => absurd q (by decide), hC, hR.fault 2⟩
    · exact ⟨2, W, rfl, by decide, by simp [upd], fun q => absurd q (by decide), hC, hR.fault 3⟩
  unfold fX8_pattern fX9_pattern
  rcases sn_is (a := a) hC.1.1 hR.1.1 h12 with ⟨i, hi, rfl, h1, h2⟩ | ⟨h1, h2⟩
  · rw [if_pos h1, if_neg h2, nI_clamp (by omega)]
    obtain ⟨q, hq⟩ : ∃ q, W.1[i]? = some q := ⟨_, List.getElem?_eq_getElem hi⟩
    have eC := hC.1.2.2 i q hq
    have eR := hR.1.2.2 i q hq
    have hk9 := eC.2.1
    rw [eC.1.1, eR.1.1]
    by_cases hk : q.1 = 2
    · have e2 : nI q.1 = 2 := by rw [hk]; rfl
      rw [if_pos e2, if_pos e2]
      have key : ∀ t : Int32, fX8_patternTermMayBe t = 0 ↔ fX9_mayStand t 2 0 = 0 := fun t => by rw [ptm8, mst9, tm_pat]
      by_cases tb : fX9_mayStand b 2 0 = 0
      · rw [if_pos ((key b).mpr tb), if_pos tb]; exact bad _ _ 1 2 rfl rfl (by decide)
      · rw [if_neg (fun r => tb ((key b).mp r)), if_neg tb]
        by_cases tc : fX9_mayStand c 2 0 = 0
        · rw [if_pos ((key c).mpr tc), if_pos tc]; exact bad _ _ 1 2 rfl rfl (by decide)
        · rw [if_neg (fun r => tc ((key c).mp r)), if_neg tc]
          by_cases td : fX9_mayStand d 2 0 = 0
          · rw [if_pos ((key d).mpr td), if_pos td]; exact bad _ _ 1 2 rfl rfl (by decide)
          · rw [if_neg (fun r => td ((key d).mp r)), if_neg td]
            have g : ∀ t : Int32, ¬ fX9_mayStand t 2 0 = 0 → isNm t ∨ isV t := fun t ht => tm_pat.mp (Classical.not_not.mp (fun r => ht (mst9.mpr r)))
            obtain ⟨c1, c2, c3, c4, c5, c6, c7, c8, c9, c10⟩ := eC.1
            obtain ⟨r1, r2, r3, r4, r5, r6, r7, r8⟩ := eR.1
            have hl4 := eC.2.2.2.2.2.2.2.2.2.2.2.1
            by_cases hf : q.2.2.2.2.2.length = 4
            · have n4 : A 10 i = 4 := by rw [r7, hf]; rfl
              rw [if_neg (full_s c8 c9 (by omega) (by omega)), if_pos n4]; exact bad _ _ 2 3 rfl rfl (by decide)
            · have n4 : ¬ A 10 i = 4 := by rw [r7, show (4 : Int32) = nI 4 from rfl, nI_eq (by omega) (by decide)]; exact hf
              have ap := app_s (av := av) (x := b) (y := c) (z := d) c8 c9 (by omega) (by decide)
              have e4 : (4 : Int32) * nI i + nI q.2.2.2.2.2.length = nI (4 * i + q.2.2.2.2.2.length) := by rw [show (4 : Int32) * nI i = nI (4 * i) from pk_mul 4 i, nI_add]
              rw [if_pos ap.1, if_neg n4, ap.2, r7, e4, nI_clamp (by omega), nI_1]
              dsimp only
              refine ⟨0, (W.1.set i (q.1, q.2.1, q.2.2.1, q.2.2.2.1, q.2.2.2.2.1, q.2.2.2.2.2 ++ [(b, c, d)]), W.2), rfl, Or.inl rfl, by simp [upd], fun _ => by simp [upd], ?_, ?_⟩
              · have ho : okQ (q.1, q.2.1, q.2.2.1, q.2.2.2.1, q.2.2.2.2.1, q.2.2.2.2.2 ++ [(b, c, d)]) := by
                  obtain ⟨o1, o2, o3, o4, o5, o6, o7, o8, o9, o10, o11, o12⟩ := eC.2
                  refine ⟨o1, o2, o3, o4, o5, o6, o7, o8, o9, fun t ht => ?_, ?_, fun r => absurd hk r⟩
                  · rcases List.mem_append.mp ht with r | r
                    · exact o10 t r
                    · rw [List.mem_singleton] at r
                      subst r
                      exact ⟨g b tb, g c tc, g d td⟩
                  · show (q.2.2.2.2.2 ++ [(b, c, d)]).length ≤ 4
                    rw [List.length_append, List.length_singleton]; omega
                refine RelC_set hC hi (fun k f hk => u2_k _ _ _ _ (by omega)) (fun k hk => u1_k _ _ (by omega)) ?_ ho
                refine ⟨(u2_k _ _ _ _ (by omega)).trans c1, (u2_k _ _ _ _ (by omega)).trans c2, (u2_k _ _ _ _ (by omega)).trans c3, (u2_k _ _ _ _ (by omega)).trans c4, (u2_k _ _ _ _ (by omega)).trans c5, (u2_k _ _ _ _ (by omega)).trans c6, fun j t ht => ?_, ?_, (u2_f _ _ _ (by decide)).trans c9, fun j t ht => ?_⟩
                · rw [u1_k _ _ (show 61 + 6 * i + 1 + 1 ≠ 61 + 6 * i + 4 + 1 by omega), u1_k _ _ (show 61 + 6 * i + 3 ≠ 61 + 6 * i + 4 + 1 by omega)]; exact c7 j t ht
                · rw [u2_s]; show nI _ = nI (q.2.2.2.2.2 ++ [(b, c, d)]).length
                  rw [List.length_append]; rfl
                · rw [u1_s]
                  rcases get_end ht with ⟨hj, ht⟩ | ⟨rfl, rfl⟩
                  · rw [up3_lo (by omega), up3_lo (by omega), up3_lo (by omega)]; exact c10 j t ht
                  · exact ⟨up3_0, up3_1, up3_2⟩
              · have ho : okQ (q.1, q.2.1, q.2.2.1, q.2.2.2.1, q.2.2.2.2.1, q.2.2.2.2.2 ++ [(b, c, d)]) := by
                  obtain ⟨o1, o2, o3, o4, o5, o6, o7, o8, o9, o10, o11, o12⟩ := eC.2
                  refine ⟨o1, o2, o3, o4, o5, o6, o7, o8, o9, fun t ht => ?_, ?_, fun r => absurd hk r⟩
                  · rcases List.mem_append.mp ht with r | r
                    · exact o10 t r
                    · rw [List.mem_singleton] at r
                      subst r
                      exact ⟨g b tb, g c tc, g d td⟩
                  · show (q.2.2.2.2.2 ++ [(b, c, d)]).length ≤ 4
                    rw [List.length_append, List.length_singleton]; omega
                refine RelR_set hR hi (fun k hk => by simp [upd, hk]) (fun q hq => by simp [u1, show q ≠ 10 by omega, show q ≠ 11 by omega, show q ≠ 12 by omega, show q ≠ 13 by omega]) (fun j q' hj hE hoq => ?_) (fun j hj => ⟨by simp [u1], by simp [u1, upd, hj], by simp [u1]⟩) ?_ ho
                · obtain ⟨d1, d2, d3, d4, d5, d6, d7, d8⟩ := hE
                  have hl := hoq.2.2.2.2.2.2.2.2.2.2.1
                  refine ⟨by simpa [u1] using d1, fun h => by simpa [u1] using d2 h, by simpa [u1] using d3, by simpa [u1] using d4, by simpa [u1] using d5, fun j t h => by simpa [u1] using d6 j t h, by simpa [u1, upd, hj] using d7, fun j' t h => ?_⟩
                  have hlt := (List.getElem?_eq_some_iff.mp h).1
                  have hne : ¬ 4 * j + j' = 4 * i + q.2.2.2.2.2.length := by omega
                  simpa [u1, upd, hne] using d8 j' t h
                · refine ⟨by simpa [u1] using r1, fun h => by simpa [u1] using r2 h, by simpa [u1] using r3, by simpa [u1] using r4, by simpa [u1] using r5, fun j t h => by simpa [u1] using r6 j t h, by simp [u1, upd], fun j' t h => ?_⟩
                  rcases get_end h with ⟨hj, ht⟩ | ⟨rfl, rfl⟩
                  · have hne : ¬ j' = q.2.2.2.2.2.length := by omega
                    simpa [u1, upd, hne] using r8 j' t ht
                  · simp [u1, upd]
    · have e2 : ¬ nI q.1 = 2 := by rw [show (2 : Int32) = nI 2 from rfl, nI_eq (by omega) (by decide)]; exact hk
      rw [if_neg e2, if_neg e2]; exact bad _ _ 1 2 rfl rfl (by decide)
  · have e3 : ¬ fX8_stepNumbered iv a = 0 := by rw [h1]; decide
    rw [if_neg e3, if_pos h2]
    exact bad _ _ 3 1 (by rw [h1]) rfl (by decide)
