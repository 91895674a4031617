section
/-! class and reference answer alike on fresh objects -/
theorem i32_lt (a b : Int32) (n : Int) (hb : b.toInt = n) : (a < b) = (a.toInt < n) := by rw [Int32.lt_iff_toInt_lt, hb]
theorem i32_gt (a b : Int32) (n : Int) (hb : b.toInt = n) : (b < a) = (n < a.toInt) := by rw [Int32.lt_iff_toInt_lt, hb]
theorem i32_ge (a b : Int32) (n : Int) (hb : b.toInt = n) : (b ≤ a) = (n ≤ a.toInt) := by rw [Int32.le_iff_toInt_le, hb]
theorem sx_6 (a : Int32) : (6 < a) = (7 ≤ a) := by rw [i32_gt a 6 6 (by decide), i32_ge a 7 7 (by decide)]; exact propext ⟨fun h => by omega, fun h => by omega⟩
theorem sx_3 (a : Int32) : (3 < a) = (4 ≤ a) := by rw [i32_gt a 3 3 (by decide), i32_ge a 4 4 (by decide)]; exact propext ⟨fun h => by omega, fun h => by omega⟩
theorem sx_4 (a : Int32) : (a < 4) = ¬ (4 ≤ a) := by rw [i32_lt a 4 4 (by decide), i32_ge a 4 4 (by decide)]; exact propext ⟨fun h => by omega, fun h => by omega⟩
theorem sx_99 (a : Int32) : (99 < a) = (100 ≤ a) := by rw [i32_gt a 99 99 (by decide), i32_ge a 100 100 (by decide)]; exact propext ⟨fun h => by omega, fun h => by omega⟩
theorem isG_eq (a : Int32) : fX9_isIn a 0 6 = fX8_isGraph a := by simp only [fX9_isIn, fX8_isGraph, sx_6]
theorem isN_eq (a : Int32) : fX9_isName a = fX8_isName a := by simp only [fX9_isName, fX9_isIn, fX8_isName, sx_99]
theorem isF_eq (a : Int32) : fX8_fileNumbered a = if fX9_isIn a 0 3 = 0 then 3 else 0 := by
  simp only [fX9_isIn, fX8_fileNumbered, sx_3, sx_4]
  by_cases h1 : a < 0
  · simp [h1]
  · by_cases h2 : 4 ≤ a
    · simp [h1, h2]
    · simp [h1, h2]
theorem gN_eq (a : Int32) : fX8_graphNumbered a = if fX9_isIn a 0 6 = 0 then 3 else 0 := by rw [isG_eq]; rfl
theorem iv0_05 : iv0 0 5 = 0 := by decide +kernel
theorem iv0_06 : iv0 0 6 = -1 := by decide +kernel
theorem iv0_07 : iv0 0 7 = 0 := by decide +kernel
theorem iv0_57 : iv0 57 3 = 0 := by decide +kernel
theorem iv0_31 : iv0 3 1 = 0 := by decide +kernel
theorem iv0_sz : ∀ j, j < 7 → iv0 (4 + 1 + 2 * j) 1 = 0 := by decide +kernel
theorem iv0_th : ∀ j, j < 7 → iv0 (4 + 1 + 2 * j) 2 = AM0 23 j := by decide +kernel
theorem iv0_tz : ∀ j, j < 7 → iv0 (3 + 1 + 1 + 2 * j) 2 = 0 ∨ iv0 (3 + 1 + 1 + 2 * j) 2 = 1 := by decide +kernel
theorem iv0_S : ∀ j, j < 12 → iv0 (61 + 6 * j) 6 = 0 ∨ iv0 (61 + 6 * j) 6 = 1 := by decide +kernel
theorem iv0_F : ∀ j, j < 4 → iv0 (29 + 3 * j) 1 = 0 := by decide +kernel
theorem iv0_T : ∀ j, j < 12 → iv0 (61 + 6 * j + 1) 2 = nI 0 ∧ iv0 (61 + 6 * j + 1) 1 = nI 6 := by decide +kernel
theorem iv0_P : ∀ j, j < 12 → iv0 (61 + 6 * j + 4) 2 = nI 0 ∧ iv0 (61 + 6 * j + 4) 1 = nI 4 := by decide +kernel
theorem iv0_R : ∀ j, j < 4 → iv0 (29 + 3 * j + 1) 2 = nI 0 ∧ iv0 (29 + 3 * j + 1) 1 = nI 10 := by decide +kernel
theorem AM0_0 {k : Nat} (h1 : k ≠ 23) (h2 : k ≠ 34) : AM0 k = fun _ => 0 := by
  unfold AM0
  rw [u1_k _ _ h2, u1_k _ _ h1]
theorem AM0_23 : ∀ j, j < 7 → AM0 23 j = 0 ∨ AM0 23 j = 1 := by decide +kernel
theorem vM0_0 {k : Nat} (h : k ≠ 42) : vM0 k = 0 := by simp [vM0, upd, h]
theorem sn3 (a : Int32) : fX8_stepNumbered iv0 a = 3 := by
  unfold fX8_stepNumbered
  rw [iv0_05]
  split
  · rfl
  · rfl
theorem is0 (a : Int32) : fX9_isStep vM0 a = 0 := by
  unfold fX9_isStep
  rw [vM0_0 (by decide)]
  split
  · rfl
  · rename_i h
    rw [if_pos]
    rw [i32_lt a 0 0 (by decide)] at h
    rw [i32_ge a 0 0 (by decide)]
    omega
theorem u0 (v : Nat → Int32) (a : Int32) : upd v 0 a 0 = a := by simp [upd]
theorem pe_silent (a b : Int32) : (fX8_silent iv0 av0 a b).1 = 3 ∧ (fX9_silent vM0 AM0 a b).2.1 0 = 1 := by
  simp only [fX8_silent, fX9_silent, sn3, is0, u0]
  simp [u0]
theorem pe_template (a b c d e : Int32) : (fX8_template iv0 av0 a b c d e).1 = 3 ∧ (fX9_template vM0 AM0 a b c d e).2.1 0 = 1 := by
  simp only [fX8_template, fX9_template, sn3, is0, u0]
  simp [u0]
theorem pe_pattern (a b c d : Int32) : (fX8_pattern iv0 av0 a b c d).1 = 3 ∧ (fX9_pattern vM0 AM0 a b c d).2.1 0 = 1 := by
  simp only [fX8_pattern, fX9_pattern, sn3, is0, u0]
  simp [u0]
theorem pe_solutions (a : Int32) : (fX8_solutions iv0 a).1 = 3 ∧ (fX9_solutions vM0 AM0 a).2.1 0 = 1 := by
  simp only [fX8_solutions, fX9_solutions, sn3, is0, u0]
  simp [u0]
theorem pe_changed (a b : Int32) : (fX8_changed iv0 av0 a b).1 = 3 ∧ (fX9_changed vM0 AM0 a b).2.1 0 = 1 := by
  simp only [fX8_changed, fX9_changed, iv0_57, vM0_0 (k := 34) (by decide)]
  by_cases h : a < 0
  · simp [h, u0]
  · simp [h, u0]
theorem pe_torn (a b : Int32) : (fX8_torn iv0 av0 a b).1 = (if fX9_isIn a 0 3 = 0 then 3 else 0) ∧ (fX9_torn vM0 AM0 a b).2.1 0 = (if fX9_isIn a 0 3 = 0 then 1 else 0) ∧ ((fX8_torn iv0 av0 a b).1 = 0 → (fX8_torn iv0 av0 a b).2.1 = (fX9_torn vM0 AM0 a b).1) := by
  have hh := isF_eq a
  simp only [fX8_torn, fX9_torn, hh]
  by_cases h : fX9_isIn a 0 3 = 0
  · simp [h, u0]
  · have hj := vin_lt (isIn_in (n := 3) h rfl (by decide))
    simp [h, u0, iv0_F _ hj, AM0_0 (k := 18) (by decide) (by decide)]
theorem pe_file (a b c d : Int32) : ∃ f : Nat, (fX8_file iv0 av0 a b c d).1 = f ∧ (f = 0 ∨ f = 3 ∨ f = 1 ∨ f = 2) ∧ (fX9_file vM0 AM0 a b c d).2.1 0 = (if f = 0 then 0 else if f = 3 then 1 else if f = 1 then 2 else 3) ∧ (f = 0 → (fX8_file iv0 av0 a b c d).2.1 = (fX9_file vM0 AM0 a b c d).1) := by
  have hh := isF_eq a
  simp only [fX8_file, fX9_file, hh, isN_eq]
  by_cases h : fX9_isIn a 0 3 = 0
  · exact ⟨3, by simp [h, u0]⟩
  · have hj := vin_lt (isIn_in (n := 3) h rfl (by decide))
    obtain ⟨q1, q2⟩ := iv0_R _ hj
    by_cases h1 : fX8_isName b = 0
    · exact ⟨1, by simp [h, h1, u0]⟩
    · by_cases h2 : fX8_isName c = 0
      · exact ⟨1, by simp [h, h1, h2, u0]⟩
      · by_cases h3 : fX8_isName d = 0
        · exact ⟨1, by simp [h, h1, h2, h3, u0]⟩
        · have hf : fX3_isFull iv0 (29 + 3 * a.toNatClampNeg + 1) = 0 := by
            unfold fX3_isFull
            rw [q1, q2]
            rfl
          refine ⟨0, ?_⟩
          simp only [h, h1, h2, h3, hf, AM0_0 (k := 14) (by decide) (by decide), fX3_append, q1, if_true, if_false]
          simp [u0, upd]
          decide
theorem i32_eq (a b : Int32) (n : Int) (hb : b.toInt = n) : (a = b) = (a.toInt = n) := propext ⟨fun h => by rw [h, hb], fun h => Int32.toInt_inj.mp (by rw [h, hb])⟩
theorem lu_47 (q a : Int32) : (fX9_lineUp (upd vM0 0 q) AM0 a).1 47 = 0 := by
  simp only [fX9_lineUp]
  simp [upd, vM0, stX9_lineUp_7]
theorem lu_0 (q a : Int32) : (fX9_lineUp (upd vM0 0 q) AM0 a).1 0 = q := by
  simp only [fX9_lineUp]
  simp [upd]
theorem pe_many (a : Int32) : (fX8_many iv0 a).1 = (if fX9_isIn a 0 6 = 0 then 3 else 0) ∧ (fX9_many vM0 AM0 a).2.1 0 = (if fX9_isIn a 0 6 = 0 then 1 else 0) ∧ ((fX8_many iv0 a).1 = 0 → (fX8_many iv0 a).2 = (fX9_many vM0 AM0 a).1) := by
  have hh := gN_eq a
  simp only [fX8_many, fX9_many, hh]
  by_cases h : fX9_isIn a 0 6 = 0
  · simp [h, u0]
  · have hj := vin_lt (isIn_in (n := 6) h rfl (by decide))
    rw [iv0_th _ hj, iv0_sz _ hj]
    by_cases h2 : AM0 23 a.toNatClampNeg = 0
    · simp [h, h2, u0]
    · simp [h, h2, lu_47, lu_0]
theorem pe_at (a b c : Int32) : (fX8_at iv0 av0 a b c).1 = 3 ∧ (fX9_at vM0 AM0 a b c).2.1 0 = 1 := by
  have hh := gN_eq a
  simp only [fX8_at, fX9_at, hh]
  by_cases h : fX9_isIn a 0 6 = 0
  · simp [h, u0]
  · have hj := vin_lt (isIn_in (n := 6) h rfl (by decide))
    rw [iv0_sz _ hj, lu_47]
    by_cases h2 : b < 0
    · simp [h, h2, u0]
    · simp [h, h2, u0]
theorem holds0 (j : Nat) (hj : j < 7) (a : Int32) : fX2_holds iv0 av0 (4 + 1 + 2 * j) a = 0 := by
  unfold fX2_holds
  rw [if_pos]
  unfold fX2_placeOf
  rw [iv0_sz _ hj, show Int32.toNatClampNeg 0 = 0 by decide]
  simp only [bs]
  decide
theorem pe_has (a b c d : Int32) : (fX8_has iv0 av0 a b c d).1 = (if fX9_isIn a 0 6 = 0 then 3 else 0) ∧ (fX9_has vM0 AM0 a b c d).2.1 0 = (if fX9_isIn a 0 6 = 0 then 1 else 0) ∧ ((fX8_has iv0 av0 a b c d).1 = 0 → (fX8_has iv0 av0 a b c d).2 = (fX9_has vM0 AM0 a b c d).1) := by
  have hh := gN_eq a
  have h9 : fX9_find (upd vM0 0 0) AM0 a b c d < 0 := by
    unfold fX9_find
    rw [show (upd vM0 0 0) 20 = 0 by simp [upd, vM0], show Int32.toNatClampNeg 0 = 0 by decide]
    simp only [stX9_find_6]
    decide
  simp only [fX8_has, fX9_has, hh]
  by_cases h : fX9_isIn a 0 6 = 0
  · simp [h, u0]
  · have hj := vin_lt (isIn_in (n := 6) h rfl (by decide))
    rw [holds0 _ hj]
    simp [h, h9, u0]
theorem pe_told (a : Int32) : ∃ f : Nat, (fX8_told iv0 a).1 = f ∧ (f = 0 ∨ f = 1) ∧ (fX9_told vM0 AM0 a).2.1 0 = (if f = 0 then 0 else 1) ∧ (f = 0 → (fX8_told iv0 a).2 = (fX9_told vM0 AM0 a).1) := by
  have hc : fX6_factCount iv0 3 = 0 := by decide +kernel
  simp only [fX8_told, fX9_told, iv0_05, iv0_57, iv0_31, iv0_07, hc, vM0_0 (k := 1) (by decide), vM0_0 (k := 20) (by decide), vM0_0 (k := 26) (by decide), vM0_0 (k := 34) (by decide), vM0_0 (k := 41) (by decide)]
  by_cases h0 : a = 0
  · subst h0; exact ⟨0, by simp [u0, fX9_isIn]⟩
  by_cases h1 : a = 1
  · subst h1; exact ⟨0, by simp [u0, fX9_isIn]⟩
  by_cases h2 : a = 2
  · subst h2; exact ⟨0, by simp [u0, fX9_isIn]⟩
  by_cases h3 : a = 3
  · subst h3; exact ⟨0, by simp [u0, fX9_isIn]⟩
  by_cases h4 : a = 4
  · subst h4; exact ⟨0, by simp [u0, fX9_isIn]⟩
  have hn : fX9_isIn a 0 4 = 0 := by
    unfold fX9_isIn
    rw [i32_eq a 0 0 (by decide)] at h0
    rw [i32_eq a 1 1 (by decide)] at h1
    rw [i32_eq a 2 2 (by decide)] at h2
    rw [i32_eq a 3 3 (by decide)] at h3
    rw [i32_eq a 4 4 (by decide)] at h4
    simp only [i32_lt a 0 0 (by decide), i32_gt a 4 4 (by decide)]
    repeat' split
    all_goals first | rfl | (exfalso; omega)
  exact ⟨1, by simp [h0, h1, h2, h3, h4, hn, u0]⟩
theorem pe_run : (fX8_run0 iv0 av0).1 = (fX9_run0 vM0 AM0).1 := by
  simp only [fX8_run0, fX9_run0, fX0_compare0, fX9_noteAll0, cmp_st]
  simp [u2, upd]
theorem pe_fails : fX8_fails iv0 = (fX9_fails vM0 AM0).1 := by decide +kernel
theorem pe_clear : (fX8_clear iv0 av0).1 = (fX9_clear vM0 AM0).1 := by
  simp only [fX8_clear, fX9_clear, iv0_05, vM0_0 (k := 1) (by decide)]
theorem to_eq (a b : Int32) : fX8_toMayBe a b = fX9_isTo a b := by
  simp only [fX8_toMayBe, fX9_isTo, fX9_isIn, fX8_isGraph, i32_eq a 3 3 (by decide), i32_eq a 4 4 (by decide), i32_eq a 5 5 (by decide), i32_eq b (-1) (-1) (by decide), i32_eq b (-2) (-2) (by decide), i32_eq b 0 0 (by decide), i32_lt b (-2) (-2) (by decide), i32_lt b 0 0 (by decide), i32_lt b 1 1 (by decide), i32_gt b 6 6 (by decide), i32_ge b 7 7 (by decide)]
  by_cases h1 : b.toInt = -1
  · by_cases h3 : a.toInt = 3
    · simp [h1, h3]
    · by_cases h5 : a.toInt = 5
      · simp [h1, h5]
      · by_cases h4 : a.toInt = 4 <;> simp [h1, h3, h4, h5]
  · by_cases h2 : b.toInt = -2
    · by_cases h3 : a.toInt = 3
      · simp [h2, h3]
      · by_cases h5 : a.toInt = 5
        · simp [h2, h5]
        · by_cases h4 : a.toInt = 4 <;> simp [h2, h3, h4, h5]
    · by_cases h6 : b.toInt < 0
      · have q1 : b.toInt < -2 := by omega
        have q2 : b.toInt < 1 := by omega
        by_cases h3 : a.toInt = 3
        · simp [h1, h2, h3, h6, q1]
        · by_cases h5 : a.toInt = 5
          · simp [h1, h2, h5, h6, q1]
          · by_cases h4 : a.toInt = 4 <;> simp [h1, h2, h3, h4, h5, h6, q2]
      · have q1 : ¬ b.toInt < -2 := by omega
        by_cases h7 : 7 ≤ b.toInt
        · have q3 : 6 < b.toInt := by omega
          by_cases h3 : a.toInt = 3
          · simp [h1, h2, h3, h6, h7, q1, q3]
          · by_cases h5 : a.toInt = 5
            · simp [h1, h2, h5, h6, h7, q1, q3]
            · by_cases h4 : a.toInt = 4 <;> simp [h1, h2, h3, h4, h5, h6, h7, q3]
        · have q3 : ¬ 6 < b.toInt := by omega
          by_cases h3 : a.toInt = 3
          · simp [h1, h2, h3, h6, h7, q1, q3]
          · by_cases h5 : a.toInt = 5
            · simp [h1, h2, h5, h6, h7, q1, q3]
            · by_cases h4 : a.toInt = 4
              · by_cases h0 : b.toInt = 0
                · simp [h0, h4]
                · have q2 : ¬ b.toInt < 1 := by omega
                  simp [h1, h2, h4, h6, h7, h0, q2, q3]
              · simp [h1, h2, h3, h4, h5, h6, h7, q3]
theorem bg_05 (t : Nat) (a b c : Int32) : (fX5_begin iv0 av0 (61 + 6 * t) a b c).1 0 5 = 0 := by
  simp only [fX5_begin]
  rw [u2_k _ _ _ _ (by omega), u2_k _ _ _ _ (by omega), u2_k _ _ _ _ (by omega), u2_k _ _ _ _ (by omega), u2_k _ _ _ _ (by omega), u2_k _ _ _ _ (by omega), u2_k _ _ _ _ (by omega), iv0_05]
theorem isIn_0 {a b c : Int32} (h : a < b ∨ c < a) : fX9_isIn a b c = 0 := by
  unfold fX9_isIn
  rcases h with h | h
  · rw [if_pos h]
  · split
    · rfl
    · rfl
theorem isIn_1 {a b c : Int32} (h : ¬ a < b) (h2 : ¬ c < a) : fX9_isIn a b c = 1 := by
  unfold fX9_isIn
  rw [if_neg h, if_neg h2]
theorem pe_step (a b c : Int32) : ∃ f : Nat, (fX8_step iv0 av0 a b c).1 = f ∧ (f = 0 ∨ f = 1 ∨ f = 2) ∧ (fX9_step vM0 AM0 a b c).2.1 0 = (if f = 0 then 0 else if f = 1 then 1 else 2) ∧ (f = 0 → (fX8_step iv0 av0 a b c).2.1 = (fX9_step vM0 AM0 a b c).1) := by
  have hlt : iv0 0 5 < 12 := by rw [iv0_05]; decide
  have hv : ¬ (vM0 1 = 12) := by rw [vM0_0 (by decide)]; decide
  have hv1 : vM0 1 = 0 := vM0_0 (by decide)
  have hu : ∀ (z : Int32), upd (upd vM0 0 0) 1 z 0 = 0 := fun z => by simp [upd]
  by_cases h0 : a < 0
  · have e1 : ¬ a = 2 := fun h => by subst h; exact absurd h0 (by decide)
    have e2 : a < 6 := by
      rw [i32_lt a 0 0 (by decide)] at h0
      rw [i32_lt a 6 6 (by decide)]
      omega
    exact ⟨1, by simp [fX8_step, fX9_step, h0, e1, e2, isIn_0 (a := a) (b := 0) (c := 9) (Or.inl h0), u0]⟩
  by_cases h9 : 9 < a
  · have e1 : ¬ a = 2 := fun h => by subst h; exact absurd h9 (by decide)
    have e2 : ¬ a < 6 := by
      rw [i32_gt a 9 9 (by decide)] at h9
      rw [i32_lt a 6 6 (by decide)]
      omega
    exact ⟨1, by simp [fX8_step, fX9_step, h0, h9, e1, e2, isIn_0 (a := a) (b := 0) (c := 9) (Or.inr h9), u0]⟩
  have hi : fX9_isIn a 0 9 = 1 := isIn_1 h0 h9
  have ht := to_eq a c
  by_cases hT : fX9_isTo a c = 0
  · by_cases a9 : a = 9
    · subst a9
      by_cases hF : fX9_isIn b 0 3 = 0
      · exact ⟨1, by simp [fX8_step, fX9_step, ht, hT, hi, hF, u0]⟩
      · exact ⟨1, by simp [fX8_step, fX9_step, ht, hT, hi, hF, u0]⟩
    · by_cases a2 : a = 2
      · subst a2
        by_cases hG : fX9_isIn b 0 6 = 0
        · exact ⟨1, by simp [fX8_step, fX9_step, ht, hT, hi, hG, u0]⟩
        · exact ⟨1, by simp [fX8_step, fX9_step, ht, hT, hi, hG, u0]⟩
      · by_cases a6 : a < 6
        · exact ⟨1, by simp [fX8_step, fX9_step, h0, h9, a9, a2, a6, ht, hT, hi, u0]⟩
        · by_cases hG : fX9_isIn b 0 6 = 0
          · exact ⟨1, by simp [fX8_step, fX9_step, h0, h9, a9, a2, a6, ht, hT, hi, hG, u0]⟩
          · exact ⟨1, by simp [fX8_step, fX9_step, h0, h9, a9, a2, a6, ht, hT, hi, hG, u0]⟩
  · by_cases a9 : a = 9
    · subst a9
      by_cases hF : fX9_isIn b 0 3 = 0
      · have hm : fX8_fromMayBe 9 b = 0 := by
          simp only [fX9_isIn, sx_3] at hF
          simp only [fX8_fromMayBe, if_true]
          exact hF
        exact ⟨1, by simp [fX8_step, fX9_step, hm, hi, hF, u0]⟩
      · have hm : ¬ fX8_fromMayBe 9 b = 0 := by
          simp only [fX9_isIn, sx_3] at hF
          simp only [fX8_fromMayBe, if_true]
          exact hF
        exact ⟨0, by simp [fX8_step, fX9_step, hm, ht, hT, hlt, hv, hi, hF, u0, hu, bg_05, hv1, fX8_fromCounts]⟩
    · by_cases a2 : a = 2
      · subst a2
        by_cases hG : fX9_isIn b 0 6 = 0
        · have hm : fX8_fromMayBe 2 b = 0 := by
            rw [isG_eq] at hG
            simp [fX8_fromMayBe, fX8_fromCounts, hG]
          exact ⟨1, by simp [fX8_step, fX9_step, hm, hi, hG, u0]⟩
        · have hm : ¬ fX8_fromMayBe 2 b = 0 := by
            rw [isG_eq] at hG
            simp [fX8_fromMayBe, fX8_fromCounts, hG]
          exact ⟨0, by simp [fX8_step, fX9_step, hm, ht, hT, hlt, hv, hi, hG, u0, hu, bg_05, hv1, fX8_fromCounts]⟩
      · by_cases a6 : a < 6
        · have hm : ¬ fX8_fromMayBe a b = 0 := by simp [fX8_fromMayBe, fX8_fromCounts, a9, a2, a6]
          exact ⟨0, by simp [fX8_step, fX9_step, h0, h9, a9, a2, a6, hm, ht, hT, hlt, hv, hi, u0, hu, bg_05, hv1, fX8_fromCounts]⟩
        · by_cases hG : fX9_isIn b 0 6 = 0
          · have hm : fX8_fromMayBe a b = 0 := by
              rw [isG_eq] at hG
              simp [fX8_fromMayBe, fX8_fromCounts, hG, a9, a2, a6]
            exact ⟨1, by simp [fX8_step, fX9_step, h0, h9, a9, a2, a6, hm, hi, hG, u0]⟩
          · have hm : ¬ fX8_fromMayBe a b = 0 := by
              rw [isG_eq] at hG
              simp [fX8_fromMayBe, fX8_fromCounts, hG, a9, a2, a6]
            exact ⟨0, by simp [fX8_step, fX9_step, h0, h9, a9, a2, a6, hm, ht, hT, hlt, hv, hi, hG, u0, hu, bg_05, hv1, fX8_fromCounts]⟩
end
section
/-! both objects in one heap -/
theorem cm_mm {aC : Nat → ClassId} {x r : Nat} {iv av : Nat → Nat → Int32} {v : Nat → Int32} {A : Nat → Nat → Int32} {R : ZM} (h : x + 133 ≤ r) : cm aC x iv av (mm aC r v A R) = mm aC r v A (cm aC x iv av R) := by
  funext q
  by_cases hb : x ≤ q ∧ q < x + 133
  · obtain ⟨j, rfl⟩ : ∃ j, q = x + j := ⟨q - x, by omega⟩
    rw [cm_at (by omega), mm_out (by omega), cm_at (by omega)]
  · rw [cm_out (by omega)]
    by_cases hr : r ≤ q ∧ q < r + 39
    · obtain ⟨j, rfl⟩ : ∃ j, q = r + j := ⟨q - r, by omega⟩
      rw [mm_at (by omega), mm_at (by omega)]
    · rw [mm_out (by omega), mm_out (by omega), cm_out (by omega)]
theorem mm_zup {aC : Nat → ClassId} {r w : Nat} {v : Nat → Int32} {A : Nat → Nat → Int32} {R : ZM} {e : va_E} (h : w < r ∨ r + 39 ≤ w) : zup (mm aC r v A R) w e = mm aC r v A (zup R w e) := by
  funext q
  by_cases hq : q = w
  · subst hq; rw [zup_self, mm_out h, zup_self]
  · rw [zup_ne _ _ hq]
    by_cases hr : r ≤ q ∧ q < r + 39
    · obtain ⟨j, rfl⟩ : ∃ j, q = r + j := ⟨q - r, by omega⟩
      rw [mm_at (by omega), mm_at (by omega)]
    · rw [mm_out (by omega), mm_out (by omega), zup_ne _ _ hq]
abbrev LA (aC : Nat → ClassId) (g : Nat → Int64) : va_E := .inl (aC 6, 1, .inr (.inl g))
theorem wm_w {aC : Nat → ClassId} {x r w : Nat} {iv av : Nat → Nat → Int32} {v : Nat → Int32} {A : Nat → Nat → Int32} {R : ZM} {e : va_E} (h : x + 133 ≤ r) (h2 : r + 39 ≤ w) : mm aC r v A (cm aC x iv av (zup R w e)) w = some e := by
  rw [mm_out (by omega), cm_out (by omega), zup_self]
theorem wm_c {aC : Nat → ClassId} {x r w : Nat} {iv av : Nat → Nat → Int32} {v : Nat → Int32} {A : Nat → Nat → Int32} {R : ZM} {e : va_E} (h : x + 133 ≤ r) (h2 : r + 39 ≤ w) : cm aC x iv av (mm aC r v A (zup R w e)) w = some e := by
  rw [cm_out (by omega), mm_out (by omega), zup_self]
theorem wm_if {aC : Nat → ClassId} {x r w f : Nat} {iv av : Nat → Nat → Int32} {v : Nat → Int32} {A : Nat → Nat → Int32} {R : ZM} {g g2 : Nat → Int64} (h : x + 133 ≤ r) (h2 : r + 39 ≤ w) :
    (if f = 0 then zup (cm aC x iv av (mm aC r v A (zup R w (LA aC g)))) w (LA aC g2) else cm aC x iv av (mm aC r v A (zup R w (LA aC g)))) = mm aC r v A (cm aC x iv av (zup R w (LA aC (if f = 0 then g2 else g)))) := by
  by_cases q : f = 0
  · rw [if_pos q, if_pos q, cm_zup (by omega), mm_zup (by omega), zup_zup, cm_mm h]
  · rw [if_neg q, if_neg q, cm_mm h]
theorem Ct.post {l : Launch} {D : va_G} {aC : Nat → ClassId} {b0 : Nat} {y : MethodName} {cc : ByteArray} {maxL : Nat} {ret : Option FieldType} {n mc ms : Nat} {av : List Value} {M : ZM} {sz : Nat} {r0 : Option Value} {M0 M1 : ZM} (h : Ct l D aC b0 y cc maxL ret n mc ms av M sz (zd r0 M0)) (e : M0 = M1) : Ct l D aC b0 y cc maxL ret n mc ms av M sz (zd r0 M1) := e ▸ h
theorem CtW.post {l : Launch} {D : va_G} {aC : Nat → ClassId} {b0 : Nat} {y : MethodName} {cc : ByteArray} {maxL : Nat} {ret : Option FieldType} {hh : List (Nat × Nat × Nat × Nat)} {n mc ms : Nat} {av : List Value} {M : ZM} {sz : Nat} {r0 : Option Value} {M0 M1 : ZM} (h : CtW l D aC b0 y cc maxL ret hh n mc ms av M sz (zd r0 M0)) (e : M0 = M1) : CtW l D aC b0 y cc maxL ret hh n mc ms av M sz (zd r0 M1) := e ▸ h
theorem updL0 (g : Nat → Int64) (z : Int64) : vp_updL g 0 z (Int32.toNatClampNeg (nI 0)) = z := by
  rw [show Int32.toNatClampNeg (nI 0) = 0 by decide]
  simp [vp_updL]
theorem b01 (c : Prop) [Decidable c] : (if c then 0 else 1 : Int32) = 0 ∨ (if c then 0 else 1 : Int32) = 1 := by
  by_cases h : c
  · exact Or.inl (if_pos h)
  · exact Or.inr (if_neg h)
end
section
theorem lt_i (i : Nat) {w : Cond} (h : lw_tbl[i]? = some w) {A : Array Value} {s : State} (hts : ∀ w ∈ lw_tbl, w.before A s = true) : w.before A s = true := hts w (List.mem_of_getElem? h)
theorem st_str {A : Array Value} {s : State} {cls : Nat} (hts : ∀ w ∈ lw_tbl, w.before A s = true) (hc : s.vm.findClass "UpdateSteps" = some cls) : ∀ q ∈ zStr, ∃ a, vk_R q.1 q.2.1 q.2.2 a s := by
  have one : ∀ (k : Nat) (t : String), (Cond.stringRef "UpdateSteps" k t).before A s = true → ∃ a, vk_R "UpdateSteps" k t a s := by
    intro k t h
    have h2 : (Cond.stringRef "UpdateSteps" k t).before #[] s = true := by
      first
        | exact h
        | (simp only [Cond.before, Cond.holds, Cond.value, State.names, State.poolOf?, State.resolvedAt?] at h ⊢; exact h)
    obtain ⟨_, _, _, a, -, -, -, -, -, hev⟩ := Cond.stringRef_spec hc h2
    exact ⟨a, h2, hev⟩
  unfold zStr
  refine List.forall_mem_cons.mpr ⟨one 60 "no such kind, or not with this FROM or TO" (lt_i 549 (by decide +kernel) hts), List.forall_mem_cons.mpr ⟨one 67 "no more steps" (lt_i 585 (by decide +kernel) hts), List.forall_mem_cons.mpr ⟨one 234 "no such step" (lt_i 617 (by decide +kernel) hts), List.forall_mem_cons.mpr ⟨one 100 "no such template in this step" (lt_i 640 (by decide +kernel) hts), List.forall_mem_cons.mpr ⟨one 112 "no more templates" (lt_i 645 (by decide +kernel) hts), List.forall_mem_cons.mpr ⟨one 121 "no such pattern in this step" (lt_i 666 (by decide +kernel) hts), List.forall_mem_cons.mpr ⟨one 126 "no more rows of the pattern" (lt_i 667 (by decide +kernel) hts), List.forall_mem_cons.mpr ⟨one 236 "no such file" (lt_i 680 (by decide +kernel) hts), List.forall_mem_cons.mpr ⟨one 139 "a file has names alone" (lt_i 681 (by decide +kernel) hts), List.forall_mem_cons.mpr ⟨one 146 "no more rows of the file" (lt_i 682 (by decide +kernel) hts), List.forall_mem_cons.mpr ⟨one 245 "no such graph" (lt_i 701 (by decide +kernel) hts), List.forall_mem_cons.mpr ⟨one 190 "no such fact" (lt_i 709 (by decide +kernel) hts), List.forall_mem_cons.mpr ⟨one 193 "a fact has parts 0 to 2" (lt_i 710 (by decide +kernel) hts), List.forall_mem_cons.mpr ⟨one 212 "no such change" (lt_i 731 (by decide +kernel) hts), List.forall_mem_cons.mpr ⟨one 214 "a change has parts 0 to 4" (lt_i 732 (by decide +kernel) hts), List.forall_mem_cons.mpr ⟨one 232 "what is 0 to 4" (lt_i 748 (by decide +kernel) hts), fun _ h => absurd h List.not_mem_nil⟩⟩⟩⟩⟩⟩⟩⟩⟩⟩⟩⟩⟩⟩⟩⟩
set_option maxRecDepth 100000 in
theorem st_no {A : Array Value} {s : State} (h : (Jvm.Cond.and given_1 narrow_1).before A s = true) : ∀ q ∈ zNo, va_Nc q.1 q.2 s := by
  have hs := flat_of_before _ h
  unfold zNo
  refine List.forall_mem_cons.mpr ⟨va_Nc.of (hs (Cond.not (.castable "java/lang/IllegalStateException" "java/lang/IllegalArgumentException")) (by decide +kernel)), List.forall_mem_cons.mpr ⟨va_Nc.of (hs (Cond.not (.castable "java/lang/IndexOutOfBoundsException" "java/lang/IllegalArgumentException")) (by decide +kernel)), List.forall_mem_cons.mpr ⟨va_Nc.of (hs (Cond.not (.castable "java/lang/IllegalArgumentException" "java/lang/IllegalStateException")) (by decide +kernel)), List.forall_mem_cons.mpr ⟨va_Nc.of (hs (Cond.not (.castable "java/lang/IndexOutOfBoundsException" "java/lang/IllegalStateException")) (by decide +kernel)), List.forall_mem_cons.mpr ⟨va_Nc.of (hs (Cond.not (.castable "java/lang/IllegalArgumentException" "java/lang/IndexOutOfBoundsException")) (by decide +kernel)), List.forall_mem_cons.mpr ⟨va_Nc.of (hs (Cond.not (.castable "java/lang/IllegalStateException" "java/lang/IndexOutOfBoundsException")) (by decide +kernel)), fun _ h => absurd h List.not_mem_nil⟩⟩⟩⟩⟩⟩
theorem st_zg {A : Array Value} {s : State} {cls : Nat} (hts : ∀ w ∈ lw_tbl, w.before A s = true) (hgv : (Jvm.Cond.and given_1 narrow_1).before A s = true) (hc : s.vm.findClass "UpdateSteps" = some cls) : zg s := by
  refine ⟨fun w hw => word_at (State.WarmedH.refl s) (good_of_word (zW_good hw)) (hts w (List.mem_filter.mp hw).1), fun w hw => va_Nw.of (zN_tab (List.mem_filter.mp hw).2) (hts w (List.mem_filter.mp hw).1), ?_, st_str hts hc, st_no hgv, ?_⟩
  · exact List.forall_mem_cons.mpr ⟨va_AO.of (lt_i 131 (by decide +kernel) hts), List.forall_mem_cons.mpr ⟨va_AO.of (lt_i 90 (by decide +kernel) hts), List.forall_mem_cons.mpr ⟨va_AO.of (lt_i 76 (by decide +kernel) hts), fun _ h => absurd h List.not_mem_nil⟩⟩⟩
  · exact (lt_i (w := .arrayOver (.array .int)) 139 (by decide +kernel) hts : (Cond.arrayOver (.array .int)).before A s = true)
theorem st_cl {A : Array Value} {s : State} (hts : ∀ w ∈ zW, w.before A s = true) : ∃ D : va_G, ∀ (k : Nat) (q : vw_C), vwCl[k]? = some q → u_Kn s q.1 q.2.1 q.2.2 (D.1 k) (D.2 k) := by
  obtain ⟨cX0, iX0, hX0⟩ := u_known (C := RX0) (T := TX0) (N := 4) (n := 4) hts inz_X0 (hts (.instantiable RX0 4) (zWi 212 (by decide +kernel) rfl))
  obtain ⟨cX1, iX1, hX1⟩ := u_known (C := RX1) (T := TX1) (N := 2) (n := 2) hts inz_X1 (hts (.instantiable RX1 2) (zWi 155 (by decide +kernel) rfl))
  obtain ⟨cX2, iX2, hX2⟩ := u_known (C := RX2) (T := TX2) (N := 3) (n := 3) hts inz_X2 (hts (.instantiable RX2 3) (zWi 91 (by decide +kernel) rfl))
  obtain ⟨cX3, iX3, hX3⟩ := u_known (C := RX3) (T := TX3) (N := 3) (n := 3) hts inz_X3 (hts (.instantiable RX3 3) (zWi 161 (by decide +kernel) rfl))
  obtain ⟨cX4, iX4, hX4⟩ := u_known (C := RX4) (T := TX4) (N := 4) (n := 4) hts inz_X4 (hts (.instantiable RX4 4) (zWi 133 (by decide +kernel) rfl))
  obtain ⟨cX5, iX5, hX5⟩ := u_known (C := RX5) (T := TX5) (N := 8) (n := 8) hts inz_X5 (hts (.instantiable RX5 8) (zWi 234 (by decide +kernel) rfl))
  obtain ⟨cX6, iX6, hX6⟩ := u_known (C := RX6) (T := TX6) (N := 2) (n := 2) hts inz_X6 (hts (.instantiable RX6 2) (zWi 84 (by decide +kernel) rfl))
  obtain ⟨cX7, iX7, hX7⟩ := u_known (C := RX7) (T := TX7) (N := 5) (n := 5) hts inz_X7 (hts (.instantiable RX7 5) (zWi 78 (by decide +kernel) rfl))
  obtain ⟨cX8, iX8, hX8⟩ := u_known (C := RX8) (T := TX8) (N := 8) (n := 8) hts inz_X8 (hts (.instantiable RX8 8) (zWi 68 (by decide +kernel) rfl))
  obtain ⟨cX9, iX9, hX9⟩ := u_known (C := RX9) (T := TX9) (N := 50) (n := 50) hts inz_X9 (hts (.instantiable RX9 50) (zWi 750 (by decide +kernel) rfl))
  refine ⟨(fun k => match k with | 0 => cX0 | 1 => cX1 | 2 => cX2 | 3 => cX3 | 4 => cX4 | 5 => cX5 | 6 => cX6 | 7 => cX7 | 8 => cX8 | _ => cX9, fun k => match k with | 0 => iX0 | 1 => iX1 | 2 => iX2 | 3 => iX3 | 4 => iX4 | 5 => iX5 | 6 => iX6 | 7 => iX7 | 8 => iX8 | _ => iX9), ?_⟩
  intro k q hq
  match k, hq with
  | 0, hq => cases hq; exact hX0
  | 1, hq => cases hq; exact hX1
  | 2, hq => cases hq; exact hX2
  | 3, hq => cases hq; exact hX3
  | 4, hq => cases hq; exact hX4
  | 5, hq => cases hq; exact hX5
  | 6, hq => cases hq; exact hX6
  | 7, hq => cases hq; exact hX7
  | 8, hq => cases hq; exact hX8
  | 9, hq => cases hq; exact hX9
  | k + 10, hq => simp [vwCl] at hq
theorem st_ar {A : Array Value} {s : State} {t : FieldType} (h : (Cond.arrayClass t).before A s = true) : ∃ cA, ArrOfT s cA t ∧ s.vm.findClass ("[" ++ t.toString) = some cA := by
  obtain ⟨cA, kA, comp, h1, h2, h3⟩ := Cond.arrayClass_spec h
  exact ⟨cA, fun n z => ⟨fun k h => (by cases h), kA, h2, comp, h3⟩, h1⟩
theorem st_ob {A : Array Value} {s : State} {C : String} (h : (Cond.arrayOver (.object C)).before A s = true) : ∃ cA, ArrOfT s cA (.object C) ∧ va_RA s cA (.object C) := by
  obtain ⟨comp, cA, kA, h1, -, h2, h3, h4⟩ := Cond.arrayOver_spec h
  exact ⟨cA, fun n z => ⟨fun k h => (by cases h), kA, h2, comp, h3⟩, kA, comp, h2, h3, h1, h4⟩
theorem st_aa {s : State} (h : zAA s) : ∃ cA, ArrOfT s cA (.array .int) ∧ va_RA s cA (.array .int) := by
  obtain ⟨comp, cA, kA, h1, h2, h3, h4, h5⟩ := arrayOverA_spec h
  exact ⟨cA, fun n z => ⟨fun k h => (by cases h), kA, h3, comp, h4⟩, h5⟩
theorem st_K {A : Array Value} {s : State} (hts : ∀ w ∈ zW, w.before A s = true) (hg : zg s) : ∃ (D : va_G) (aC : Nat → ClassId), va_K D vwCl (zT aC) s := by
  obtain ⟨D, hD⟩ := st_cl hts
  obtain ⟨a0, p0, q0⟩ := st_ar (hts _ aw_int)
  obtain ⟨a1, p1, q1⟩ := st_ar (hts _ aw_boolean)
  obtain ⟨a2, p2, q2⟩ := st_ob (A := #[]) (va_AO.use (hg.2.2.1 RX1 (by decide)))
  obtain ⟨a3, p3, q3⟩ := st_ob (A := #[]) (va_AO.use (hg.2.2.1 RX2 (by decide)))
  obtain ⟨a4, p4, q4⟩ := st_ob (A := #[]) (va_AO.use (hg.2.2.1 RX5 (by decide)))
  obtain ⟨a5, p5, q5⟩ := st_aa hg.2.2.2.2.2
  obtain ⟨a6, p6, q6⟩ := st_ar (hts _ aw_long)
  refine ⟨D, (fun k => match k with | 0 => a0 | 1 => a1 | 2 => a2 | 3 => a3 | 4 => a4 | 5 => a5 | _ => a6), hD, ?_⟩
  intro k q hq
  match k, hq with
  | 0, hq => cases hq; exact ⟨p0, q0⟩
  | 1, hq => cases hq; exact ⟨p1, q1⟩
  | 2, hq => cases hq; exact ⟨p2, q2⟩
  | 3, hq => cases hq; exact ⟨p3, q3⟩
  | 4, hq => cases hq; exact ⟨p4, q4⟩
  | 5, hq => cases hq; exact ⟨p5, q5⟩
  | 6, hq => cases hq; exact ⟨p6, q6⟩
  | k + 7, hq => simp [zT] at hq
set_option maxRecDepth 100000 in
theorem st_G {A : Array Value} {s : State} {l : Launch} (hst : l.stackTraces = false) (hts : ∀ w ∈ lw_tbl, w.before A s = true) (hgv : (Jvm.Cond.and given_1 narrow_1).before A s = true) : ∃ (D : va_G) (aC : Nat → ClassId), zG l D aC s.heap.size s := by
  have hs := flat_of_before _ hgv
  have hW : ∀ w ∈ zW, w.before A s = true := fun w hw => hts w (List.mem_filter.mp hw).1
  obtain ⟨cX, iX, hX⟩ := u_known (C := RX8) (T := TX8) (N := 8) (n := 8) hW inz_X8 (hW (.instantiable RX8 8) (zWi 68 (by decide +kernel) rfl))
  have hg : zg s := st_zg hts hgv hX.2.1
  obtain ⟨D, aC, hK⟩ := st_K hW hg
  have hA : ∀ a : Nat, a < s.heap.size → ¬ zA s.heap.size a := fun a h q => absurd h (Nat.not_lt.mpr q)
  exact ⟨D, aC, hst, hK, hg, vx_Zqof (lt_i 535 (by decide +kernel) hts) (lt_i 59 (by decide +kernel) hts) (hs (Cond.isRef (.static "java/lang/Throwable" "UNASSIGNED_STACK" "[Ljava/lang/StackTraceElement;")) (by decide +kernel)) hA, vx_Zqof (lt_i 537 (by decide +kernel) hts) (lt_i 59 (by decide +kernel) hts) (hs (Cond.isRef (.static "java/lang/Throwable" "SUPPRESSED_SENTINEL" "Ljava/util/List;")) (by decide +kernel)) hA, Nat.le_refl _⟩
end
