/-! file, torn, told, changed on both. -/
theorem fn_is {a : Int32} : (∃ i, i < 4 ∧ a = nI i ∧ fX8_fileNumbered a = 0 ∧ ¬ fX9_isIn a 0 3 = 0) ∨ (fX8_fileNumbered a = 3 ∧ fX9_isIn a 0 3 = 0) := by
  unfold fX8_fileNumbered fX9_isIn
  by_cases h : a < 0
  · exact Or.inr ⟨by rw [if_pos h], by rw [if_pos h]⟩
  · obtain ⟨i, hi, rfl⟩ := nI_of h
    by_cases h2 : i < 4
    · exact Or.inl ⟨i, h2, rfl, by rw [if_neg h, if_pos (show nI i < 4 from nI_lt (b := 4) h2 (by decide))], by rw [if_neg h, if_neg (show ¬ (3 : Int32) < nI i from nI_nlt (a := 3) (by omega) (by decide))]; decide⟩
    · exact Or.inr ⟨by rw [if_neg h, if_neg (show ¬ nI i < 4 from nI_nlt (b := 4) (by omega) hi)], by rw [if_neg h, if_pos (show (3 : Int32) < nI i from nI_lt (a := 3) (by omega) hi)]⟩
theorem RelC_files {iv av iv' av' : Nat → Nat → Int32} {W : Om} {TN : Nat → Bool} {FL : Nat → List Nat} (h : RelC iv av W) (hk : ∀ k f, k < 29 ∨ 40 < k → iv' k f = iv k f) (ha : ∀ k, k < 29 ∨ 40 < k → av' k = av k) (hF : FLc iv' av' TN FL) : RelC iv' av' (W.1, TN, FL, W.2.2.2) := by
  obtain ⟨h1, h2, h3, h4, h5, h6, h7, h8, h9⟩ := h
  refine ⟨⟨by rw [hk 0 5 (by omega)]; exact h1.1, h1.2.1, fun i q hq => ⟨(h1.2.2 i q hq).1.cells (fun f _ => hk _ f (by omega)) (fun f => hk _ f (by omega)) (fun f => hk _ f (by omega)) (ha _ (by omega)) (ha _ (by omega)) (ha _ (by omega)), (h1.2.2 i q hq).2⟩⟩, hF, ⟨h3.1, fun g hg => (h3.2.1 g hg).kept (hk _ _ (by omega)) (hk _ _ (by omega)) (ha _ (by omega)), by rw [hk 3 1 (by omega)]; exact h3.2.2⟩, ?_, h5, h6, by rw [hk 0 6 (by omega)]; exact h7, by rw [hk 0 7 (by omega)]; exact h8, fun j hj => ?_⟩
  · unfold CHc at h4 ⊢
    rw [hk 57 3 (by omega), ha 58 (by omega), ha 59 (by omega), ha 60 (by omega)]
    exact h4
  · rw [hk (61 + 6 * j + 1) 2 (by omega), hk (61 + 6 * j + 1) 1 (by omega), hk (61 + 6 * j + 4) 2 (by omega), hk (61 + 6 * j + 4) 1 (by omega), hk (61 + 6 * j) 6 (by omega)]
    exact h9 j hj
theorem RelR_files {v v' : Nat → Int32} {A A' : Nat → Nat → Int32} {W : Om} {TN : Nat → Bool} {FL : Nat → List Nat} (h : RelR v A W) (hv : ∀ k, k ≠ 0 → v' k = v k) (hA : ∀ q, q < 14 ∨ 18 < q → A' q = A q) (hF : FLr A' TN FL) : RelR v' A' (W.1, TN, FL, W.2.2.2) := by
  obtain ⟨h1, h2, h3, h4, h5, h6, h7, h8⟩ := h
  refine ⟨⟨by rw [hv 1 (by decide)]; exact h1.1, h1.2.1, fun i q hq => ⟨?_, (h1.2.2 i q hq).2⟩⟩, hF, RC_v h3 (hv 20 (by decide)) (hv 26 (by decide)) (fun q h _ => hA q (by omega)), by rw [hv 34 (by decide)]; exact h4, ?_, by rw [hv 42 (by decide)]; exact h6, by rw [hv 41 (by decide)]; exact h7, ?_⟩
  · have hE := (h1.2.2 i q hq).1
    unfold ER at hE ⊢
    rw [hA 1 (by omega), hA 2 (by omega), hA 3 (by omega), hA 4 (by omega), hA 5 (by omega), hA 6 (by omega), hA 7 (by omega), hA 8 (by omega), hA 9 (by omega), hA 10 (by omega), hA 11 (by omega), hA 12 (by omega), hA 13 (by omega)]
    exact hE
  · unfold chR at h5 ⊢
    rw [hA 29 (by omega), hA 30 (by omega), hA 31 (by omega), hA 32 (by omega), hA 33 (by omega)]
    exact h5
  · unfold MSR at h8 ⊢
    rw [hA 4 (by omega), hA 5 (by omega), hA 10 (by omega)]
    exact h8
theorem al_torn {iv av : Nat → Nat → Int32} {v : Nat → Int32} {A : Nat → Nat → Int32} {W : Om} (hC : RelC iv av W) (hR : RelR v A W) (a b : Int32) (hb : b = 0 ∨ b = 1) : ∃ (f : Nat) (W' : Om), (fX8_torn iv av a b).1 = f ∧ (f = 0 ∨ f = 3) ∧ (fX9_torn v A a b).2.1 0 = (if f = 0 then 0 else 1) ∧ (f = 0 → (fX8_torn iv av a b).2.1 = (fX9_torn v A a b).1) ∧ RelC (fX8_torn iv av a b).2.2.1 (fX8_torn iv av a b).2.2.2 W' ∧ RelR (fX9_torn v A a b).2.1 (fX9_torn v A a b).2.2 W' := by
  have tb := bI_s hb
  unfold fX8_torn fX9_torn
  rcases fn_is (a := a) with ⟨i, hi, rfl, h1, h2⟩ | ⟨h1, h2⟩
  · rw [if_pos h1, if_neg h2, nI_clamp (by omega)]
    dsimp only
    have fC := hC.2.1 i hi
    have fR := hR.2.1 i hi
    refine ⟨0, (W.1, fun f => if f = i then decide (b = 1) else W.2.1 f, W.2.2), rfl, Or.inl rfl, by simp [upd], fun _ => by rw [fC.2.2.2.1, fR.2.2.2.1], ?_, ?_⟩
    · refine RelC_files hC (fun k f hk => u2_k _ _ _ _ (by omega)) (fun _ _ => rfl) (fun f hf => ?_)
      have g := hC.2.1 f hf
      refine ⟨(u2_k _ _ _ _ (by omega)).trans g.1, g.2.1, (u2_k _ _ _ _ (by omega)).trans g.2.2.1, ?_, g.2.2.2.2.1, g.2.2.2.2.2⟩
      by_cases e : f = i
      · subst e; rw [u2_s, if_pos rfl]; exact tb
      · rw [u2_k _ _ _ _ (by omega), if_neg e]; exact g.2.2.2.1
    · refine RelR_files hR (fun k hk => by simp [upd, hk]) (fun q hq => u1_k _ _ (by omega)) (fun f hf => ?_)
      have g := hR.2.1 f hf
      refine ⟨(congrFun (u1_k _ _ (by decide)) f).trans g.1, g.2.1, ?_, ?_, g.2.2.2.2⟩
      · rw [u1_k _ _ (show 15 ≠ 18 by decide), u1_k _ _ (show 16 ≠ 18 by decide), u1_k _ _ (show 17 ≠ 18 by decide)]; exact g.2.2.1
      · rw [u1_s]
        unfold upd
        by_cases e : f = i
        · rw [if_pos e, if_pos e]; exact tb
        · rw [if_neg e, if_neg e]; exact g.2.2.2.1
  · have e3 : ¬ fX8_fileNumbered a = 0 := by rw [h1]; decide
    rw [if_neg e3, if_pos h2]
    exact ⟨3, W, h1, Or.inr rfl, by simp [upd], fun q => absurd q (by decide), hC, hR.fault 1⟩
theorem getD_lo {l : List Nat} {e j : Nat} (h : j < l.length) : (l ++ [e]).getD j 0 = l.getD j 0 := by
  simp [List.getD_eq_getElem?_getD, List.getElem?_append_left h]
theorem getD_hi {l : List Nat} {e : Nat} : (l ++ [e]).getD l.length 0 = e := by
  simp [List.getD_eq_getElem?_getD]
theorem al_file {iv av : Nat → Nat → Int32} {v : Nat → Int32} {A : Nat → Nat → Int32} {W : Om} (hC : RelC iv av W) (hR : RelR v A W) (a b c d : Int32) : ∃ (f : Nat) (W' : Om), (fX8_file iv av a b c d).1 = f ∧ (f = 0 ∨ f = 3 ∨ f = 1 ∨ f = 2) ∧ (fX9_file v A a b c d).2.1 0 = (if f = 0 then 0 else if f = 3 then 1 else if f = 1 then 2 else 3) ∧ (f = 0 → (fX8_file iv av a b c d).2.1 = (fX9_file v A a b c d).1) ∧ RelC (fX8_file iv av a b c d).2.2.1 (fX8_file iv av a b c d).2.2.2 W' ∧ RelR (fX9_file v A a b c d).2.1 (fX9_file v A a b c d).2.2 W' := by
  have bad : ∀ (x : Nat × Int32 × (Nat → Nat → Int32) × (Nat → Nat → Int32)) (y : Int32 × (Nat → Int32) × (Nat → Nat → Int32)) (f : Nat) (z : Int32), x = (f, 0, iv, av) → y = (0, upd v 0 z, A) → ((f = 3 ∧ z = 1) ∨ (f = 1 ∧ z = 2) ∨ (f = 2 ∧ z = 3)) → ∃ (f : Nat) (W' : Om), x.1 = f ∧ (f = 0 ∨ f = 3 ∨ f = 1 ∨ f = 2) ∧ y.2.1 0 = (if f = 0 then 0 else if f = 3 then 1 else if f = 1 then 2 else 3) ∧ (f = 0 → x.2.1 = y.1) ∧ RelC x.2.2.1 x.2.2.2 W' ∧ RelR y.2.1 y.2.2 W' := by
    intro x y f z hx hy h
    subst hx hy
    rcases h with ⟨rfl, rfl⟩ | ⟨rfl, rfl⟩ | ⟨rfl, rfl⟩
    · exact ⟨3, W, rfl, by decide, by simp [upd], fun q => absurd q (by decide), hC, hR.fault 1⟩
    · exact ⟨1, W, rfl, by decide, by simp [upd], fun q => absurd q (by decide), hC, hR.fault 2⟩
    · exact ⟨2, W, rfl, by decide, by simp [upd], fun q => absurd q (by decide), hC, hR.fault 3⟩
  unfold fX8_file fX9_file
  rcases fn_is (a := a) with ⟨i, hi, rfl, h1, h2⟩ | ⟨h1, h2⟩
  · rw [if_pos h1, if_neg h2, nI_clamp (by omega)]
    have key : ∀ t : Int32, fX8_isName t = 0 ↔ fX9_isName t = 0 := fun t => by rw [isName8, isNm9]
    by_cases tb : fX9_isName b = 0
    · rw [if_pos ((key b).mpr tb), if_pos tb]; exact bad _ _ 1 2 rfl rfl (by decide)
    · rw [if_neg (fun r => tb ((key b).mp r)), if_neg tb]
      by_cases tc : fX9_isName c = 0
      · rw [if_pos ((key c).mpr tc), if_pos tc]; exact bad _ _ 1 2 rfl rfl (by decide)
      · rw [if_neg (fun r => tc ((key c).mp r)), if_neg tc]
        by_cases td : fX9_isName d = 0
        · rw [if_pos ((key d).mpr td), if_pos td]; exact bad _ _ 1 2 rfl rfl (by decide)
        · rw [if_neg (fun r => td ((key d).mp r)), if_neg td]
          have g : ∀ t : Int32, ¬ fX9_isName t = 0 → ∃ j, j < 100 ∧ t = nI j := fun t ht => by
            have q : isNm t := Classical.not_not.mp (fun r => ht (isNm9.mpr r))
            have := nn_i q.1
            exact ⟨nn t, by have := q.2; omega, (nI_of_nn q.1).symm⟩
          obtain ⟨s, hs, rfl⟩ := g b tb
          obtain ⟨p, hp, rfl⟩ := g c tc
          obtain ⟨o, ho, rfl⟩ := g d td
          have fC := hC.2.1 i hi
          have fR := hR.2.1 i hi
          have hl := fC.2.1
          by_cases hf : (W.2.2.1 i).length = 10
          · have n4 : A 14 i = 10 := by rw [fR.1, hf]; rfl
            rw [if_neg (full_s fC.1 fC.2.2.1 (by omega) (by omega)), if_pos n4]; exact bad _ _ 2 3 rfl rfl (by decide)
          · have n4 : ¬ A 14 i = 10 := by rw [fR.1, show (10 : Int32) = nI 10 from rfl, nI_eq (by omega) (by decide)]; exact hf
            have ap := app_s (av := av) (x := nI s) (y := nI p) (z := nI o) fC.1 fC.2.2.1 (by omega) (by decide)
            have e4 : (10 : Int32) * nI i + nI (W.2.2.1 i).length = nI (10 * i + (W.2.2.1 i).length) := by rw [show (10 : Int32) * nI i = nI (10 * i) from pk_mul 10 i, nI_add]
            rw [if_pos ap.1, if_neg n4, ap.2, fR.1, e4, nI_clamp (by omega), nI_1]
            dsimp only
            have hok : okc (cd s p o) := okc_cd (by omega) (by omega) (by omega)
            have q0 : pt (cd s p o) 0 = s := pt_cd0 (by omega) (by omega)
            have q1 : pt (cd s p o) 1 = p := pt_cd1 (by omega) (by omega)
            have q2 : pt (cd s p o) 2 = o := pt_cd2 (by omega) (by omega)
            refine ⟨0, (W.1, W.2.1, fun f => if f = i then W.2.2.1 i ++ [cd s p o] else W.2.2.1 f, W.2.2.2), rfl, Or.inl rfl, by simp [upd], fun _ => by simp [upd], ?_, ?_⟩
            · refine RelC_files hC (fun k f hk => u2_k _ _ _ _ (by omega)) (fun k hk => u1_k _ _ (by omega)) (fun f hf' => ?_)
              by_cases e : f = i
              · subst e
                rw [if_pos rfl]
                refine ⟨?_, ?_, (u2_f _ _ _ (by decide)).trans fC.2.2.1, (u2_k _ _ _ _ (by omega)).trans fC.2.2.2.1, fun j hj => ?_, fun y hy => ?_⟩
                · rw [u2_s, List.length_append]; rfl
                · rw [List.length_append, List.length_singleton]; omega
                · rw [u1_s]
                  rw [List.length_append, List.length_singleton] at hj
                  by_cases ej : j = (W.2.2.1 f).length
                  · subst ej
                    rw [getD_hi, q0, q1, q2]
                    exact ⟨up3_0, up3_1, up3_2⟩
                  · have hj' : j < (W.2.2.1 f).length := by omega
                    rw [getD_lo hj', up3_lo (by omega), up3_lo (by omega), up3_lo (by omega)]
                    exact fC.2.2.2.2.1 j hj'
                · rcases List.mem_append.mp hy with r | r
                  · exact fC.2.2.2.2.2 y r
                  · rw [List.mem_singleton] at r; subst r; exact hok
              · have g := hC.2.1 f hf'
                rw [if_neg e]
                refine ⟨(u2_k _ _ _ _ (by omega)).trans g.1, g.2.1, (u2_k _ _ _ _ (by omega)).trans g.2.2.1, (u2_k _ _ _ _ (by omega)).trans g.2.2.2.1, ?_, g.2.2.2.2.2⟩
                rw [u1_k _ _ (show 29 + 3 * f + 1 + 1 ≠ 29 + 3 * i + 1 + 1 by omega)]
                exact g.2.2.2.2.1
            · refine RelR_files hR (fun k hk => by simp [upd, hk]) (fun q hq => by simp [u1, show q ≠ 14 by omega, show q ≠ 15 by omega, show q ≠ 16 by omega, show q ≠ 17 by omega]) (fun f hf' => ?_)
              by_cases e : f = i
              · subst e
                rw [if_pos rfl]
                refine ⟨?_, ?_, fun j hj => ?_, by simpa [u1] using fR.2.2.2.1, fun y hy => ?_⟩
                · simp [u1, upd]
                · rw [List.length_append, List.length_singleton]; omega
                · rw [List.length_append, List.length_singleton] at hj
                  by_cases ej : j = (W.2.2.1 f).length
                  · subst ej
                    rw [getD_hi, q0, q1, q2]
                    simp [u1, upd]
                  · have hj' : j < (W.2.2.1 f).length := by omega
                    rw [getD_lo hj']
                    simpa [u1, upd, ej] using fR.2.2.1 j hj'
                · rcases List.mem_append.mp hy with r | r
                  · exact fR.2.2.2.2 y r
                  · rw [List.mem_singleton] at r; subst r; exact hok
              · have g := hR.2.1 f hf'
                rw [if_neg e]
                refine ⟨by simpa [u1, upd, e] using g.1, g.2.1, fun j hj => ?_, by simpa [u1] using g.2.2.2.1, g.2.2.2.2⟩
                have g2 := g.2.1
                have hne : ¬ 10 * f + j = 10 * i + (W.2.2.1 i).length := by omega
                simpa [u1, upd, hne] using g.2.2.1 j hj
  · have e3 : ¬ fX8_fileNumbered a = 0 := by rw [h1]; decide
    rw [if_neg e3, if_pos h2]
    exact bad _ _ 3 1 (by rw [h1]) rfl (by decide)
theorem al_told {iv av : Nat → Nat → Int32} {v : Nat → Int32} {A : Nat → Nat → Int32} {W : Om} (hC : RelC iv av W) (hR : RelR v A W) (a : Int32) : ∃ f : Nat, (fX8_told iv a).1 = f ∧ (f = 0 ∨ f = 1) ∧ (fX9_told v A a).2.1 0 = (if f = 0 then 0 else 1) ∧ (f = 0 → (fX8_told iv a).2 = (fX9_told v A a).1) ∧ RelR (fX9_told v A a).2.1 (fX9_told v A a).2.2 W := by
  unfold fX8_told fX9_told
  by_cases h0 : a = 0
  · subst h0
    rw [if_pos rfl, if_neg (show ¬ fX9_isIn 0 0 4 = 0 by decide), if_pos rfl]
    exact ⟨0, rfl, Or.inl rfl, by simp [upd], fun _ => hC.1.1.trans hR.1.1.symm, hR.fault 0⟩
  by_cases h1 : a = 1
  · subst h1
    obtain ⟨ho, n, f, hL⟩ := hR.2.2.1
    rw [if_neg (show ¬ (1 : Int32) = 0 by decide), if_pos rfl, if_neg (show ¬ fX9_isIn 1 0 4 = 0 by decide), if_neg (show ¬ (1 : Int32) = 0 by decide), if_pos rfl]
    exact ⟨0, rfl, Or.inl rfl, by simp [upd], fun _ => by show fX6_factCount iv 3 = v 20; rw [factCount_s hC.2.2.1, hL.1, (RL_n hL ho).1], hR.fault 0⟩
  by_cases h2 : a = 2
  · subst h2
    obtain ⟨ho, n, f, hL⟩ := hR.2.2.1
    rw [if_neg (show ¬ (2 : Int32) = 0 by decide), if_neg (show ¬ (2 : Int32) = 1 by decide), if_pos rfl, if_neg (show ¬ fX9_isIn 2 0 4 = 0 by decide), if_neg (show ¬ (2 : Int32) = 0 by decide), if_neg (show ¬ (2 : Int32) = 1 by decide), if_pos rfl]
    exact ⟨0, rfl, Or.inl rfl, by simp [upd], fun _ => hC.2.2.1.2.2.trans hL.2.2.2.2.2.symm, hR.fault 0⟩
  by_cases h3 : a = 3
  · subst h3
    rw [if_neg (show ¬ (3 : Int32) = 0 by decide), if_neg (show ¬ (3 : Int32) = 1 by decide), if_neg (show ¬ (3 : Int32) = 2 by decide), if_pos rfl, if_neg (show ¬ fX9_isIn 3 0 4 = 0 by decide), if_neg (show ¬ (3 : Int32) = 0 by decide), if_neg (show ¬ (3 : Int32) = 1 by decide), if_neg (show ¬ (3 : Int32) = 2 by decide), if_pos rfl]
    exact ⟨0, rfl, Or.inl rfl, by simp [upd], fun _ => hC.2.2.2.1.1.trans hR.2.2.2.1.symm, hR.fault 0⟩
  by_cases h4 : a = 4
  · subst h4
    rw [if_neg (show ¬ (4 : Int32) = 0 by decide), if_neg (show ¬ (4 : Int32) = 1 by decide), if_neg (show ¬ (4 : Int32) = 2 by decide), if_neg (show ¬ (4 : Int32) = 3 by decide), if_pos rfl, if_neg (show ¬ fX9_isIn 4 0 4 = 0 by decide), if_neg (show ¬ (4 : Int32) = 0 by decide), if_neg (show ¬ (4 : Int32) = 1 by decide), if_neg (show ¬ (4 : Int32) = 2 by decide), if_neg (show ¬ (4 : Int32) = 3 by decide)]
    exact ⟨0, rfl, Or.inl rfl, by simp [upd], fun _ => hC.2.2.2.2.2.2.2.1.trans hR.2.2.2.2.2.2.1.symm, hR.fault 0⟩
  have hin : fX9_isIn a 0 4 = 0 := by
    rw [isIn_s]
    intro q
    have q1 : 0 ≤ a.toInt := q.1
    have q2 : a.toInt ≤ 4 := q.2
    have e : ∀ k : Int32, ∀ n : Int, k.toInt = n → ¬ a = k → ¬ a.toInt = n := fun k n hk h r => h (Int32.toInt_inj.mp (r.trans hk.symm))
    have := e 0 0 rfl h0
    have := e 1 1 rfl h1
    have := e 2 2 rfl h2
    have := e 3 3 rfl h3
    have := e 4 4 rfl h4
    omega
  rw [if_neg h0, if_neg h1, if_neg h2, if_neg h3, if_neg h4, if_pos hin]
  exact ⟨1, rfl, Or.inr rfl, by simp [upd], fun q => absurd q (by decide), hR.fault 1⟩
