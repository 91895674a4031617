/-! changed, has, many, at on both. -/
theorem gn_is {a : Int32} : (∃ i, i < 7 ∧ a = nI i ∧ fX8_graphNumbered a = 0 ∧ ¬ fX9_isIn a 0 6 = 0) ∨ (fX8_graphNumbered a = 3 ∧ fX9_isIn a 0 6 = 0) := by
  unfold fX8_graphNumbered fX8_isGraph fX9_isIn
  by_cases h : a < 0
  · exact Or.inr ⟨by rw [if_pos h, if_pos rfl], by rw [if_pos h]⟩
  · obtain ⟨i, hi, rfl⟩ := nI_of h
    by_cases h2 : i < 7
    · exact Or.inl ⟨i, h2, rfl, by rw [if_neg h, if_neg (show ¬ (7 : Int32) ≤ nI i from nI_ge (b := 7) h2 (by decide)), if_neg (by decide)], by rw [if_neg h, if_neg (show ¬ (6 : Int32) < nI i from nI_nlt (a := 6) (by omega) (by decide))]; decide⟩
    · exact Or.inr ⟨by rw [if_neg h, if_pos (show (7 : Int32) ≤ nI i from nI_le (a := 7) (by omega) hi), if_pos rfl], by rw [if_neg h, if_pos (show (6 : Int32) < nI i from nI_lt (a := 6) (by omega) hi)]⟩
theorem ne_i {a k : Int32} {n : Int} (hk : k.toInt = n) (h : ¬ a = k) : ¬ a.toInt = n := fun r => h (Int32.toInt_inj.mp (r.trans hk.symm))
theorem al_changed {iv av : Nat → Nat → Int32} {v : Nat → Int32} {A : Nat → Nat → Int32} {W : Om} (hC : RelC iv av W) (hR : RelR v A W) (a b : Int32) : ∃ f : Nat, (fX8_changed iv av a b).1 = f ∧ (f = 0 ∨ f = 3 ∨ f = 1) ∧ (fX9_changed v A a b).2.1 0 = (if f = 0 then 0 else if f = 3 then 1 else 2) ∧ (f = 0 → (fX8_changed iv av a b).2 = (fX9_changed v A a b).1) ∧ RelR (fX9_changed v A a b).2.1 (fX9_changed v A a b).2.2 W := by
  have hl := hC.2.2.2.2.1
  have hcC := hC.2.2.2.1
  have hcR := hR.2.2.2.2.1
  have bad : ∀ (x : Nat × Int32) (y : Int32 × (Nat → Int32) × (Nat → Nat → Int32)) (f : Nat) (z : Int32), x = (f, 0) → y = (0, upd v 0 z, A) → ((f = 3 ∧ z = 1) ∨ (f = 1 ∧ z = 2)) → ∃ f : Nat, x.1 = f ∧ (f = 0 ∨ f = 3 ∨ f = 1) ∧ y.2.1 0 = (if f = 0 then 0 else if f = 3 then 1 else 2) ∧ (f = 0 → x.2 = y.1) ∧ RelR y.2.1 y.2.2 W := by
    intro x y f z hx hy h
    subst hx hy
    rcases h with ⟨rfl, rfl⟩ | ⟨rfl, rfl⟩
    · exact ⟨3, rfl, by decide, by simp [upd], fun q => absurd q (by decide), hR.fault 1⟩
    · exact ⟨1, rfl, by decide, by simp [upd], fun q => absurd q (by decide), hR.fault 2⟩
  have good : ∀ (x : Nat × Int32) (y : Int32 × (Nat → Int32) × (Nat → Nat → Int32)) (z w : Int32), x = (0, z) → y = (w, upd v 0 0, A) → z = w → ∃ f : Nat, x.1 = f ∧ (f = 0 ∨ f = 3 ∨ f = 1) ∧ y.2.1 0 = (if f = 0 then 0 else if f = 3 then 1 else 2) ∧ (f = 0 → x.2 = y.1) ∧ RelR y.2.1 y.2.2 W := by
    intro x y z w hx hy h
    subst hx hy
    exact ⟨0, rfl, by decide, by simp [upd], fun _ => h, hR.fault 0⟩
  unfold fX8_changed fX9_changed
  by_cases h : a < 0
  · rw [if_pos h, if_pos h]; exact bad _ _ 3 1 rfl rfl (by decide)
  rw [if_neg h, if_neg h]
  obtain ⟨i, hi, rfl⟩ := nI_of h
  rw [hcC.1, hR.2.2.2.1]
  by_cases hi2 : i < W.2.2.2.2.1.length
  · rw [if_pos (nI_lt hi2 (by omega)), if_pos (nI_lt hi2 (by omega)), nI_clamp hi]
    obtain ⟨y, hy⟩ : ∃ y, W.2.2.2.2.1[i]? = some y := ⟨_, List.getElem?_eq_getElem hi2⟩
    obtain ⟨g, c, t⟩ := y
    have cC := hcC.2 i g c t hy
    have cR := hcR i g c t hy
    have hok : okc c := (hC.2.2.2.2.2.1 _ (List.mem_of_getElem? hy)).2
    by_cases hb : fX9_isIn b 0 4 = 0
    · rw [if_pos hb]
      have hb2 := isIn_s.mp hb
      have hb2 : ¬ (0 ≤ b.toInt ∧ b.toInt ≤ 4) := hb2
      by_cases b0 : b < 0
      · rw [if_pos b0]; exact bad _ _ 1 2 rfl rfl (by decide)
      · have b4 : ¬ b ≤ 4 := fun r => by
          rw [Int32.lt_iff_toInt_lt] at b0
          rw [Int32.le_iff_toInt_le] at r
          have e0 : (0 : Int32).toInt = 0 := rfl
          have e4 : (4 : Int32).toInt = 4 := rfl
          omega
        rw [if_neg b0, if_neg b4]; exact bad _ _ 1 2 rfl rfl (by decide)
    · rw [if_neg hb]
      have hb2 : 0 ≤ b.toInt ∧ b.toInt ≤ 4 := in9.mp hb
      obtain ⟨k, hk, rfl⟩ : ∃ k, k < 5 ∧ b = nI k := ⟨nn b, by have := nn_i hb2.1; omega, (nI_of_nn hb2.1).symm⟩
      rw [if_neg (nI_pos (by omega)), if_pos (show nI k ≤ 4 from nI_le (b := 4) (by omega) (by decide))]
      rcases (show k = 0 ∨ k = 1 ∨ k = 2 ∨ k = 3 ∨ k = 4 by omega) with rfl | rfl | rfl | rfl | rfl
      · rw [if_pos (show nI 0 = 0 from rfl), if_pos (show nI 0 = 0 from rfl)]
        exact good _ _ _ _ rfl rfl (cC.1.trans cR.1.symm)
      · rw [if_neg (show ¬ nI 1 = 0 by decide), if_neg (show ¬ nI 1 = 4 by decide), if_neg (show ¬ nI 1 = 0 by decide), if_pos (show nI 1 = 1 from rfl), cC.2.1, show nI 1 - 1 = nI 0 by decide, partOf_s hok (by decide)]
        exact good _ _ _ _ rfl rfl cR.2.1.symm
      · rw [if_neg (show ¬ nI 2 = 0 by decide), if_neg (show ¬ nI 2 = 4 by decide), if_neg (show ¬ nI 2 = 0 by decide), if_neg (show ¬ nI 2 = 1 by decide), if_pos (show nI 2 = 2 from rfl), cC.2.1, show nI 2 - 1 = nI 1 by decide, partOf_s hok (by decide)]
        exact good _ _ _ _ rfl rfl cR.2.2.1.symm
      · rw [if_neg (show ¬ nI 3 = 0 by decide), if_neg (show ¬ nI 3 = 4 by decide), if_neg (show ¬ nI 3 = 0 by decide), if_neg (show ¬ nI 3 = 1 by decide), if_neg (show ¬ nI 3 = 2 by decide), if_pos (show nI 3 = 3 from rfl), cC.2.1, show nI 3 - 1 = nI 2 by decide, partOf_s hok (by decide)]
        exact good _ _ _ _ rfl rfl cR.2.2.2.1.symm
      · rw [if_neg (show ¬ nI 4 = 0 by decide), if_pos (show nI 4 = 4 from rfl), if_neg (show ¬ nI 4 = 0 by decide), if_neg (show ¬ nI 4 = 1 by decide), if_neg (show ¬ nI 4 = 2 by decide), if_neg (show ¬ nI 4 = 3 by decide), cC.2.2, cR.2.2.2.2]
        cases t
        · exact good _ _ 0 0 rfl rfl rfl
        · exact good _ _ 1 1 rfl rfl rfl
  · rw [if_neg (nI_nlt (by omega) hi), if_neg (nI_nlt (by omega) hi)]
    exact bad _ _ 3 1 rfl rfl (by decide)
theorem isPart8 {a : Int32} : fX8_isPart a = 0 ↔ ¬ (0 ≤ a.toInt ∧ a.toInt ≤ 255) := by
  have e0 : (0 : Int32).toInt = 0 := rfl
  have e1 : (255 : Int32).toInt = 255 := by decide
  unfold fX8_isPart
  split
  · rename_i h; rw [Int32.lt_iff_toInt_lt, e0] at h
    exact ⟨fun _ q => by omega, fun _ => rfl⟩
  · rename_i h; rw [Int32.lt_iff_toInt_lt, e0] at h
    split
    · rename_i h2; rw [Int32.lt_iff_toInt_lt, e1] at h2
      exact ⟨fun _ q => by omega, fun _ => rfl⟩
    · rename_i h2; rw [Int32.lt_iff_toInt_lt, e1] at h2
      exact ⟨fun q => absurd q (by decide), fun q => absurd ⟨by omega, by omega⟩ q⟩
/-- is the fact (b, c, d) in the graph i, by the rows of the reference -/
theorem find_all {v : Nat → Int32} {A : Nat → Nat → Int32} {S : St} (hR : RC v A S) {i : Nat} (hi : i < 7) (b c d : Int32) : (fX9_find v A (nI i) b c d < 0 ∧ ∀ q, S.1 i q = true → ¬ (b = nI (pt q 0) ∧ c = nI (pt q 1) ∧ d = nI (pt q 2))) ∨ (¬ fX9_find v A (nI i) b c d < 0 ∧ ∃ q, S.1 i q = true ∧ b = nI (pt q 0) ∧ c = nI (pt q 1) ∧ d = nI (pt q 2)) := by
  obtain ⟨ho, n, f, h⟩ := hR
  have hn := (RL_n h ho).2
  unfold fX9_find
  rw [h.1, nI_clamp (by omega)]
  rcases find_g A (nI i) b c d n (by omega) with ⟨e, hno⟩ | ⟨j, hj, e, a1, a2, a3, a4⟩
  · refine Or.inl ⟨by rw [e]; decide, fun q hq r => ?_⟩
    obtain ⟨k, hk, ek⟩ := (h.2.2.1 i q).mp hq
    have rk := h.2.2.2.1 k hk
    rw [ek] at rk
    exact hno k hk ⟨rk.1, rk.2.1.trans r.1.symm, rk.2.2.1.trans r.2.1.symm, rk.2.2.2.trans r.2.2.symm⟩
  · refine Or.inr ⟨by rw [e]; exact nI_pos (by omega), (f j).2, ?_, ?_⟩
    · have r1 := (h.2.2.2.1 j hj).1
      have o7 := (RL_ok h ho hj).1
      have e1 : (f j).1 = i := by rw [r1, nI_eq (by omega) (by omega)] at a1; exact a1
      exact (h.2.2.1 i _).mpr ⟨j, hj, by rw [← e1]⟩
    · have rj := h.2.2.2.1 j hj
      exact ⟨a2.symm.trans rj.2.1, a3.symm.trans rj.2.2.1, a4.symm.trans rj.2.2.2⟩
theorem al_has {iv av : Nat → Nat → Int32} {v : Nat → Int32} {A : Nat → Nat → Int32} {W : Om} (hC : RelC iv av W) (hR : RelR v A W) (a b c d : Int32) : ∃ f : Nat, (fX8_has iv av a b c d).1 = f ∧ (f = 0 ∨ f = 3) ∧ (fX9_has v A a b c d).2.1 0 = (if f = 0 then 0 else 1) ∧ (f = 0 → (fX8_has iv av a b c d).2 = (fX9_has v A a b c d).1) ∧ RelR (fX9_has v A a b c d).2.1 (fX9_has v A a b c d).2.2 W := by
  have hS := hC.2.2.1
  have hRC : RC (upd v 0 0) A W.2.2.2.1 := (hR.fault 0).2.2.1
  have good : ∀ (x : Nat × Int32) (y : Int32 × (Nat → Int32) × (Nat → Nat → Int32)) (z w : Int32), x = (0, z) → y = (w, upd v 0 0, A) → z = w → ∃ f : Nat, x.1 = f ∧ (f = 0 ∨ f = 3) ∧ y.2.1 0 = (if f = 0 then 0 else 1) ∧ (f = 0 → x.2 = y.1) ∧ RelR y.2.1 y.2.2 W := by
    intro x y z w hx hy h
    subst hx hy
    exact ⟨0, rfl, by decide, by simp [upd], fun _ => h, hR.fault 0⟩
  unfold fX8_has fX9_has
  rcases gn_is (a := a) with ⟨i, hi, rfl, h1, h2⟩ | ⟨h1, h2⟩
  · rw [if_pos h1, if_neg h2, nI_clamp (by omega)]
    have hle : (cds (W.2.2.2.1.1 i)).length ≤ 120 := Nat.le_trans (cds_le_card W.2.2.2.1.1 hi) hS.1.2.1
    have none : ∀ t : Int32, (∀ q, okc q → ¬ t = nI (pt q 0) ∧ ¬ t = nI (pt q 1) ∧ ¬ t = nI (pt q 2)) → (b = t ∨ c = t ∨ d = t) → fX9_find (upd v 0 0) A (nI i) b c d < 0 := by
      intro t ht hb
      rcases find_all hRC hi b c d with h | ⟨-, q, hq, e1, e2, e3⟩
      · exact h.1
      · have ok := (hS.1.1 _ _ hq).2
        rcases hb with r | r | r
        · exact absurd (r ▸ e1) (ht q ok).1
        · exact absurd (r ▸ e2) (ht q ok).2.1
        · exact absurd (r ▸ e3) (ht q ok).2.2
    have out : ∀ t : Int32, fX8_isPart t = 0 → ∀ q, okc q → ¬ t = nI (pt q 0) ∧ ¬ t = nI (pt q 1) ∧ ¬ t = nI (pt q 2) := by
      intro t ht q ok
      have n := isPart8.mp ht
      have e : ∀ k, ¬ t = nI (pt q k) := fun k r => by
        have := pt_lt ok k
        have e2 : (nI (pt q k)).toInt = (pt q k : Int) := nI_toInt (by omega)
        rw [r, e2] at n
        omega
      exact ⟨e 0, e 1, e 2⟩
    by_cases pb : fX8_isPart b = 0
    · rw [if_pos pb, if_pos (none b (out b pb) (Or.inl rfl))]; exact good _ _ 0 0 rfl rfl rfl
    by_cases pc : fX8_isPart c = 0
    · rw [if_neg pb, if_pos pc, if_pos (none c (out c pc) (Or.inr (Or.inl rfl)))]; exact good _ _ 0 0 rfl rfl rfl
    by_cases pd : fX8_isPart d = 0
    · rw [if_neg pb, if_neg pc, if_pos pd, if_pos (none d (out d pd) (Or.inr (Or.inr rfl)))]; exact good _ _ 0 0 rfl rfl rfl
    rw [if_neg pb, if_neg pc, if_neg pd]
    have g : ∀ t : Int32, ¬ fX8_isPart t = 0 → ∃ j, j < 256 ∧ t = nI j := fun t ht => by
      have q : 0 ≤ t.toInt ∧ t.toInt ≤ 255 := Classical.not_not.mp (fun r => ht (isPart8.mpr r))
      have := nn_i q.1
      exact ⟨nn t, by omega, (nI_of_nn q.1).symm⟩
    obtain ⟨s, hs, rfl⟩ := g b pb
    obtain ⟨p, hp, rfl⟩ := g c pc
    obtain ⟨o, ho, rfl⟩ := g d pd
    have hcd : cd s p o < 2 ^ 31 := by unfold cd; omega
    rw [show fX8_factOf (nI s) (nI p) (nI o) = nI (cd s p o) from factOf_c hs hp ho, holds_s (hS.2.1 i hi) (fun q hq => (hS.1.1 _ _ hq).2) hle hcd]
    rcases find_all hRC hi (nI s) (nI p) (nI o) with ⟨hf, hno⟩ | ⟨hf, q, hq, e1, e2, e3⟩
    · rw [if_pos hf]
      have hfalse : W.2.2.2.1.1 i (cd s p o) = false := by
        cases hv : W.2.2.2.1.1 i (cd s p o)
        · rfl
        · exact absurd ⟨by rw [pt_cd0 hp ho], by rw [pt_cd1 hp ho], by rw [pt_cd2 hp ho]⟩ (hno _ hv)
      rw [hfalse, if_pos (show tI false = 0 from rfl)]
      exact good _ _ 0 0 rfl rfl rfl
    · rw [if_neg hf]
      have ok := (hS.1.1 _ _ hq).2
      have l0 := pt_lt ok 0
      have l1 := pt_lt ok 1
      have l2 := pt_lt ok 2
      rw [nI_eq (by omega) (by omega)] at e1 e2 e3
      have eq : cd s p o = q := by rw [e1, e2, e3, cd_pt]
      rw [eq, hq, if_neg (show ¬ tI true = 0 by decide)]
      exact good _ _ 1 1 rfl rfl rfl
  · have e3 : ¬ fX8_graphNumbered a = 0 := by rw [h1]; decide
    rw [if_neg e3, if_pos h2]
    exact ⟨3, h1, Or.inr rfl, by simp [upd], fun q => absurd q (by decide), hR.fault 1⟩
theorem lu_rel {v v' : Nat → Int32} {A A' : Nat → Nat → Int32} {W : Om} {z : Int32} {g : Nat} (hR : RelR v A W) (h : luP (upd v 0 z) A W.2.2.2.1 g v' A') : RelR v' A' W :=
  hR.kept (fun k hk => (h.2.1 k (by omega)).trans (by simp [upd, show k ≠ 0 by omega])) (fun q hq => h.2.2.1 q (by omega))
theorem al_many {iv av : Nat → Nat → Int32} {v : Nat → Int32} {A : Nat → Nat → Int32} {W : Om} (hC : RelC iv av W) (hR : RelR v A W) (a : Int32) : ∃ f : Nat, (fX8_many iv a).1 = f ∧ (f = 0 ∨ f = 3) ∧ (fX9_many v A a).2.1 0 = (if f = 0 then 0 else 1) ∧ (f = 0 → (fX8_many iv a).2 = (fX9_many v A a).1) ∧ RelR (fX9_many v A a).2.1 (fX9_many v A a).2.2 W := by
  have hS := hC.2.2.1
  unfold fX8_many fX9_many
  rcases gn_is (a := a) with ⟨i, hi, rfl, h1, h2⟩ | ⟨h1, h2⟩
  · rw [if_pos h1, if_neg h2, nI_clamp (by omega)]
    have hG := hS.2.1 i hi
    have hT : A 23 i = tI (W.2.2.2.1.2.1 i) := by
      obtain ⟨ho, n, f, h⟩ := hR.2.2.1
      exact h.2.2.2.2.1 i hi
    rw [hG.2.1, hT]
    by_cases ht : tI (W.2.2.2.1.2.1 i) = 0
    · rw [if_pos ht, if_pos ht]
      exact ⟨0, rfl, Or.inl rfl, by simp [upd], fun _ => rfl, hR.fault 0⟩
    · rw [if_neg ht, if_neg ht]
      have hl := lineUp_p (g := i) (hR.fault 0).2.2.1 hi
      refine ⟨0, rfl, Or.inl rfl, ?_, fun _ => ?_, lu_rel hR hl⟩
      · exact (hl.2.1 0 (by decide)).trans (by simp [upd])
      · exact hG.1.trans hl.1.symm
  · have e3 : ¬ fX8_graphNumbered a = 0 := by rw [h1]; decide
    rw [if_neg e3, if_pos h2]
    exact ⟨3, h1, Or.inr rfl, by simp [upd], fun q => absurd q (by decide), hR.fault 1⟩
theorem al_at {iv av : Nat → Nat → Int32} {v : Nat → Int32} {A : Nat → Nat → Int32} {W : Om} (hC : RelC iv av W) (hR : RelR v A W) (a b c : Int32) : ∃ f : Nat, (fX8_at iv av a b c).1 = f ∧ (f = 0 ∨ f = 3 ∨ f = 1) ∧ (fX9_at v A a b c).2.1 0 = (if f = 0 then 0 else if f = 3 then 1 else 2) ∧ (f = 0 → (fX8_at iv av a b c).2 = (fX9_at v A a b c).1) ∧ RelR (fX9_at v A a b c).2.1 (fX9_at v A a b c).2.2 W := by
  have hS := hC.2.2.1
  unfold fX8_at fX9_at
  rcases gn_is (a := a) with ⟨i, hi, rfl, h1, h2⟩ | ⟨h1, h2⟩
  · rw [if_pos h1, if_neg h2, nI_clamp (show i < 2 ^ 31 by omega)]
    have hG := hS.2.1 i hi
    have hle : (cds (W.2.2.2.1.1 i)).length ≤ 120 := Nat.le_trans (cds_le_card W.2.2.2.1.1 hi) hS.1.2.1
    have hl := lineUp_p (g := i) (hR.fault 1).2.2.1 hi
    have hrel : RelR _ _ W := lu_rel hR hl
    revert hl hrel
    generalize (fX9_lineUp (upd v 0 1) A (nI i)).1 = v1
    generalize (fX9_lineUp (upd v 0 1) A (nI i)).2 = A1
    intro hl hrel
    rw [hG.1, hl.1]
    by_cases b0 : b < 0
    · rw [if_pos b0, if_pos b0]
      exact ⟨3, rfl, by decide, by simp [upd], fun q => absurd q (by decide), hrel.fault 1⟩
    rw [if_neg b0, if_neg b0]
    obtain ⟨j, hj, rfl⟩ := nI_of b0
    by_cases hj2 : j < (cds (W.2.2.2.1.1 i)).length
    · rw [if_pos (nI_lt hj2 (by omega)), if_pos (nI_lt hj2 (by omega)), nI_clamp hj]
      have hav := hG.2.2 j hj2
      obtain ⟨t, ht, e37, e20, e21, e22⟩ := hl.2.2.2 j hj2
      have hok : okc ((cds (W.2.2.2.1.1 i)).getD j 0) := (hS.1.1 i _ ((cds_mem (okP_g hS.1.1 i)).mp (getD_mem hj2))).2
      by_cases hc : fX9_isIn c 0 2 = 0
      · rw [if_pos hc]
        have hc2 : ¬ (0 ≤ c.toInt ∧ c.toInt ≤ 2) := isIn_s.mp hc
        by_cases c0 : c < 0
        · rw [if_pos c0]
          exact ⟨1, rfl, by decide, by simp [upd], fun q => absurd q (by decide), hrel.fault 2⟩
        · have c2 : ¬ c ≤ 2 := fun r => by
            rw [Int32.lt_iff_toInt_lt] at c0
            rw [Int32.le_iff_toInt_le] at r
            have e0 : (0 : Int32).toInt = 0 := rfl
            have e2 : (2 : Int32).toInt = 2 := rfl
            omega
          rw [if_neg c0, if_neg c2]
          exact ⟨1, rfl, by decide, by simp [upd], fun q => absurd q (by decide), hrel.fault 2⟩
      · rw [if_neg hc]
        have hc2 : 0 ≤ c.toInt ∧ c.toInt ≤ 2 := in9.mp hc
        obtain ⟨k, hk, rfl⟩ : ∃ k, k < 3 ∧ c = nI k := ⟨nn c, by have := nn_i hc2.1; omega, (nI_of_nn hc2.1).symm⟩
        rw [if_neg (nI_pos (by omega)), if_pos (show nI k ≤ 2 from nI_le (b := 2) (by omega) (by decide)), hav, partOf_s hok hk, e37, nI_clamp (by omega)]
        rcases (show k = 0 ∨ k = 1 ∨ k = 2 by omega) with rfl | rfl | rfl
        · rw [if_pos (show nI 0 = 0 from rfl)]
          exact ⟨0, rfl, by decide, by simp [upd], fun _ => e20.symm, hrel.fault 0⟩
        · rw [if_neg (show ¬ nI 1 = 0 by decide), if_pos (show nI 1 = 1 from rfl)]
          exact ⟨0, rfl, by decide, by simp [upd], fun _ => e21.symm, hrel.fault 0⟩
        · rw [if_neg (show ¬ nI 2 = 0 by decide), if_neg (show ¬ nI 2 = 1 by decide)]
          exact ⟨0, rfl, by decide, by simp [upd], fun _ => e22.symm, hrel.fault 0⟩
    · rw [if_neg (nI_nlt (by omega) hj), if_neg (nI_nlt (by omega) hj)]
      exact ⟨3, rfl, by decide, by simp [upd], fun q => absurd q (by decide), hrel.fault 1⟩
  · have e3 : ¬ fX8_graphNumbered a = 0 := by rw [h1]; decide
    rw [if_neg e3, if_pos h2]
    exact ⟨3, h1, by decide, by simp [upd], fun q => absurd q (by decide), hR.fault 1⟩
/-- the reference's at, over its store -/
theorem ctX9_atS {l : Launch} {D : va_G} {aC : Nat → ClassId} {b0 sz : Nat} {r : Nat} {v : Nat → Int32} {A : Nat → Nat → Int32} {R : ZM} {a b c : Int32} {S : St} (hR : RC v A S) : Ct l D aC b0 yX9_at cX9_at 4 (some .int) 2 0 0 [.ref (r), .int a, .int b, .int c] (mm aC r v A R) sz (zd (some (.int (fX9_at v A a b c).1)) (mm aC r (fX9_at v A a b c).2.1 (fX9_at v A a b c).2.2 R)) := by
  obtain ⟨n, hs, hn⟩ := RC_n hR
  refine ctX9_atR hs hn (fun c1 c3 c5 => ?_)
  rcases gn_is (a := a) with ⟨i, hi, rfl, h1, h2⟩ | ⟨h1, h2⟩
  · have hl := lineUp_p (g := i) (RC_v (v' := upd v 0 1) (A' := A) hR (by simp [upd]) (by simp [upd]) (fun _ _ _ => rfl)) hi
    obtain ⟨j, hj, rfl⟩ := nI_of c3
    rw [hl.1] at c5
    have hle : (cds (S.1 i)).length ≤ 120 := Nat.le_trans (cds_le_card S.1 hi) hR.1.2.1
    rw [nI_ltI hj (by omega)] at c5
    obtain ⟨t, ht, e37, -⟩ := hl.2.2.2 j c5
    rw [nI_clamp hj, e37]
    exact vp_in_nI ht (by decide)
  · exact absurd h2 c1
