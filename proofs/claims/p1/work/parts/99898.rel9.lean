/-! run, solutions on both; new objects. -/
theorem EC.keptP {iv av iv' av' : Nat → Nat → Int32} {i : Nat} {q : Sq} (h : EC iv av i q) (h1 : ∀ k f, 60 < k → ¬ (61 ≤ k ∧ f = 7) → iv' k f = iv k f) (h2 : ∀ k, 60 < k → av' k = av k) : EC iv' av' i q := by
  unfold EC at h ⊢
  rw [h1 (61 + 6 * i) 3 (by omega) (by omega), h1 (61 + 6 * i) 4 (by omega) (by omega), h1 (61 + 6 * i) 5 (by omega) (by omega), h1 (61 + 6 * i) 6 (by omega) (by omega), h1 (61 + 6 * i + 1) 2 (by omega) (by omega), h1 (61 + 6 * i + 1) 1 (by omega) (by omega), h1 (61 + 6 * i + 4) 2 (by omega) (by omega), h1 (61 + 6 * i + 4) 1 (by omega) (by omega), h2 (61 + 6 * i + 1 + 1) (by omega), h2 (61 + 6 * i + 3) (by omega), h2 (61 + 6 * i + 4 + 1) (by omega)]
  exact h
theorem al_run {iv av iv' av' : Nat → Nat → Int32} {v v' : Nat → Int32} {A A' : Nat → Nat → Int32} {W : Om} {w w2 : Int32} (hC : RelC iv av W) (hR : RelR v A W) (h8 : rcP W.2.1 W.2.2.1 iv av W.2.2.2.1 W.1 w iv' av') (h9 : rnP W.2.1 W.2.2.1 v A W.2.2.2.1 W.1 w2 v' A') : w = w2 ∧ v' 0 = 0 ∧ ∃ W' : Om, RelC iv' av' W' ∧ RelR v' A' W' := by
  obtain ⟨a1, a2, a3, a4, a5⟩ := h8
  obtain ⟨b1, b2, b3, b4, b5⟩ := h9
  have qC : QC iv' av' W.1 := ⟨a1.trans hC.1.1, hC.1.2.1, fun i q hq => ⟨(hC.1.2.2 i q hq).1.keptP (fun k f h1 h2 => a2 k f (Or.inr h1) h2) (fun k h => a3 k (Or.inr h)), (hC.1.2.2 i q hq).2⟩⟩
  have fC : FLc iv' av' W.2.1 W.2.2.1 := by
    intro f hf
    rw [a2 (29 + 3 * f + 1) 2 (by omega) (by omega), a2 (29 + 3 * f + 1) 1 (by omega) (by omega), a2 (29 + 3 * f) 1 (by omega) (by omega), a3 (29 + 3 * f + 1 + 1) (by omega)]
    exact hC.2.1 f hf
  have mC : MST iv' := fun j hj => by
    rw [a2 (61 + 6 * j + 1) 2 (by omega) (by omega), a2 (61 + 6 * j + 1) 1 (by omega) (by omega), a2 (61 + 6 * j + 4) 2 (by omega) (by omega), a2 (61 + 6 * j + 4) 1 (by omega) (by omega), a2 (61 + 6 * j) 6 (by omega) (by omega)]
    exact hC.2.2.2.2.2.2.2.2 j hj
  have qR : QR v' A' W.1 := ⟨b2.trans hR.1.1, hR.1.2.1, fun i q hq => ⟨(hR.1.2.2 i q hq).1.kept b3, (hR.1.2.2 i q hq).2⟩⟩
  have fR : FLr A' W.2.1 W.2.2.1 := hR.2.1.kept b3
  have mR : MSR A' := by
    have := hR.2.2.2.2.2.2.2
    unfold MSR at this ⊢
    rw [b3 4 (by decide), b3 5 (by decide), b3 10 (by decide)]
    exact this
  cases hr : aRun W.2.1 W.2.2.1 W.1 0 W.2.2.2.1 0 with
  | inl a =>
    obtain ⟨i, rs⟩ := a
    have x := a4 i rs hr
    have y := b4 i rs hr
    refine ⟨x.1.trans y.1.symm, b1, (W.1, W.2.1, W.2.2.1, W.2.2.2.1, W.2.2.2.2.1, nI i, 0), ⟨qC, fC, x.2.2.2.1, ?_, hC.2.2.2.2.1, hC.2.2.2.2.2.1, x.2.1, x.2.2.1, mC⟩, ⟨qR, fR, y.2.2.2.1, y.2.2.2.2.1.trans hR.2.2.2.1, ?_, y.2.1, y.2.2.1, mR⟩⟩
    · have h4 := hC.2.2.2.1
      unfold CHc at h4 ⊢
      rw [x.2.2.2.2.1, x.2.2.2.2.2 58 (by decide) (by decide), x.2.2.2.2.2 59 (by decide) (by decide), x.2.2.2.2.2 60 (by decide) (by decide)]
      exact h4
    · have h5 := hR.2.2.2.2.1
      unfold chR at h5 ⊢
      rw [y.2.2.2.2.2 29 (by decide) (by decide), y.2.2.2.2.2 30 (by decide) (by decide), y.2.2.2.2.2 31 (by decide) (by decide), y.2.2.2.2.2 32 (by decide) (by decide), y.2.2.2.2.2 33 (by decide) (by decide)]
      exact h5
  | inr a =>
    obtain ⟨S', wk'⟩ := a
    obtain ⟨x1, x2, x3, L, x4, x5, x6, x7, x8⟩ := a5 S' wk' hr
    obtain ⟨y1, y2, y3, L2, y4, y5, y6, y7, y8, y9⟩ := b5 S' wk' hr
    have e := isCh_uniq x8 y9
    subst e
    exact ⟨x4.trans y4.symm, b1, (W.1, W.2.1, W.2.2.1, S', L, -1, nI wk'), ⟨qC, fC, x3, x5, x6, x7, x1, x2, mC⟩, ⟨qR, fR, y3, y5, y7, y1, y2, mR⟩⟩
theorem al_solutions {iv av : Nat → Nat → Int32} {v : Nat → Int32} {A : Nat → Nat → Int32} {W : Om} (hC : RelC iv av W) (hR : RelR v A W) (a : Int32) : ∃ f : Nat, (fX8_solutions iv a).1 = f ∧ (f = 0 ∨ f = 3) ∧ (fX9_solutions v A a).2.1 0 = (if f = 0 then 0 else 1) ∧ RelR (fX9_solutions v A a).2.1 (fX9_solutions v A a).2.2 W := by
  unfold fX8_solutions fX9_solutions
  rcases sn_is (a := a) hC.1.1 hR.1.1 hC.1.2.1 with ⟨i, hi, rfl, h1, h2⟩ | ⟨h1, h2⟩
  · rw [if_pos h1, if_neg h2]
    exact ⟨0, rfl, Or.inl rfl, by simp [upd], hR.fault 0⟩
  · have e3 : ¬ fX8_stepNumbered iv a = 0 := by rw [h1]; decide
    rw [if_neg e3, if_pos h2]
    exact ⟨3, h1, Or.inr rfl, by simp [upd], hR.fault 1⟩
/-! New objects. -/
def S0 : St := (fun _ _ => false, fun g => decide (g = 0), 0)
def W0 : Om := ([], fun _ => false, fun _ => [], S0, [], -1, 0)
theorem okS_0 : okS S0 := by
  have hp : okP S0.1 := fun g c h => by cases h
  refine ⟨hp, ?_, by decide, by decide, fun g c h => by cases h⟩
  have e : card S0.1 = 0 := by
    have := card_eq hp (L := []) (by simp) (fun x => by simp [S0])
    simpa using this.symm
  rw [e]; decide
theorem RelC_0 : RelC iv0 av0 W0 := by
  have c0 : (cds (S0.1 0)).length = 0 := by show (cds (fun _ => false)).length = 0; rw [cds_none]; rfl
  refine ⟨⟨iv0_05.trans nI_0.symm, by decide, fun i q hq => by simp [W0] at hq⟩, fun f hf => ⟨(iv0_R f hf).1, Nat.zero_le _, (iv0_R f hf).2, iv0_F f hf, fun j hj => absurd hj (Nat.not_lt_zero _), fun c hc => by simp [W0] at hc⟩, ⟨okS_0, fun g hg => ⟨?_, ?_, fun i hi => ?_⟩, iv0_31.trans nI_0.symm⟩, ⟨iv0_57.trans nI_0.symm, fun i g c b h => by simp [W0] at h⟩, by decide, fun y hy => by simp [W0] at hy, iv0_06, iv0_07, fun j hj => ⟨⟨0, by decide, (iv0_T j hj).1, (iv0_T j hj).2⟩, ⟨0, by decide, (iv0_P j hj).1, (iv0_P j hj).2⟩, iv0_S j hj⟩⟩
  · rw [iv0_sz g hg]; show (0 : Int32) = nI (cds (S0.1 0)).length; rw [c0, nI_0]
  · exact (show ∀ g, g < 7 → iv0 (4 + 1 + 2 * g) 2 = tI (decide (g = 0)) by decide +kernel) g hg
  · have hi : i < (cds (S0.1 0)).length := hi
    omega
theorem RelR_0 : RelR vM0 AM0 W0 := by
  refine ⟨⟨(vM0_0 (by decide)).trans nI_0.symm, by decide, fun i q hq => by simp [W0] at hq⟩, fun f hf => ⟨?_, Nat.zero_le _, fun j hj => absurd hj (Nat.not_lt_zero _), ?_, fun c hc => by simp [W0] at hc⟩, ⟨okS_0, 0, fun _ => (0, 0), (vM0_0 (by decide)).trans nI_0.symm, fun i j hi => absurd hi (Nat.not_lt_zero _), fun g c => ⟨fun h => (by cases h), fun ⟨i, hi, _⟩ => absurd hi (Nat.not_lt_zero _)⟩, fun i hi => absurd hi (Nat.not_lt_zero _), ?_, (vM0_0 (by decide)).trans nI_0.symm⟩, (vM0_0 (by decide)).trans nI_0.symm, fun i g c b h => by simp [W0] at h, ?_, vM0_0 (by decide), fun j hj => ⟨⟨0, by decide, ?_⟩, ⟨0, by decide, ?_⟩, Or.inl ?_⟩⟩
  · rw [AM0_0 (k := 14) (by decide) (by decide)]; exact nI_0.symm
  · rw [AM0_0 (k := 18) (by decide) (by decide)]; rfl
  · exact (show ∀ g, g < 7 → AM0 23 g = tI (decide (g = 0)) by decide +kernel)
  · simp [vM0, upd, W0]
  · rw [AM0_0 (k := 5) (by decide) (by decide)]; exact nI_0.symm
  · rw [AM0_0 (k := 10) (by decide) (by decide)]; exact nI_0.symm
  · rw [AM0_0 (k := 4) (by decide) (by decide)]
