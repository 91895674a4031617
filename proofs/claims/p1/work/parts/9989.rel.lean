/-! Both objects, and what the calls do to both. -/
def MST (iv : Nat → Nat → Int32) : Prop := ∀ j, j < 12 → (∃ c, c ≤ 6 ∧ iv (61 + 6 * j + 1) 2 = nI c ∧ iv (61 + 6 * j + 1) 1 = nI 6) ∧ (∃ c, c ≤ 4 ∧ iv (61 + 6 * j + 4) 2 = nI c ∧ iv (61 + 6 * j + 4) 1 = nI 4) ∧ (iv (61 + 6 * j) 6 = 0 ∨ iv (61 + 6 * j) 6 = 1)
def MSR (A : Nat → Nat → Int32) : Prop := ∀ j, j < 12 → (∃ t, t ≤ 6 ∧ A 5 j = nI t) ∧ (∃ t, t ≤ 4 ∧ A 10 j = nI t) ∧ (A 4 j = 0 ∨ A 4 j = 1)
/-- sequence, torn files, files, store, changes, the step at which the latest run ended, its work -/
abbrev Om := List Sq × (Nat → Bool) × (Nat → List Nat) × St × List Cg × Int32 × Int32
def RelC (iv av : Nat → Nat → Int32) (W : Om) : Prop := QC iv av W.1 ∧ FLc iv av W.2.1 W.2.2.1 ∧ SC iv av W.2.2.2.1 ∧ CHc iv av W.2.2.2.2.1 ∧ W.2.2.2.2.1.length ≤ 240 ∧ okC W.2.2.2.2.1 ∧ iv 0 6 = W.2.2.2.2.2.1 ∧ iv 0 7 = W.2.2.2.2.2.2 ∧ MST iv
def RelR (v : Nat → Int32) (A : Nat → Nat → Int32) (W : Om) : Prop := QR v A W.1 ∧ FLr A W.2.1 W.2.2.1 ∧ RC v A W.2.2.2.1 ∧ v 34 = nI W.2.2.2.2.1.length ∧ chR A W.2.2.2.2.1 ∧ v 42 = W.2.2.2.2.2.1 ∧ v 41 = W.2.2.2.2.2.2 ∧ MSR A
theorem RelR.kept {v v' : Nat → Int32} {A A' : Nat → Nat → Int32} {W : Om} (h : RelR v A W) (hv : ∀ k, k = 1 ∨ k = 20 ∨ k = 26 ∨ k = 34 ∨ k = 41 ∨ k = 42 → v' k = v k) (hA : ∀ q, q < 24 ∨ (29 ≤ q ∧ q ≤ 33) → A' q = A q) : RelR v' A' W := by
  obtain ⟨h1, h2, h3, h4, h5, h6, h7, h8⟩ := h
  refine ⟨⟨by rw [hv 1 (by omega)]; exact h1.1, h1.2.1, fun i q hq => ⟨(h1.2.2 i q hq).1.kept (fun k hk => hA k (by omega)), (h1.2.2 i q hq).2⟩⟩, h2.kept (fun k hk => hA k (by omega)), RC_v h3 (hv 20 (by omega)) (hv 26 (by omega)) (fun q _ h => hA q (by omega)), by rw [hv 34 (by omega)]; exact h4, ?_, by rw [hv 42 (by omega)]; exact h6, by rw [hv 41 (by omega)]; exact h7, ?_⟩
  · unfold chR at h5 ⊢
    rw [hA 29 (by omega), hA 30 (by omega), hA 31 (by omega), hA 32 (by omega), hA 33 (by omega)]
    exact h5
  · unfold MSR at h8 ⊢
    rw [hA 4 (by omega), hA 5 (by omega), hA 10 (by omega)]
    exact h8
theorem RelR.fault {v : Nat → Int32} {A : Nat → Nat → Int32} {W : Om} (h : RelR v A W) (z : Int32) : RelR (upd v 0 z) A W := h.kept (fun k hk => by simp [upd, show k ≠ 0 by omega]) (fun _ _ => rfl)
/-! What a step may be. -/
def vS (a b c : Int) : Prop := (0 ≤ a ∧ a ≤ 9) ∧ ((a = 2 ∨ 6 ≤ a) → 0 ≤ b ∧ b ≤ (if a = 9 then 3 else 6)) ∧ ((a = 3 ∨ a = 5) → -2 ≤ c ∧ c ≤ 6) ∧ (¬ (a = 3 ∨ a = 5) → (if a = 4 then 1 else 0) ≤ c ∧ c ≤ 6)
theorem eqI {a : Int32} {k : Int32} : a = k ↔ a.toInt = k.toInt := Int32.toInt_inj.symm
theorem from8 {a b : Int32} (ha : 0 ≤ a.toInt) : fX8_fromMayBe a b = 0 ↔ ¬ ((a.toInt = 2 ∨ 6 ≤ a.toInt) → 0 ≤ b.toInt ∧ b.toInt ≤ (if a.toInt = 9 then 3 else 6)) := by
  have e9 : (9 : Int32).toInt = 9 := rfl
  have e0 : (0 : Int32).toInt = 0 := rfl
  have e4 : (4 : Int32).toInt = 4 := rfl
  have e2 : (2 : Int32).toInt = 2 := rfl
  have e6 : (6 : Int32).toInt = 6 := rfl
  unfold fX8_fromMayBe
  by_cases h9 : a = 9
  · rw [if_pos h9]
    rw [eqI, e9] at h9
    rw [if_pos h9]
    split
    · rename_i h; rw [Int32.lt_iff_toInt_lt, e0] at h; exact ⟨fun _ q => by have := q (Or.inr (by omega)); omega, fun _ => rfl⟩
    · rename_i h; rw [Int32.lt_iff_toInt_lt, e0] at h
      split
      · rename_i h2; rw [Int32.le_iff_toInt_le, e4] at h2; exact ⟨fun _ q => by have := q (Or.inr (by omega)); omega, fun _ => rfl⟩
      · rename_i h2; rw [Int32.le_iff_toInt_le, e4] at h2; exact ⟨fun q => absurd q (by decide), fun q => absurd (fun _ => ⟨by omega, by omega⟩) q⟩
  · rw [if_neg h9]
    rw [eqI, e9] at h9
    rw [if_neg h9]
    have hc : fX8_fromCounts a = 0 ↔ ¬ (a.toInt = 2 ∨ 6 ≤ a.toInt) := by
      unfold fX8_fromCounts
      split
      · rename_i h; rw [eqI, e2] at h; exact ⟨fun q => absurd q (by decide), fun q => absurd (Or.inl h) q⟩
      · rename_i h; rw [eqI, e2] at h
        split
        · rename_i h2; rw [Int32.lt_iff_toInt_lt, e6] at h2; exact ⟨fun _ q => by omega, fun _ => rfl⟩
        · rename_i h2; rw [Int32.lt_iff_toInt_lt, e6] at h2; exact ⟨fun q => absurd q (by decide), fun q => absurd (Or.inr (by omega)) q⟩
    split
    · rename_i h; rw [hc] at h; exact ⟨fun q => absurd q (by decide), fun q => absurd (fun r => absurd r h) q⟩
    · rename_i h
      have h : a.toInt = 2 ∨ 6 ≤ a.toInt := Classical.not_not.mp (fun q => h (hc.mpr q))
      split
      · rename_i h2; rw [isGr_s] at h2; exact ⟨fun _ q => h2 (q h), fun _ => rfl⟩
      · rename_i h2; rw [isGr_s] at h2; exact ⟨fun q => absurd q (by decide), fun q => absurd (fun _ => Classical.not_not.mp h2) q⟩
theorem to8 {a c : Int32} : fX8_toMayBe a c = 0 ↔ ¬ (((a.toInt = 3 ∨ a.toInt = 5) → -2 ≤ c.toInt ∧ c.toInt ≤ 6) ∧ (¬ (a.toInt = 3 ∨ a.toInt = 5) → (if a.toInt = 4 then 1 else 0) ≤ c.toInt ∧ c.toInt ≤ 6)) := by
  have e1 : (-1 : Int32).toInt = -1 := by decide
  have e2 : (-2 : Int32).toInt = -2 := by decide
  have e3 : (3 : Int32).toInt = 3 := rfl
  have e4 : (4 : Int32).toInt = 4 := rfl
  have e5 : (5 : Int32).toInt = 5 := rfl
  have e0 : (0 : Int32).toInt = 0 := rfl
  have key : ∀ z : Int, (z = -1 ∨ z = -2) → c.toInt = z → (((if a = 3 then (1 : Int32) else if a = 5 then 1 else 0) = 0) ↔ ¬ (((a.toInt = 3 ∨ a.toInt = 5) → -2 ≤ c.toInt ∧ c.toInt ≤ 6) ∧ (¬ (a.toInt = 3 ∨ a.toInt = 5) → (if a.toInt = 4 then 1 else 0) ≤ c.toInt ∧ c.toInt ≤ 6))) := by
    intro z hz hc
    by_cases h3 : a = 3
    · rw [if_pos h3]; rw [eqI, e3] at h3
      exact ⟨fun q => absurd q (by decide), fun q => absurd ⟨fun _ => by omega, fun r => absurd (Or.inl h3) r⟩ q⟩
    · rw [if_neg h3]; rw [eqI, e3] at h3
      by_cases h5 : a = 5
      · rw [if_pos h5]; rw [eqI, e5] at h5
        exact ⟨fun q => absurd q (by decide), fun q => absurd ⟨fun _ => by omega, fun r => absurd (Or.inr h5) r⟩ q⟩
      · rw [if_neg h5]; rw [eqI, e5] at h5
        refine ⟨fun _ q => ?_, fun _ => rfl⟩
        have := (q.2 (by omega)).1
        split at this <;> omega
  unfold fX8_toMayBe
  by_cases h1 : c = -1
  · rw [if_pos h1]; rw [eqI, e1] at h1; exact key _ (Or.inl rfl) h1
  · rw [if_neg h1]
    by_cases h2 : c = -2
    · rw [if_pos h2]; rw [eqI, e2] at h2; exact key _ (Or.inr rfl) h2
    · rw [if_neg h2]; rw [eqI, e1] at h1; rw [eqI, e2] at h2
      split
      · rename_i hg; rw [isGr_s] at hg
        refine ⟨fun _ q => ?_, fun _ => rfl⟩
        by_cases h35 : a.toInt = 3 ∨ a.toInt = 5
        · have := q.1 h35; omega
        · have := q.2 h35; split at this <;> omega
      · rename_i hg
        have hg : 0 ≤ c.toInt ∧ c.toInt ≤ 6 := Classical.not_not.mp (fun q => hg (isGr_s.mpr q))
        by_cases h4 : a = 4
        · rw [if_pos h4]; rw [eqI, e4] at h4
          by_cases hc0 : c = 0
          · rw [if_pos hc0]; rw [eqI, e0] at hc0
            refine ⟨fun _ q => ?_, fun _ => rfl⟩
            have := q.2 (by omega); rw [if_pos h4] at this; omega
          · rw [if_neg hc0]; rw [eqI, e0] at hc0
            exact ⟨fun q => absurd q (by decide), fun q => absurd ⟨fun _ => by omega, fun _ => by rw [if_pos h4]; omega⟩ q⟩
        · rw [if_neg h4]; rw [eqI, e4] at h4
          exact ⟨fun q => absurd q (by decide), fun q => absurd ⟨fun _ => by omega, fun _ => by rw [if_neg h4]; omega⟩ q⟩
theorem step8 {iv av : Nat → Nat → Int32} {a b c : Int32} : (¬ vS a.toInt b.toInt c.toInt → fX8_step iv av a b c = (1, 0, iv, av)) ∧ (vS a.toInt b.toInt c.toInt → fX8_step iv av a b c = if iv 0 5 < 12 then (0, (((fX5_begin iv av (61 + 6 * (Int32.toNatClampNeg (iv 0 5))) a (if a.toInt = 2 ∨ 6 ≤ a.toInt then b else 0) c).1 0 5) + 1) - 1, (u2 (fX5_begin iv av (61 + 6 * (Int32.toNatClampNeg (iv 0 5))) a (if a.toInt = 2 ∨ 6 ≤ a.toInt then b else 0) c).1 0 5 (((fX5_begin iv av (61 + 6 * (Int32.toNatClampNeg (iv 0 5))) a (if a.toInt = 2 ∨ 6 ≤ a.toInt then b else 0) c).1 0 5) + 1)), (fX5_begin iv av (61 + 6 * (Int32.toNatClampNeg (iv 0 5))) a (if a.toInt = 2 ∨ 6 ≤ a.toInt then b else 0) c).2) else (2, 0, iv, av)) := by
  have e0 : (0 : Int32).toInt = 0 := rfl
  have e9 : (9 : Int32).toInt = 9 := rfl
  have e2 : (2 : Int32).toInt = 2 := rfl
  have e6 : (6 : Int32).toInt = 6 := rfl
  have hc : fX8_fromCounts a = 0 ↔ ¬ (a.toInt = 2 ∨ 6 ≤ a.toInt) := by
    unfold fX8_fromCounts
    split
    · rename_i h; rw [eqI, e2] at h; exact ⟨fun q => absurd q (by decide), fun q => absurd (Or.inl h) q⟩
    · rename_i h; rw [eqI, e2] at h
      split
      · rename_i h2; rw [Int32.lt_iff_toInt_lt, e6] at h2; exact ⟨fun _ q => by omega, fun _ => rfl⟩
      · rename_i h2; rw [Int32.lt_iff_toInt_lt, e6] at h2; exact ⟨fun q => absurd q (by decide), fun q => absurd (Or.inr (by omega)) q⟩
  unfold fX8_step
  by_cases h1 : a < 0
  · rw [if_pos h1]; rw [Int32.lt_iff_toInt_lt, e0] at h1
    exact ⟨fun _ => rfl, fun q => by have := q.1.1; omega⟩
  · rw [if_neg h1]; rw [Int32.lt_iff_toInt_lt, e0] at h1
    by_cases h2 : 9 < a
    · rw [if_pos h2]; rw [Int32.lt_iff_toInt_lt, e9] at h2
      exact ⟨fun _ => rfl, fun q => by have := q.1.2; omega⟩
    · rw [if_neg h2]; rw [Int32.lt_iff_toInt_lt, e9] at h2
      by_cases h3 : fX8_fromMayBe a b = 0
      · rw [if_pos h3]; rw [from8 (by omega)] at h3
        exact ⟨fun _ => rfl, fun q => absurd q.2.1 h3⟩
      · rw [if_neg h3]
        have h3 := Classical.not_not.mp (fun q => h3 ((from8 (by omega)).mpr q))
        by_cases h4 : fX8_toMayBe a c = 0
        · rw [if_pos h4]; rw [to8] at h4
          exact ⟨fun _ => rfl, fun q => absurd q.2.2 h4⟩
        · rw [if_neg h4]
          have h4 := Classical.not_not.mp (fun q => h4 (to8.mpr q))
          refine ⟨fun q => absurd ⟨⟨by omega, by omega⟩, h3, h4⟩ q, fun _ => ?_⟩
          by_cases h5 : iv 0 5 < 12
          · rw [if_pos h5, if_pos h5]
            by_cases h6 : fX8_fromCounts a = 0
            · rw [if_pos h6, if_neg (hc.mp h6)]
            · rw [if_neg h6, if_pos (Classical.not_not.mp (fun q => h6 (hc.mpr q)))]
          · rw [if_neg h5, if_neg h5]
theorem in9 {a lo hi : Int32} : ¬ fX9_isIn a lo hi = 0 ↔ lo.toInt ≤ a.toInt ∧ a.toInt ≤ hi.toInt := by rw [isIn_s]; exact Classical.not_not
theorem to9 {a c : Int32} : fX9_isTo a c = 0 ↔ ¬ (((a.toInt = 3 ∨ a.toInt = 5) → -2 ≤ c.toInt ∧ c.toInt ≤ 6) ∧ (¬ (a.toInt = 3 ∨ a.toInt = 5) → (if a.toInt = 4 then 1 else 0) ≤ c.toInt ∧ c.toInt ≤ 6)) := by
  have e1 : (1 : Int32).toInt = 1 := rfl
  have e2 : (-2 : Int32).toInt = -2 := by decide
  have e3 : (3 : Int32).toInt = 3 := rfl
  have e4 : (4 : Int32).toInt = 4 := rfl
  have e5 : (5 : Int32).toInt = 5 := rfl
  have e6 : (6 : Int32).toInt = 6 := rfl
  have e0 : (0 : Int32).toInt = 0 := rfl
  unfold fX9_isTo
  by_cases h3 : a = 3
  · rw [if_pos h3, isIn_s, e2, e6]; rw [eqI, e3] at h3
    exact ⟨fun q r => q (r.1 (Or.inl h3)), fun q r => q ⟨fun _ => r, fun s => absurd (Or.inl h3) s⟩⟩
  · rw [if_neg h3]; rw [eqI, e3] at h3
    by_cases h5 : a = 5
    · rw [if_pos h5, isIn_s, e2, e6]; rw [eqI, e5] at h5
      exact ⟨fun q r => q (r.1 (Or.inr h5)), fun q r => q ⟨fun _ => r, fun s => absurd (Or.inr h5) s⟩⟩
    · rw [if_neg h5]; rw [eqI, e5] at h5
      have hn : ¬ (a.toInt = 3 ∨ a.toInt = 5) := by omega
      by_cases h4 : a = 4
      · rw [if_pos h4, isIn_s, e1, e6]; rw [eqI, e4] at h4; rw [if_pos h4]
        exact ⟨fun q r => q (r.2 hn), fun q r => q ⟨fun s => absurd s hn, fun _ => r⟩⟩
      · rw [if_neg h4, isIn_s, e0, e6]; rw [eqI, e4] at h4; rw [if_neg h4]
        exact ⟨fun q r => q (r.2 hn), fun q r => q ⟨fun s => absurd s hn, fun _ => r⟩⟩
/-- the reference's new step -/
def st9 (v : Nat → Int32) (A : Nat → Nat → Int32) (a b c : Int32) : Int32 × (Nat → Int32) × (Nat → Nat → Int32) := (((v 1) + (1)) - (1), (upd (upd v 0 0) 1 ((v 1) + (1))), (u1 (u1 (u1 (u1 (u1 (u1 A 1 (upd (A 1) (Int32.toNatClampNeg (v 1)) a)) 2 (upd (A 2) (Int32.toNatClampNeg (v 1)) b)) 3 (upd (A 3) (Int32.toNatClampNeg (v 1)) c)) 4 (upd (A 4) (Int32.toNatClampNeg (v 1)) 0)) 5 (upd (A 5) (Int32.toNatClampNeg (v 1)) 0)) 10 (upd (A 10) (Int32.toNatClampNeg (v 1)) 0)))
theorem step9 {v : Nat → Int32} {A : Nat → Nat → Int32} {a b c : Int32} : (¬ vS a.toInt b.toInt c.toInt → fX9_step v A a b c = (0, upd v 0 1, A)) ∧ (vS a.toInt b.toInt c.toInt → fX9_step v A a b c = if v 1 = 12 then (0, upd v 0 2, A) else st9 v A a b c) := by
  have e0 : (0 : Int32).toInt = 0 := rfl
  have e9 : (9 : Int32).toInt = 9 := rfl
  have e2 : (2 : Int32).toInt = 2 := rfl
  have e6 : (6 : Int32).toInt = 6 := rfl
  have e3 : (3 : Int32).toInt = 3 := rfl
  have tail : ∀ (P : Prop), (P ↔ vS a.toInt b.toInt c.toInt ∨ fX9_isTo a c = 0) → P → (vS a.toInt b.toInt c.toInt ↔ ¬ fX9_isTo a c = 0) →
      ((¬ vS a.toInt b.toInt c.toInt → (if fX9_isTo a c = 0 then ((0 : Int32), upd v 0 1, A) else if v 1 = 12 then (0, upd v 0 2, A) else st9 v A a b c) = (0, upd v 0 1, A)) ∧ (vS a.toInt b.toInt c.toInt → (if fX9_isTo a c = 0 then ((0 : Int32), upd v 0 1, A) else if v 1 = 12 then (0, upd v 0 2, A) else st9 v A a b c) = if v 1 = 12 then (0, upd v 0 2, A) else st9 v A a b c)) := by
    intro P _ _ h
    refine ⟨fun q => ?_, fun q => ?_⟩
    · rw [if_pos (Classical.not_not.mp (fun r => q (h.mpr r)))]
    · rw [if_neg (h.mp q)]
  have no : ¬ vS a.toInt b.toInt c.toInt → ((¬ vS a.toInt b.toInt c.toInt → ((0 : Int32), upd v 0 1, A) = (0, upd v 0 1, A)) ∧ (vS a.toInt b.toInt c.toInt → ((0 : Int32), upd v 0 1, A) = if v 1 = 12 then (0, upd v 0 2, A) else st9 v A a b c)) := fun h => ⟨fun _ => rfl, fun q => absurd q h⟩
  unfold fX9_step
  by_cases h2 : a = 2
  · rw [if_pos h2]; rw [eqI, e2] at h2
    rw [if_neg (in9.mpr ⟨by omega, by omega⟩), if_neg (fun q => by rw [eqI, e9] at q; omega)]
    by_cases hb : fX9_isIn b 0 6 = 0
    · rw [if_pos hb]; rw [isIn_s, e0, e6] at hb
      exact no (fun q => hb (by have := q.2.1 (Or.inl h2); rw [if_neg (by omega)] at this; exact this))
    · rw [if_neg hb]; rw [in9, e0, e6] at hb
      have h : vS a.toInt b.toInt c.toInt ↔ ¬ fX9_isTo a c = 0 := by
        rw [to9, Classical.not_not]
        exact ⟨fun q => q.2.2, fun q => ⟨⟨by omega, by omega⟩, fun _ => by rw [if_neg (by omega)]; exact hb, q⟩⟩
      exact tail True (by simp [h, Classical.em, or_comm]) trivial h
  · rw [if_neg h2]; rw [eqI, e2] at h2
    by_cases h6 : a < 6
    · rw [if_pos h6]; rw [Int32.lt_iff_toInt_lt, e6] at h6
      by_cases ha : fX9_isIn a 0 9 = 0
      · rw [if_pos ha]; rw [isIn_s, e0, e9] at ha; exact no (fun q => ha q.1)
      · rw [if_neg ha]; rw [in9, e0, e9] at ha
        have h : vS a.toInt b.toInt c.toInt ↔ ¬ fX9_isTo a c = 0 := by
          rw [to9, Classical.not_not]
          exact ⟨fun q => q.2.2, fun q => ⟨ha, fun r => by omega, q⟩⟩
        exact tail True (by simp [h, Classical.em, or_comm]) trivial h
    · rw [if_neg h6]; rw [Int32.lt_iff_toInt_lt, e6] at h6
      by_cases ha : fX9_isIn a 0 9 = 0
      · rw [if_pos ha]; rw [isIn_s, e0, e9] at ha; exact no (fun q => ha q.1)
      · rw [if_neg ha]; rw [in9, e0, e9] at ha
        by_cases h9 : a = 9
        · rw [if_pos h9]; rw [eqI, e9] at h9
          by_cases hb : fX9_isIn b 0 3 = 0
          · rw [if_pos hb]; rw [isIn_s, e0, e3] at hb
            exact no (fun q => hb (by have := q.2.1 (Or.inr (by omega)); rw [if_pos h9] at this; exact this))
          · rw [if_neg hb]; rw [in9, e0, e3] at hb
            have h : vS a.toInt b.toInt c.toInt ↔ ¬ fX9_isTo a c = 0 := by
              rw [to9, Classical.not_not]
              exact ⟨fun q => q.2.2, fun q => ⟨ha, fun _ => by rw [if_pos h9]; exact hb, q⟩⟩
            exact tail True (by simp [h, Classical.em, or_comm]) trivial h
        · rw [if_neg h9]; rw [eqI, e9] at h9
          by_cases hb : fX9_isIn b 0 6 = 0
          · rw [if_pos hb]; rw [isIn_s, e0, e6] at hb
            exact no (fun q => hb (by have := q.2.1 (Or.inr (by omega)); rw [if_neg h9] at this; exact this))
          · rw [if_neg hb]; rw [in9, e0, e6] at hb
            have h : vS a.toInt b.toInt c.toInt ↔ ¬ fX9_isTo a c = 0 := by
              rw [to9, Classical.not_not]
              exact ⟨fun q => q.2.2, fun q => ⟨ha, fun _ => by rw [if_neg h9]; exact hb, q⟩⟩
            exact tail True (by simp [h, Classical.em, or_comm]) trivial h
/-! Frames of the calls that change the sequence alone. -/
def FT (iv av iv' av' : Nat → Nat → Int32) : Prop := (∀ k f, k < 61 → ¬ (k = 0 ∧ f = 5) → iv' k f = iv k f) ∧ ∀ k, k < 61 → av' k = av k
theorem RelC_steps {iv av iv' av' : Nat → Nat → Int32} {W : Om} {Q' : List Sq} (h : RelC iv av W) (hf : FT iv av iv' av') (hQ : QC iv' av' Q') (hM : MST iv') : RelC iv' av' (Q', W.2) := by
  obtain ⟨h1, h2, h3, h4, h5, h6, h7, h8, h9⟩ := h
  refine ⟨hQ, ?_, ⟨h3.1, fun g hg => (h3.2.1 g hg).kept (hf.1 _ _ (by omega) (by omega)) (hf.1 _ _ (by omega) (by omega)) (hf.2 _ (by omega)), by rw [hf.1 3 1 (by omega) (by omega)]; exact h3.2.2⟩, ?_, h5, h6, by rw [hf.1 0 6 (by omega) (by omega)]; exact h7, by rw [hf.1 0 7 (by omega) (by omega)]; exact h8, hM⟩
  · intro f hf4
    rw [hf.1 (29 + 3 * f + 1) 2 (by omega) (by omega), hf.1 (29 + 3 * f + 1) 1 (by omega) (by omega), hf.1 (29 + 3 * f) 1 (by omega) (by omega), hf.2 (29 + 3 * f + 1 + 1) (by omega)]
    exact h2 f hf4
  · unfold CHc at h4 ⊢
    rw [hf.1 57 3 (by omega) (by omega), hf.2 58 (by omega), hf.2 59 (by omega), hf.2 60 (by omega)]
    exact h4
theorem RelR_steps {v v' : Nat → Int32} {A A' : Nat → Nat → Int32} {W : Om} {Q' : List Sq} (h : RelR v A W) (hv : ∀ k, k ≠ 0 → k ≠ 1 → v' k = v k) (hA : ∀ q, 14 ≤ q → q ≤ 33 → A' q = A q) (hQ : QR v' A' Q') (hM : MSR A') : RelR v' A' (Q', W.2) := by
  obtain ⟨h1, h2, h3, h4, h5, h6, h7, h8⟩ := h
  refine ⟨hQ, ?_, RC_v h3 (hv 20 (by decide) (by decide)) (hv 26 (by decide) (by decide)) (fun q h h2 => hA q (by omega) (by omega)), by rw [hv 34 (by decide) (by decide)]; exact h4, ?_, by rw [hv 42 (by decide) (by decide)]; exact h6, by rw [hv 41 (by decide) (by decide)]; exact h7, hM⟩
  · intro f hf
    rw [hA 14 (by decide) (by decide), hA 15 (by decide) (by decide), hA 16 (by decide) (by decide), hA 17 (by decide) (by decide), hA 18 (by decide) (by decide)]
    exact h2 f hf
  · unfold chR at h5 ⊢
    rw [hA 29 (by decide) (by decide), hA 30 (by decide) (by decide), hA 31 (by decide) (by decide), hA 32 (by decide) (by decide), hA 33 (by decide) (by decide)]
    exact h5
