/-- the numbers of a new UpdateSteps -/
def iv0 (k f : Nat) : Int32 := if ck k = 14 ∧ f = 1 then nI (tl k / 3) else if ck k = 18 ∧ f = 7 then (-1) else if k = 0 ∧ f = 6 then (-1) else if (k = 5 ∨ k = 43) ∧ f = 2 then 1 else 0
def av0 (_ _ : Nat) : Int32 := 0
theorem zup_self' {M : ZM} {a b : Nat} {e : va_E} (h : b = a) : zup M a e b = some e := by subst h; exact zup_self _ _ _
theorem us_0 (aC : Nat → ClassId) (M : ZM) (x : Nat) : usM aC M x (x + 1) (x + 0) = some (cc aC x iv0 av0 0) := by
  unfold usM
  rw [oM_out _ (by omega) (by omega)]
  unfold usP7
  rw [zup_self' (by omega)]
  first | rfl | (simp [cc, ck, ctab, Nat.add_assoc]; done) | (simp [cc, ck, ctab, iv0, av0, tl, tE, fE, Nat.add_assoc]; done)
theorem us_1 (aC : Nat → ClassId) (M : ZM) (x : Nat) : usM aC M x (x + 1) (x + 1) = some (cc aC x iv0 av0 1) := by
  unfold usM
  rw [oM_ar]
  first | rfl | (simp [cc, ck, ctab, Nat.add_assoc]; done) | (simp [cc, ck, ctab, iv0, av0, tl, tE, fE, Nat.add_assoc]; done)
theorem us_2 (aC : Nat → ClassId) (M : ZM) (x : Nat) : usM aC M x (x + 1) (x + 2) = some (cc aC x iv0 av0 2) := by
  unfold usM
  rw [oM_out _ (by omega) (by omega)]
  unfold usP7
  rw [zup_ne _ _ (by omega)]
  rw [chM_out _ _ (by omega)]
  unfold usP5
  rw [zup_ne _ _ (by omega)]
  rw [stM_out _ _ (by omega)]
  unfold usP3
  rw [zup_ne _ _ (by omega)]
  rw [show x + 2 = x + 1 + 1 by omega, woM_a _ _ (by omega)]
  first | rfl | (simp [cc, ck, ctab, Nat.add_assoc]; done) | (simp [cc, ck, ctab, iv0, av0, tl, tE, fE, Nat.add_assoc]; done)
theorem us_3 (aC : Nat → ClassId) (M : ZM) (x : Nat) : usM aC M x (x + 1) (x + 3) = some (cc aC x iv0 av0 3) := by
  unfold usM
  rw [oM_out _ (by omega) (by omega)]
  unfold usP7
  rw [zup_ne _ _ (by omega)]
  rw [chM_out _ _ (by omega)]
  unfold usP5
  rw [zup_ne _ _ (by omega)]
  rw [stM_out _ _ (by omega)]
  unfold usP3
  rw [zup_ne _ _ (by omega)]
  unfold woM
  rw [oM_out _ (by omega) (by omega), zup_ne _ _ (by omega), zup_ne _ _ (by omega), seM_out _ _ (by omega), zup_ne _ _ (by omega), zup_ne _ _ (by omega)]
  unfold stM
  rw [zup_ne _ _ (by omega), sM_out _ _ (by omega), zup_self]
  first | rfl | (simp [cc, ck, ctab, Nat.add_assoc]; done) | (simp [cc, ck, ctab, iv0, av0, tl, tE, fE, Nat.add_assoc]; done)
theorem us_4 (aC : Nat → ClassId) (M : ZM) (x : Nat) : usM aC M x (x + 1) (x + 4) = some (cc aC x iv0 av0 4) := by
  unfold usM
  rw [oM_out _ (by omega) (by omega)]
  unfold usP7
  rw [zup_ne _ _ (by omega)]
  rw [chM_out _ _ (by omega)]
  unfold usP5
  rw [zup_ne _ _ (by omega)]
  rw [stM_out _ _ (by omega)]
  unfold usP3
  rw [zup_ne _ _ (by omega)]
  unfold woM
  rw [oM_out _ (by omega) (by omega), zup_ne _ _ (by omega), zup_ne _ _ (by omega), seM_out _ _ (by omega), zup_ne _ _ (by omega), zup_ne _ _ (by omega)]
  unfold stM
  rw [zup_ne _ _ (by omega)]
  rw [show x + 4 = x + 1 + 2 + 1 by omega, sM_sz]
  simp [cc, ck, ctab, Nat.add_assoc]
  funext i
  by_cases h : i < 7 <;> simp [h] <;> omega
theorem us_5 (aC : Nat → ClassId) (M : ZM) (x : Nat) : usM aC M x (x + 1) (x + 5) = some (cc aC x iv0 av0 5) := by
  unfold usM
  rw [oM_out _ (by omega) (by omega)]
  unfold usP7
  rw [zup_ne _ _ (by omega)]
  rw [chM_out _ _ (by omega)]
  unfold usP5
  rw [zup_ne _ _ (by omega)]
  rw [stM_out _ _ (by omega)]
  unfold usP3
  rw [zup_ne _ _ (by omega)]
  unfold woM
  rw [oM_out _ (by omega) (by omega), zup_ne _ _ (by omega), zup_ne _ _ (by omega), seM_out _ _ (by omega), zup_ne _ _ (by omega), zup_ne _ _ (by omega)]
  unfold stM
  rw [zup_self' (by omega)]
  first | rfl | (simp [cc, ck, ctab, Nat.add_assoc]; done) | (simp [cc, ck, ctab, iv0, av0, tl, tE, fE, Nat.add_assoc]; done)
theorem us_6 (aC : Nat → ClassId) (M : ZM) (x : Nat) : usM aC M x (x + 1) (x + 6) = some (cc aC x iv0 av0 6) := by
  unfold usM
  rw [oM_out _ (by omega) (by omega)]
  unfold usP7
  rw [zup_ne _ _ (by omega)]
  rw [chM_out _ _ (by omega)]
  unfold usP5
  rw [zup_ne _ _ (by omega)]
  rw [stM_out _ _ (by omega)]
  unfold usP3
  rw [zup_ne _ _ (by omega)]
  unfold woM
  rw [oM_out _ (by omega) (by omega), zup_ne _ _ (by omega), zup_ne _ _ (by omega), seM_out _ _ (by omega), zup_ne _ _ (by omega), zup_ne _ _ (by omega)]
  unfold stM
  rw [zup_ne _ _ (by omega)]
  simp only [sM]
  rw [if_neg (by omega), if_pos (by omega), if_neg (by omega)]
  first | rfl | (simp [cc, ck, ctab, Nat.add_assoc]; done) | (simp [cc, ck, ctab, iv0, av0, tl, tE, fE, Nat.add_assoc]; done)
theorem us_7 (aC : Nat → ClassId) (M : ZM) (x : Nat) : usM aC M x (x + 1) (x + 7) = some (cc aC x iv0 av0 7) := by
  unfold usM
  rw [oM_out _ (by omega) (by omega)]
  unfold usP7
  rw [zup_ne _ _ (by omega)]
  rw [chM_out _ _ (by omega)]
  unfold usP5
  rw [zup_ne _ _ (by omega)]
  rw [stM_out _ _ (by omega)]
  unfold usP3
  rw [zup_ne _ _ (by omega)]
  unfold woM
  rw [oM_out _ (by omega) (by omega), zup_ne _ _ (by omega), zup_ne _ _ (by omega), seM_out _ _ (by omega), zup_ne _ _ (by omega), zup_ne _ _ (by omega)]
  unfold stM
  rw [zup_ne _ _ (by omega)]
  simp only [sM]
  rw [if_neg (by omega), if_pos (by omega), if_pos (by omega)]
  first | rfl | (simp [cc, ck, ctab, Nat.add_assoc]; done) | (simp [cc, ck, ctab, iv0, av0, tl, tE, fE, Nat.add_assoc]; done)
theorem us_8 (aC : Nat → ClassId) (M : ZM) (x : Nat) : usM aC M x (x + 1) (x + 8) = some (cc aC x iv0 av0 8) := by
  unfold usM
  rw [oM_out _ (by omega) (by omega)]
  unfold usP7
  rw [zup_ne _ _ (by omega)]
  rw [chM_out _ _ (by omega)]
  unfold usP5
  rw [zup_ne _ _ (by omega)]
  rw [stM_out _ _ (by omega)]
  unfold usP3
  rw [zup_ne _ _ (by omega)]
  unfold woM
  rw [oM_out _ (by omega) (by omega), zup_ne _ _ (by omega), zup_ne _ _ (by omega), seM_out _ _ (by omega), zup_ne _ _ (by omega), zup_ne _ _ (by omega)]
  unfold stM
  rw [zup_ne _ _ (by omega)]
  simp only [sM]
  rw [if_neg (by omega), if_pos (by omega), if_neg (by omega)]
  first | rfl | (simp [cc, ck, ctab, Nat.add_assoc]; done) | (simp [cc, ck, ctab, iv0, av0, tl, tE, fE, Nat.add_assoc]; done)
theorem us_9 (aC : Nat → ClassId) (M : ZM) (x : Nat) : usM aC M x (x + 1) (x + 9) = some (cc aC x iv0 av0 9) := by
  unfold usM
  rw [oM_out _ (by omega) (by omega)]
  unfold usP7
  rw [zup_ne _ _ (by omega)]
  rw [chM_out _ _ (by omega)]
  unfold usP5
  rw [zup_ne _ _ (by omega)]
  rw [stM_out _ _ (by omega)]
  unfold usP3
  rw [zup_ne _ _ (by omega)]
  unfold woM
  rw [oM_out _ (by omega) (by omega), zup_ne _ _ (by omega), zup_ne _ _ (by omega), seM_out _ _ (by omega), zup_ne _ _ (by omega), zup_ne _ _ (by omega)]
  unfold stM
  rw [zup_ne _ _ (by omega)]
  simp only [sM]
  rw [if_neg (by omega), if_pos (by omega), if_pos (by omega)]
  first | rfl | (simp [cc, ck, ctab, Nat.add_assoc]; done) | (simp [cc, ck, ctab, iv0, av0, tl, tE, fE, Nat.add_assoc]; done)
theorem us_10 (aC : Nat → ClassId) (M : ZM) (x : Nat) : usM aC M x (x + 1) (x + 10) = some (cc aC x iv0 av0 10) := by
  unfold usM
  rw [oM_out _ (by omega) (by omega)]
  unfold usP7
  rw [zup_ne _ _ (by omega)]
  rw [chM_out _ _ (by omega)]
  unfold usP5
  rw [zup_ne _ _ (by omega)]
  rw [stM_out _ _ (by omega)]
  unfold usP3
  rw [zup_ne _ _ (by omega)]
  unfold woM
  rw [oM_out _ (by omega) (by omega), zup_ne _ _ (by omega), zup_ne _ _ (by omega), seM_out _ _ (by omega), zup_ne _ _ (by omega), zup_ne _ _ (by omega)]
  unfold stM
  rw [zup_ne _ _ (by omega)]
  simp only [sM]
  rw [if_neg (by omega), if_pos (by omega), if_neg (by omega)]
  first | rfl | (simp [cc, ck, ctab, Nat.add_assoc]; done) | (simp [cc, ck, ctab, iv0, av0, tl, tE, fE, Nat.add_assoc]; done)
theorem us_11 (aC : Nat → ClassId) (M : ZM) (x : Nat) : usM aC M x (x + 1) (x + 11) = some (cc aC x iv0 av0 11) := by
  unfold usM
  rw [oM_out _ (by omega) (by omega)]
  unfold usP7
  rw [zup_ne _ _ (by omega)]
  rw [chM_out _ _ (by omega)]
  unfold usP5
  rw [zup_ne _ _ (by omega)]
  rw [stM_out _ _ (by omega)]
  unfold usP3
  rw [zup_ne _ _ (by omega)]
  unfold woM
  rw [oM_out _ (by omega) (by omega), zup_ne _ _ (by omega), zup_ne _ _ (by omega), seM_out _ _ (by omega), zup_ne _ _ (by omega), zup_ne _ _ (by omega)]
  unfold stM
  rw [zup_ne _ _ (by omega)]
  simp only [sM]
  rw [if_neg (by omega), if_pos (by omega), if_pos (by omega)]
  first | rfl | (simp [cc, ck, ctab, Nat.add_assoc]; done) | (simp [cc, ck, ctab, iv0, av0, tl, tE, fE, Nat.add_assoc]; done)
theorem us_12 (aC : Nat → ClassId) (M : ZM) (x : Nat) : usM aC M x (x + 1) (x + 12) = some (cc aC x iv0 av0 12) := by
  unfold usM
  rw [oM_out _ (by omega) (by omega)]
  unfold usP7
  rw [zup_ne _ _ (by omega)]
  rw [chM_out _ _ (by omega)]
  unfold usP5
  rw [zup_ne _ _ (by omega)]
  rw [stM_out _ _ (by omega)]
  unfold usP3
  rw [zup_ne _ _ (by omega)]
  unfold woM
  rw [oM_out _ (by omega) (by omega), zup_ne _ _ (by omega), zup_ne _ _ (by omega), seM_out _ _ (by omega), zup_ne _ _ (by omega), zup_ne _ _ (by omega)]
  unfold stM
  rw [zup_ne _ _ (by omega)]
  simp only [sM]
  rw [if_neg (by omega), if_pos (by omega), if_neg (by omega)]
  first | rfl | (simp [cc, ck, ctab, Nat.add_assoc]; done) | (simp [cc, ck, ctab, iv0, av0, tl, tE, fE, Nat.add_assoc]; done)
theorem us_13 (aC : Nat → ClassId) (M : ZM) (x : Nat) : usM aC M x (x + 1) (x + 13) = some (cc aC x iv0 av0 13) := by
  unfold usM
  rw [oM_out _ (by omega) (by omega)]
  unfold usP7
  rw [zup_ne _ _ (by omega)]
  rw [chM_out _ _ (by omega)]
  unfold usP5
  rw [zup_ne _ _ (by omega)]
  rw [stM_out _ _ (by omega)]
  unfold usP3
  rw [zup_ne _ _ (by omega)]
  unfold woM
  rw [oM_out _ (by omega) (by omega), zup_ne _ _ (by omega), zup_ne _ _ (by omega), seM_out _ _ (by omega), zup_ne _ _ (by omega), zup_ne _ _ (by omega)]
  unfold stM
  rw [zup_ne _ _ (by omega)]
  simp only [sM]
  rw [if_neg (by omega), if_pos (by omega), if_pos (by omega)]
  first | rfl | (simp [cc, ck, ctab, Nat.add_assoc]; done) | (simp [cc, ck, ctab, iv0, av0, tl, tE, fE, Nat.add_assoc]; done)
theorem us_14 (aC : Nat → ClassId) (M : ZM) (x : Nat) : usM aC M x (x + 1) (x + 14) = some (cc aC x iv0 av0 14) := by
  unfold usM
  rw [oM_out _ (by omega) (by omega)]
  unfold usP7
  rw [zup_ne _ _ (by omega)]
  rw [chM_out _ _ (by omega)]
  unfold usP5
  rw [zup_ne _ _ (by omega)]
  rw [stM_out _ _ (by omega)]
  unfold usP3
  rw [zup_ne _ _ (by omega)]
  unfold woM
  rw [oM_out _ (by omega) (by omega), zup_ne _ _ (by omega), zup_ne _ _ (by omega), seM_out _ _ (by omega), zup_ne _ _ (by omega), zup_ne _ _ (by omega)]
  unfold stM
  rw [zup_ne _ _ (by omega)]
  simp only [sM]
  rw [if_neg (by omega), if_pos (by omega), if_neg (by omega)]
  first | rfl | (simp [cc, ck, ctab, Nat.add_assoc]; done) | (simp [cc, ck, ctab, iv0, av0, tl, tE, fE, Nat.add_assoc]; done)
theorem us_15 (aC : Nat → ClassId) (M : ZM) (x : Nat) : usM aC M x (x + 1) (x + 15) = some (cc aC x iv0 av0 15) := by
  unfold usM
  rw [oM_out _ (by omega) (by omega)]
  unfold usP7
  rw [zup_ne _ _ (by omega)]
  rw [chM_out _ _ (by omega)]
  unfold usP5
  rw [zup_ne _ _ (by omega)]
  rw [stM_out _ _ (by omega)]
  unfold usP3
  rw [zup_ne _ _ (by omega)]
  unfold woM
  rw [oM_out _ (by omega) (by omega), zup_ne _ _ (by omega), zup_ne _ _ (by omega), seM_out _ _ (by omega), zup_ne _ _ (by omega), zup_ne _ _ (by omega)]
  unfold stM
  rw [zup_ne _ _ (by omega)]
  simp only [sM]
  rw [if_neg (by omega), if_pos (by omega), if_pos (by omega)]
  first | rfl | (simp [cc, ck, ctab, Nat.add_assoc]; done) | (simp [cc, ck, ctab, iv0, av0, tl, tE, fE, Nat.add_assoc]; done)
theorem us_16 (aC : Nat → ClassId) (M : ZM) (x : Nat) : usM aC M x (x + 1) (x + 16) = some (cc aC x iv0 av0 16) := by
  unfold usM
  rw [oM_out _ (by omega) (by omega)]
  unfold usP7
  rw [zup_ne _ _ (by omega)]
  rw [chM_out _ _ (by omega)]
  unfold usP5
  rw [zup_ne _ _ (by omega)]
  rw [stM_out _ _ (by omega)]
  unfold usP3
  rw [zup_ne _ _ (by omega)]
  unfold woM
  rw [oM_out _ (by omega) (by omega), zup_ne _ _ (by omega), zup_ne _ _ (by omega), seM_out _ _ (by omega), zup_ne _ _ (by omega), zup_ne _ _ (by omega)]
  unfold stM
  rw [zup_ne _ _ (by omega)]
  simp only [sM]
  rw [if_neg (by omega), if_pos (by omega), if_neg (by omega)]
  first | rfl | (simp [cc, ck, ctab, Nat.add_assoc]; done) | (simp [cc, ck, ctab, iv0, av0, tl, tE, fE, Nat.add_assoc]; done)
theorem us_17 (aC : Nat → ClassId) (M : ZM) (x : Nat) : usM aC M x (x + 1) (x + 17) = some (cc aC x iv0 av0 17) := by
  unfold usM
  rw [oM_out _ (by omega) (by omega)]
  unfold usP7
  rw [zup_ne _ _ (by omega)]
  rw [chM_out _ _ (by omega)]
  unfold usP5
  rw [zup_ne _ _ (by omega)]
  rw [stM_out _ _ (by omega)]
  unfold usP3
  rw [zup_ne _ _ (by omega)]
  unfold woM
  rw [oM_out _ (by omega) (by omega), zup_ne _ _ (by omega), zup_ne _ _ (by omega), seM_out _ _ (by omega), zup_ne _ _ (by omega), zup_ne _ _ (by omega)]
  unfold stM
  rw [zup_ne _ _ (by omega)]
  simp only [sM]
  rw [if_neg (by omega), if_pos (by omega), if_pos (by omega)]
  first | rfl | (simp [cc, ck, ctab, Nat.add_assoc]; done) | (simp [cc, ck, ctab, iv0, av0, tl, tE, fE, Nat.add_assoc]; done)
theorem us_18 (aC : Nat → ClassId) (M : ZM) (x : Nat) : usM aC M x (x + 1) (x + 18) = some (cc aC x iv0 av0 18) := by
  unfold usM
  rw [oM_out _ (by omega) (by omega)]
  unfold usP7
  rw [zup_ne _ _ (by omega)]
  rw [chM_out _ _ (by omega)]
  unfold usP5
  rw [zup_ne _ _ (by omega)]
  rw [stM_out _ _ (by omega)]
  unfold usP3
  rw [zup_ne _ _ (by omega)]
  unfold woM
  rw [oM_out _ (by omega) (by omega), zup_ne _ _ (by omega), zup_ne _ _ (by omega), seM_out _ _ (by omega), zup_ne _ _ (by omega), zup_ne _ _ (by omega)]
  unfold stM
  rw [zup_ne _ _ (by omega)]
  simp only [sM]
  rw [if_neg (by omega), if_pos (by omega), if_neg (by omega)]
  first | rfl | (simp [cc, ck, ctab, Nat.add_assoc]; done) | (simp [cc, ck, ctab, iv0, av0, tl, tE, fE, Nat.add_assoc]; done)
theorem us_19 (aC : Nat → ClassId) (M : ZM) (x : Nat) : usM aC M x (x + 1) (x + 19) = some (cc aC x iv0 av0 19) := by
  unfold usM
  rw [oM_out _ (by omega) (by omega)]
  unfold usP7
  rw [zup_ne _ _ (by omega)]
  rw [chM_out _ _ (by omega)]
  unfold usP5
  rw [zup_ne _ _ (by omega)]
  rw [stM_out _ _ (by omega)]
  unfold usP3
  rw [zup_ne _ _ (by omega)]
  unfold woM
  rw [show x + 19 = x + 1 + 2 + 16 by omega, oM_ar]
  first | rfl | (simp [cc, ck, ctab, Nat.add_assoc]; done) | (simp [cc, ck, ctab, iv0, av0, tl, tE, fE, Nat.add_assoc]; done)
theorem us_20 (aC : Nat → ClassId) (M : ZM) (x : Nat) : usM aC M x (x + 1) (x + 20) = some (cc aC x iv0 av0 20) := by
  unfold usM
  rw [oM_out _ (by omega) (by omega)]
  unfold usP7
  rw [zup_ne _ _ (by omega)]
  rw [chM_out _ _ (by omega)]
  unfold usP5
  rw [zup_ne _ _ (by omega)]
  rw [stM_out _ _ (by omega)]
  unfold usP3
  rw [zup_ne _ _ (by omega)]
  unfold woM
  rw [oM_out _ (by omega) (by omega), zup_ne _ _ (by omega), zup_ne _ _ (by omega)]
  unfold seM
  rw [zup_ne _ _ (by omega), zup_self' (by omega)]
  first | rfl | (simp [cc, ck, ctab, Nat.add_assoc]; done) | (simp [cc, ck, ctab, iv0, av0, tl, tE, fE, Nat.add_assoc]; done)
theorem us_21 (aC : Nat → ClassId) (M : ZM) (x : Nat) : usM aC M x (x + 1) (x + 21) = some (cc aC x iv0 av0 21) := by
  unfold usM
  rw [oM_out _ (by omega) (by omega)]
  unfold usP7
  rw [zup_ne _ _ (by omega)]
  rw [chM_out _ _ (by omega)]
  unfold usP5
  rw [zup_ne _ _ (by omega)]
  rw [stM_out _ _ (by omega)]
  unfold usP3
  rw [zup_ne _ _ (by omega)]
  unfold woM
  rw [oM_out _ (by omega) (by omega), zup_ne _ _ (by omega), zup_ne _ _ (by omega)]
  unfold seM
  rw [zup_ne _ _ (by omega), zup_ne _ _ (by omega)]
  simp only [gM]
  rw [if_pos trivial]
  first | rfl | (simp [cc, ck, ctab, Nat.add_assoc]; done) | (simp [cc, ck, ctab, Nat.add_assoc]; funext i; by_cases h : i < 5 <;> simp [h] <;> omega)
theorem us_22 (aC : Nat → ClassId) (M : ZM) (x : Nat) : usM aC M x (x + 1) (x + 22) = some (cc aC x iv0 av0 22) := by
  unfold usM
  rw [oM_out _ (by omega) (by omega)]
  unfold usP7
  rw [zup_ne _ _ (by omega)]
  rw [chM_out _ _ (by omega)]
  unfold usP5
  rw [zup_ne _ _ (by omega)]
  rw [stM_out _ _ (by omega)]
  unfold usP3
  rw [zup_ne _ _ (by omega)]
  unfold woM
  rw [oM_out _ (by omega) (by omega), zup_ne _ _ (by omega), zup_ne _ _ (by omega)]
  unfold seM
  rw [zup_ne _ _ (by omega), zup_ne _ _ (by omega)]
  simp only [gM]
  rw [if_neg (by omega), if_pos (by omega)]
  first | rfl | (simp [cc, ck, ctab, Nat.add_assoc]; done) | (simp [cc, ck, ctab, iv0, av0, tl, tE, fE, Nat.add_assoc]; done)
theorem us_23 (aC : Nat → ClassId) (M : ZM) (x : Nat) : usM aC M x (x + 1) (x + 23) = some (cc aC x iv0 av0 23) := by
  unfold usM
  rw [oM_out _ (by omega) (by omega)]
  unfold usP7
  rw [zup_ne _ _ (by omega)]
  rw [chM_out _ _ (by omega)]
  unfold usP5
  rw [zup_ne _ _ (by omega)]
  rw [stM_out _ _ (by omega)]
  unfold usP3
  rw [zup_ne _ _ (by omega)]
  unfold woM
  rw [oM_out _ (by omega) (by omega), zup_ne _ _ (by omega), zup_ne _ _ (by omega)]
  unfold seM
  rw [zup_ne _ _ (by omega), zup_ne _ _ (by omega)]
  simp only [gM]
  rw [if_neg (by omega), if_pos (by omega)]
  first | rfl | (simp [cc, ck, ctab, Nat.add_assoc]; done) | (simp [cc, ck, ctab, iv0, av0, tl, tE, fE, Nat.add_assoc]; done)
theorem us_24 (aC : Nat → ClassId) (M : ZM) (x : Nat) : usM aC M x (x + 1) (x + 24) = some (cc aC x iv0 av0 24) := by
  unfold usM
  rw [oM_out _ (by omega) (by omega)]
  unfold usP7
  rw [zup_ne _ _ (by omega)]
  rw [chM_out _ _ (by omega)]
  unfold usP5
  rw [zup_ne _ _ (by omega)]
  rw [stM_out _ _ (by omega)]
  unfold usP3
  rw [zup_ne _ _ (by omega)]
  unfold woM
  rw [oM_out _ (by omega) (by omega), zup_ne _ _ (by omega), zup_ne _ _ (by omega)]
  unfold seM
  rw [zup_ne _ _ (by omega), zup_ne _ _ (by omega)]
  simp only [gM]
  rw [if_neg (by omega), if_pos (by omega)]
  first | rfl | (simp [cc, ck, ctab, Nat.add_assoc]; done) | (simp [cc, ck, ctab, iv0, av0, tl, tE, fE, Nat.add_assoc]; done)
theorem us_25 (aC : Nat → ClassId) (M : ZM) (x : Nat) : usM aC M x (x + 1) (x + 25) = some (cc aC x iv0 av0 25) := by
  unfold usM
  rw [oM_out _ (by omega) (by omega)]
  unfold usP7
  rw [zup_ne _ _ (by omega)]
  rw [chM_out _ _ (by omega)]
  unfold usP5
  rw [zup_ne _ _ (by omega)]
  rw [stM_out _ _ (by omega)]
  unfold usP3
  rw [zup_ne _ _ (by omega)]
  unfold woM
  rw [oM_out _ (by omega) (by omega), zup_ne _ _ (by omega), zup_ne _ _ (by omega)]
  unfold seM
  rw [zup_ne _ _ (by omega), zup_ne _ _ (by omega)]
  simp only [gM]
  rw [if_neg (by omega), if_pos (by omega)]
  first | rfl | (simp [cc, ck, ctab, Nat.add_assoc]; done) | (simp [cc, ck, ctab, iv0, av0, tl, tE, fE, Nat.add_assoc]; done)
theorem us_26 (aC : Nat → ClassId) (M : ZM) (x : Nat) : usM aC M x (x + 1) (x + 26) = some (cc aC x iv0 av0 26) := by
  unfold usM
  rw [oM_out _ (by omega) (by omega)]
  unfold usP7
  rw [zup_ne _ _ (by omega)]
  rw [chM_out _ _ (by omega)]
  unfold usP5
  rw [zup_ne _ _ (by omega)]
  rw [stM_out _ _ (by omega)]
  unfold usP3
  rw [zup_ne _ _ (by omega)]
  unfold woM
  rw [oM_out _ (by omega) (by omega), zup_ne _ _ (by omega), zup_ne _ _ (by omega)]
  unfold seM
  rw [zup_ne _ _ (by omega), zup_ne _ _ (by omega)]
  simp only [gM]
  rw [if_neg (by omega), if_pos (by omega)]
  first | rfl | (simp [cc, ck, ctab, Nat.add_assoc]; done) | (simp [cc, ck, ctab, iv0, av0, tl, tE, fE, Nat.add_assoc]; done)
theorem us_27 (aC : Nat → ClassId) (M : ZM) (x : Nat) : usM aC M x (x + 1) (x + 27) = some (cc aC x iv0 av0 27) := by
  unfold usM
  rw [oM_out _ (by omega) (by omega)]
  unfold usP7
  rw [zup_ne _ _ (by omega)]
  rw [chM_out _ _ (by omega)]
  unfold usP5
  rw [zup_ne _ _ (by omega)]
  rw [stM_out _ _ (by omega)]
  unfold usP3
  rw [zup_ne _ _ (by omega)]
  unfold woM
  rw [oM_out _ (by omega) (by omega), zup_ne _ _ (by omega), zup_ne _ _ (by omega)]
  unfold seM
  rw [zup_self' (by omega)]
  first | rfl | (simp [cc, ck, ctab, Nat.add_assoc]; done) | (simp [cc, ck, ctab, iv0, av0, tl, tE, fE, Nat.add_assoc]; done)
theorem us_28 (aC : Nat → ClassId) (M : ZM) (x : Nat) : usM aC M x (x + 1) (x + 28) = some (cc aC x iv0 av0 28) := by
  unfold usM
  rw [oM_out _ (by omega) (by omega)]
  unfold usP7
  rw [zup_ne _ _ (by omega)]
  rw [chM_out _ _ (by omega)]
  unfold usP5
  rw [zup_ne _ _ (by omega)]
  rw [stM_out _ _ (by omega)]
  unfold usP3
  rw [zup_ne _ _ (by omega)]
  unfold woM
  rw [oM_out _ (by omega) (by omega), zup_self' (by omega)]
  first | rfl | (simp [cc, ck, ctab, Nat.add_assoc]; done) | (simp [cc, ck, ctab, iv0, av0, tl, tE, fE, Nat.add_assoc]; done)
theorem us_29 (aC : Nat → ClassId) (M : ZM) (x : Nat) : usM aC M x (x + 1) (x + 29) = some (cc aC x iv0 av0 29) := by
  unfold usM
  rw [oM_out _ (by omega) (by omega)]
  unfold usP7
  rw [zup_ne _ _ (by omega)]
  rw [chM_out _ _ (by omega)]
  unfold usP5
  rw [zup_ne _ _ (by omega)]
  rw [stM_out _ _ (by omega)]
  unfold usP3
  rw [zup_ne _ _ (by omega)]
  unfold woM
  rw [show x + 29 = x + 1 + 2 + 26 + 3 * 0 + 0 by omega, oM_in _ (by omega) (by decide) (by decide)]
  first | rfl | (simp [cc, ck, ctab, Nat.add_assoc]; done) | (simp [cc, ck, ctab, iv0, av0, tl, tE, fE, Nat.add_assoc]; done)
theorem us_30 (aC : Nat → ClassId) (M : ZM) (x : Nat) : usM aC M x (x + 1) (x + 30) = some (cc aC x iv0 av0 30) := by
  unfold usM
  rw [oM_out _ (by omega) (by omega)]
  unfold usP7
  rw [zup_ne _ _ (by omega)]
  rw [chM_out _ _ (by omega)]
  unfold usP5
  rw [zup_ne _ _ (by omega)]
  rw [stM_out _ _ (by omega)]
  unfold usP3
  rw [zup_ne _ _ (by omega)]
  unfold woM
  rw [show x + 30 = x + 1 + 2 + 26 + 3 * 0 + 1 by omega, oM_in _ (by omega) (by decide) (by decide)]
  first | rfl | (simp [cc, ck, ctab, Nat.add_assoc]; done) | (simp [cc, ck, ctab, iv0, av0, tl, tE, fE, Nat.add_assoc]; done)
theorem us_31 (aC : Nat → ClassId) (M : ZM) (x : Nat) : usM aC M x (x + 1) (x + 31) = some (cc aC x iv0 av0 31) := by
  unfold usM
  rw [oM_out _ (by omega) (by omega)]
  unfold usP7
  rw [zup_ne _ _ (by omega)]
  rw [chM_out _ _ (by omega)]
  unfold usP5
  rw [zup_ne _ _ (by omega)]
  rw [stM_out _ _ (by omega)]
  unfold usP3
  rw [zup_ne _ _ (by omega)]
  unfold woM
  rw [show x + 31 = x + 1 + 2 + 26 + 3 * 0 + 2 by omega, oM_in _ (by omega) (by decide) (by decide)]
  first | rfl | (simp [cc, ck, ctab, Nat.add_assoc]; done) | (simp [cc, ck, ctab, iv0, av0, tl, tE, fE, Nat.add_assoc]; done)
theorem us_32 (aC : Nat → ClassId) (M : ZM) (x : Nat) : usM aC M x (x + 1) (x + 32) = some (cc aC x iv0 av0 32) := by
  unfold usM
  rw [oM_out _ (by omega) (by omega)]
  unfold usP7
  rw [zup_ne _ _ (by omega)]
  rw [chM_out _ _ (by omega)]
  unfold usP5
  rw [zup_ne _ _ (by omega)]
  rw [stM_out _ _ (by omega)]
  unfold usP3
  rw [zup_ne _ _ (by omega)]
  unfold woM
  rw [show x + 32 = x + 1 + 2 + 26 + 3 * 1 + 0 by omega, oM_in _ (by omega) (by decide) (by decide)]
  first | rfl | (simp [cc, ck, ctab, Nat.add_assoc]; done) | (simp [cc, ck, ctab, iv0, av0, tl, tE, fE, Nat.add_assoc]; done)
theorem us_33 (aC : Nat → ClassId) (M : ZM) (x : Nat) : usM aC M x (x + 1) (x + 33) = some (cc aC x iv0 av0 33) := by
  unfold usM
  rw [oM_out _ (by omega) (by omega)]
  unfold usP7
  rw [zup_ne _ _ (by omega)]
  rw [chM_out _ _ (by omega)]
  unfold usP5
  rw [zup_ne _ _ (by omega)]
  rw [stM_out _ _ (by omega)]
  unfold usP3
  rw [zup_ne _ _ (by omega)]
  unfold woM
  rw [show x + 33 = x + 1 + 2 + 26 + 3 * 1 + 1 by omega, oM_in _ (by omega) (by decide) (by decide)]
  first | rfl | (simp [cc, ck, ctab, Nat.add_assoc]; done) | (simp [cc, ck, ctab, iv0, av0, tl, tE, fE, Nat.add_assoc]; done)
theorem us_34 (aC : Nat → ClassId) (M : ZM) (x : Nat) : usM aC M x (x + 1) (x + 34) = some (cc aC x iv0 av0 34) := by
  unfold usM
  rw [oM_out _ (by omega) (by omega)]
  unfold usP7
  rw [zup_ne _ _ (by omega)]
  rw [chM_out _ _ (by omega)]
  unfold usP5
  rw [zup_ne _ _ (by omega)]
  rw [stM_out _ _ (by omega)]
  unfold usP3
  rw [zup_ne _ _ (by omega)]
  unfold woM
  rw [show x + 34 = x + 1 + 2 + 26 + 3 * 1 + 2 by omega, oM_in _ (by omega) (by decide) (by decide)]
  first | rfl | (simp [cc, ck, ctab, Nat.add_assoc]; done) | (simp [cc, ck, ctab, iv0, av0, tl, tE, fE, Nat.add_assoc]; done)
theorem us_35 (aC : Nat → ClassId) (M : ZM) (x : Nat) : usM aC M x (x + 1) (x + 35) = some (cc aC x iv0 av0 35) := by
  unfold usM
  rw [oM_out _ (by omega) (by omega)]
  unfold usP7
  rw [zup_ne _ _ (by omega)]
  rw [chM_out _ _ (by omega)]
  unfold usP5
  rw [zup_ne _ _ (by omega)]
  rw [stM_out _ _ (by omega)]
  unfold usP3
  rw [zup_ne _ _ (by omega)]
  unfold woM
  rw [show x + 35 = x + 1 + 2 + 26 + 3 * 2 + 0 by omega, oM_in _ (by omega) (by decide) (by decide)]
  first | rfl | (simp [cc, ck, ctab, Nat.add_assoc]; done) | (simp [cc, ck, ctab, iv0, av0, tl, tE, fE, Nat.add_assoc]; done)
theorem us_36 (aC : Nat → ClassId) (M : ZM) (x : Nat) : usM aC M x (x + 1) (x + 36) = some (cc aC x iv0 av0 36) := by
  unfold usM
  rw [oM_out _ (by omega) (by omega)]
  unfold usP7
  rw [zup_ne _ _ (by omega)]
  rw [chM_out _ _ (by omega)]
  unfold usP5
  rw [zup_ne _ _ (by omega)]
  rw [stM_out _ _ (by omega)]
  unfold usP3
  rw [zup_ne _ _ (by omega)]
  unfold woM
  rw [show x + 36 = x + 1 + 2 + 26 + 3 * 2 + 1 by omega, oM_in _ (by omega) (by decide) (by decide)]
  first | rfl | (simp [cc, ck, ctab, Nat.add_assoc]; done) | (simp [cc, ck, ctab, iv0, av0, tl, tE, fE, Nat.add_assoc]; done)
theorem us_37 (aC : Nat → ClassId) (M : ZM) (x : Nat) : usM aC M x (x + 1) (x + 37) = some (cc aC x iv0 av0 37) := by
  unfold usM
  rw [oM_out _ (by omega) (by omega)]
  unfold usP7
  rw [zup_ne _ _ (by omega)]
  rw [chM_out _ _ (by omega)]
  unfold usP5
  rw [zup_ne _ _ (by omega)]
  rw [stM_out _ _ (by omega)]
  unfold usP3
  rw [zup_ne _ _ (by omega)]
  unfold woM
  rw [show x + 37 = x + 1 + 2 + 26 + 3 * 2 + 2 by omega, oM_in _ (by omega) (by decide) (by decide)]
  first | rfl | (simp [cc, ck, ctab, Nat.add_assoc]; done) | (simp [cc, ck, ctab, iv0, av0, tl, tE, fE, Nat.add_assoc]; done)
theorem us_38 (aC : Nat → ClassId) (M : ZM) (x : Nat) : usM aC M x (x + 1) (x + 38) = some (cc aC x iv0 av0 38) := by
  unfold usM
  rw [oM_out _ (by omega) (by omega)]
  unfold usP7
  rw [zup_ne _ _ (by omega)]
  rw [chM_out _ _ (by omega)]
  unfold usP5
  rw [zup_ne _ _ (by omega)]
  rw [stM_out _ _ (by omega)]
  unfold usP3
  rw [zup_ne _ _ (by omega)]
  unfold woM
  rw [show x + 38 = x + 1 + 2 + 26 + 3 * 3 + 0 by omega, oM_in _ (by omega) (by decide) (by decide)]
  first | rfl | (simp [cc, ck, ctab, Nat.add_assoc]; done) | (simp [cc, ck, ctab, iv0, av0, tl, tE, fE, Nat.add_assoc]; done)
theorem us_39 (aC : Nat → ClassId) (M : ZM) (x : Nat) : usM aC M x (x + 1) (x + 39) = some (cc aC x iv0 av0 39) := by
  unfold usM
  rw [oM_out _ (by omega) (by omega)]
  unfold usP7
  rw [zup_ne _ _ (by omega)]
  rw [chM_out _ _ (by omega)]
  unfold usP5
  rw [zup_ne _ _ (by omega)]
  rw [stM_out _ _ (by omega)]
  unfold usP3
  rw [zup_ne _ _ (by omega)]
  unfold woM
  rw [show x + 39 = x + 1 + 2 + 26 + 3 * 3 + 1 by omega, oM_in _ (by omega) (by decide) (by decide)]
  first | rfl | (simp [cc, ck, ctab, Nat.add_assoc]; done) | (simp [cc, ck, ctab, iv0, av0, tl, tE, fE, Nat.add_assoc]; done)
theorem us_40 (aC : Nat → ClassId) (M : ZM) (x : Nat) : usM aC M x (x + 1) (x + 40) = some (cc aC x iv0 av0 40) := by
  unfold usM
  rw [oM_out _ (by omega) (by omega)]
  unfold usP7
  rw [zup_ne _ _ (by omega)]
  rw [chM_out _ _ (by omega)]
  unfold usP5
  rw [zup_ne _ _ (by omega)]
  rw [stM_out _ _ (by omega)]
  unfold usP3
  rw [zup_ne _ _ (by omega)]
  unfold woM
  rw [show x + 40 = x + 1 + 2 + 26 + 3 * 3 + 2 by omega, oM_in _ (by omega) (by decide) (by decide)]
  first | rfl | (simp [cc, ck, ctab, Nat.add_assoc]; done) | (simp [cc, ck, ctab, iv0, av0, tl, tE, fE, Nat.add_assoc]; done)
theorem us_41 (aC : Nat → ClassId) (M : ZM) (x : Nat) : usM aC M x (x + 1) (x + 41) = some (cc aC x iv0 av0 41) := by
  unfold usM
  rw [oM_out _ (by omega) (by omega)]
  unfold usP7
  rw [zup_ne _ _ (by omega)]
  rw [chM_out _ _ (by omega)]
  unfold usP5
  rw [zup_ne _ _ (by omega)]
  unfold stM
  rw [zup_ne _ _ (by omega), sM_out _ _ (by omega), zup_self]
  first | rfl | (simp [cc, ck, ctab, Nat.add_assoc]; done) | (simp [cc, ck, ctab, iv0, av0, tl, tE, fE, Nat.add_assoc]; done)
theorem us_42 (aC : Nat → ClassId) (M : ZM) (x : Nat) : usM aC M x (x + 1) (x + 42) = some (cc aC x iv0 av0 42) := by
  unfold usM
  rw [oM_out _ (by omega) (by omega)]
  unfold usP7
  rw [zup_ne _ _ (by omega)]
  rw [chM_out _ _ (by omega)]
  unfold usP5
  rw [zup_ne _ _ (by omega)]
  unfold stM
  rw [zup_ne _ _ (by omega)]
  rw [show x + 42 = x + 1 + 40 + 1 by omega, sM_sz]
  simp [cc, ck, ctab, Nat.add_assoc]
  funext i
  by_cases h : i < 7 <;> simp [h] <;> omega
theorem us_43 (aC : Nat → ClassId) (M : ZM) (x : Nat) : usM aC M x (x + 1) (x + 43) = some (cc aC x iv0 av0 43) := by
  unfold usM
  rw [oM_out _ (by omega) (by omega)]
  unfold usP7
  rw [zup_ne _ _ (by omega)]
  rw [chM_out _ _ (by omega)]
  unfold usP5
  rw [zup_ne _ _ (by omega)]
  unfold stM
  rw [zup_self' (by omega)]
  first | rfl | (simp [cc, ck, ctab, Nat.add_assoc]; done) | (simp [cc, ck, ctab, iv0, av0, tl, tE, fE, Nat.add_assoc]; done)
theorem us_44 (aC : Nat → ClassId) (M : ZM) (x : Nat) : usM aC M x (x + 1) (x + 44) = some (cc aC x iv0 av0 44) := by
  unfold usM
  rw [oM_out _ (by omega) (by omega)]
  unfold usP7
  rw [zup_ne _ _ (by omega)]
  rw [chM_out _ _ (by omega)]
  unfold usP5
  rw [zup_ne _ _ (by omega)]
  unfold stM
  rw [zup_ne _ _ (by omega)]
  simp only [sM]
  rw [if_neg (by omega), if_pos (by omega), if_neg (by omega)]
  first | rfl | (simp [cc, ck, ctab, Nat.add_assoc]; done) | (simp [cc, ck, ctab, iv0, av0, tl, tE, fE, Nat.add_assoc]; done)
theorem us_45 (aC : Nat → ClassId) (M : ZM) (x : Nat) : usM aC M x (x + 1) (x + 45) = some (cc aC x iv0 av0 45) := by
  unfold usM
  rw [oM_out _ (by omega) (by omega)]
  unfold usP7
  rw [zup_ne _ _ (by omega)]
  rw [chM_out _ _ (by omega)]
  unfold usP5
  rw [zup_ne _ _ (by omega)]
  unfold stM
  rw [zup_ne _ _ (by omega)]
  simp only [sM]
  rw [if_neg (by omega), if_pos (by omega), if_pos (by omega)]
  first | rfl | (simp [cc, ck, ctab, Nat.add_assoc]; done) | (simp [cc, ck, ctab, iv0, av0, tl, tE, fE, Nat.add_assoc]; done)
theorem us_46 (aC : Nat → ClassId) (M : ZM) (x : Nat) : usM aC M x (x + 1) (x + 46) = some (cc aC x iv0 av0 46) := by
  unfold usM
  rw [oM_out _ (by omega) (by omega)]
  unfold usP7
  rw [zup_ne _ _ (by omega)]
  rw [chM_out _ _ (by omega)]
  unfold usP5
  rw [zup_ne _ _ (by omega)]
  unfold stM
  rw [zup_ne _ _ (by omega)]
  simp only [sM]
  rw [if_neg (by omega), if_pos (by omega), if_neg (by omega)]
  first | rfl | (simp [cc, ck, ctab, Nat.add_assoc]; done) | (simp [cc, ck, ctab, iv0, av0, tl, tE, fE, Nat.add_assoc]; done)
theorem us_47 (aC : Nat → ClassId) (M : ZM) (x : Nat) : usM aC M x (x + 1) (x + 47) = some (cc aC x iv0 av0 47) := by
  unfold usM
  rw [oM_out _ (by omega) (by omega)]
  unfold usP7
  rw [zup_ne _ _ (by omega)]
  rw [chM_out _ _ (by omega)]
  unfold usP5
  rw [zup_ne _ _ (by omega)]
  unfold stM
  rw [zup_ne _ _ (by omega)]
  simp only [sM]
  rw [if_neg (by omega), if_pos (by omega), if_pos (by omega)]
  first | rfl | (simp [cc, ck, ctab, Nat.add_assoc]; done) | (simp [cc, ck, ctab, iv0, av0, tl, tE, fE, Nat.add_assoc]; done)
theorem us_48 (aC : Nat → ClassId) (M : ZM) (x : Nat) : usM aC M x (x + 1) (x + 48) = some (cc aC x iv0 av0 48) := by
  unfold usM
  rw [oM_out _ (by omega) (by omega)]
  unfold usP7
  rw [zup_ne _ _ (by omega)]
  rw [chM_out _ _ (by omega)]
  unfold usP5
  rw [zup_ne _ _ (by omega)]
  unfold stM
  rw [zup_ne _ _ (by omega)]
  simp only [sM]
  rw [if_neg (by omega), if_pos (by omega), if_neg (by omega)]
  first | rfl | (simp [cc, ck, ctab, Nat.add_assoc]; done) | (simp [cc, ck, ctab, iv0, av0, tl, tE, fE, Nat.add_assoc]; done)
theorem us_49 (aC : Nat → ClassId) (M : ZM) (x : Nat) : usM aC M x (x + 1) (x + 49) = some (cc aC x iv0 av0 49) := by
  unfold usM
  rw [oM_out _ (by omega) (by omega)]
  unfold usP7
  rw [zup_ne _ _ (by omega)]
  rw [chM_out _ _ (by omega)]
  unfold usP5
  rw [zup_ne _ _ (by omega)]
  unfold stM
  rw [zup_ne _ _ (by omega)]
  simp only [sM]
  rw [if_neg (by omega), if_pos (by omega), if_pos (by omega)]
  first | rfl | (simp [cc, ck, ctab, Nat.add_assoc]; done) | (simp [cc, ck, ctab, iv0, av0, tl, tE, fE, Nat.add_assoc]; done)
theorem us_50 (aC : Nat → ClassId) (M : ZM) (x : Nat) : usM aC M x (x + 1) (x + 50) = some (cc aC x iv0 av0 50) := by
  unfold usM
  rw [oM_out _ (by omega) (by omega)]
  unfold usP7
  rw [zup_ne _ _ (by omega)]
  rw [chM_out _ _ (by omega)]
  unfold usP5
  rw [zup_ne _ _ (by omega)]
  unfold stM
  rw [zup_ne _ _ (by omega)]
  simp only [sM]
  rw [if_neg (by omega), if_pos (by omega), if_neg (by omega)]
  first | rfl | (simp [cc, ck, ctab, Nat.add_assoc]; done) | (simp [cc, ck, ctab, iv0, av0, tl, tE, fE, Nat.add_assoc]; done)
theorem us_51 (aC : Nat → ClassId) (M : ZM) (x : Nat) : usM aC M x (x + 1) (x + 51) = some (cc aC x iv0 av0 51) := by
  unfold usM
  rw [oM_out _ (by omega) (by omega)]
  unfold usP7
  rw [zup_ne _ _ (by omega)]
  rw [chM_out _ _ (by omega)]
  unfold usP5
  rw [zup_ne _ _ (by omega)]
  unfold stM
  rw [zup_ne _ _ (by omega)]
  simp only [sM]
  rw [if_neg (by omega), if_pos (by omega), if_pos (by omega)]
  first | rfl | (simp [cc, ck, ctab, Nat.add_assoc]; done) | (simp [cc, ck, ctab, iv0, av0, tl, tE, fE, Nat.add_assoc]; done)
theorem us_52 (aC : Nat → ClassId) (M : ZM) (x : Nat) : usM aC M x (x + 1) (x + 52) = some (cc aC x iv0 av0 52) := by
  unfold usM
  rw [oM_out _ (by omega) (by omega)]
  unfold usP7
  rw [zup_ne _ _ (by omega)]
  rw [chM_out _ _ (by omega)]
  unfold usP5
  rw [zup_ne _ _ (by omega)]
  unfold stM
  rw [zup_ne _ _ (by omega)]
  simp only [sM]
  rw [if_neg (by omega), if_pos (by omega), if_neg (by omega)]
  first | rfl | (simp [cc, ck, ctab, Nat.add_assoc]; done) | (simp [cc, ck, ctab, iv0, av0, tl, tE, fE, Nat.add_assoc]; done)
theorem us_53 (aC : Nat → ClassId) (M : ZM) (x : Nat) : usM aC M x (x + 1) (x + 53) = some (cc aC x iv0 av0 53) := by
  unfold usM
  rw [oM_out _ (by omega) (by omega)]
  unfold usP7
  rw [zup_ne _ _ (by omega)]
  rw [chM_out _ _ (by omega)]
  unfold usP5
  rw [zup_ne _ _ (by omega)]
  unfold stM
  rw [zup_ne _ _ (by omega)]
  simp only [sM]
  rw [if_neg (by omega), if_pos (by omega), if_pos (by omega)]
  first | rfl | (simp [cc, ck, ctab, Nat.add_assoc]; done) | (simp [cc, ck, ctab, iv0, av0, tl, tE, fE, Nat.add_assoc]; done)
theorem us_54 (aC : Nat → ClassId) (M : ZM) (x : Nat) : usM aC M x (x + 1) (x + 54) = some (cc aC x iv0 av0 54) := by
  unfold usM
  rw [oM_out _ (by omega) (by omega)]
  unfold usP7
  rw [zup_ne _ _ (by omega)]
  rw [chM_out _ _ (by omega)]
  unfold usP5
  rw [zup_ne _ _ (by omega)]
  unfold stM
  rw [zup_ne _ _ (by omega)]
  simp only [sM]
  rw [if_neg (by omega), if_pos (by omega), if_neg (by omega)]
  first | rfl | (simp [cc, ck, ctab, Nat.add_assoc]; done) | (simp [cc, ck, ctab, iv0, av0, tl, tE, fE, Nat.add_assoc]; done)
theorem us_55 (aC : Nat → ClassId) (M : ZM) (x : Nat) : usM aC M x (x + 1) (x + 55) = some (cc aC x iv0 av0 55) := by
  unfold usM
  rw [oM_out _ (by omega) (by omega)]
  unfold usP7
  rw [zup_ne _ _ (by omega)]
  rw [chM_out _ _ (by omega)]
  unfold usP5
  rw [zup_ne _ _ (by omega)]
  unfold stM
  rw [zup_ne _ _ (by omega)]
  simp only [sM]
  rw [if_neg (by omega), if_pos (by omega), if_pos (by omega)]
  first | rfl | (simp [cc, ck, ctab, Nat.add_assoc]; done) | (simp [cc, ck, ctab, iv0, av0, tl, tE, fE, Nat.add_assoc]; done)
theorem us_56 (aC : Nat → ClassId) (M : ZM) (x : Nat) : usM aC M x (x + 1) (x + 56) = some (cc aC x iv0 av0 56) := by
  unfold usM
  rw [oM_out _ (by omega) (by omega)]
  unfold usP7
  rw [zup_ne _ _ (by omega)]
  rw [chM_out _ _ (by omega)]
  unfold usP5
  rw [zup_ne _ _ (by omega)]
  unfold stM
  rw [zup_ne _ _ (by omega)]
  simp only [sM]
  rw [if_neg (by omega), if_pos (by omega), if_neg (by omega)]
  first | rfl | (simp [cc, ck, ctab, Nat.add_assoc]; done) | (simp [cc, ck, ctab, iv0, av0, tl, tE, fE, Nat.add_assoc]; done)
theorem us_57 (aC : Nat → ClassId) (M : ZM) (x : Nat) : usM aC M x (x + 1) (x + 57) = some (cc aC x iv0 av0 57) := by
  unfold usM
  rw [oM_out _ (by omega) (by omega)]
  unfold usP7
  rw [zup_ne _ _ (by omega)]
  unfold chM
  rw [zup_ne _ _ (by omega), zup_ne _ _ (by omega), zup_ne _ _ (by omega), zup_self' (by omega)]
  first | rfl | (simp [cc, ck, ctab, Nat.add_assoc]; done) | (simp [cc, ck, ctab, iv0, av0, tl, tE, fE, Nat.add_assoc]; done)
theorem us_58 (aC : Nat → ClassId) (M : ZM) (x : Nat) : usM aC M x (x + 1) (x + 58) = some (cc aC x iv0 av0 58) := by
  unfold usM
  rw [oM_out _ (by omega) (by omega)]
  unfold usP7
  rw [zup_ne _ _ (by omega)]
  unfold chM
  rw [zup_ne _ _ (by omega), zup_ne _ _ (by omega), zup_self' (by omega)]
  first | rfl | (simp [cc, ck, ctab, Nat.add_assoc]; done) | (simp [cc, ck, ctab, iv0, av0, tl, tE, fE, Nat.add_assoc]; done)
theorem us_59 (aC : Nat → ClassId) (M : ZM) (x : Nat) : usM aC M x (x + 1) (x + 59) = some (cc aC x iv0 av0 59) := by
  unfold usM
  rw [oM_out _ (by omega) (by omega)]
  unfold usP7
  rw [zup_ne _ _ (by omega)]
  unfold chM
  rw [zup_ne _ _ (by omega), zup_self' (by omega)]
  first | rfl | (simp [cc, ck, ctab, Nat.add_assoc]; done) | (simp [cc, ck, ctab, iv0, av0, tl, tE, fE, Nat.add_assoc]; done)
theorem us_60 (aC : Nat → ClassId) (M : ZM) (x : Nat) : usM aC M x (x + 1) (x + 60) = some (cc aC x iv0 av0 60) := by
  unfold usM
  rw [oM_out _ (by omega) (by omega)]
  unfold usP7
  rw [zup_ne _ _ (by omega)]
  unfold chM
  rw [zup_self' (by omega)]
  first | rfl | (simp [cc, ck, ctab, Nat.add_assoc]; done) | (simp [cc, ck, ctab, iv0, av0, tl, tE, fE, Nat.add_assoc]; done)
theorem us_61 (aC : Nat → ClassId) (M : ZM) (x : Nat) : usM aC M x (x + 1) (x + 61) = some (cc aC x iv0 av0 61) := by
  unfold usM
  rw [show x + 61 = x + 1 + 60 + 6 * 0 + 0 by omega, oM_in _ (by omega) (by decide) (by decide)]
  first | rfl | (simp [cc, ck, ctab, Nat.add_assoc]; done) | (simp [cc, ck, ctab, iv0, av0, tl, tE, fE, Nat.add_assoc]; done)
theorem us_62 (aC : Nat → ClassId) (M : ZM) (x : Nat) : usM aC M x (x + 1) (x + 62) = some (cc aC x iv0 av0 62) := by
  unfold usM
  rw [show x + 62 = x + 1 + 60 + 6 * 0 + 1 by omega, oM_in _ (by omega) (by decide) (by decide)]
  first | rfl | (simp [cc, ck, ctab, Nat.add_assoc]; done) | (simp [cc, ck, ctab, iv0, av0, tl, tE, fE, Nat.add_assoc]; done)
theorem us_63 (aC : Nat → ClassId) (M : ZM) (x : Nat) : usM aC M x (x + 1) (x + 63) = some (cc aC x iv0 av0 63) := by
  unfold usM
  rw [show x + 63 = x + 1 + 60 + 6 * 0 + 2 by omega, oM_in _ (by omega) (by decide) (by decide)]
  first | rfl | (simp [cc, ck, ctab, Nat.add_assoc]; done) | (simp [cc, ck, ctab, iv0, av0, tl, tE, fE, Nat.add_assoc]; done)
theorem us_64 (aC : Nat → ClassId) (M : ZM) (x : Nat) : usM aC M x (x + 1) (x + 64) = some (cc aC x iv0 av0 64) := by
  unfold usM
  rw [show x + 64 = x + 1 + 60 + 6 * 0 + 3 by omega, oM_in _ (by omega) (by decide) (by decide)]
  first | rfl | (simp [cc, ck, ctab, Nat.add_assoc]; done) | (simp [cc, ck, ctab, iv0, av0, tl, tE, fE, Nat.add_assoc]; done)
theorem us_65 (aC : Nat → ClassId) (M : ZM) (x : Nat) : usM aC M x (x + 1) (x + 65) = some (cc aC x iv0 av0 65) := by
  unfold usM
  rw [show x + 65 = x + 1 + 60 + 6 * 0 + 4 by omega, oM_in _ (by omega) (by decide) (by decide)]
  first | rfl | (simp [cc, ck, ctab, Nat.add_assoc]; done) | (simp [cc, ck, ctab, iv0, av0, tl, tE, fE, Nat.add_assoc]; done)
theorem us_66 (aC : Nat → ClassId) (M : ZM) (x : Nat) : usM aC M x (x + 1) (x + 66) = some (cc aC x iv0 av0 66) := by
  unfold usM
  rw [show x + 66 = x + 1 + 60 + 6 * 0 + 5 by omega, oM_in _ (by omega) (by decide) (by decide)]
  first | rfl | (simp [cc, ck, ctab, Nat.add_assoc]; done) | (simp [cc, ck, ctab, iv0, av0, tl, tE, fE, Nat.add_assoc]; done)
theorem us_67 (aC : Nat → ClassId) (M : ZM) (x : Nat) : usM aC M x (x + 1) (x + 67) = some (cc aC x iv0 av0 67) := by
  unfold usM
  rw [show x + 67 = x + 1 + 60 + 6 * 1 + 0 by omega, oM_in _ (by omega) (by decide) (by decide)]
  first | rfl | (simp [cc, ck, ctab, Nat.add_assoc]; done) | (simp [cc, ck, ctab, iv0, av0, tl, tE, fE, Nat.add_assoc]; done)
theorem us_68 (aC : Nat → ClassId) (M : ZM) (x : Nat) : usM aC M x (x + 1) (x + 68) = some (cc aC x iv0 av0 68) := by
  unfold usM
  rw [show x + 68 = x + 1 + 60 + 6 * 1 + 1 by omega, oM_in _ (by omega) (by decide) (by decide)]
  first | rfl | (simp [cc, ck, ctab, Nat.add_assoc]; done) | (simp [cc, ck, ctab, iv0, av0, tl, tE, fE, Nat.add_assoc]; done)
theorem us_69 (aC : Nat → ClassId) (M : ZM) (x : Nat) : usM aC M x (x + 1) (x + 69) = some (cc aC x iv0 av0 69) := by
  unfold usM
  rw [show x + 69 = x + 1 + 60 + 6 * 1 + 2 by omega, oM_in _ (by omega) (by decide) (by decide)]
  first | rfl | (simp [cc, ck, ctab, Nat.add_assoc]; done) | (simp [cc, ck, ctab, iv0, av0, tl, tE, fE, Nat.add_assoc]; done)
theorem us_70 (aC : Nat → ClassId) (M : ZM) (x : Nat) : usM aC M x (x + 1) (x + 70) = some (cc aC x iv0 av0 70) := by
  unfold usM
  rw [show x + 70 = x + 1 + 60 + 6 * 1 + 3 by omega, oM_in _ (by omega) (by decide) (by decide)]
  first | rfl | (simp [cc, ck, ctab, Nat.add_assoc]; done) | (simp [cc, ck, ctab, iv0, av0, tl, tE, fE, Nat.add_assoc]; done)
theorem us_71 (aC : Nat → ClassId) (M : ZM) (x : Nat) : usM aC M x (x + 1) (x + 71) = some (cc aC x iv0 av0 71) := by
  unfold usM
  rw [show x + 71 = x + 1 + 60 + 6 * 1 + 4 by omega, oM_in _ (by omega) (by decide) (by decide)]
  first | rfl | (simp [cc, ck, ctab, Nat.add_assoc]; done) | (simp [cc, ck, ctab, iv0, av0, tl, tE, fE, Nat.add_assoc]; done)
theorem us_72 (aC : Nat → ClassId) (M : ZM) (x : Nat) : usM aC M x (x + 1) (x + 72) = some (cc aC x iv0 av0 72) := by
  unfold usM
  rw [show x + 72 = x + 1 + 60 + 6 * 1 + 5 by omega, oM_in _ (by omega) (by decide) (by decide)]
  first | rfl | (simp [cc, ck, ctab, Nat.add_assoc]; done) | (simp [cc, ck, ctab, iv0, av0, tl, tE, fE, Nat.add_assoc]; done)
theorem us_73 (aC : Nat → ClassId) (M : ZM) (x : Nat) : usM aC M x (x + 1) (x + 73) = some (cc aC x iv0 av0 73) := by
  unfold usM
  rw [show x + 73 = x + 1 + 60 + 6 * 2 + 0 by omega, oM_in _ (by omega) (by decide) (by decide)]
  first | rfl | (simp [cc, ck, ctab, Nat.add_assoc]; done) | (simp [cc, ck, ctab, iv0, av0, tl, tE, fE, Nat.add_assoc]; done)
theorem us_74 (aC : Nat → ClassId) (M : ZM) (x : Nat) : usM aC M x (x + 1) (x + 74) = some (cc aC x iv0 av0 74) := by
  unfold usM
  rw [show x + 74 = x + 1 + 60 + 6 * 2 + 1 by omega, oM_in _ (by omega) (by decide) (by decide)]
  first | rfl | (simp [cc, ck, ctab, Nat.add_assoc]; done) | (simp [cc, ck, ctab, iv0, av0, tl, tE, fE, Nat.add_assoc]; done)
theorem us_75 (aC : Nat → ClassId) (M : ZM) (x : Nat) : usM aC M x (x + 1) (x + 75) = some (cc aC x iv0 av0 75) := by
  unfold usM
  rw [show x + 75 = x + 1 + 60 + 6 * 2 + 2 by omega, oM_in _ (by omega) (by decide) (by decide)]
  first | rfl | (simp [cc, ck, ctab, Nat.add_assoc]; done) | (simp [cc, ck, ctab, iv0, av0, tl, tE, fE, Nat.add_assoc]; done)
theorem us_76 (aC : Nat → ClassId) (M : ZM) (x : Nat) : usM aC M x (x + 1) (x + 76) = some (cc aC x iv0 av0 76) := by
  unfold usM
  rw [show x + 76 = x + 1 + 60 + 6 * 2 + 3 by omega, oM_in _ (by omega) (by decide) (by decide)]
  first | rfl | (simp [cc, ck, ctab, Nat.add_assoc]; done) | (simp [cc, ck, ctab, iv0, av0, tl, tE, fE, Nat.add_assoc]; done)
theorem us_77 (aC : Nat → ClassId) (M : ZM) (x : Nat) : usM aC M x (x + 1) (x + 77) = some (cc aC x iv0 av0 77) := by
  unfold usM
  rw [show x + 77 = x + 1 + 60 + 6 * 2 + 4 by omega, oM_in _ (by omega) (by decide) (by decide)]
  first | rfl | (simp [cc, ck, ctab, Nat.add_assoc]; done) | (simp [cc, ck, ctab, iv0, av0, tl, tE, fE, Nat.add_assoc]; done)
theorem us_78 (aC : Nat → ClassId) (M : ZM) (x : Nat) : usM aC M x (x + 1) (x + 78) = some (cc aC x iv0 av0 78) := by
  unfold usM
  rw [show x + 78 = x + 1 + 60 + 6 * 2 + 5 by omega, oM_in _ (by omega) (by decide) (by decide)]
  first | rfl | (simp [cc, ck, ctab, Nat.add_assoc]; done) | (simp [cc, ck, ctab, iv0, av0, tl, tE, fE, Nat.add_assoc]; done)
theorem us_79 (aC : Nat → ClassId) (M : ZM) (x : Nat) : usM aC M x (x + 1) (x + 79) = some (cc aC x iv0 av0 79) := by
  unfold usM
  rw [show x + 79 = x + 1 + 60 + 6 * 3 + 0 by omega, oM_in _ (by omega) (by decide) (by decide)]
  first | rfl | (simp [cc, ck, ctab, Nat.add_assoc]; done) | (simp [cc, ck, ctab, iv0, av0, tl, tE, fE, Nat.add_assoc]; done)
theorem us_80 (aC : Nat → ClassId) (M : ZM) (x : Nat) : usM aC M x (x + 1) (x + 80) = some (cc aC x iv0 av0 80) := by
  unfold usM
  rw [show x + 80 = x + 1 + 60 + 6 * 3 + 1 by omega, oM_in _ (by omega) (by decide) (by decide)]
  first | rfl | (simp [cc, ck, ctab, Nat.add_assoc]; done) | (simp [cc, ck, ctab, iv0, av0, tl, tE, fE, Nat.add_assoc]; done)
theorem us_81 (aC : Nat → ClassId) (M : ZM) (x : Nat) : usM aC M x (x + 1) (x + 81) = some (cc aC x iv0 av0 81) := by
  unfold usM
  rw [show x + 81 = x + 1 + 60 + 6 * 3 + 2 by omega, oM_in _ (by omega) (by decide) (by decide)]
  first | rfl | (simp [cc, ck, ctab, Nat.add_assoc]; done) | (simp [cc, ck, ctab, iv0, av0, tl, tE, fE, Nat.add_assoc]; done)
theorem us_82 (aC : Nat → ClassId) (M : ZM) (x : Nat) : usM aC M x (x + 1) (x + 82) = some (cc aC x iv0 av0 82) := by
  unfold usM
  rw [show x + 82 = x + 1 + 60 + 6 * 3 + 3 by omega, oM_in _ (by omega) (by decide) (by decide)]
  first | rfl | (simp [cc, ck, ctab, Nat.add_assoc]; done) | (simp [cc, ck, ctab, iv0, av0, tl, tE, fE, Nat.add_assoc]; done)
theorem us_83 (aC : Nat → ClassId) (M : ZM) (x : Nat) : usM aC M x (x + 1) (x + 83) = some (cc aC x iv0 av0 83) := by
  unfold usM
  rw [show x + 83 = x + 1 + 60 + 6 * 3 + 4 by omega, oM_in _ (by omega) (by decide) (by decide)]
  first | rfl | (simp [cc, ck, ctab, Nat.add_assoc]; done) | (simp [cc, ck, ctab, iv0, av0, tl, tE, fE, Nat.add_assoc]; done)
theorem us_84 (aC : Nat → ClassId) (M : ZM) (x : Nat) : usM aC M x (x + 1) (x + 84) = some (cc aC x iv0 av0 84) := by
  unfold usM
  rw [show x + 84 = x + 1 + 60 + 6 * 3 + 5 by omega, oM_in _ (by omega) (by decide) (by decide)]
  first | rfl | (simp [cc, ck, ctab, Nat.add_assoc]; done) | (simp [cc, ck, ctab, iv0, av0, tl, tE, fE, Nat.add_assoc]; done)
theorem us_85 (aC : Nat → ClassId) (M : ZM) (x : Nat) : usM aC M x (x + 1) (x + 85) = some (cc aC x iv0 av0 85) := by
  unfold usM
  rw [show x + 85 = x + 1 + 60 + 6 * 4 + 0 by omega, oM_in _ (by omega) (by decide) (by decide)]
  first | rfl | (simp [cc, ck, ctab, Nat.add_assoc]; done) | (simp [cc, ck, ctab, iv0, av0, tl, tE, fE, Nat.add_assoc]; done)
theorem us_86 (aC : Nat → ClassId) (M : ZM) (x : Nat) : usM aC M x (x + 1) (x + 86) = some (cc aC x iv0 av0 86) := by
  unfold usM
  rw [show x + 86 = x + 1 + 60 + 6 * 4 + 1 by omega, oM_in _ (by omega) (by decide) (by decide)]
  first | rfl | (simp [cc, ck, ctab, Nat.add_assoc]; done) | (simp [cc, ck, ctab, iv0, av0, tl, tE, fE, Nat.add_assoc]; done)
theorem us_87 (aC : Nat → ClassId) (M : ZM) (x : Nat) : usM aC M x (x + 1) (x + 87) = some (cc aC x iv0 av0 87) := by
  unfold usM
  rw [show x + 87 = x + 1 + 60 + 6 * 4 + 2 by omega, oM_in _ (by omega) (by decide) (by decide)]
  first | rfl | (simp [cc, ck, ctab, Nat.add_assoc]; done) | (simp [cc, ck, ctab, iv0, av0, tl, tE, fE, Nat.add_assoc]; done)
theorem us_88 (aC : Nat → ClassId) (M : ZM) (x : Nat) : usM aC M x (x + 1) (x + 88) = some (cc aC x iv0 av0 88) := by
  unfold usM
  rw [show x + 88 = x + 1 + 60 + 6 * 4 + 3 by omega, oM_in _ (by omega) (by decide) (by decide)]
  first | rfl | (simp [cc, ck, ctab, Nat.add_assoc]; done) | (simp [cc, ck, ctab, iv0, av0, tl, tE, fE, Nat.add_assoc]; done)
theorem us_89 (aC : Nat → ClassId) (M : ZM) (x : Nat) : usM aC M x (x + 1) (x + 89) = some (cc aC x iv0 av0 89) := by
  unfold usM
  rw [show x + 89 = x + 1 + 60 + 6 * 4 + 4 by omega, oM_in _ (by omega) (by decide) (by decide)]
  first | rfl | (simp [cc, ck, ctab, Nat.add_assoc]; done) | (simp [cc, ck, ctab, iv0, av0, tl, tE, fE, Nat.add_assoc]; done)
theorem us_90 (aC : Nat → ClassId) (M : ZM) (x : Nat) : usM aC M x (x + 1) (x + 90) = some (cc aC x iv0 av0 90) := by
  unfold usM
  rw [show x + 90 = x + 1 + 60 + 6 * 4 + 5 by omega, oM_in _ (by omega) (by decide) (by decide)]
  first | rfl | (simp [cc, ck, ctab, Nat.add_assoc]; done) | (simp [cc, ck, ctab, iv0, av0, tl, tE, fE, Nat.add_assoc]; done)
theorem us_91 (aC : Nat → ClassId) (M : ZM) (x : Nat) : usM aC M x (x + 1) (x + 91) = some (cc aC x iv0 av0 91) := by
  unfold usM
  rw [show x + 91 = x + 1 + 60 + 6 * 5 + 0 by omega, oM_in _ (by omega) (by decide) (by decide)]
  first | rfl | (simp [cc, ck, ctab, Nat.add_assoc]; done) | (simp [cc, ck, ctab, iv0, av0, tl, tE, fE, Nat.add_assoc]; done)
theorem us_92 (aC : Nat → ClassId) (M : ZM) (x : Nat) : usM aC M x (x + 1) (x + 92) = some (cc aC x iv0 av0 92) := by
  unfold usM
  rw [show x + 92 = x + 1 + 60 + 6 * 5 + 1 by omega, oM_in _ (by omega) (by decide) (by decide)]
  first | rfl | (simp [cc, ck, ctab, Nat.add_assoc]; done) | (simp [cc, ck, ctab, iv0, av0, tl, tE, fE, Nat.add_assoc]; done)
theorem us_93 (aC : Nat → ClassId) (M : ZM) (x : Nat) : usM aC M x (x + 1) (x + 93) = some (cc aC x iv0 av0 93) := by
  unfold usM
  rw [show x + 93 = x + 1 + 60 + 6 * 5 + 2 by omega, oM_in _ (by omega) (by decide) (by decide)]
  first | rfl | (simp [cc, ck, ctab, Nat.add_assoc]; done) | (simp [cc, ck, ctab, iv0, av0, tl, tE, fE, Nat.add_assoc]; done)
theorem us_94 (aC : Nat → ClassId) (M : ZM) (x : Nat) : usM aC M x (x + 1) (x + 94) = some (cc aC x iv0 av0 94) := by
  unfold usM
  rw [show x + 94 = x + 1 + 60 + 6 * 5 + 3 by omega, oM_in _ (by omega) (by decide) (by decide)]
  first | rfl | (simp [cc, ck, ctab, Nat.add_assoc]; done) | (simp [cc, ck, ctab, iv0, av0, tl, tE, fE, Nat.add_assoc]; done)
theorem us_95 (aC : Nat → ClassId) (M : ZM) (x : Nat) : usM aC M x (x + 1) (x + 95) = some (cc aC x iv0 av0 95) := by
  unfold usM
  rw [show x + 95 = x + 1 + 60 + 6 * 5 + 4 by omega, oM_in _ (by omega) (by decide) (by decide)]
  first | rfl | (simp [cc, ck, ctab, Nat.add_assoc]; done) | (simp [cc, ck, ctab, iv0, av0, tl, tE, fE, Nat.add_assoc]; done)
theorem us_96 (aC : Nat → ClassId) (M : ZM) (x : Nat) : usM aC M x (x + 1) (x + 96) = some (cc aC x iv0 av0 96) := by
  unfold usM
  rw [show x + 96 = x + 1 + 60 + 6 * 5 + 5 by omega, oM_in _ (by omega) (by decide) (by decide)]
  first | rfl | (simp [cc, ck, ctab, Nat.add_assoc]; done) | (simp [cc, ck, ctab, iv0, av0, tl, tE, fE, Nat.add_assoc]; done)
theorem us_97 (aC : Nat → ClassId) (M : ZM) (x : Nat) : usM aC M x (x + 1) (x + 97) = some (cc aC x iv0 av0 97) := by
  unfold usM
  rw [show x + 97 = x + 1 + 60 + 6 * 6 + 0 by omega, oM_in _ (by omega) (by decide) (by decide)]
  first | rfl | (simp [cc, ck, ctab, Nat.add_assoc]; done) | (simp [cc, ck, ctab, iv0, av0, tl, tE, fE, Nat.add_assoc]; done)
theorem us_98 (aC : Nat → ClassId) (M : ZM) (x : Nat) : usM aC M x (x + 1) (x + 98) = some (cc aC x iv0 av0 98) := by
  unfold usM
  rw [show x + 98 = x + 1 + 60 + 6 * 6 + 1 by omega, oM_in _ (by omega) (by decide) (by decide)]
  first | rfl | (simp [cc, ck, ctab, Nat.add_assoc]; done) | (simp [cc, ck, ctab, iv0, av0, tl, tE, fE, Nat.add_assoc]; done)
theorem us_99 (aC : Nat → ClassId) (M : ZM) (x : Nat) : usM aC M x (x + 1) (x + 99) = some (cc aC x iv0 av0 99) := by
  unfold usM
  rw [show x + 99 = x + 1 + 60 + 6 * 6 + 2 by omega, oM_in _ (by omega) (by decide) (by decide)]
  first | rfl | (simp [cc, ck, ctab, Nat.add_assoc]; done) | (simp [cc, ck, ctab, iv0, av0, tl, tE, fE, Nat.add_assoc]; done)
theorem us_100 (aC : Nat → ClassId) (M : ZM) (x : Nat) : usM aC M x (x + 1) (x + 100) = some (cc aC x iv0 av0 100) := by
  unfold usM
  rw [show x + 100 = x + 1 + 60 + 6 * 6 + 3 by omega, oM_in _ (by omega) (by decide) (by decide)]
  first | rfl | (simp [cc, ck, ctab, Nat.add_assoc]; done) | (simp [cc, ck, ctab, iv0, av0, tl, tE, fE, Nat.add_assoc]; done)
theorem us_101 (aC : Nat → ClassId) (M : ZM) (x : Nat) : usM aC M x (x + 1) (x + 101) = some (cc aC x iv0 av0 101) := by
  unfold usM
  rw [show x + 101 = x + 1 + 60 + 6 * 6 + 4 by omega, oM_in _ (by omega) (by decide) (by decide)]
  first | rfl | (simp [cc, ck, ctab, Nat.add_assoc]; done) | (simp [cc, ck, ctab, iv0, av0, tl, tE, fE, Nat.add_assoc]; done)
theorem us_102 (aC : Nat → ClassId) (M : ZM) (x : Nat) : usM aC M x (x + 1) (x + 102) = some (cc aC x iv0 av0 102) := by
  unfold usM
  rw [show x + 102 = x + 1 + 60 + 6 * 6 + 5 by omega, oM_in _ (by omega) (by decide) (by decide)]
  first | rfl | (simp [cc, ck, ctab, Nat.add_assoc]; done) | (simp [cc, ck, ctab, iv0, av0, tl, tE, fE, Nat.add_assoc]; done)
theorem us_103 (aC : Nat → ClassId) (M : ZM) (x : Nat) : usM aC M x (x + 1) (x + 103) = some (cc aC x iv0 av0 103) := by
  unfold usM
  rw [show x + 103 = x + 1 + 60 + 6 * 7 + 0 by omega, oM_in _ (by omega) (by decide) (by decide)]
  first | rfl | (simp [cc, ck, ctab, Nat.add_assoc]; done) | (simp [cc, ck, ctab, iv0, av0, tl, tE, fE, Nat.add_assoc]; done)
theorem us_104 (aC : Nat → ClassId) (M : ZM) (x : Nat) : usM aC M x (x + 1) (x + 104) = some (cc aC x iv0 av0 104) := by
  unfold usM
  rw [show x + 104 = x + 1 + 60 + 6 * 7 + 1 by omega, oM_in _ (by omega) (by decide) (by decide)]
  first | rfl | (simp [cc, ck, ctab, Nat.add_assoc]; done) | (simp [cc, ck, ctab, iv0, av0, tl, tE, fE, Nat.add_assoc]; done)
theorem us_105 (aC : Nat → ClassId) (M : ZM) (x : Nat) : usM aC M x (x + 1) (x + 105) = some (cc aC x iv0 av0 105) := by
  unfold usM
  rw [show x + 105 = x + 1 + 60 + 6 * 7 + 2 by omega, oM_in _ (by omega) (by decide) (by decide)]
  first | rfl | (simp [cc, ck, ctab, Nat.add_assoc]; done) | (simp [cc, ck, ctab, iv0, av0, tl, tE, fE, Nat.add_assoc]; done)
theorem us_106 (aC : Nat → ClassId) (M : ZM) (x : Nat) : usM aC M x (x + 1) (x + 106) = some (cc aC x iv0 av0 106) := by
  unfold usM
  rw [show x + 106 = x + 1 + 60 + 6 * 7 + 3 by omega, oM_in _ (by omega) (by decide) (by decide)]
  first | rfl | (simp [cc, ck, ctab, Nat.add_assoc]; done) | (simp [cc, ck, ctab, iv0, av0, tl, tE, fE, Nat.add_assoc]; done)
theorem us_107 (aC : Nat → ClassId) (M : ZM) (x : Nat) : usM aC M x (x + 1) (x + 107) = some (cc aC x iv0 av0 107) := by
  unfold usM
  rw [show x + 107 = x + 1 + 60 + 6 * 7 + 4 by omega, oM_in _ (by omega) (by decide) (by decide)]
  first | rfl | (simp [cc, ck, ctab, Nat.add_assoc]; done) | (simp [cc, ck, ctab, iv0, av0, tl, tE, fE, Nat.add_assoc]; done)
theorem us_108 (aC : Nat → ClassId) (M : ZM) (x : Nat) : usM aC M x (x + 1) (x + 108) = some (cc aC x iv0 av0 108) := by
  unfold usM
  rw [show x + 108 = x + 1 + 60 + 6 * 7 + 5 by omega, oM_in _ (by omega) (by decide) (by decide)]
  first | rfl | (simp [cc, ck, ctab, Nat.add_assoc]; done) | (simp [cc, ck, ctab, iv0, av0, tl, tE, fE, Nat.add_assoc]; done)
theorem us_109 (aC : Nat → ClassId) (M : ZM) (x : Nat) : usM aC M x (x + 1) (x + 109) = some (cc aC x iv0 av0 109) := by
  unfold usM
  rw [show x + 109 = x + 1 + 60 + 6 * 8 + 0 by omega, oM_in _ (by omega) (by decide) (by decide)]
  first | rfl | (simp [cc, ck, ctab, Nat.add_assoc]; done) | (simp [cc, ck, ctab, iv0, av0, tl, tE, fE, Nat.add_assoc]; done)
theorem us_110 (aC : Nat → ClassId) (M : ZM) (x : Nat) : usM aC M x (x + 1) (x + 110) = some (cc aC x iv0 av0 110) := by
  unfold usM
  rw [show x + 110 = x + 1 + 60 + 6 * 8 + 1 by omega, oM_in _ (by omega) (by decide) (by decide)]
  first | rfl | (simp [cc, ck, ctab, Nat.add_assoc]; done) | (simp [cc, ck, ctab, iv0, av0, tl, tE, fE, Nat.add_assoc]; done)
theorem us_111 (aC : Nat → ClassId) (M : ZM) (x : Nat) : usM aC M x (x + 1) (x + 111) = some (cc aC x iv0 av0 111) := by
  unfold usM
  rw [show x + 111 = x + 1 + 60 + 6 * 8 + 2 by omega, oM_in _ (by omega) (by decide) (by decide)]
  first | rfl | (simp [cc, ck, ctab, Nat.add_assoc]; done) | (simp [cc, ck, ctab, iv0, av0, tl, tE, fE, Nat.add_assoc]; done)
theorem us_112 (aC : Nat → ClassId) (M : ZM) (x : Nat) : usM aC M x (x + 1) (x + 112) = some (cc aC x iv0 av0 112) := by
  unfold usM
  rw [show x + 112 = x + 1 + 60 + 6 * 8 + 3 by omega, oM_in _ (by omega) (by decide) (by decide)]
  first | rfl | (simp [cc, ck, ctab, Nat.add_assoc]; done) | (simp [cc, ck, ctab, iv0, av0, tl, tE, fE, Nat.add_assoc]; done)
theorem us_113 (aC : Nat → ClassId) (M : ZM) (x : Nat) : usM aC M x (x + 1) (x + 113) = some (cc aC x iv0 av0 113) := by
  unfold usM
  rw [show x + 113 = x + 1 + 60 + 6 * 8 + 4 by omega, oM_in _ (by omega) (by decide) (by decide)]
  first | rfl | (simp [cc, ck, ctab, Nat.add_assoc]; done) | (simp [cc, ck, ctab, iv0, av0, tl, tE, fE, Nat.add_assoc]; done)
theorem us_114 (aC : Nat → ClassId) (M : ZM) (x : Nat) : usM aC M x (x + 1) (x + 114) = some (cc aC x iv0 av0 114) := by
  unfold usM
  rw [show x + 114 = x + 1 + 60 + 6 * 8 + 5 by omega, oM_in _ (by omega) (by decide) (by decide)]
  first | rfl | (simp [cc, ck, ctab, Nat.add_assoc]; done) | (simp [cc, ck, ctab, iv0, av0, tl, tE, fE, Nat.add_assoc]; done)
theorem us_115 (aC : Nat → ClassId) (M : ZM) (x : Nat) : usM aC M x (x + 1) (x + 115) = some (cc aC x iv0 av0 115) := by
  unfold usM
  rw [show x + 115 = x + 1 + 60 + 6 * 9 + 0 by omega, oM_in _ (by omega) (by decide) (by decide)]
  first | rfl | (simp [cc, ck, ctab, Nat.add_assoc]; done) | (simp [cc, ck, ctab, iv0, av0, tl, tE, fE, Nat.add_assoc]; done)
theorem us_116 (aC : Nat → ClassId) (M : ZM) (x : Nat) : usM aC M x (x + 1) (x + 116) = some (cc aC x iv0 av0 116) := by
  unfold usM
  rw [show x + 116 = x + 1 + 60 + 6 * 9 + 1 by omega, oM_in _ (by omega) (by decide) (by decide)]
  first | rfl | (simp [cc, ck, ctab, Nat.add_assoc]; done) | (simp [cc, ck, ctab, iv0, av0, tl, tE, fE, Nat.add_assoc]; done)
theorem us_117 (aC : Nat → ClassId) (M : ZM) (x : Nat) : usM aC M x (x + 1) (x + 117) = some (cc aC x iv0 av0 117) := by
  unfold usM
  rw [show x + 117 = x + 1 + 60 + 6 * 9 + 2 by omega, oM_in _ (by omega) (by decide) (by decide)]
  first | rfl | (simp [cc, ck, ctab, Nat.add_assoc]; done) | (simp [cc, ck, ctab, iv0, av0, tl, tE, fE, Nat.add_assoc]; done)
theorem us_118 (aC : Nat → ClassId) (M : ZM) (x : Nat) : usM aC M x (x + 1) (x + 118) = some (cc aC x iv0 av0 118) := by
  unfold usM
  rw [show x + 118 = x + 1 + 60 + 6 * 9 + 3 by omega, oM_in _ (by omega) (by decide) (by decide)]
  first | rfl | (simp [cc, ck, ctab, Nat.add_assoc]; done) | (simp [cc, ck, ctab, iv0, av0, tl, tE, fE, Nat.add_assoc]; done)
theorem us_119 (aC : Nat → ClassId) (M : ZM) (x : Nat) : usM aC M x (x + 1) (x + 119) = some (cc aC x iv0 av0 119) := by
  unfold usM
  rw [show x + 119 = x + 1 + 60 + 6 * 9 + 4 by omega, oM_in _ (by omega) (by decide) (by decide)]
  first | rfl | (simp [cc, ck, ctab, Nat.add_assoc]; done) | (simp [cc, ck, ctab, iv0, av0, tl, tE, fE, Nat.add_assoc]; done)
theorem us_120 (aC : Nat → ClassId) (M : ZM) (x : Nat) : usM aC M x (x + 1) (x + 120) = some (cc aC x iv0 av0 120) := by
  unfold usM
  rw [show x + 120 = x + 1 + 60 + 6 * 9 + 5 by omega, oM_in _ (by omega) (by decide) (by decide)]
  first | rfl | (simp [cc, ck, ctab, Nat.add_assoc]; done) | (simp [cc, ck, ctab, iv0, av0, tl, tE, fE, Nat.add_assoc]; done)
theorem us_121 (aC : Nat → ClassId) (M : ZM) (x : Nat) : usM aC M x (x + 1) (x + 121) = some (cc aC x iv0 av0 121) := by
  unfold usM
  rw [show x + 121 = x + 1 + 60 + 6 * 10 + 0 by omega, oM_in _ (by omega) (by decide) (by decide)]
  first | rfl | (simp [cc, ck, ctab, Nat.add_assoc]; done) | (simp [cc, ck, ctab, iv0, av0, tl, tE, fE, Nat.add_assoc]; done)
theorem us_122 (aC : Nat → ClassId) (M : ZM) (x : Nat) : usM aC M x (x + 1) (x + 122) = some (cc aC x iv0 av0 122) := by
  unfold usM
  rw [show x + 122 = x + 1 + 60 + 6 * 10 + 1 by omega, oM_in _ (by omega) (by decide) (by decide)]
  first | rfl | (simp [cc, ck, ctab, Nat.add_assoc]; done) | (simp [cc, ck, ctab, iv0, av0, tl, tE, fE, Nat.add_assoc]; done)
theorem us_123 (aC : Nat → ClassId) (M : ZM) (x : Nat) : usM aC M x (x + 1) (x + 123) = some (cc aC x iv0 av0 123) := by
  unfold usM
  rw [show x + 123 = x + 1 + 60 + 6 * 10 + 2 by omega, oM_in _ (by omega) (by decide) (by decide)]
  first | rfl | (simp [cc, ck, ctab, Nat.add_assoc]; done) | (simp [cc, ck, ctab, iv0, av0, tl, tE, fE, Nat.add_assoc]; done)
theorem us_124 (aC : Nat → ClassId) (M : ZM) (x : Nat) : usM aC M x (x + 1) (x + 124) = some (cc aC x iv0 av0 124) := by
  unfold usM
  rw [show x + 124 = x + 1 + 60 + 6 * 10 + 3 by omega, oM_in _ (by omega) (by decide) (by decide)]
  first | rfl | (simp [cc, ck, ctab, Nat.add_assoc]; done) | (simp [cc, ck, ctab, iv0, av0, tl, tE, fE, Nat.add_assoc]; done)
theorem us_125 (aC : Nat → ClassId) (M : ZM) (x : Nat) : usM aC M x (x + 1) (x + 125) = some (cc aC x iv0 av0 125) := by
  unfold usM
  rw [show x + 125 = x + 1 + 60 + 6 * 10 + 4 by omega, oM_in _ (by omega) (by decide) (by decide)]
  first | rfl | (simp [cc, ck, ctab, Nat.add_assoc]; done) | (simp [cc, ck, ctab, iv0, av0, tl, tE, fE, Nat.add_assoc]; done)
theorem us_126 (aC : Nat → ClassId) (M : ZM) (x : Nat) : usM aC M x (x + 1) (x + 126) = some (cc aC x iv0 av0 126) := by
  unfold usM
  rw [show x + 126 = x + 1 + 60 + 6 * 10 + 5 by omega, oM_in _ (by omega) (by decide) (by decide)]
  first | rfl | (simp [cc, ck, ctab, Nat.add_assoc]; done) | (simp [cc, ck, ctab, iv0, av0, tl, tE, fE, Nat.add_assoc]; done)
theorem us_127 (aC : Nat → ClassId) (M : ZM) (x : Nat) : usM aC M x (x + 1) (x + 127) = some (cc aC x iv0 av0 127) := by
  unfold usM
  rw [show x + 127 = x + 1 + 60 + 6 * 11 + 0 by omega, oM_in _ (by omega) (by decide) (by decide)]
  first | rfl | (simp [cc, ck, ctab, Nat.add_assoc]; done) | (simp [cc, ck, ctab, iv0, av0, tl, tE, fE, Nat.add_assoc]; done)
theorem us_128 (aC : Nat → ClassId) (M : ZM) (x : Nat) : usM aC M x (x + 1) (x + 128) = some (cc aC x iv0 av0 128) := by
  unfold usM
  rw [show x + 128 = x + 1 + 60 + 6 * 11 + 1 by omega, oM_in _ (by omega) (by decide) (by decide)]
  first | rfl | (simp [cc, ck, ctab, Nat.add_assoc]; done) | (simp [cc, ck, ctab, iv0, av0, tl, tE, fE, Nat.add_assoc]; done)
theorem us_129 (aC : Nat → ClassId) (M : ZM) (x : Nat) : usM aC M x (x + 1) (x + 129) = some (cc aC x iv0 av0 129) := by
  unfold usM
  rw [show x + 129 = x + 1 + 60 + 6 * 11 + 2 by omega, oM_in _ (by omega) (by decide) (by decide)]
  first | rfl | (simp [cc, ck, ctab, Nat.add_assoc]; done) | (simp [cc, ck, ctab, iv0, av0, tl, tE, fE, Nat.add_assoc]; done)
theorem us_130 (aC : Nat → ClassId) (M : ZM) (x : Nat) : usM aC M x (x + 1) (x + 130) = some (cc aC x iv0 av0 130) := by
  unfold usM
  rw [show x + 130 = x + 1 + 60 + 6 * 11 + 3 by omega, oM_in _ (by omega) (by decide) (by decide)]
  first | rfl | (simp [cc, ck, ctab, Nat.add_assoc]; done) | (simp [cc, ck, ctab, iv0, av0, tl, tE, fE, Nat.add_assoc]; done)
theorem us_131 (aC : Nat → ClassId) (M : ZM) (x : Nat) : usM aC M x (x + 1) (x + 131) = some (cc aC x iv0 av0 131) := by
  unfold usM
  rw [show x + 131 = x + 1 + 60 + 6 * 11 + 4 by omega, oM_in _ (by omega) (by decide) (by decide)]
  first | rfl | (simp [cc, ck, ctab, Nat.add_assoc]; done) | (simp [cc, ck, ctab, iv0, av0, tl, tE, fE, Nat.add_assoc]; done)
theorem us_132 (aC : Nat → ClassId) (M : ZM) (x : Nat) : usM aC M x (x + 1) (x + 132) = some (cc aC x iv0 av0 132) := by
  unfold usM
  rw [show x + 132 = x + 1 + 60 + 6 * 11 + 5 by omega, oM_in _ (by omega) (by decide) (by decide)]
  first | rfl | (simp [cc, ck, ctab, Nat.add_assoc]; done) | (simp [cc, ck, ctab, iv0, av0, tl, tE, fE, Nat.add_assoc]; done)
theorem us_all (aC : Nat → ClassId) (M : ZM) (x : Nat) : ∀ k, k < 133 → usM aC M x (x + 1) (x + k) = some (cc aC x iv0 av0 k) := by
  intro k hk
  match k, hk with
  | 0, _ => exact us_0 aC M x
  | 1, _ => exact us_1 aC M x
  | 2, _ => exact us_2 aC M x
  | 3, _ => exact us_3 aC M x
  | 4, _ => exact us_4 aC M x
  | 5, _ => exact us_5 aC M x
  | 6, _ => exact us_6 aC M x
  | 7, _ => exact us_7 aC M x
  | 8, _ => exact us_8 aC M x
  | 9, _ => exact us_9 aC M x
  | 10, _ => exact us_10 aC M x
  | 11, _ => exact us_11 aC M x
  | 12, _ => exact us_12 aC M x
  | 13, _ => exact us_13 aC M x
  | 14, _ => exact us_14 aC M x
  | 15, _ => exact us_15 aC M x
  | 16, _ => exact us_16 aC M x
  | 17, _ => exact us_17 aC M x
  | 18, _ => exact us_18 aC M x
  | 19, _ => exact us_19 aC M x
  | 20, _ => exact us_20 aC M x
  | 21, _ => exact us_21 aC M x
  | 22, _ => exact us_22 aC M x
  | 23, _ => exact us_23 aC M x
  | 24, _ => exact us_24 aC M x
  | 25, _ => exact us_25 aC M x
  | 26, _ => exact us_26 aC M x
  | 27, _ => exact us_27 aC M x
  | 28, _ => exact us_28 aC M x
  | 29, _ => exact us_29 aC M x
  | 30, _ => exact us_30 aC M x
  | 31, _ => exact us_31 aC M x
  | 32, _ => exact us_32 aC M x
  | 33, _ => exact us_33 aC M x
  | 34, _ => exact us_34 aC M x
  | 35, _ => exact us_35 aC M x
  | 36, _ => exact us_36 aC M x
  | 37, _ => exact us_37 aC M x
  | 38, _ => exact us_38 aC M x
  | 39, _ => exact us_39 aC M x
  | 40, _ => exact us_40 aC M x
  | 41, _ => exact us_41 aC M x
  | 42, _ => exact us_42 aC M x
  | 43, _ => exact us_43 aC M x
  | 44, _ => exact us_44 aC M x
  | 45, _ => exact us_45 aC M x
  | 46, _ => exact us_46 aC M x
  | 47, _ => exact us_47 aC M x
  | 48, _ => exact us_48 aC M x
  | 49, _ => exact us_49 aC M x
  | 50, _ => exact us_50 aC M x
  | 51, _ => exact us_51 aC M x
  | 52, _ => exact us_52 aC M x
  | 53, _ => exact us_53 aC M x
  | 54, _ => exact us_54 aC M x
  | 55, _ => exact us_55 aC M x
  | 56, _ => exact us_56 aC M x
  | 57, _ => exact us_57 aC M x
  | 58, _ => exact us_58 aC M x
  | 59, _ => exact us_59 aC M x
  | 60, _ => exact us_60 aC M x
  | 61, _ => exact us_61 aC M x
  | 62, _ => exact us_62 aC M x
  | 63, _ => exact us_63 aC M x
  | 64, _ => exact us_64 aC M x
  | 65, _ => exact us_65 aC M x
  | 66, _ => exact us_66 aC M x
  | 67, _ => exact us_67 aC M x
  | 68, _ => exact us_68 aC M x
  | 69, _ => exact us_69 aC M x
  | 70, _ => exact us_70 aC M x
  | 71, _ => exact us_71 aC M x
  | 72, _ => exact us_72 aC M x
  | 73, _ => exact us_73 aC M x
  | 74, _ => exact us_74 aC M x
  | 75, _ => exact us_75 aC M x
  | 76, _ => exact us_76 aC M x
  | 77, _ => exact us_77 aC M x
  | 78, _ => exact us_78 aC M x
  | 79, _ => exact us_79 aC M x
  | 80, _ => exact us_80 aC M x
  | 81, _ => exact us_81 aC M x
  | 82, _ => exact us_82 aC M x
  | 83, _ => exact us_83 aC M x
  | 84, _ => exact us_84 aC M x
  | 85, _ => exact us_85 aC M x
  | 86, _ => exact us_86 aC M x
  | 87, _ => exact us_87 aC M x
  | 88, _ => exact us_88 aC M x
  | 89, _ => exact us_89 aC M x
  | 90, _ => exact us_90 aC M x
  | 91, _ => exact us_91 aC M x
  | 92, _ => exact us_92 aC M x
  | 93, _ => exact us_93 aC M x
  | 94, _ => exact us_94 aC M x
  | 95, _ => exact us_95 aC M x
  | 96, _ => exact us_96 aC M x
  | 97, _ => exact us_97 aC M x
  | 98, _ => exact us_98 aC M x
  | 99, _ => exact us_99 aC M x
  | 100, _ => exact us_100 aC M x
  | 101, _ => exact us_101 aC M x
  | 102, _ => exact us_102 aC M x
  | 103, _ => exact us_103 aC M x
  | 104, _ => exact us_104 aC M x
  | 105, _ => exact us_105 aC M x
  | 106, _ => exact us_106 aC M x
  | 107, _ => exact us_107 aC M x
  | 108, _ => exact us_108 aC M x
  | 109, _ => exact us_109 aC M x
  | 110, _ => exact us_110 aC M x
  | 111, _ => exact us_111 aC M x
  | 112, _ => exact us_112 aC M x
  | 113, _ => exact us_113 aC M x
  | 114, _ => exact us_114 aC M x
  | 115, _ => exact us_115 aC M x
  | 116, _ => exact us_116 aC M x
  | 117, _ => exact us_117 aC M x
  | 118, _ => exact us_118 aC M x
  | 119, _ => exact us_119 aC M x
  | 120, _ => exact us_120 aC M x
  | 121, _ => exact us_121 aC M x
  | 122, _ => exact us_122 aC M x
  | 123, _ => exact us_123 aC M x
  | 124, _ => exact us_124 aC M x
  | 125, _ => exact us_125 aC M x
  | 126, _ => exact us_126 aC M x
  | 127, _ => exact us_127 aC M x
  | 128, _ => exact us_128 aC M x
  | 129, _ => exact us_129 aC M x
  | 130, _ => exact us_130 aC M x
  | 131, _ => exact us_131 aC M x
  | 132, _ => exact us_132 aC M x
  | k + 133, hk => exact absurd hk (by omega)
theorem us_cm (aC : Nat → ClassId) (M : ZM) (x : Nat) : usM aC M x (x + 1) = cm aC x iv0 av0 M := by
  funext q
  by_cases hb : x ≤ q ∧ q < x + 133
  · obtain ⟨j, rfl⟩ : ∃ j, q = x + j := ⟨q - x, by omega⟩
    rw [cm_at (by omega)]
    exact us_all aC M x j (by omega)
  · rw [cm_out (by omega)]
    unfold usM
    rw [oM_out _ (by omega) (by omega)]
    unfold usP7
    rw [zup_ne _ _ (by omega), chM_out _ _ (by omega)]
    unfold usP5
    rw [zup_ne _ _ (by omega), stM_out _ _ (by omega)]
    unfold usP3
    rw [zup_ne _ _ (by omega), woM_out _ _ (by omega) (by omega) (by omega), zup_ne _ _ (by omega)]
    unfold usP1
    rw [zup_ne _ _ (by omega), zup_ne _ _ (by omega)]
