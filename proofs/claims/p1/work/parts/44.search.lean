/-- j objects of w cells each from base on, told by the array at ar -/
def oM (M : ZM) (ar : Nat) (ae : Nat → va_E) (base w : Nat) (cell : Nat → Nat → va_E) (j : Nat) : ZM := fun q => if q = ar then some (ae j) else if base ≤ q ∧ q < base + w * j then some (cell ((q - base) / w) ((q - base) % w)) else M q
theorem oM_ar (M : ZM) (ar : Nat) (ae : Nat → va_E) (base w : Nat) (cell : Nat → Nat → va_E) (j : Nat) : oM M ar ae base w cell j ar = some (ae j) := by simp [oM]
theorem oM_out (M : ZM) {ar : Nat} {ae : Nat → va_E} {base w : Nat} {cell : Nat → Nat → va_E} {j q : Nat} (h1 : q ≠ ar) (h : q < base ∨ base + w * j ≤ q) : oM M ar ae base w cell j q = M q := by
  simp only [oM]
  rw [if_neg h1, if_neg (by omega)]
theorem oM_0 (M : ZM) (ar : Nat) (ae : Nat → va_E) (base w : Nat) (cell : Nat → Nat → va_E) : zup M ar (ae 0) = oM M ar ae base w cell 0 := by
  funext q
  by_cases h : q = ar
  · subst h; rw [zup_self, oM_ar]
  · rw [zup_ne _ _ h, oM_out _ h (by omega)]
theorem oM_in (M : ZM) {ar : Nat} {ae : Nat → va_E} {base w : Nat} {cell : Nat → Nat → va_E} {j i t : Nat} (har : ar < base) (hw : t < w) (hi : i < j) : oM M ar ae base w cell j (base + w * i + t) = some (cell i t) := by
  simp only [oM]
  have h1 : w * i + w ≤ w * j := by rw [← Nat.mul_succ]; exact Nat.mul_le_mul_left w hi
  rw [if_neg (by omega), if_pos ⟨by omega, by omega⟩, show base + w * i + t - base = w * i + t by omega, Nat.mul_add_div (by omega), Nat.div_eq_of_lt hw, Nat.mul_add_mod, Nat.mod_eq_of_lt hw, Nat.add_zero]
theorem oM_s3 {M : ZM} {ar : Nat} {ae : Nat → va_E} {base : Nat} {cell : Nat → Nat → va_E} {j : Nat} (har : ar < base) : zup (zup (zup (zup (oM M ar ae base 3 cell j) (base + 3 * j) (cell j 0)) (base + 3 * j + 1) (cell j 1)) (base + 3 * j + 2) (cell j 2)) ar (ae (j + 1)) = oM M ar ae base 3 cell (j + 1) := by
  funext q
  by_cases h : q = ar
  · subst h; rw [zup_self, oM_ar]
  · rw [zup_ne _ _ h]
    by_cases h2 : q = base + 3 * j + 2
    · subst h2
      rw [zup_self]
      exact (oM_in M (j := j + 1) (i := j) (t := 2) har (by decide) (by omega)).symm
    · rw [zup_ne _ _ h2]
      by_cases h1 : q = base + 3 * j + 1
      · subst h1
        rw [zup_self]
        exact (oM_in M (j := j + 1) (i := j) (t := 1) har (by decide) (by omega)).symm
      · rw [zup_ne _ _ h1]
        by_cases h0 : q = base + 3 * j
        · subst h0
          rw [zup_self]
          exact (oM_in M (j := j + 1) (i := j) (t := 0) har (by decide) (by omega)).symm
        · rw [zup_ne _ _ h0]
          simp only [oM]
          rw [if_neg h, if_neg h]
          by_cases h9 : base ≤ q ∧ q < base + 3 * j
          · rw [if_pos h9, if_pos (show base ≤ q ∧ q < base + 3 * (j + 1) from ⟨h9.1, by omega⟩)]
          · rw [if_neg h9, if_neg (by omega)]
theorem oM_s6 {M : ZM} {ar : Nat} {ae : Nat → va_E} {base : Nat} {cell : Nat → Nat → va_E} {j : Nat} (har : ar < base) : zup (zup (zup (zup (zup (zup (zup (oM M ar ae base 6 cell j) (base + 6 * j) (cell j 0)) (base + 6 * j + 1) (cell j 1)) (base + 6 * j + 2) (cell j 2)) (base + 6 * j + 3) (cell j 3)) (base + 6 * j + 4) (cell j 4)) (base + 6 * j + 5) (cell j 5)) ar (ae (j + 1)) = oM M ar ae base 6 cell (j + 1) := by
  funext q
  by_cases h : q = ar
  · subst h; rw [zup_self, oM_ar]
  · rw [zup_ne _ _ h]
    by_cases h5 : q = base + 6 * j + 5
    · subst h5
      rw [zup_self]
      exact (oM_in M (j := j + 1) (i := j) (t := 5) har (by decide) (by omega)).symm
    · rw [zup_ne _ _ h5]
      by_cases h4 : q = base + 6 * j + 4
      · subst h4
        rw [zup_self]
        exact (oM_in M (j := j + 1) (i := j) (t := 4) har (by decide) (by omega)).symm
      · rw [zup_ne _ _ h4]
        by_cases h3 : q = base + 6 * j + 3
        · subst h3
          rw [zup_self]
          exact (oM_in M (j := j + 1) (i := j) (t := 3) har (by decide) (by omega)).symm
        · rw [zup_ne _ _ h3]
          by_cases h2 : q = base + 6 * j + 2
          · subst h2
            rw [zup_self]
            exact (oM_in M (j := j + 1) (i := j) (t := 2) har (by decide) (by omega)).symm
          · rw [zup_ne _ _ h2]
            by_cases h1 : q = base + 6 * j + 1
            · subst h1
              rw [zup_self]
              exact (oM_in M (j := j + 1) (i := j) (t := 1) har (by decide) (by omega)).symm
            · rw [zup_ne _ _ h1]
              by_cases h0 : q = base + 6 * j
              · subst h0
                rw [zup_self]
                exact (oM_in M (j := j + 1) (i := j) (t := 0) har (by decide) (by omega)).symm
              · rw [zup_ne _ _ h0]
                simp only [oM]
                rw [if_neg h, if_neg h]
                by_cases h9 : base ≤ q ∧ q < base + 6 * j
                · rw [if_pos h9, if_pos (show base ≤ q ∧ q < base + 6 * (j + 1) from ⟨h9.1, by omega⟩)]
                · rw [if_neg h9, if_neg (by omega)]
theorem refs_up (f : Nat → Nat) (j : Nat) : va_up (fun i => if i < j then some (f i) else none) j (some (f j)) = fun i => if i < j + 1 then some (f i) else none := by
  funext i
  by_cases h1 : i = j
  · subst h1; simp [va_up]
  · by_cases h2 : i < j
    · simp [va_up, h1, h2, Nat.lt_succ_of_lt h2]
    · simp [va_up, h1, h2, show ¬ i < j + 1 by omega]
theorem mna_cl : Cond.classLink RX4 9 "[[I" ∈ zW := by decide +kernel
theorem gM_out (aC : Nat → ClassId) (M : ZM) {sz N K q : Nat} (h : q < sz ∨ sz + (1 + N) ≤ q) : gM aC M sz N K q = M q := by
  simp only [gM]
  rw [if_neg (by omega), if_neg (by omega)]
set_option maxHeartbeats 4000000 in
set_option maxRecDepth 20000 in
theorem ctX4_init {l : Launch} {D : va_G} {aC : Nat → ClassId} {b0 a sz : Nat} {M : ZM} (ha : M a = some (.inr (4, [.null, .null, .int 0, .int 0]))) (hsz : a < sz) : Ct l D aC b0 yX4_init cX4_init 1 none 0 7 425 [.ref a] M sz (zdz none (zup (zup (gM aC M sz 5 4) a (.inr (4, [.ref sz, .ref (sz + 6), .int 0, .int 0]))) (sz + 6) (.inl (aC 0, 400, .inl (fun _ => 0)))) (sz + 7)) := by
  refine Ct.of (by decide) (Nat.le_of_ble_eq_true rfl) ?_
  intro p e s m below meth c ls C hr hlk hnm hl
  have hl : lv_has ls 1 [(0, .ref a)] := hl
  obtain ⟨hx, hb, -, -, -⟩ := id C
  refine zz (fun _ _ => lv_aload_n hx hb dX4_init_0 rfl (lv_at hl 0 rfl)) ?_
  refine z_obj C hl.1 ob_X4_3 (by decide) (Nat.le_of_ble_eq_true rfl) dX4_init_1 ?_
  refine zz (fun _ _ => lv_aload_n hx hb dX4_init_4 rfl (lv_at hl 0 rfl)) ?_
  refine zz (fun _ _ => lv_iconst (v := 5) hx hb dX4_init_5 (by decide)) ?_
  refine zz (fun _ _ => lv_iconst (v := 4) hx hb dX4_init_6 (by decide)) ?_
  refine z_mna (N := 5) (K := 4) C mna_cl (by decide) (by decide) (by decide) (by decide) (by decide) (by decide) (by decide) dX4_init_7 ?_
  refine z_put C fp_X4_11 (fun _ => hnm) ((gM_out _ _ (by omega)).trans ha) (Nat.le_of_ble_eq_true rfl) rfl rfl dX4_init_11 ?_
  refine zz (fun _ _ => lv_aload_n hx hb dX4_init_14 rfl (lv_at hl 0 rfl)) ?_
  refine zz (fun _ _ => lv_sipush (v := 400) hx hb dX4_init_15 (by decide)) ?_
  refine z_newi (N' := 400) C (by decide) (by decide) (by decide) (by decide) (by decide) dX4_init_18 ?_
  refine z_put C fp_X4_16 (fun _ => hnm) ((zup_ne _ _ (by omega)).trans (zup_self _ _ _)) (Nat.le_of_ble_eq_true rfl) rfl rfl dX4_init_20 ?_
  refine zeq (M' := zup (zup (gM aC M sz 5 4) a (.inr (4, [.ref sz, .ref (sz + 6), .int 0, .int 0]))) (sz + 6) (.inl (aC 0, 400, .inl (fun _ => 0)))) (by rw [zup_sw (b := a) (by omega), zup_zup]; rfl) ?_
  refine zz (fun _ _ => lv_aload_n hx hb dX4_init_23 rfl (lv_at hl 0 rfl)) ?_
  refine zz (fun _ _ => lv_iconst (v := 0) hx hb dX4_init_24 (by decide)) ?_
  refine z_put C fp_X4_20 (fun h => by cases h) ((zup_ne _ _ (by omega)).trans (zup_self _ _ _)) (Nat.le_of_ble_eq_true rfl) rfl rfl dX4_init_25 ?_
  refine zeq (M' := zup (zup (gM aC M sz 5 4) a (.inr (4, [.ref sz, .ref (sz + 6), .int 0, .int 0]))) (sz + 6) (.inl (aC 0, 400, .inl (fun _ => 0)))) (by rw [zup_sw (b := a) (by omega), zup_zup]; rfl) ?_
  refine zz (fun _ _ => lv_aload_n hx hb dX4_init_28 rfl (lv_at hl 0 rfl)) ?_
  refine zz (fun _ _ => lv_iconst (v := 0) hx hb dX4_init_29 (by decide)) ?_
  refine z_put C fp_X4_24 (fun h => by cases h) ((zup_ne _ _ (by omega)).trans (zup_self _ _ _)) (Nat.le_of_ble_eq_true rfl) rfl rfl dX4_init_30 ?_
  refine zeq (M' := zup (zup (gM aC M sz 5 4) a (.inr (4, [.ref sz, .ref (sz + 6), .int 0, .int 0]))) (sz + 6) (.inl (aC 0, 400, .inl (fun _ => 0)))) (by rw [zup_sw (b := a) (by omega), zup_zup]; rfl) ?_
  exact z_vret C hr hlk dX4_init_33 ⟨rfl, rfl, rfl⟩
