section
set_option maxHeartbeats 2000000 in
set_option maxRecDepth 10000 in
theorem hX0_compare {l : Launch} {D : va_G} {aC : Nat → ClassId} {b0 sz : Nat} {x : Nat} {iv av : Nat → Nat → Int32} {R : ZM} {S0 S : St} (h0 : okS S0) (hB : GS iv av 41 S0) (hS : SC iv av S) : Ct l D aC b0 yX0_compare cX0_compare 4 none 2 0 0 [.ref (x + 57), .ref (x + 41), .ref (x + 3)] (cm aC x iv av R) sz (zpN (fun iv av => cm aC x iv av R) (cpP iv av S0.1 S.1)) := by
  refine Ct.of (by decide) (Nat.le_of_ble_eq_true rfl) ?_
  intro p e s m below meth c ls C hr hlk hnm hl
  have hl : lv_has ls 4 [(0, .ref (x + 57)), (1, .ref (x + 41)), (2, .ref (x + 3))] := hl
  obtain ⟨hx, hb, -, -, -⟩ := id C
  refine zz (fun _ _ => lv_aload_n hx hb dX0_compare_0 rfl (lv_at hl 0 rfl)) ?_
  refine zz (fun _ _ => lv_iconst (v := 0) hx hb dX0_compare_1 (by decide)) ?_
  refine z_put C fp_X0_21 (fun h => by cases h) (rd_16 (by decide)) (Nat.le_of_ble_eq_true rfl) rfl rfl dX0_compare_2 ?_
  refine zeq (wr_16_3 (by decide)) ?_
  refine zz (fun _ _ => lv_iconst (v := 0) hx hb dX0_compare_5 (by decide)) ?_
  refine zs (fun _ _ => lv_istore_n (lv' := [(3, .int (0)), (0, .ref (x + 57)), (1, .ref (x + 41)), (2, .ref (x + 3))]) hx hb dX0_compare_6 rfl hl (by decide) rfl) (fun ls hl => ?_)
  have hl0 := lv_sub hl [1, 2, 3, 0] rfl
  refine z_loop (γ := (Nat → Nat → Int32) × (Nat → Nat → Int32)) (G := fun a => cm aC x a.1 a.2 R) (I := fun j a => cpI iv av S0.1 S.1 j a.1 a.2) (lv := fun j a => [(0, .ref (x + 57)), (1, .ref (x + 41)), (2, .ref (x + 3)), (3, .int (nI (j)))]) (7) ?_ ?_ ((u2 iv 57 3 (0)), av) _ _ ⟨⟨fun k f hk => u2_k _ _ _ _ hk, fun _ _ => rfl⟩, [], cmJ_0, (by show u2 iv 57 3 0 57 3 = nI 0; rw [u2_s]; rfl), fun i _ _ _ h => by simp at h⟩ hl0
  · intro j1 a1 sz ls hj1 hI1 hl ih1
    obtain ⟨iv1, av1⟩ := a1
    dsimp only at hI1 hl ih1
    refine zeq (M' := (cm aC x iv1 av1 R)) rfl ?_
    obtain ⟨hf8, L8, hL8, hc8⟩ := id hI1
    have hl8 := cpN_le h0.2.1 hS.1.2.1 hj1
    refine zz (fun _ _ => lv_iload_n hx hb dX0_compare_7 rfl (lv_at hl 3 rfl)) ?_
    refine zz (fun _ _ => lv_bipush (v := 7) hx hb dX0_compare_8 (by decide)) ?_
    refine zval (v' := .int (nI 7)) (congrArg Value.int rfl) ?_
    refine zb (fun _ _ => lv_icmp_ge (tgt := 36) hx hb dX0_compare_10 (by decide)) (fun c_2 => ?_) (fun c_2 => ?_)
    · exact absurd c_2 (nI_ge (by omega) (by omega))
    · refine zz (fun _ _ => lv_aload_n hx hb dX0_compare_13 rfl (lv_at hl 0 rfl)) ?_
      refine zz (fun _ _ => lv_iload_n hx hb dX0_compare_14 rfl (lv_at hl 3 rfl)) ?_
      refine zz (fun _ _ => lv_aload_n hx hb dX0_compare_15 rfl (lv_at hl 1 rfl)) ?_
      refine z_get (v := .ref (x + 42)) C fd_X0_25 (rd_4 (by decide)) rfl dX0_compare_16 ?_
      refine zz (fun _ _ => lv_iload_n hx hb dX0_compare_19 rfl (lv_at hl 3 rfl)) ?_
      refine z_aald C 3 rfl (rd_5 (by decide)) (by first | assumption | (apply vp_in_nI <;> omega)) (v := .ref (x + (42 + 1 + 2 * j1))) (rf_if (f := fun q => x + (42 + 1 + 2 * q)) (n := 7) rfl hj1 (by decide)) dX0_compare_20 ?_
      refine zz (fun _ _ => lv_aload_n hx hb dX0_compare_21 rfl (lv_at hl 2 rfl)) ?_
      refine z_get (v := .ref (x + 4)) C fd_X0_25 (rd_4 (by decide)) rfl dX0_compare_22 ?_
      refine zz (fun _ _ => lv_iload_n hx hb dX0_compare_25 rfl (lv_at hl 3 rfl)) ?_
      refine z_aald C 3 rfl (rd_5 (by decide)) (by first | assumption | (apply vp_in_nI <;> omega)) (v := .ref (x + (4 + 1 + 2 * j1))) (rf_if (f := fun q => x + (4 + 1 + 2 * q)) (n := 7) rfl hj1 (by decide)) dX0_compare_26 ?_
      refine zqVN (As := [.int (nI (j1)), .ref (x + (42 + 1 + 2 * j1)), .ref (x + (4 + 1 + 2 * j1))]) (rest := []) C hl.1 lk_X0_31 (hX0_compareGraphs hj1 hc8 (by have := hL8.2.1; omega) (hf8.G (by omega) (hB.1 j1 hj1)) (hf8.G (by omega) (hS.2.1 j1 hj1)) (okP_g h0.1 _) (okP_g hS.1.1 _) (Nat.le_trans (cds_le_card S0.1 hj1) h0.2.1) (SC_len hS hj1)) (rd_16 (by decide)) rfl rfl rfl (Nat.le_of_ble_eq_true rfl) ⟨by decide, by decide, by decide, by decide⟩ dX0_compare_27 (fun iv3 av3 sz h3 => ?_)
      refine zeq (M' := (cm aC x iv3 av3 R)) rfl ?_
      refine zs (fun _ _ => lv_iinc (v := nI (j1) + 1) (lv' := [(3, .int (nI (j1) + 1)), (0, .ref (x + 57)), (1, .ref (x + 41)), (2, .ref (x + 3))]) hx hb dX0_compare_30 hl (k := 3) rfl rfl (by decide) rfl) (fun ls hl => ?_)
      refine zz (fun _ _ => lv_goto (tgt := 7) hx hb dX0_compare_33 (by decide)) ?_
      have hl := lv_sub hl [1, 2, 3, 0] rfl
      try simp only [nI_1] at hl
      exact ih1 (iv3, av3) _ _ (by obtain ⟨hf9, M9, hm9, hc9⟩ := h3; exact ⟨hf8.trans hf9, _, cmJ_next h0.1 hS.1.1 hL8 hm9, hc9⟩) hl
  · intro a1 sz ls hI1 hl
    obtain ⟨iv1, av1⟩ := a1
    dsimp only at hI1 hl
    refine zeq (M' := (cm aC x iv1 av1 R)) rfl ?_
    refine zz (fun _ _ => lv_iload_n hx hb dX0_compare_7 rfl (lv_at hl 3 rfl)) ?_
    refine zz (fun _ _ => lv_bipush (v := 7) hx hb dX0_compare_8 (by decide)) ?_
    refine zval (v' := .int (nI 7)) (congrArg Value.int rfl) ?_
    refine zb (fun _ _ => lv_icmp_ge (tgt := 36) hx hb dX0_compare_10 (by decide)) (fun c_4 => ?_) (fun c_4 => ?_)
    · exact z_vret C hr hlk dX0_compare_36 (zpN_mk (a := iv1) (b := av1) (cp_end h0 hS.1 hI1))
    · exact absurd (nI_le (Nat.le_refl _) (by omega)) c_4
set_option maxHeartbeats 2000000 in
set_option maxRecDepth 10000 in
theorem hX8_isPassedOver {l : Launch} {D : va_G} {aC : Nat → ClassId} {b0 sz : Nat} {x : Nat} {iv av : Nat → Nat → Int32} {R : ZM} {i a9 : Nat} {s9 : Bool} (hi : i < 12) (ha9 : a9 ≤ 5) (hsl : iv (61 + 6 * i) 6 = tI s9) : Ct l D aC b0 yX8_isPassedOver cX8_isPassedOver 2 (some .boolean) 0 0 0 [.ref (x + (61 + 6 * i)), .int (nI a9)] (cm aC x iv av R) sz (zpI (fun iv av => cm aC x iv av R) (saP iv av (tI (s9 && decide (a9 ≤ 3))))) := by
  refine Ct.of (by decide) (Nat.le_of_ble_eq_true rfl) ?_
  intro p e s m below meth c ls C hr hlk hnm hl
  have hl : lv_has ls 2 [(0, .ref (x + (61 + 6 * i))), (1, .int (nI a9))] := hl
  obtain ⟨hx, hb, -, -, -⟩ := id C
  refine zz (fun _ _ => lv_aload_n hx hb dX8_isPassedOver_0 rfl (lv_at hl 0 rfl)) ?_
  refine z_get (v := .int (iv (61 + 6 * i) 6)) C fd_X8_82 (rd_18 (ck_s hi)) rfl dX8_isPassedOver_1 ?_
  refine zval (v' := .int (tI s9)) (congrArg Value.int hsl) ?_
  refine zb (fun _ _ => lv_if_eq (tgt := 16) hx hb dX8_isPassedOver_4 (by decide)) (fun c_1 => ?_) (fun c_1 => ?_)
  · refine zz (fun _ _ => lv_iconst (v := 0) hx hb dX8_isPassedOver_16 (by decide)) ?_
    exact z_zret C hr rfl hlk dX8_isPassedOver_17 (zpI_mk (a := iv) (b := av) ⟨by rw [tI_0.mp c_1]; rfl, rfl, rfl⟩)
  · refine zz (fun _ _ => lv_iload_n hx hb dX8_isPassedOver_7 rfl (lv_at hl 1 rfl)) ?_
    refine zz (fun _ _ => lv_iconst (v := 3) hx hb dX8_isPassedOver_8 (by decide)) ?_
    refine zval (v' := .int (nI 3)) (congrArg Value.int rfl) ?_
    refine zb (fun _ _ => lv_icmp_gt (tgt := 16) hx hb dX8_isPassedOver_9 (by decide)) (fun c_2 => ?_) (fun c_2 => ?_)
    · refine zz (fun _ _ => lv_iconst (v := 0) hx hb dX8_isPassedOver_16 (by decide)) ?_
      exact z_zret C hr rfl hlk dX8_isPassedOver_17 (zpI_mk (a := iv) (b := av) ⟨by rw [tI_1.mp c_1]; simp [tI, show ¬ a9 ≤ 3 from Nat.not_le.mpr ((nI_ltI (by decide) (by omega)).mp c_2)], rfl, rfl⟩)
    · refine zz (fun _ _ => lv_iconst (v := 1) hx hb dX8_isPassedOver_12 (by decide)) ?_
      refine zz (fun _ _ => lv_goto (tgt := 17) hx hb dX8_isPassedOver_13 (by decide)) ?_
      exact z_zret C hr rfl hlk dX8_isPassedOver_17 (zpI_mk (a := iv) (b := av) ⟨by rw [tI_1.mp c_1]; simp [tI, show a9 ≤ 3 from Nat.le_of_not_lt (fun q => c_2 (nI_lt q (by omega)))], rfl, rfl⟩)
theorem GS_o {iv av : Nat → Nat → Int32} {S : St} {a b : Int32} (h : GS iv av 41 S) : GS (u2 (u2 iv 0 6 a) 0 7 b) av 41 S := ⟨fun g hg => (h.1 g hg).kept (by rw [u2_k _ _ _ _ (by omega), u2_k _ _ _ _ (by omega)]) (by rw [u2_k _ _ _ _ (by omega), u2_k _ _ _ _ (by omega)]) rfl, by rw [u2_k _ _ _ _ (by decide), u2_k _ _ _ _ (by decide)]; exact h.2⟩
theorem SC_o {iv av : Nat → Nat → Int32} {S : St} {a b : Int32} (h : SC iv av S) : SC (u2 (u2 iv 0 6 a) 0 7 b) av S := ⟨h.1, fun g hg => (h.2.1 g hg).kept (by rw [u2_k _ _ _ _ (by omega), u2_k _ _ _ _ (by omega)]) (by rw [u2_k _ _ _ _ (by omega), u2_k _ _ _ _ (by omega)]) rfl, by rw [u2_k _ _ _ _ (by decide), u2_k _ _ _ _ (by decide)]; exact h.2.2⟩
set_option maxHeartbeats 2000000 in
set_option maxRecDepth 10000 in
theorem hX8_run {l : Launch} {D : va_G} {aC : Nat → ClassId} {b0 sz : Nat} {x : Nat} {iv av : Nat → Nat → Int32} {R : ZM} {Q : List Sq} {S : St} {TN : Nat → Bool} {FL : Nat → List Nat} (hQ : QC iv av Q) (hFl : FLc iv av TN FL) (hS : SC iv av S) : Ct l D aC b0 yX8_run cX8_run 3 (some .int) 13 0 0 [.ref (x + 0)] (cm aC x iv av R) sz (zpI (fun iv av => cm aC x iv av R) (fun w' iv' av' => rcP TN FL iv av S Q w' iv' av')) := by
  refine Ct.of (by decide) (Nat.le_of_ble_eq_true rfl) ?_
  intro p e s m below meth c ls C hr hlk hnm hl
  have hl : lv_has ls 3 [(0, .ref (x + 0))] := hl
  obtain ⟨hx, hb, -, -, -⟩ := id C
  have hQl := hQ.2.1
  refine zz (fun _ _ => lv_aload_n hx hb dX8_run_0 rfl (lv_at hl 0 rfl)) ?_
  refine z_get (v := .ref (x + 41)) C fd_X8_30 (rd_1 (by decide)) rfl dX8_run_1 ?_
  refine zz (fun _ _ => lv_aload_n hx hb dX8_run_4 rfl (lv_at hl 0 rfl)) ?_
  refine z_get (v := .ref (x + 3)) C fd_X8_26 (rd_1 (by decide)) rfl dX8_run_5 ?_
  refine zqVN (As := [.ref (x + 3)]) (rest := []) C hl.1 lk_X8_151 (hX6_become (by decide) (by decide) (by decide) (fun g hg => SC_len hS hg) (SC_GS hS)) (rd_4 (by decide)) rfl rfl rfl (Nat.le_of_ble_eq_true rfl) ⟨by decide, by decide, by decide, by decide⟩ dX8_run_8 (fun iv1 av1 sz h1 => ?_)
  refine zeq (M' := (cm aC x iv1 av1 R)) rfl ?_
  refine zz (fun _ _ => lv_aload_n hx hb dX8_run_11 rfl (lv_at hl 0 rfl)) ?_
  refine z_get (v := .ref (x + 2)) C fd_X8_18 (rd_1 (by decide)) rfl dX8_run_12 ?_
  refine zz (fun _ _ => lv_iconst (v := 0) hx hb dX8_run_15 (by decide)) ?_
  refine z_put C fp_X8_155 (fun h => by cases h) (rd_3 (by decide)) (Nat.le_of_ble_eq_true rfl) rfl rfl dX8_run_16 ?_
  refine zeq (wr_3_4 (by decide)) ?_
  refine zz (fun _ _ => lv_iconst (v := 0) hx hb dX8_run_19 (by decide)) ?_
  refine zs (fun _ _ => lv_istore_n (lv' := [(1, .int (0)), (0, .ref (x + 0))]) hx hb dX8_run_20 rfl hl (by decide) rfl) (fun ls hl => ?_)
  have hl0 := lv_sub hl [1, 0] rfl
  refine z_loop (γ := (Nat → Nat → Int32) × (Nat → Nat → Int32)) (G := fun a => cm aC x a.1 a.2 R) (I := fun j a => rk0 iv av S a.1 a.2) (lv := fun j a => [(0, .ref (x + 0)), (1, .int (nI (j)))]) (Q.length) ?_ ?_ ((u2 iv1 2 4 (0)), av1) _ _ (rk0_0 hS h1) hl0
  · intro j2 a2 sz ls hj2 hI2 hl ih2
    obtain ⟨iv2, av2⟩ := a2
    dsimp only at hI2 hl ih2
    refine zeq (M' := (cm aC x iv2 av2 R)) rfl ?_
    refine zz (fun _ _ => lv_iload_n hx hb dX8_run_21 rfl (lv_at hl 1 rfl)) ?_
    refine zz (fun _ _ => lv_aload_n hx hb dX8_run_22 rfl (lv_at hl 0 rfl)) ?_
    refine z_get (v := .int (iv2 0 5)) C fd_X8_40 (rd_1 (by decide)) rfl dX8_run_23 ?_
    refine zval (v' := .int (nI Q.length)) (congrArg Value.int (hI2.1.1.trans hQ.1)) ?_
    refine zb (fun _ _ => lv_icmp_ge (tgt := 45) hx hb dX8_run_26 (by decide)) (fun c_3 => ?_) (fun c_3 => ?_)
    · exact absurd c_3 (nI_ge (by omega) (by omega))
    · refine zz (fun _ _ => lv_aload_n hx hb dX8_run_29 rfl (lv_at hl 0 rfl)) ?_
      refine z_get (v := .ref (x + 1)) C fd_X8_11 (rd_1 (by decide)) rfl dX8_run_30 ?_
      refine zz (fun _ _ => lv_iload_n hx hb dX8_run_33 rfl (lv_at hl 1 rfl)) ?_
      refine z_aald C 4 rfl (rd_2 (by decide)) (by first | assumption | (apply vp_in_nI <;> omega)) (v := .ref (x + (61 + 6 * j2))) (rf_if (f := fun q => x + (61 + 6 * q)) (n := 12) rfl (show j2 < 12 by omega) (by decide)) dX8_run_34 ?_
      refine zz (fun _ _ => lv_iconst (v := (-1)) hx hb dX8_run_35 (by decide)) ?_
      refine z_put C fp_X8_158 (fun h => by cases h) (rd_18 (kp_2 (show j2 < 12 by omega))) (Nat.le_of_ble_eq_true rfl) rfl rfl dX8_run_36 ?_
      refine zeq (wr_18_7 (kp_2 (show j2 < 12 by omega))) ?_
      refine zs (fun _ _ => lv_iinc (v := nI (j2) + 1) (lv' := [(1, .int (nI (j2) + 1)), (0, .ref (x + 0))]) hx hb dX8_run_39 hl (k := 1) rfl rfl (by decide) rfl) (fun ls hl => ?_)
      refine zz (fun _ _ => lv_goto (tgt := 21) hx hb dX8_run_42 (by decide)) ?_
      have hl := lv_sub hl [1, 0] rfl
      try simp only [nI_1] at hl
      exact ih2 ((u2 iv2 (61 + 6 * j2) 7 ((-1))), av2) _ _ (rk0_7 hI2) hl
  · intro a2 sz ls hI2 hl
    obtain ⟨iv2, av2⟩ := a2
    dsimp only at hI2 hl
    refine zeq (M' := (cm aC x iv2 av2 R)) rfl ?_
    refine zz (fun _ _ => lv_iload_n hx hb dX8_run_21 rfl (lv_at hl 1 rfl)) ?_
    refine zz (fun _ _ => lv_aload_n hx hb dX8_run_22 rfl (lv_at hl 0 rfl)) ?_
    refine z_get (v := .int (iv2 0 5)) C fd_X8_40 (rd_1 (by decide)) rfl dX8_run_23 ?_
    refine zval (v' := .int (nI Q.length)) (congrArg Value.int (hI2.1.1.trans hQ.1)) ?_
    refine zb (fun _ _ => lv_icmp_ge (tgt := 45) hx hb dX8_run_26 (by decide)) (fun c_4 => ?_) (fun c_4 => ?_)
    · refine zz (fun _ _ => lv_iconst (v := 0) hx hb dX8_run_45 (by decide)) ?_
      refine zs (fun _ _ => lv_istore_n (lv' := [(1, .int (0)), (0, .ref (x + 0))]) hx hb dX8_run_46 rfl hl (by decide) rfl) (fun ls hl => ?_)
      have hl0 := lv_sub hl [1, 0] rfl
      refine z_loop (γ := (Nat → Nat → Int32) × (Nat → Nat → Int32)) (G := fun a => cm aC x a.1 a.2 R) (I := fun j a => rk1 TN FL iv av S Q j a.1 a.2) (lv := fun j a => [(0, .ref (x + 0)), (1, .int (nI (j)))]) (Q.length) ?_ ?_ (iv2, av2) _ _ (rk1_0 hI2) hl0
      · intro j5 a5 sz ls hj5 hI5 hl ih5
        obtain ⟨iv5, av5⟩ := a5
        dsimp only at hI5 hl ih5
        refine zeq (M' := (cm aC x iv5 av5 R)) rfl ?_
        obtain ⟨hF8, hB8, S8, w8, e8, hS8, hw8⟩ := id hI5
        obtain ⟨q5, eq5⟩ : ∃ t, Q[j5]? = some t := ⟨_, List.getElem?_eq_getElem hj5⟩
        have hE5 := (hQ.2.2 j5 q5 eq5).1.keptR hF8
        have hq5 := (hQ.2.2 j5 q5 eq5).2
        refine zz (fun _ _ => lv_iload_n hx hb dX8_run_47 rfl (lv_at hl 1 rfl)) ?_
        refine zz (fun _ _ => lv_aload_n hx hb dX8_run_48 rfl (lv_at hl 0 rfl)) ?_
        refine z_get (v := .int (iv5 0 5)) C fd_X8_40 (rd_1 (by decide)) rfl dX8_run_49 ?_
        refine zval (v' := .int (nI Q.length)) (congrArg Value.int (hI5.1.1.trans hQ.1)) ?_
        refine zb (fun _ _ => lv_icmp_ge (tgt := 117) hx hb dX8_run_52 (by decide)) (fun c_6 => ?_) (fun c_6 => ?_)
        · exact absurd c_6 (nI_ge (by omega) (by omega))
        · refine zz (fun _ _ => lv_aload_n hx hb dX8_run_55 rfl (lv_at hl 0 rfl)) ?_
          refine z_get (v := .ref (x + 2)) C fd_X8_18 (rd_1 (by decide)) rfl dX8_run_56 ?_
          refine zz (fun _ _ => lv_aload_n hx hb dX8_run_59 rfl (lv_at hl 0 rfl)) ?_
          refine z_get (v := .ref (x + 1)) C fd_X8_11 (rd_1 (by decide)) rfl dX8_run_60 ?_
          refine zz (fun _ _ => lv_iload_n hx hb dX8_run_63 rfl (lv_at hl 1 rfl)) ?_
          refine z_aald C 4 rfl (rd_2 (by decide)) (by first | assumption | (apply vp_in_nI <;> omega)) (v := .ref (x + (61 + 6 * j5))) (rf_if (f := fun q => x + (61 + 6 * q)) (n := 12) rfl (show j5 < 12 by omega) (by decide)) dX8_run_64 ?_
          refine zqVI (As := [.ref (x + (61 + 6 * j5))]) (rest := []) C hl.1 lk_X8_161 (hX7_perform (by omega) hE5 hq5 (hFl.keptR hF8) hS8) (rd_3 (by decide)) rfl rfl rfl (Nat.le_of_ble_eq_true rfl) ⟨by decide, by decide, by decide, by decide⟩ dX8_run_65 (fun w7 iv7 av7 sz h7 => ?_)
          refine zeq (M' := (cm aC x iv7 av7 R)) rfl ?_
          have hle8 := aAct_le (TN := TN) (FL := FL) (q := q5) (S := S8)
          refine zval (v' := .int (nI (aAct TN FL q5 S8).1)) (congrArg Value.int h7.1) ?_
          refine zs (fun _ _ => lv_istore_n (lv' := [(2, .int (nI (aAct TN FL q5 S8).1)), (0, .ref (x + 0)), (1, .int (nI (j5)))]) hx hb dX8_run_68 rfl hl (by decide) rfl) (fun ls hl => ?_)
          refine zz (fun _ _ => lv_iload_n hx hb dX8_run_69 rfl (lv_at hl 0 rfl)) ?_
          refine zb (fun _ _ => lv_if_eq (tgt := 111) hx hb dX8_run_70 (by decide)) (fun c_8 => ?_) (fun c_8 => ?_)
          · refine zs (fun _ _ => lv_iinc (v := nI (j5) + 1) (lv' := [(1, .int (nI (j5) + 1)), (2, .int (nI (aAct TN FL q5 S8).1)), (0, .ref (x + 0))]) hx hb dX8_run_111 hl (k := 2) rfl rfl (by decide) rfl) (fun ls hl => ?_)
            refine zz (fun _ _ => lv_goto (tgt := 47) hx hb dX8_run_114 (by decide)) ?_
            have hl := lv_sub hl [2, 0] rfl
            try simp only [nI_1] at hl
            exact ih5 (iv7, av7) _ _ (rk1_next eq5 hF8 hB8 e8 hw8 h7 (Or.inl (nI_z (by omega) c_8))) hl
          · refine zz (fun _ _ => lv_aload_n hx hb dX8_run_73 rfl (lv_at hl 1 rfl)) ?_
            refine z_get (v := .ref (x + 1)) C fd_X8_11 (rd_1 (by decide)) rfl dX8_run_74 ?_
            refine zz (fun _ _ => lv_iload_n hx hb dX8_run_77 rfl (lv_at hl 2 rfl)) ?_
            refine z_aald C 4 rfl (rd_2 (by decide)) (by first | assumption | (apply vp_in_nI <;> omega)) (v := .ref (x + (61 + 6 * j5))) (rf_if (f := fun q => x + (61 + 6 * q)) (n := 12) rfl (show j5 < 12 by omega) (by decide)) dX8_run_78 ?_
            refine zz (fun _ _ => lv_iload_n hx hb dX8_run_79 rfl (lv_at hl 0 rfl)) ?_
            refine zdS (As := [.ref (x + (61 + 6 * j5)), .int (nI (aAct TN FL q5 S8).1)]) (rest := []) (st' := [.int (tI (q5.2.2.2.1 && decide ((aAct TN FL q5 S8).1 ≤ 3)))]) C hl.1 lk_X8_165 (Ct.ofS (hX8_isPassedOver (a9 := (aAct TN FL q5 S8).1) (s9 := q5.2.2.2.1) (by omega) hle8 ((h7.2.1.1 _ 6 (by omega) (by omega)).trans hE5.2.2.2.1))) rfl rfl (Nat.le_of_ble_eq_true rfl) ⟨by decide, by decide, by decide, by decide⟩ dX8_run_80 rfl (fun sz => ?_)
            refine zbn (fun _ _ => lv_if_ne (tgt := 111) hx hb dX8_run_83 (by decide)) (fun c_9 => ?_) (fun c_9 => ?_)
            · refine zs (fun _ _ => lv_iinc (v := nI (j5) + 1) (lv' := [(1, .int (nI (j5) + 1)), (2, .int (nI (aAct TN FL q5 S8).1)), (0, .ref (x + 0))]) hx hb dX8_run_111 hl (k := 2) rfl rfl (by decide) rfl) (fun ls hl => ?_)
              refine zz (fun _ _ => lv_goto (tgt := 47) hx hb dX8_run_114 (by decide)) ?_
              have hl := lv_sub hl [2, 0] rfl
              try simp only [nI_1] at hl
              exact ih5 (iv7, av7) _ _ (rk1_next eq5 hF8 hB8 e8 hw8 h7 (Or.inr (pov_y (tI_1.mp c_9)))) hl
            · refine zz (fun _ _ => lv_aload_n hx hb dX8_run_86 rfl (lv_at hl 1 rfl)) ?_
              refine z_get (v := .ref (x + 3)) C fd_X8_26 (rd_1 (by decide)) rfl dX8_run_87 ?_
              refine zz (fun _ _ => lv_aload_n hx hb dX8_run_90 rfl (lv_at hl 1 rfl)) ?_
              refine z_get (v := .ref (x + 41)) C fd_X8_30 (rd_1 (by decide)) rfl dX8_run_91 ?_
              refine zqVN (As := [.ref (x + 41)]) (rest := []) C hl.1 lk_X8_151 (hX6_become (by decide) (by decide) (by decide) (fun g hg => SC_len hS hg) (GS_K hB8 h7.2.1)) (rd_4 (by decide)) rfl rfl rfl (Nat.le_of_ble_eq_true rfl) ⟨by decide, by decide, by decide, by decide⟩ dX8_run_94 (fun iv10 av10 sz h10 => ?_)
              refine zeq (M' := (cm aC x iv10 av10 R)) rfl ?_
              refine zz (fun _ _ => lv_aload_n hx hb dX8_run_97 rfl (lv_at hl 1 rfl)) ?_
              refine zz (fun _ _ => lv_iload_n hx hb dX8_run_98 rfl (lv_at hl 2 rfl)) ?_
              refine z_put C fp_X8_44 (fun h => by cases h) (rd_1 (by decide)) (Nat.le_of_ble_eq_true rfl) rfl rfl dX8_run_99 ?_
              refine zeq (wr_1_6 (by decide)) ?_
              refine zz (fun _ _ => lv_aload_n hx hb dX8_run_102 rfl (lv_at hl 1 rfl)) ?_
              refine zz (fun _ _ => lv_iconst (v := 0) hx hb dX8_run_103 (by decide)) ?_
              refine z_put C fp_X8_47 (fun h => by cases h) (rd_1 (by decide)) (Nat.le_of_ble_eq_true rfl) rfl rfl dX8_run_104 ?_
              refine zeq (wr_1_7 (by decide)) ?_
              refine zz (fun _ _ => lv_iconst (v := (-1)) hx hb dX8_run_107 (by decide)) ?_
              refine zz (fun _ _ => lv_iload_n hx hb dX8_run_108 rfl (lv_at hl 0 rfl)) ?_
              refine zz (fun _ _ => lv_isub hx hb dX8_run_109) ?_
              exact z_iret C hr hlk dX8_run_110 (zpI_mk (a := (u2 (u2 iv10 0 6 (nI (j5))) 0 7 (0))) (b := av10) (by rw [← h7.1]; exact rk_fail hS.1 eq5 hF8 e8 h7 (pov_z (by rw [tI_0.mp c_9]; decide) (fun q => c_8 (by rw [q]; rfl))) h10))
      · intro a5 sz ls hI5 hl
        obtain ⟨iv5, av5⟩ := a5
        dsimp only at hI5 hl
        refine zeq (M' := (cm aC x iv5 av5 R)) rfl ?_
        obtain ⟨hF8, hB8, S8, w8, e8, hS8, hw8⟩ := id hI5
        refine zz (fun _ _ => lv_iload_n hx hb dX8_run_47 rfl (lv_at hl 1 rfl)) ?_
        refine zz (fun _ _ => lv_aload_n hx hb dX8_run_48 rfl (lv_at hl 0 rfl)) ?_
        refine z_get (v := .int (iv5 0 5)) C fd_X8_40 (rd_1 (by decide)) rfl dX8_run_49 ?_
        refine zval (v' := .int (nI Q.length)) (congrArg Value.int (hI5.1.1.trans hQ.1)) ?_
        refine zb (fun _ _ => lv_icmp_ge (tgt := 117) hx hb dX8_run_52 (by decide)) (fun c_11 => ?_) (fun c_11 => ?_)
        · refine zz (fun _ _ => lv_aload_n hx hb dX8_run_117 rfl (lv_at hl 0 rfl)) ?_
          refine zz (fun _ _ => lv_iconst (v := (-1)) hx hb dX8_run_118 (by decide)) ?_
          refine z_put C fp_X8_44 (fun h => by cases h) (rd_1 (by decide)) (Nat.le_of_ble_eq_true rfl) rfl rfl dX8_run_119 ?_
          refine zeq (wr_1_6 (by decide)) ?_
          refine zz (fun _ _ => lv_aload_n hx hb dX8_run_122 rfl (lv_at hl 0 rfl)) ?_
          refine zz (fun _ _ => lv_aload_n hx hb dX8_run_123 rfl (lv_at hl 0 rfl)) ?_
          refine z_get (v := .ref (x + 2)) C fd_X8_18 (rd_1 (by decide)) rfl dX8_run_124 ?_
          refine z_get (v := .int (iv5 2 4)) C fd_X8_155 (rd_3 (by decide)) (by simp [u2]) dX8_run_127 ?_
          refine z_put C fp_X8_47 (fun h => by cases h) (rd_1 (by decide)) (Nat.le_of_ble_eq_true rfl) rfl rfl dX8_run_130 ?_
          refine zeq (wr_1_7 (by decide)) ?_
          refine zz (fun _ _ => lv_aload_n hx hb dX8_run_133 rfl (lv_at hl 0 rfl)) ?_
          refine z_get (v := .ref (x + 57)) C fd_X8_36 (rd_1 (by decide)) rfl dX8_run_134 ?_
          refine zz (fun _ _ => lv_aload_n hx hb dX8_run_137 rfl (lv_at hl 0 rfl)) ?_
          refine z_get (v := .ref (x + 41)) C fd_X8_30 (rd_1 (by decide)) rfl dX8_run_138 ?_
          refine zz (fun _ _ => lv_aload_n hx hb dX8_run_141 rfl (lv_at hl 0 rfl)) ?_
          refine z_get (v := .ref (x + 3)) C fd_X8_26 (rd_1 (by decide)) rfl dX8_run_142 ?_
          refine zqVN (As := [.ref (x + 41), .ref (x + 3)]) (rest := []) C hl.1 lk_X8_169 (hX0_compare hS.1 (S := S8) (GS_o hB8) (SC_o hS8)) (rd_16 (by decide)) rfl rfl rfl (Nat.le_of_ble_eq_true rfl) ⟨by decide, by decide, by decide, by decide⟩ dX8_run_145 (fun iv12 av12 sz h12 => ?_)
          refine zeq (M' := (cm aC x iv12 av12 R)) rfl ?_
          refine zz (fun _ _ => lv_aload_n hx hb dX8_run_148 rfl (lv_at hl 0 rfl)) ?_
          refine z_get (v := .ref (x + 57)) C fd_X8_36 (rd_1 (by decide)) rfl dX8_run_149 ?_
          refine z_get (v := .int (iv12 57 3)) C fd_X8_173 (rd_16 (by decide)) rfl dX8_run_152 ?_
          exact z_iret C hr hlk dX8_run_155 (zpI_mk (a := iv12) (b := av12) (rk_end hF8 e8 hS8 hw8 h12))
        · exact absurd (nI_le (Nat.le_refl _) (by omega)) c_11
    · exact absurd (nI_le (Nat.le_refl _) (by omega)) c_4
end
section
/-! Both objects, and what the calls do to both. -/
def MST (iv : Nat → Nat → Int32) : Prop := ∀ j, j < 12 → (∃ c, c ≤ 6 ∧ iv (61 + 6 * j + 1) 2 = nI c ∧ iv (61 + 6 * j + 1) 1 = nI 6) ∧ (∃ c, c ≤ 4 ∧ iv (61 + 6 * j + 4) 2 = nI c ∧ iv (61 + 6 * j + 4) 1 = nI 4) ∧ (iv (61 + 6 * j) 6 = 0 ∨ iv (61 + 6 * j) 6 = 1)
def MSR (A : Nat → Nat → Int32) : Prop := ∀ j, j < 12 → (∃ t, t ≤ 6 ∧ A 5 j = nI t) ∧ (∃ t, t ≤ 4 ∧ A 10 j = nI t) ∧ (A 4 j = 0 ∨ A 4 j = 1)
/-- sequence, torn files, files, store, changes, the step at which the latest run ended, its work -/
abbrev Om := List Sq × (Nat → Bool) × (Nat → List Nat) × St × List Cg × Int32 × Int32
def RelC (iv av : Nat → Nat → Int32) (W : Om) : Prop := QC iv av W.1 ∧ FLc iv av W.2.1 W.2.2.1 ∧ SC iv av W.2.2.2.1 ∧ CHc iv av W.2.2.2.2.1 ∧ W.2.2.2.2.1.length ≤ 240 ∧ okC W.2.2.2.2.1 ∧ iv 0 6 = W.2.2.2.2.2.1 ∧ iv 0 7 = W.2.2.2.2.2.2 ∧ MST iv
def RelR (v : Nat → Int32) (A : Nat → Nat → Int32) (W : Om) : Prop := QR v A W.1 ∧ FLr A W.2.1 W.2.2.1 ∧ RC v A W.2.2.2.1 ∧ v 34 = nI W.2.2.2.2.1.length ∧ chR A W.2.2.2.2.1 ∧ v 42 = W.2.2.2.2.2.1 ∧ v 41 = W.2.2.2.2.2.2 ∧ MSR A
theorem RelR.kept {v v' : Nat → Int32} {A A' : Nat → Nat → Int32} {W : Om} (h : RelR v A W) (hv : ∀ k, k = 1 ∨ k = 20 ∨ k = 26 ∨ k = 34 ∨ k = 41 ∨ k = 42 → v' k = v k) (hA : ∀ q, q < 24 ∨ (29 ≤ q ∧ q ≤ 33) → A' q = A q) : RelR v' A' W := by
  obtain ⟨h1, h2, h3, h4, h5, h6, h7, h8⟩ := h
  refine ⟨⟨by rw [hv 1 (by omega)]; exact h1.1, h1.2.1, fun i q hq => ⟨(h1.2.2 i q hq).1.kept (fun k hk => hA k (by omega)), (h1.2.2 i q hq).2⟩⟩, h2.kept (fun k hk => hA k (by omega)), RC_v h3 (hv 20 (by omega)) (hv 26 (by omega)) (fun q _ h => hA q (by omega)), by rw [hv 34 (by omega)]; exact h4, ?_, by rw [hv 42 (by omega)]; exact h6, by rw [hv 41 (by omega)]; exact h7, ?_⟩
  · unfold chR at h5 ⊢
    rw [hA 29 (by omega), hA 30 (by omega), hA 31 (by omega), hA 32 (by omega), hA 33 (by omega)]
    exact h5
  · unfold MSR at h8 ⊢
    rw [hA 4 (by omega), hA 5 (by omega), hA 10 (by omega)]
    exact h8
theorem RelR.fault {v : Nat → Int32} {A : Nat → Nat → Int32} {W : Om} (h : RelR v A W) (z : Int32) : RelR (upd v 0 z) A W := h.kept (fun k hk => by simp [upd, show k ≠ 0 by omega]) (fun _ _ => rfl)
/-! What a step may be. -/
def vS (a b c : Int) : Prop := (0 ≤ a ∧ a ≤ 9) ∧ ((a = 2 ∨ 6 ≤ a) → 0 ≤ b ∧ b ≤ (if a = 9 then 3 else 6)) ∧ ((a = 3 ∨ a = 5) → -2 ≤ c ∧ c ≤ 6) ∧ (¬ (a = 3 ∨ a = 5) → (if a = 4 then 1 else 0) ≤ c ∧ c ≤ 6)
theorem eqI {a : Int32} {k : Int32} : a = k ↔ a.toInt = k.toInt := Int32.toInt_inj.symm
theorem from8 {a b : Int32} (ha : 0 ≤ a.toInt) : fX8_fromMayBe a b = 0 ↔ ¬ ((a.toInt = 2 ∨ 6 ≤ a.toInt) → 0 ≤ b.toInt ∧ b.toInt ≤ (if a.toInt = 9 then 3 else 6)) := by
  have e9 : (9 : Int32).toInt = 9 := rfl
  have e0 : (0 : Int32).toInt = 0 := rfl
  have e4 : (4 : Int32).toInt = 4 := rfl
  have e2 : (2 : Int32).toInt = 2 := rfl
  have e6 : (6 : Int32).toInt = 6 := rfl
  unfold fX8_fromMayBe
  by_cases h9 : a = 9
  · rw [if_pos h9]
    rw [eqI, e9] at h9
    rw [if_pos h9]
    split
    · rename_i h; rw [Int32.lt_iff_toInt_lt, e0] at h; exact ⟨fun _ q => by have := q (Or.inr (by omega)); omega, fun _ => rfl⟩
    · rename_i h; rw [Int32.lt_iff_toInt_lt, e0] at h
      split
      · rename_i h2; rw [Int32.le_iff_toInt_le, e4] at h2; exact ⟨fun _ q => by have := q (Or.inr (by omega)); omega, fun _ => rfl⟩
      · rename_i h2; rw [Int32.le_iff_toInt_le, e4] at h2; exact ⟨fun q => absurd q (by decide), fun q => absurd (fun _ => ⟨by omega, by omega⟩) q⟩
  · rw [if_neg h9]
    rw [eqI, e9] at h9
    rw [if_neg h9]
    have hc : fX8_fromCounts a = 0 ↔ ¬ (a.toInt = 2 ∨ 6 ≤ a.toInt) := by
      unfold fX8_fromCounts
      split
      · rename_i h; rw [eqI, e2] at h; exact ⟨fun q => absurd q (by decide), fun q => absurd (Or.inl h) q⟩
      · rename_i h; rw [eqI, e2] at h
        split
        · rename_i h2; rw [Int32.lt_iff_toInt_lt, e6] at h2; exact ⟨fun _ q => by omega, fun _ => rfl⟩
        · rename_i h2; rw [Int32.lt_iff_toInt_lt, e6] at h2; exact ⟨fun q => absurd q (by decide), fun q => absurd (Or.inr (by omega)) q⟩
    split
    · rename_i h; rw [hc] at h; exact ⟨fun q => absurd q (by decide), fun q => absurd (fun r => absurd r h) q⟩
    · rename_i h
      have h : a.toInt = 2 ∨ 6 ≤ a.toInt := Classical.not_not.mp (fun q => h (hc.mpr q))
      split
      · rename_i h2; rw [isGr_s] at h2; exact ⟨fun _ q => h2 (q h), fun _ => rfl⟩
      · rename_i h2; rw [isGr_s] at h2; exact ⟨fun q => absurd q (by decide), fun q => absurd (fun _ => Classical.not_not.mp h2) q⟩
theorem to8 {a c : Int32} : fX8_toMayBe a c = 0 ↔ ¬ (((a.toInt = 3 ∨ a.toInt = 5) → -2 ≤ c.toInt ∧ c.toInt ≤ 6) ∧ (¬ (a.toInt = 3 ∨ a.toInt = 5) → (if a.toInt = 4 then 1 else 0) ≤ c.toInt ∧ c.toInt ≤ 6)) := by
  have e1 : (-1 : Int32).toInt = -1 := by decide
  have e2 : (-2 : Int32).toInt = -2 := by decide
  have e3 : (3 : Int32).toInt = 3 := rfl
  have e4 : (4 : Int32).toInt = 4 := rfl
  have e5 : (5 : Int32).toInt = 5 := rfl
  have e0 : (0 : Int32).toInt = 0 := rfl
  have key : ∀ z : Int, (z = -1 ∨ z = -2) → c.toInt = z → (((if a = 3 then (1 : Int32) else if a = 5 then 1 else 0) = 0) ↔ ¬ (((a.toInt = 3 ∨ a.toInt = 5) → -2 ≤ c.toInt ∧ c.toInt ≤ 6) ∧ (¬ (a.toInt = 3 ∨ a.toInt = 5) → (if a.toInt = 4 then 1 else 0) ≤ c.toInt ∧ c.toInt ≤ 6))) := by
    intro z hz hc
    by_cases h3 : a = 3
    · rw [if_pos h3]; rw [eqI, e3] at h3
      exact ⟨fun q => absurd q (by decide), fun q => absurd ⟨fun _ => by omega, fun r => absurd (Or.inl h3) r⟩ q⟩
    · rw [if_neg h3]; rw [eqI, e3] at h3
      by_cases h5 : a = 5
      · rw [if_pos h5]; rw [eqI, e5] at h5
        exact ⟨fun q => absurd q (by decide), fun q => absurd ⟨fun _ => by omega, fun r => absurd (Or.inr h5) r⟩ q⟩
      · rw [if_neg h5]; rw [eqI, e5] at h5
        refine ⟨fun _ q => ?_, fun _ => rfl⟩
        have := (q.2 (by omega)).1
        split at this <;> omega
  unfold fX8_toMayBe
  by_cases h1 : c = -1
  · rw [if_pos h1]; rw [eqI, e1] at h1; exact key _ (Or.inl rfl) h1
  · rw [if_neg h1]
    by_cases h2 : c = -2
    · rw [if_pos h2]; rw [eqI, e2] at h2; exact key _ (Or.inr rfl) h2
    · rw [if_neg h2]; rw [eqI, e1] at h1; rw [eqI, e2] at h2
      split
      · rename_i hg; rw [isGr_s] at hg
        refine ⟨fun _ q => ?_, fun _ => rfl⟩
        by_cases h35 : a.toInt = 3 ∨ a.toInt = 5
        · have := q.1 h35; omega
        · have := q.2 h35; split at this <;> omega
      · rename_i hg
        have hg : 0 ≤ c.toInt ∧ c.toInt ≤ 6 := Classical.not_not.mp (fun q => hg (isGr_s.mpr q))
        by_cases h4 : a = 4
        · rw [if_pos h4]; rw [eqI, e4] at h4
          by_cases hc0 : c = 0
          · rw [if_pos hc0]; rw [eqI, e0] at hc0
            refine ⟨fun _ q => ?_, fun _ => rfl⟩
            have := q.2 (by omega); rw [if_pos h4] at this; omega
          · rw [if_neg hc0]; rw [eqI, e0] at hc0
            exact ⟨fun q => absurd q (by decide), fun q => absurd ⟨fun _ => by omega, fun _ => by rw [if_pos h4]; omega⟩ q⟩
        · rw [if_neg h4]; rw [eqI, e4] at h4
          exact ⟨fun q => absurd q (by decide), fun q => absurd ⟨fun _ => by omega, fun _ => by rw [if_neg h4]; omega⟩ q⟩
theorem step8 {iv av : Nat → Nat → Int32} {a b c : Int32} : (¬ vS a.toInt b.toInt c.toInt → fX8_step iv av a b c = (1, 0, iv, av)) ∧ (vS a.toInt b.toInt c.toInt → fX8_step iv av a b c = if iv 0 5 < 12 then (0, (((fX5_begin iv av (61 + 6 * (Int32.toNatClampNeg (iv 0 5))) a (if a.toInt = 2 ∨ 6 ≤ a.toInt then b else 0) c).1 0 5) + 1) - 1, (u2 (fX5_begin iv av (61 + 6 * (Int32.toNatClampNeg (iv 0 5))) a (if a.toInt = 2 ∨ 6 ≤ a.toInt then b else 0) c).1 0 5 (((fX5_begin iv av (61 + 6 * (Int32.toNatClampNeg (iv 0 5))) a (if a.toInt = 2 ∨ 6 ≤ a.toInt then b else 0) c).1 0 5) + 1)), (fX5_begin iv av (61 + 6 * (Int32.toNatClampNeg (iv 0 5))) a (if a.toInt = 2 ∨ 6 ≤ a.toInt then b else 0) c).2) else (2, 0, iv, av)) := by
  have e0 : (0 : Int32).toInt = 0 := rfl
  have e9 : (9 : Int32).toInt = 9 := rfl
  have e2 : (2 : Int32).toInt = 2 := rfl
  have e6 : (6 : Int32).toInt = 6 := rfl
  have hc : fX8_fromCounts a = 0 ↔ ¬ (a.toInt = 2 ∨ 6 ≤ a.toInt) := by
    unfold fX8_fromCounts
    split
    · rename_i h; rw [eqI, e2] at h; exact ⟨fun q => absurd q (by decide), fun q => absurd (Or.inl h) q⟩
    · rename_i h; rw [eqI, e2] at h
      split
      · rename_i h2; rw [Int32.lt_iff_toInt_lt, e6] at h2; exact ⟨fun _ q => by omega, fun _ => rfl⟩
      · rename_i h2; rw [Int32.lt_iff_toInt_lt, e6] at h2; exact ⟨fun q => absurd q (by decide), fun q => absurd (Or.inr (by omega)) q⟩
  unfold fX8_step
  by_cases h1 : a < 0
  · rw [if_pos h1]; rw [Int32.lt_iff_toInt_lt, e0] at h1
    exact ⟨fun _ => rfl, fun q => by have := q.1.1; omega⟩
  · rw [if_neg h1]; rw [Int32.lt_iff_toInt_lt, e0] at h1
    by_cases h2 : 9 < a
    · rw [if_pos h2]; rw [Int32.lt_iff_toInt_lt, e9] at h2
      exact ⟨fun _ => rfl, fun q => by have := q.1.2; omega⟩
    · rw [if_neg h2]; rw [Int32.lt_iff_toInt_lt, e9] at h2
      by_cases h3 : fX8_fromMayBe a b = 0
      · rw [if_pos h3]; rw [from8 (by omega)] at h3
        exact ⟨fun _ => rfl, fun q => absurd q.2.1 h3⟩
      · rw [if_neg h3]
        have h3 := Classical.not_not.mp (fun q => h3 ((from8 (by omega)).mpr q))
        by_cases h4 : fX8_toMayBe a c = 0
        · rw [if_pos h4]; rw [to8] at h4
          exact ⟨fun _ => rfl, fun q => absurd q.2.2 h4⟩
        · rw [if_neg h4]
          have h4 := Classical.not_not.mp (fun q => h4 (to8.mpr q))
          refine ⟨fun q => absurd ⟨⟨by omega, by omega⟩, h3, h4⟩ q, fun _ => ?_⟩
          by_cases h5 : iv 0 5 < 12
          · rw [if_pos h5, if_pos h5]
            by_cases h6 : fX8_fromCounts a = 0
            · rw [if_pos h6, if_neg (hc.mp h6)]
            · rw [if_neg h6, if_pos (Classical.not_not.mp (fun q => h6 (hc.mpr q)))]
          · rw [if_neg h5, if_neg h5]
theorem in9 {a lo hi : Int32} : ¬ fX9_isIn a lo hi = 0 ↔ lo.toInt ≤ a.toInt ∧ a.toInt ≤ hi.toInt := by rw [isIn_s]; exact Classical.not_not
theorem to9 {a c : Int32} : fX9_isTo a c = 0 ↔ ¬ (((a.toInt = 3 ∨ a.toInt = 5) → -2 ≤ c.toInt ∧ c.toInt ≤ 6) ∧ (¬ (a.toInt = 3 ∨ a.toInt = 5) → (if a.toInt = 4 then 1 else 0) ≤ c.toInt ∧ c.toInt ≤ 6)) := by
  have e1 : (1 : Int32).toInt = 1 := rfl
  have e2 : (-2 : Int32).toInt = -2 := by decide
  have e3 : (3 : Int32).toInt = 3 := rfl
  have e4 : (4 : Int32).toInt = 4 := rfl
  have e5 : (5 : Int32).toInt = 5 := rfl
  have e6 : (6 : Int32).toInt = 6 := rfl
  have e0 : (0 : Int32).toInt = 0 := rfl
  unfold fX9_isTo
  by_cases h3 : a = 3
  · rw [if_pos h3, isIn_s, e2, e6]; rw [eqI, e3] at h3
    exact ⟨fun q r => q (r.1 (Or.inl h3)), fun q r => q ⟨fun _ => r, fun s => absurd (Or.inl h3) s⟩⟩
  · rw [if_neg h3]; rw [eqI, e3] at h3
    by_cases h5 : a = 5
    · rw [if_pos h5, isIn_s, e2, e6]; rw [eqI, e5] at h5
      exact ⟨fun q r => q (r.1 (Or.inr h5)), fun q r => q ⟨fun _ => r, fun s => absurd (Or.inr h5) s⟩⟩
    · rw [if_neg h5]; rw [eqI, e5] at h5
      have hn : ¬ (a.toInt = 3 ∨ a.toInt = 5) := by omega
      by_cases h4 : a = 4
      · rw [if_pos h4, isIn_s, e1, e6]; rw [eqI, e4] at h4; rw [if_pos h4]
        exact ⟨fun q r => q (r.2 hn), fun q r => q ⟨fun s => absurd s hn, fun _ => r⟩⟩
      · rw [if_neg h4, isIn_s, e0, e6]; rw [eqI, e4] at h4; rw [if_neg h4]
        exact ⟨fun q r => q (r.2 hn), fun q r => q ⟨fun s => absurd s hn, fun _ => r⟩⟩
/-- the reference's new step -/
def st9 (v : Nat → Int32) (A : Nat → Nat → Int32) (a b c : Int32) : Int32 × (Nat → Int32) × (Nat → Nat → Int32) := (((v 1) + (1)) - (1), (upd (upd v 0 0) 1 ((v 1) + (1))), (u1 (u1 (u1 (u1 (u1 (u1 A 1 (upd (A 1) (Int32.toNatClampNeg (v 1)) a)) 2 (upd (A 2) (Int32.toNatClampNeg (v 1)) b)) 3 (upd (A 3) (Int32.toNatClampNeg (v 1)) c)) 4 (upd (A 4) (Int32.toNatClampNeg (v 1)) 0)) 5 (upd (A 5) (Int32.toNatClampNeg (v 1)) 0)) 10 (upd (A 10) (Int32.toNatClampNeg (v 1)) 0)))
theorem step9 {v : Nat → Int32} {A : Nat → Nat → Int32} {a b c : Int32} : (¬ vS a.toInt b.toInt c.toInt → fX9_step v A a b c = (0, upd v 0 1, A)) ∧ (vS a.toInt b.toInt c.toInt → fX9_step v A a b c = if v 1 = 12 then (0, upd v 0 2, A) else st9 v A a b c) := by
  have e0 : (0 : Int32).toInt = 0 := rfl
  have e9 : (9 : Int32).toInt = 9 := rfl
  have e2 : (2 : Int32).toInt = 2 := rfl
  have e6 : (6 : Int32).toInt = 6 := rfl
  have e3 : (3 : Int32).toInt = 3 := rfl
  have tail : ∀ (P : Prop), (P ↔ vS a.toInt b.toInt c.toInt ∨ fX9_isTo a c = 0) → P → (vS a.toInt b.toInt c.toInt ↔ ¬ fX9_isTo a c = 0) →
      ((¬ vS a.toInt b.toInt c.toInt → (if fX9_isTo a c = 0 then ((0 : Int32), upd v 0 1, A) else if v 1 = 12 then (0, upd v 0 2, A) else st9 v A a b c) = (0, upd v 0 1, A)) ∧ (vS a.toInt b.toInt c.toInt → (if fX9_isTo a c = 0 then ((0 : Int32), upd v 0 1, A) else if v 1 = 12 then (0, upd v 0 2, A) else st9 v A a b c) = if v 1 = 12 then (0, upd v 0 2, A) else st9 v A a b c)) := by
    intro P _ _ h
    refine ⟨fun q => ?_, fun q => ?_⟩
    · rw [if_pos (Classical.not_not.mp (fun r => q (h.mpr r)))]
    · rw [if_neg (h.mp q)]
  have no : ¬ vS a.toInt b.toInt c.toInt → ((¬ vS a.toInt b.toInt c.toInt → ((0 : Int32), upd v 0 1, A) = (0, upd v 0 1, A)) ∧ (vS a.toInt b.toInt c.toInt → ((0 : Int32), upd v 0 1, A) = if v 1 = 12 then (0, upd v 0 2, A) else st9 v A a b c)) := fun h => ⟨fun _ => rfl, fun q => absurd q h⟩
  unfold fX9_step
  by_cases h2 : a = 2
  · rw [if_pos h2]; rw [eqI, e2] at h2
    rw [if_neg (in9.mpr ⟨by omega, by omega⟩), if_neg (fun q => by rw [eqI, e9] at q; omega)]
    by_cases hb : fX9_isIn b 0 6 = 0
    · rw [if_pos hb]; rw [isIn_s, e0, e6] at hb
      exact no (fun q => hb (by have := q.2.1 (Or.inl h2); rw [if_neg (by omega)] at this; exact this))
    · rw [if_neg hb]; rw [in9, e0, e6] at hb
      have h : vS a.toInt b.toInt c.toInt ↔ ¬ fX9_isTo a c = 0 := by
        rw [to9, Classical.not_not]
        exact ⟨fun q => q.2.2, fun q => ⟨⟨by omega, by omega⟩, fun _ => by rw [if_neg (by omega)]; exact hb, q⟩⟩
      exact tail True (by simp [h, Classical.em, or_comm]) trivial h
  · rw [if_neg h2]; rw [eqI, e2] at h2
    by_cases h6 : a < 6
    · rw [if_pos h6]; rw [Int32.lt_iff_toInt_lt, e6] at h6
      by_cases ha : fX9_isIn a 0 9 = 0
      · rw [if_pos ha]; rw [isIn_s, e0, e9] at ha; exact no (fun q => ha q.1)
      · rw [if_neg ha]; rw [in9, e0, e9] at ha
        have h : vS a.toInt b.toInt c.toInt ↔ ¬ fX9_isTo a c = 0 := by
          rw [to9, Classical.not_not]
          exact ⟨fun q => q.2.2, fun q => ⟨ha, fun r => by omega, q⟩⟩
        exact tail True (by simp [h, Classical.em, or_comm]) trivial h
    · rw [if_neg h6]; rw [Int32.lt_iff_toInt_lt, e6] at h6
      by_cases ha : fX9_isIn a 0 9 = 0
      · rw [if_pos ha]; rw [isIn_s, e0, e9] at ha; exact no (fun q => ha q.1)
      · rw [if_neg ha]; rw [in9, e0, e9] at ha
        by_cases h9 : a = 9
        · rw [if_pos h9]; rw [eqI, e9] at h9
          by_cases hb : fX9_isIn b 0 3 = 0
          · rw [if_pos hb]; rw [isIn_s, e0, e3] at hb
            exact no (fun q => hb (by have := q.2.1 (Or.inr (by omega)); rw [if_pos h9] at this; exact this))
          · rw [if_neg hb]; rw [in9, e0, e3] at hb
            have h : vS a.toInt b.toInt c.toInt ↔ ¬ fX9_isTo a c = 0 := by
              rw [to9, Classical.not_not]
              exact ⟨fun q => q.2.2, fun q => ⟨ha, fun _ => by rw [if_pos h9]; exact hb, q⟩⟩
            exact tail True (by simp [h, Classical.em, or_comm]) trivial h
        · rw [if_neg h9]; rw [eqI, e9] at h9
          by_cases hb : fX9_isIn b 0 6 = 0
          · rw [if_pos hb]; rw [isIn_s, e0, e6] at hb
            exact no (fun q => hb (by have := q.2.1 (Or.inr (by omega)); rw [if_neg h9] at this; exact this))
          · rw [if_neg hb]; rw [in9, e0, e6] at hb
            have h : vS a.toInt b.toInt c.toInt ↔ ¬ fX9_isTo a c = 0 := by
              rw [to9, Classical.not_not]
              exact ⟨fun q => q.2.2, fun q => ⟨ha, fun _ => by rw [if_neg h9]; exact hb, q⟩⟩
            exact tail True (by simp [h, Classical.em, or_comm]) trivial h
/-! Frames of the calls that change the sequence alone. -/
def FT (iv av iv' av' : Nat → Nat → Int32) : Prop := (∀ k f, k < 61 → ¬ (k = 0 ∧ f = 5) → iv' k f = iv k f) ∧ ∀ k, k < 61 → av' k = av k
theorem RelC_steps {iv av iv' av' : Nat → Nat → Int32} {W : Om} {Q' : List Sq} (h : RelC iv av W) (hf : FT iv av iv' av') (hQ : QC iv' av' Q') (hM : MST iv') : RelC iv' av' (Q', W.2) := by
  obtain ⟨h1, h2, h3, h4, h5, h6, h7, h8, h9⟩ := h
  refine ⟨hQ, ?_, ⟨h3.1, fun g hg => (h3.2.1 g hg).kept (hf.1 _ _ (by omega) (by omega)) (hf.1 _ _ (by omega) (by omega)) (hf.2 _ (by omega)), by rw [hf.1 3 1 (by omega) (by omega)]; exact h3.2.2⟩, ?_, h5, h6, by rw [hf.1 0 6 (by omega) (by omega)]; exact h7, by rw [hf.1 0 7 (by omega) (by omega)]; exact h8, hM⟩
  · intro f hf4
    rw [hf.1 (29 + 3 * f + 1) 2 (by omega) (by omega), hf.1 (29 + 3 * f + 1) 1 (by omega) (by omega), hf.1 (29 + 3 * f) 1 (by omega) (by omega), hf.2 (29 + 3 * f + 1 + 1) (by omega)]
    exact h2 f hf4
  · unfold CHc at h4 ⊢
    rw [hf.1 57 3 (by omega) (by omega), hf.2 58 (by omega), hf.2 59 (by omega), hf.2 60 (by omega)]
    exact h4
theorem RelR_steps {v v' : Nat → Int32} {A A' : Nat → Nat → Int32} {W : Om} {Q' : List Sq} (h : RelR v A W) (hv : ∀ k, k ≠ 0 → k ≠ 1 → v' k = v k) (hA : ∀ q, 14 ≤ q → q ≤ 33 → A' q = A q) (hQ : QR v' A' Q') (hM : MSR A') : RelR v' A' (Q', W.2) := by
  obtain ⟨h1, h2, h3, h4, h5, h6, h7, h8⟩ := h
  refine ⟨hQ, ?_, RC_v h3 (hv 20 (by decide) (by decide)) (hv 26 (by decide) (by decide)) (fun q h h2 => hA q (by omega) (by omega)), by rw [hv 34 (by decide) (by decide)]; exact h4, ?_, by rw [hv 42 (by decide) (by decide)]; exact h6, by rw [hv 41 (by decide) (by decide)]; exact h7, hM⟩
  · intro f hf
    rw [hA 14 (by decide) (by decide), hA 15 (by decide) (by decide), hA 16 (by decide) (by decide), hA 17 (by decide) (by decide), hA 18 (by decide) (by decide)]
    exact h2 f hf
  · unfold chR at h5 ⊢
    rw [hA 29 (by decide) (by decide), hA 30 (by decide) (by decide), hA 31 (by decide) (by decide), hA 32 (by decide) (by decide), hA 33 (by decide) (by decide)]
    exact h5
end
section
/-! step, silent, clear on both. -/
theorem EC.cells {iv av iv' av' : Nat → Nat → Int32} {i : Nat} {q : Sq} (h : EC iv av i q) (h0 : ∀ f, f ≠ 7 → iv' (61 + 6 * i) f = iv (61 + 6 * i) f) (h1 : ∀ f, iv' (61 + 6 * i + 1) f = iv (61 + 6 * i + 1) f) (h4 : ∀ f, iv' (61 + 6 * i + 4) f = iv (61 + 6 * i + 4) f) (a2 : av' (61 + 6 * i + 1 + 1) = av (61 + 6 * i + 1 + 1)) (a3 : av' (61 + 6 * i + 3) = av (61 + 6 * i + 3)) (a5 : av' (61 + 6 * i + 4 + 1) = av (61 + 6 * i + 4 + 1)) : EC iv' av' i q := by
  unfold EC at h ⊢
  rw [h0 3 (by decide), h0 4 (by decide), h0 5 (by decide), h0 6 (by decide), h1 2, h1 1, h4 2, h4 1, a2, a3, a5]
  exact h
theorem begin_s (iv av : Nat → Nat → Int32) (k : Nat) (a b c : Int32) : (fX5_begin iv av k a b c).2 = av ∧ (∀ q f, q ≠ k → q ≠ k + 1 → q ≠ k + 4 → (fX5_begin iv av k a b c).1 q f = iv q f) ∧ (fX5_begin iv av k a b c).1 k 3 = a ∧ (fX5_begin iv av k a b c).1 k 4 = b ∧ (fX5_begin iv av k a b c).1 k 5 = c ∧ (fX5_begin iv av k a b c).1 k 6 = 0 ∧ (fX5_begin iv av k a b c).1 (k + 1) 2 = 0 ∧ (fX5_begin iv av k a b c).1 (k + 1) 1 = iv (k + 1) 1 ∧ (fX5_begin iv av k a b c).1 (k + 4) 2 = 0 ∧ (fX5_begin iv av k a b c).1 (k + 4) 1 = iv (k + 4) 1 := by
  refine ⟨rfl, fun q f h1 h2 h3 => ?_, ?_, ?_, ?_, ?_, ?_, ?_, ?_, ?_⟩
  · simp [fX5_begin, u2, h1, h2, h3]
  all_goals simp [fX5_begin, u2]
theorem nn_i {t : Int32} (h : 0 ≤ t.toInt) : (nn t : Int) = t.toInt := by
  obtain ⟨j, hj, e⟩ := nI_of (x := t) (fun q => by rw [Int32.lt_iff_toInt_lt] at q; have : (0 : Int32).toInt = 0 := rfl; omega)
  unfold nn
  rw [e, nI_clamp hj, nI_toInt hj]
def eS (a b c : Int32) : Sq := (nn a, if a.toInt = 2 ∨ 6 ≤ a.toInt then nn b else 0, c, false, [], [])
theorem okQ_new {a b c : Int32} (h : vS a.toInt b.toInt c.toInt) : okQ (eS a b c) := by
  obtain ⟨h1, h2, h3, h4⟩ := h
  have ha := nn_i h1.1
  refine ⟨by show nn a ≤ 9; omega, ?_, ?_, ?_, ?_, fun t ht => by simp [eS] at ht, fun _ t ht => by simp [eS] at ht, fun _ t ht => by simp [eS] at ht, by show ([] : List TR).length ≤ 6; decide, fun t ht => by simp [eS] at ht, by show ([] : List Rw).length ≤ 4; decide, fun _ => rfl⟩
  · show (if a.toInt = 2 ∨ 6 ≤ a.toInt then nn b else 0) < 7
    split
    · rename_i q
      have hb := h2 q
      have := nn_i hb.1
      split at hb <;> omega
    · omega
  · intro q
    have q : nn a = 9 := q
    show (if a.toInt = 2 ∨ 6 ≤ a.toInt then nn b else 0) < 4
    rw [if_pos (Or.inr (by omega))]
    have hb := h2 (Or.inr (by omega))
    rw [if_pos (by omega)] at hb
    have := nn_i hb.1
    omega
  · intro q
    have q : nn a = 3 ∨ nn a = 5 := q
    exact h3 (by omega)
  · intro q
    have q : ¬ (nn a = 3 ∨ nn a = 5) := q
    have := h4 (by omega)
    show 0 ≤ c.toInt ∧ c.toInt ≤ 6
    split at this <;> omega
theorem get_new {Q : List Sq} {e q : Sq} {i : Nat} (h : (Q ++ [e])[i]? = some q) : (i < Q.length ∧ Q[i]? = some q) ∨ (i = Q.length ∧ q = e) := by
  rw [List.getElem?_append] at h
  split at h
  · exact Or.inl ⟨by assumption, h⟩
  · have hlt := (List.getElem?_eq_some_iff.mp h).1
    have e1 : i = Q.length := by simp at hlt; omega
    subst e1
    simp at h
    exact Or.inr ⟨rfl, h.symm⟩
theorem step_c {iv av : Nat → Nat → Int32} {W : Om} {a b c : Int32} (h : RelC iv av W) (hv : vS a.toInt b.toInt c.toInt) (hn : W.1.length < 12) : (fX8_step iv av a b c).1 = 0 ∧ (fX8_step iv av a b c).2.1 = nI W.1.length ∧ RelC (fX8_step iv av a b c).2.2.1 (fX8_step iv av a b c).2.2.2 (W.1 ++ [eS a b c], W.2) := by
  have h5 := h.1.1
  have hlt : iv 0 5 < 12 := by rw [h5]; exact nI_lt (b := 12) hn (by decide)
  have hb := begin_s iv av (61 + 6 * W.1.length) a (if a.toInt = 2 ∨ 6 ≤ a.toInt then b else 0) c
  have h05 : (fX5_begin iv av (61 + 6 * W.1.length) a (if a.toInt = 2 ∨ 6 ≤ a.toInt then b else 0) c).1 0 5 = nI W.1.length := by rw [hb.2.1 0 5 (by omega) (by omega) (by omega)]; exact h5
  rw [step8.2 hv, if_pos hlt, h5, nI_clamp (by omega)]
  dsimp only
  rw [h05, nI_1]
  refine ⟨rfl, nI_p1 _, ?_⟩
  have hk : ∀ q f, q ≠ 61 + 6 * W.1.length → q ≠ 61 + 6 * W.1.length + 1 → q ≠ 61 + 6 * W.1.length + 4 → ¬ (q = 0 ∧ f = 5) → (u2 (fX5_begin iv av (61 + 6 * W.1.length) a (if a.toInt = 2 ∨ 6 ≤ a.toInt then b else 0) c).1 0 5 (nI (W.1.length + 1))) q f = iv q f := by
    intro q f h1 h2 h3 h4
    by_cases q0 : q = 0
    · subst q0
      rw [u2_f _ _ _ (fun r => h4 ⟨rfl, r⟩)]; exact hb.2.1 0 f h1 h2 h3
    · rw [u2_k _ _ _ _ q0]; exact hb.2.1 q f h1 h2 h3
  have hn0 : ∀ q f, 0 < q → (u2 (fX5_begin iv av (61 + 6 * W.1.length) a (if a.toInt = 2 ∨ 6 ≤ a.toInt then b else 0) c).1 0 5 (nI (W.1.length + 1))) q f = (fX5_begin iv av (61 + 6 * W.1.length) a (if a.toInt = 2 ∨ 6 ≤ a.toInt then b else 0) c).1 q f := fun q f hq => u2_k _ _ _ _ (by omega)
  have ha := hv.1
  refine RelC_steps h ⟨fun k f h1 h2 => hk k f (by omega) (by omega) (by omega) h2, fun k hk => by rw [hb.1]⟩ ⟨by rw [u2_s, List.length_append]; rfl, by rw [List.length_append, List.length_singleton]; omega, fun i q hq => ?_⟩ (fun j hj => ?_)
  · rcases get_new hq with ⟨hi, hq⟩ | ⟨rfl, rfl⟩
    · have := h.1.2.2 i q hq
      refine ⟨this.1.cells (fun f _ => hk _ f (by omega) (by omega) (by omega) (by omega)) (fun f => hk _ f (by omega) (by omega) (by omega) (by omega)) (fun f => hk _ f (by omega) (by omega) (by omega) (by omega)) (by rw [hb.1]) (by rw [hb.1]) (by rw [hb.1]), this.2⟩
    · refine ⟨⟨?_, ?_, ?_, ?_, ?_, ?_, fun j t ht => by simp [eS] at ht, ?_, ?_, fun j t ht => by simp [eS] at ht⟩, okQ_new hv⟩
      · rw [hn0 _ _ (by omega), hb.2.2.1]; exact (nI_of_nn ha.1).symm
      · rw [hn0 _ _ (by omega), hb.2.2.2.1]
        show _ = nI (if a.toInt = 2 ∨ 6 ≤ a.toInt then nn b else 0)
        split
        · rename_i q; exact (nI_of_nn (hv.2.1 q).1).symm
        · rfl
      · rw [hn0 _ _ (by omega)]; exact hb.2.2.2.2.1
      · rw [hn0 _ _ (by omega)]; exact hb.2.2.2.2.2.1
      · rw [hn0 _ _ (by omega)]; exact hb.2.2.2.2.2.2.1
      · rw [hn0 _ _ (by omega), hb.2.2.2.2.2.2.2.1]; exact ((h.2.2.2.2.2.2.2.2 _ hn).1).elim (fun _ q => q.2.2)
      · rw [hn0 _ _ (by omega)]; exact hb.2.2.2.2.2.2.2.2.1
      · rw [hn0 _ _ (by omega), hb.2.2.2.2.2.2.2.2.2]; exact ((h.2.2.2.2.2.2.2.2 _ hn).2.1).elim (fun _ q => q.2.2)
  · have hm := h.2.2.2.2.2.2.2.2 j hj
    by_cases e : j = W.1.length
    · subst e
      obtain ⟨⟨c1, _, _, m1⟩, ⟨c2, _, _, m2⟩, _⟩ := hm
      refine ⟨⟨0, by decide, ?_, ?_⟩, ⟨0, by decide, ?_, ?_⟩, Or.inl ?_⟩
      · rw [hn0 _ _ (by omega)]; exact hb.2.2.2.2.2.2.1
      · rw [hn0 _ _ (by omega), hb.2.2.2.2.2.2.2.1]; exact m1
      · rw [hn0 _ _ (by omega)]; exact hb.2.2.2.2.2.2.2.2.1
      · rw [hn0 _ _ (by omega), hb.2.2.2.2.2.2.2.2.2]; exact m2
      · rw [hn0 _ _ (by omega)]; exact hb.2.2.2.2.2.1
    · rw [hk (61 + 6 * j + 1) 2 (by omega) (by omega) (by omega) (by omega), hk (61 + 6 * j + 1) 1 (by omega) (by omega) (by omega) (by omega), hk (61 + 6 * j + 4) 2 (by omega) (by omega) (by omega) (by omega), hk (61 + 6 * j + 4) 1 (by omega) (by omega) (by omega) (by omega), hk (61 + 6 * j) 6 (by omega) (by omega) (by omega) (by omega)]
      exact hm
theorem step_r {v : Nat → Int32} {A : Nat → Nat → Int32} {W : Om} {a b c : Int32} (h : RelR v A W) (hv : vS a.toInt b.toInt c.toInt) (hn : W.1.length < 12) : (fX9_step v A a b c).1 = nI W.1.length ∧ (fX9_step v A a b c).2.1 0 = 0 ∧ RelR (fX9_step v A a b c).2.1 (fX9_step v A a b c).2.2 (W.1 ++ [eS a b c], W.2) := by
  have h1 := h.1.1
  have hne : ¬ v 1 = 12 := by rw [h1, show (12 : Int32) = nI 12 from rfl, nI_eq (by omega) (by decide)]; omega
  rw [step9.2 hv, if_neg hne]
  unfold st9
  rw [h1, nI_clamp (by omega), nI_1]
  dsimp only
  refine ⟨nI_p1 _, by simp [upd], ?_⟩
  have ha := hv.1
  refine RelR_steps h (fun k h0 h1 => by simp [upd, h0, h1]) (fun q hq _ => by simp [u1, show q ≠ 1 by omega, show q ≠ 2 by omega, show q ≠ 3 by omega, show q ≠ 4 by omega, show q ≠ 5 by omega, show q ≠ 10 by omega]) ⟨by rw [List.length_append]; simp [upd], by rw [List.length_append, List.length_singleton]; omega, fun i q hq => ?_⟩ (fun j hj => ?_)
  · rcases get_new hq with ⟨hi, hq⟩ | ⟨rfl, rfl⟩
    · have := h.1.2.2 i q hq
      refine ⟨?_, this.2⟩
      have hE := this.1
      have hne : i ≠ W.1.length := by omega
      unfold ER at hE ⊢
      simpa [u1, upd, hne] using hE
    · refine ⟨?_, okQ_new hv⟩
      refine ⟨?_, fun hq => ?_, ?_, ?_, ?_, fun j t ht => by simp [eS] at ht, ?_, fun j t ht => by simp [eS] at ht⟩
      · simp [u1, upd]; exact (nI_of_nn ha.1).symm
      · have hq : nn a = 2 ∨ 6 ≤ nn a := hq
        have hx := nn_i ha.1
        have hc : a.toInt = 2 ∨ 6 ≤ a.toInt := by omega
        simp [u1, upd]
        show b = nI (if a.toInt = 2 ∨ 6 ≤ a.toInt then nn b else 0)
        rw [if_pos hc]
        exact (nI_of_nn (hv.2.1 hc).1).symm
      · simp [u1, upd, eS]
      · simp [u1, upd, eS, tI]
      · simp [u1, upd, eS]; rfl
      · simp [u1, upd, eS]; rfl
  · have hm := h.2.2.2.2.2.2.2 j hj
    by_cases e : j = W.1.length
    · subst e
      refine ⟨⟨0, by decide, by simp [u1, upd]; rfl⟩, ⟨0, by decide, by simp [u1, upd]; rfl⟩, Or.inl (by simp [u1, upd])⟩
    · simpa [u1, upd, e] using hm
theorem al_step {iv av : Nat → Nat → Int32} {v : Nat → Int32} {A : Nat → Nat → Int32} {W : Om} (hC : RelC iv av W) (hR : RelR v A W) (a b c : Int32) : ∃ (f : Nat) (W' : Om), (fX8_step iv av a b c).1 = f ∧ (f = 0 ∨ f = 1 ∨ f = 2) ∧ (fX9_step v A a b c).2.1 0 = (if f = 0 then 0 else if f = 1 then 1 else 2) ∧ (f = 0 → (fX8_step iv av a b c).2.1 = (fX9_step v A a b c).1) ∧ RelC (fX8_step iv av a b c).2.2.1 (fX8_step iv av a b c).2.2.2 W' ∧ RelR (fX9_step v A a b c).2.1 (fX9_step v A a b c).2.2 W' := by
  by_cases hv : vS a.toInt b.toInt c.toInt
  · by_cases hn : W.1.length < 12
    · have h1 := step_c hC hv hn
      have h2 := step_r hR hv hn
      exact ⟨0, _, h1.1, Or.inl rfl, h2.2.1, fun _ => h1.2.1.trans h2.1.symm, h1.2.2, h2.2.2⟩
    · have e12 : W.1.length = 12 := by have := hC.1.2.1; omega
      have c1 : ¬ iv 0 5 < 12 := by rw [hC.1.1, e12]; decide
      have c2 : v 1 = 12 := by rw [hR.1.1, e12]; rfl
      refine ⟨2, W, ?_, Or.inr (Or.inr rfl), ?_, fun q => absurd q (by decide), ?_, ?_⟩
      · rw [step8.2 hv, if_neg c1]
      · rw [step9.2 hv, if_pos c2]; simp [upd]
      · rw [step8.2 hv, if_neg c1]; exact hC
      · rw [step9.2 hv, if_pos c2]; exact hR.fault 2
  · refine ⟨1, W, ?_, Or.inr (Or.inl rfl), ?_, fun q => absurd q (by decide), ?_, ?_⟩
    · rw [step8.1 hv]
    · rw [step9.1 hv]; simp [upd]
    · rw [step8.1 hv]; exact hC
    · rw [step9.1 hv]; exact hR.fault 1
end
section
/-! A step of the sequence changed; silent, clear, fails on both. -/
theorem sn_is {iv : Nat → Nat → Int32} {v : Nat → Int32} {a : Int32} {n : Nat} (h8 : iv 0 5 = nI n) (h9 : v 1 = nI n) (hn : n ≤ 12) : (∃ i, i < n ∧ a = nI i ∧ fX8_stepNumbered iv a = 0 ∧ ¬ fX9_isStep v a = 0) ∨ (fX8_stepNumbered iv a = 3 ∧ fX9_isStep v a = 0) := by
  unfold fX8_stepNumbered fX9_isStep
  rw [h8, h9]
  by_cases h : a < 0
  · exact Or.inr ⟨by rw [if_pos h], by rw [if_pos h]⟩
  · obtain ⟨i, hi, rfl⟩ := nI_of h
    by_cases h2 : i < n
    · exact Or.inl ⟨i, h2, rfl, by rw [if_neg h, if_pos (nI_lt h2 (by omega))], by rw [if_neg h, if_neg (nI_ge h2 (by omega))]; decide⟩
    · exact Or.inr ⟨by rw [if_neg h, if_neg (nI_nlt (by omega) hi)], by rw [if_neg h, if_pos (nI_le (by omega) hi)]⟩
theorem EC.off {iv av iv' av' : Nat → Nat → Int32} {i j : Nat} {q : Sq} (hij : j ≠ i) (h : EC iv av j q) (hk : ∀ k f, k < 61 + 6 * i ∨ 66 + 6 * i < k → iv' k f = iv k f) (ha : ∀ k, k < 61 + 6 * i ∨ 66 + 6 * i < k → av' k = av k) : EC iv' av' j q :=
  h.cells (fun f _ => hk _ f (by omega)) (fun f => hk _ f (by omega)) (fun f => hk _ f (by omega)) (ha _ (by omega)) (ha _ (by omega)) (ha _ (by omega))
theorem RelC_set {iv av iv' av' : Nat → Nat → Int32} {W : Om} {i : Nat} {q' : Sq} (h : RelC iv av W) (hi : i < W.1.length) (hk : ∀ k f, k < 61 + 6 * i ∨ 66 + 6 * i < k → iv' k f = iv k f) (ha : ∀ k, k < 61 + 6 * i ∨ 66 + 6 * i < k → av' k = av k) (hE : EC iv' av' i q') (ho : okQ q') : RelC iv' av' (W.1.set i q', W.2) := by
  refine RelC_steps h ⟨fun k f h1 _ => hk k f (by omega), fun k h1 => ha k (by omega)⟩ ⟨?_, ?_, ?_⟩ ?_
  · rw [hk 0 5 (by omega), List.length_set]; exact h.1.1
  · rw [List.length_set]; exact h.1.2.1
  · intro j q hq
    rw [List.getElem?_set] at hq
    by_cases e : i = j
    · subst e
      rw [if_pos rfl, if_pos hi] at hq
      cases hq
      exact ⟨hE, ho⟩
    · rw [if_neg e] at hq
      have := h.1.2.2 j q hq
      exact ⟨this.1.off (fun r => e r.symm) hk ha, this.2⟩
  · intro j hj
    by_cases e : j = i
    · subst e
      exact ⟨⟨_, ho.2.2.2.2.2.2.2.2.1, hE.2.2.2.2.1, hE.2.2.2.2.2.1⟩, ⟨_, ho.2.2.2.2.2.2.2.2.2.2.1, hE.2.2.2.2.2.2.2.1, hE.2.2.2.2.2.2.2.2.1⟩, by rw [hE.2.2.2.1]; exact tI_b _⟩
    · have hm := h.2.2.2.2.2.2.2.2 j hj
      rw [hk (61 + 6 * j + 1) 2 (by omega), hk (61 + 6 * j + 1) 1 (by omega), hk (61 + 6 * j + 4) 2 (by omega), hk (61 + 6 * j + 4) 1 (by omega), hk (61 + 6 * j) 6 (by omega)]
      exact hm
theorem RelR_set {v v' : Nat → Int32} {A A' : Nat → Nat → Int32} {W : Om} {i : Nat} {q' : Sq} (h : RelR v A W) (hi : i < W.1.length) (hv : ∀ k, k ≠ 0 → v' k = v k) (hA : ∀ q, 14 ≤ q → A' q = A q) (hk : ∀ j q, j ≠ i → ER A j q → okQ q → ER A' j q) (hm : ∀ j, j ≠ i → A' 5 j = A 5 j ∧ A' 10 j = A 10 j ∧ A' 4 j = A 4 j) (hE : ER A' i q') (ho : okQ q') : RelR v' A' (W.1.set i q', W.2) := by
  refine RelR_steps h (fun k h0 _ => hv k h0) (fun q hq _ => hA q hq) ⟨?_, ?_, ?_⟩ ?_
  · rw [hv 1 (by decide), List.length_set]; exact h.1.1
  · rw [List.length_set]; exact h.1.2.1
  · intro j q hq
    rw [List.getElem?_set] at hq
    by_cases e : i = j
    · subst e
      rw [if_pos rfl, if_pos hi] at hq
      cases hq
      exact ⟨hE, ho⟩
    · rw [if_neg e] at hq
      have := h.1.2.2 j q hq
      exact ⟨hk j q (fun r => e r.symm) this.1 this.2, this.2⟩
  · intro j hj
    by_cases e : j = i
    · subst e
      exact ⟨⟨_, ho.2.2.2.2.2.2.2.2.1, hE.2.2.2.2.1⟩, ⟨_, ho.2.2.2.2.2.2.2.2.2.2.1, hE.2.2.2.2.2.2.1⟩, by rw [hE.2.2.2.1]; exact tI_b _⟩
    · have hq := h.2.2.2.2.2.2.2 j hj
      rw [(hm j e).1, (hm j e).2.1, (hm j e).2.2]
      exact hq
theorem bI_s {b : Int32} (hb : b = 0 ∨ b = 1) : b = tI (decide (b = 1)) := by rcases hb with rfl | rfl <;> rfl
theorem al_silent {iv av : Nat → Nat → Int32} {v : Nat → Int32} {A : Nat → Nat → Int32} {W : Om} (hC : RelC iv av W) (hR : RelR v A W) (a b : Int32) (hb : b = 0 ∨ b = 1) : ∃ (f : Nat) (W' : Om), (fX8_silent iv av a b).1 = f ∧ (f = 0 ∨ f = 3) ∧ (fX9_silent v A a b).2.1 0 = (if f = 0 then 0 else 1) ∧ (f = 0 → (fX8_silent iv av a b).2.1 = (fX9_silent v A a b).1) ∧ RelC (fX8_silent iv av a b).2.2.1 (fX8_silent iv av a b).2.2.2 W' ∧ RelR (fX9_silent v A a b).2.1 (fX9_silent v A a b).2.2 W' := by
  have tb := bI_s hb
  have h12 := hC.1.2.1
  unfold fX8_silent fX9_silent
  rcases sn_is (a := a) hC.1.1 hR.1.1 h12 with ⟨i, hi, rfl, h1, h2⟩ | ⟨h1, h2⟩
  · rw [if_pos h1, if_neg h2, nI_clamp (by omega)]
    dsimp only
    obtain ⟨q, hq⟩ : ∃ q, W.1[i]? = some q := ⟨_, List.getElem?_eq_getElem hi⟩
    have eC := hC.1.2.2 i q hq
    have eR := hR.1.2.2 i q hq
    refine ⟨0, (W.1.set i (q.1, q.2.1, q.2.2.1, decide (b = 1), q.2.2.2.2.1, q.2.2.2.2.2), W.2), rfl, Or.inl rfl, by simp [upd], fun _ => by rw [eC.1.2.2.2.1, eR.1.2.2.2.1], ?_, ?_⟩
    · refine RelC_set hC hi (fun k f hk => u2_k _ _ _ _ (by omega)) (fun _ _ => rfl) ?_ eC.2
      obtain ⟨c1, c2, c3, c4, c5, c6, c7, c8, c9, c10⟩ := eC.1
      exact ⟨(u2_f _ _ _ (by decide)).trans c1, (u2_f _ _ _ (by decide)).trans c2, (u2_f _ _ _ (by decide)).trans c3, (u2_s _ _ _ _).trans tb, (u2_k _ _ _ _ (by omega)).trans c5, (u2_k _ _ _ _ (by omega)).trans c6, c7, (u2_k _ _ _ _ (by omega)).trans c8, (u2_k _ _ _ _ (by omega)).trans c9, c10⟩
    · refine RelR_set hR hi (fun k hk => by simp [upd, hk]) (fun q hq => u1_k _ _ (by omega)) (fun j q hj hE _ => ?_) (fun j hj => ⟨by simp [u1], by simp [u1], by simp [u1, upd, hj]⟩) ?_ eR.2
      · unfold ER at hE ⊢
        simpa [u1, upd, hj] using hE
      · obtain ⟨c1, c2, c3, c4, c5, c6, c7, c8⟩ := eR.1
        have e4 : u1 A 4 (upd (A 4) i b) 4 i = b := by simp [u1, upd]
        exact ⟨(congrFun (u1_k _ _ (by decide)) i).trans c1, fun h => (congrFun (u1_k _ _ (by decide)) i).trans (c2 h), (congrFun (u1_k _ _ (by decide)) i).trans c3, e4.trans tb, (congrFun (u1_k _ _ (by decide)) i).trans c5, fun j t h => by rw [u1_k _ _ (show 6 ≠ 4 by decide), u1_k _ _ (show 7 ≠ 4 by decide), u1_k _ _ (show 8 ≠ 4 by decide), u1_k _ _ (show 9 ≠ 4 by decide)]; exact c6 j t h, (congrFun (u1_k _ _ (by decide)) i).trans c7, fun j t h => by rw [u1_k _ _ (show 11 ≠ 4 by decide), u1_k _ _ (show 12 ≠ 4 by decide), u1_k _ _ (show 13 ≠ 4 by decide)]; exact c8 j t h⟩
  · have e3 : ¬ fX8_stepNumbered iv a = 0 := by rw [h1]; decide
    rw [if_neg e3, if_pos h2]
    exact ⟨3, W, h1, Or.inr rfl, by simp [upd], fun q => absurd q (by decide), hC, hR.fault 1⟩
theorem al_clear {iv av : Nat → Nat → Int32} {v : Nat → Int32} {A : Nat → Nat → Int32} {W : Om} (hC : RelC iv av W) (hR : RelR v A W) : (fX8_clear iv av).1 = (fX9_clear v A).1 ∧ (fX9_clear v A).2.1 0 = 0 ∧ RelC (fX8_clear iv av).2.1 (fX8_clear iv av).2.2 ([], W.2) ∧ RelR (fX9_clear v A).2.1 (fX9_clear v A).2.2 ([], W.2) := by
  refine ⟨hC.1.1.trans hR.1.1.symm, by simp [fX9_clear, upd], ?_, ?_⟩
  · have e : ∀ k f, 0 < k → u2 iv 0 5 0 k f = iv k f := fun k f hk => u2_k _ _ _ _ (by omega)
    refine RelC_steps hC ⟨fun k f h1 h2 => if_neg h2, fun _ _ => rfl⟩ ⟨by show u2 iv 0 5 0 0 5 = nI 0; rw [u2_s, nI_0], Nat.zero_le _, fun i q hq => by simp at hq⟩ (fun j hj => ?_)
    have hm := hC.2.2.2.2.2.2.2.2 j hj
    show (∃ c, c ≤ 6 ∧ u2 iv 0 5 0 (61 + 6 * j + 1) 2 = nI c ∧ u2 iv 0 5 0 (61 + 6 * j + 1) 1 = nI 6) ∧ (∃ c, c ≤ 4 ∧ u2 iv 0 5 0 (61 + 6 * j + 4) 2 = nI c ∧ u2 iv 0 5 0 (61 + 6 * j + 4) 1 = nI 4) ∧ (u2 iv 0 5 0 (61 + 6 * j) 6 = 0 ∨ u2 iv 0 5 0 (61 + 6 * j) 6 = 1)
    rw [e (61 + 6 * j + 1) 2 (by omega), e (61 + 6 * j + 1) 1 (by omega), e (61 + 6 * j + 4) 2 (by omega), e (61 + 6 * j + 4) 1 (by omega), e (61 + 6 * j) 6 (by omega)]
    exact hm
  · refine RelR_steps hR (fun k h0 h1 => by simp [fX9_clear, upd, h0, h1]) (fun q hq h2 => u1_k _ _ (by omega)) ⟨by simp [fX9_clear, upd, nI_0], Nat.zero_le _, fun i q hq => by simp at hq⟩ (fun j hj => ?_)
    have hm := hR.2.2.2.2.2.2.2 j hj
    unfold fX9_clear
    dsimp only
    rw [u1_k _ _ (show 5 ≠ 34 by decide), u1_k _ _ (show 10 ≠ 34 by decide), u1_k _ _ (show 4 ≠ 34 by decide)]
    exact hm
theorem al_fails {iv av : Nat → Nat → Int32} {v : Nat → Int32} {A : Nat → Nat → Int32} {W : Om} (hC : RelC iv av W) (hR : RelR v A W) : fX8_fails iv = (fX9_fails v A).1 ∧ (fX9_fails v A).2.1 0 = 0 ∧ RelR (fX9_fails v A).2.1 (fX9_fails v A).2.2 W :=
  ⟨hC.2.2.2.2.2.2.1.trans hR.2.2.2.2.2.1.symm, by simp [fX9_fails, upd], hR.fault 0⟩
end
section
/-! Rows put on: pattern and template on both. -/
def up3 (g : Nat → Int32) (c : Nat) (x y z : Int32) : Nat → Int32 := upd (upd (upd g (3 * c) x) (3 * c + 1) y) (3 * c + 2) z
theorem up3_lo {g : Nat → Int32} {c p : Nat} {x y z : Int32} (h : p < 3 * c) : up3 g c x y z p = g p := by
  unfold up3 upd
  rw [if_neg (by omega), if_neg (by omega), if_neg (by omega)]
theorem up3_0 {g : Nat → Int32} {c : Nat} {x y z : Int32} : up3 g c x y z (3 * c) = x := by
  unfold up3 upd
  rw [if_neg (by omega), if_neg (by omega), if_pos rfl]
theorem up3_1 {g : Nat → Int32} {c : Nat} {x y z : Int32} : up3 g c x y z (3 * c + 1) = y := by
  unfold up3 upd
  rw [if_neg (by omega), if_pos rfl]
theorem up3_2 {g : Nat → Int32} {c : Nat} {x y z : Int32} : up3 g c x y z (3 * c + 2) = z := by
  unfold up3 upd
  rw [if_pos rfl]
theorem app_s {iv av : Nat → Nat → Int32} {k c m : Nat} {x y z : Int32} (h2 : iv k 2 = nI c) (h1 : iv k 1 = nI m) (hc : c < m) (hm : m ≤ 100) : fX3_isFull iv k = 0 ∧ fX3_append iv av k x y z = (nI (c + 1), u2 iv k 2 (nI (c + 1)), u1 av (k + 1) (up3 (av (k + 1)) c x y z)) := by
  have e0 : fX3_isFull iv k = 0 := by unfold fX3_isFull; rw [h2, h1, if_pos (nI_lt hc (by omega))]
  refine ⟨e0, ?_⟩
  have e : (3 : Int32) * nI c = nI (3 * c) := pk_mul 3 c
  have e1 : nI (3 * c) + 1 = nI (3 * c + 1) := nI_1 _
  have e2 : nI (3 * c) + 2 = nI (3 * c + 2) := nI_add _ 2
  unfold fX3_append
  rw [if_pos e0, h2, e, e1, e2, nI_clamp (by omega), nI_clamp (by omega), nI_clamp (by omega), nI_1, u1_u1, u1_u1]
  rfl
theorem full_s {iv : Nat → Nat → Int32} {k c m : Nat} (h2 : iv k 2 = nI c) (h1 : iv k 1 = nI m) (hc : m ≤ c) (hm : c < 2 ^ 31) : ¬ fX3_isFull iv k = 0 := by
  unfold fX3_isFull
  rw [h2, h1, if_neg (nI_nlt hc hm)]
  decide
theorem get_end {α : Type} {l : List α} {e q : α} {i : Nat} (h : (l ++ [e])[i]? = some q) : (i < l.length ∧ l[i]? = some q) ∨ (i = l.length ∧ q = e) := by
  rw [List.getElem?_append] at h
  split at h
  · exact Or.inl ⟨by assumption, h⟩
  · have hlt := (List.getElem?_eq_some_iff.mp h).1
    have e1 : i = l.length := by simp at hlt; omega
    subst e1
    simp at h
    exact Or.inr ⟨rfl, h.symm⟩
/-! Which terms may stand. -/
def tmS (a b c : Int32) : Prop := isNm a ∨ (b = 2 ∧ isV a) ∨ (¬ c = 0 ∧ isNw a)
theorem isNm9 {a : Int32} : fX9_isName a = 0 ↔ ¬ isNm a := by
  unfold fX9_isName
  rw [isIn_s]
  exact Iff.rfl
theorem mst9 {a b c : Int32} : fX9_mayStand a b c = 0 ↔ ¬ tmS a b c := by
  have e1 := @isNm9 a
  have e2 := @isVar_s a
  have e3 := @isNew_s a
  unfold fX9_mayStand tmS
  revert e1 e2 e3
  generalize isNm a = P
  generalize isV a = V
  generalize isNw a = N
  generalize fX9_isName a = x
  generalize fX9_isVariable a = y
  generalize fX9_isNew a = z
  intro e1 e2 e3
  by_cases hx : x = 0 <;> by_cases hy : y = 0 <;> by_cases hz : z = 0 <;> by_cases hk : b = 2 <;> by_cases he : c = 0 <;> simp_all
theorem tt8 {k e t : Int32} : fX8_templateTermMayBe k e t = 0 ↔ ¬ tmS t k e := by
  have e1 := @isName8 t
  have e2 := @isVar8 t
  have e3 := @isNew8 t
  unfold fX8_templateTermMayBe tmS
  revert e1 e2 e3
  generalize isNm t = P
  generalize isV t = V
  generalize isNw t = N
  generalize fX8_isName t = x
  generalize fX8_isVariable t = y
  generalize fX8_isNewBlank t = z
  intro e1 e2 e3
  by_cases hx : x = 0 <;> by_cases hy : y = 0 <;> by_cases hz : z = 0 <;> by_cases hk : k = 2 <;> by_cases he : e = 0 <;> simp_all
theorem ptm8 {a : Int32} : fX8_patternTermMayBe a = 0 ↔ ¬ (isNm a ∨ isV a) := by
  have e1 := @isName8 a
  have e2 := @isVar8 a
  unfold fX8_patternTermMayBe
  revert e1 e2
  generalize isNm a = P
  generalize isV a = V
  generalize fX8_isName a = x
  generalize fX8_isVariable a = y
  intro e1 e2
  by_cases hx : x = 0 <;> by_cases hy : y = 0 <;> simp_all
theorem tm_pat {a : Int32} : tmS a 2 0 ↔ isNm a ∨ isV a := by
  unfold tmS
  exact ⟨fun h => h.elim Or.inl (fun h => h.elim (fun q => Or.inr q.2) (fun q => absurd rfl q.1)), fun h => h.elim Or.inl (fun q => Or.inr (Or.inl ⟨rfl, q⟩))⟩
theorem al_pattern {iv av : Nat → Nat → Int32} {v : Nat → Int32} {A : Nat → Nat → Int32} {W : Om} (hC : RelC iv av W) (hR : RelR v A W) (a b c d : Int32) : ∃ (f : Nat) (W' : Om), (fX8_pattern iv av a b c d).1 = f ∧ (f = 0 ∨ f = 3 ∨ f = 1 ∨ f = 2) ∧ (fX9_pattern v A a b c d).2.1 0 = (if f = 0 then 0 else if f = 3 then 1 else if f = 1 then 2 else 3) ∧ (f = 0 → (fX8_pattern iv av a b c d).2.1 = (fX9_pattern v A a b c d).1) ∧ RelC (fX8_pattern iv av a b c d).2.2.1 (fX8_pattern iv av a b c d).2.2.2 W' ∧ RelR (fX9_pattern v A a b c d).2.1 (fX9_pattern v A a b c d).2.2 W' := by
  have h12 := hC.1.2.1
  have bad : ∀ (x : Nat × Int32 × (Nat → Nat → Int32) × (Nat → Nat → Int32)) (y : Int32 × (Nat → Int32) × (Nat → Nat → Int32)) (f : Nat) (z : Int32), x = (f, 0, iv, av) → y = (0, upd v 0 z, A) → ((f = 3 ∧ z = 1) ∨ (f = 1 ∧ z = 2) ∨ (f = 2 ∧ z = 3)) → ∃ (f : Nat) (W' : Om), x.1 = f ∧ (f = 0 ∨ f = 3 ∨ f = 1 ∨ f = 2) ∧ y.2.1 0 = (if f = 0 then 0 else if f = 3 then 1 else if f = 1 then 2 else 3) ∧ (f = 0 → x.2.1 = y.1) ∧ RelC x.2.2.1 x.2.2.2 W' ∧ RelR y.2.1 y.2.2 W' := by
    intro x y f z hx hy h
    subst hx hy
    rcases h with ⟨rfl, rfl⟩ | ⟨rfl, rfl⟩ | ⟨rfl, rfl⟩
    · exact ⟨3, W, rfl, by decide, by simp [upd], fun q => absurd q (by decide), hC, hR.fault 1⟩
    · exact ⟨1, W, rfl, by decide, by simp [upd], fun q => absurd q (by decide), hC, hR.fault 2⟩
    · exact ⟨2, W, rfl, by decide, by simp [upd], fun q => absurd q (by decide), hC, hR.fault 3⟩
  unfold fX8_pattern fX9_pattern
  rcases sn_is (a := a) hC.1.1 hR.1.1 h12 with ⟨i, hi, rfl, h1, h2⟩ | ⟨h1, h2⟩
  · rw [if_pos h1, if_neg h2, nI_clamp (by omega)]
    obtain ⟨q, hq⟩ : ∃ q, W.1[i]? = some q := ⟨_, List.getElem?_eq_getElem hi⟩
    have eC := hC.1.2.2 i q hq
    have eR := hR.1.2.2 i q hq
    have hk9 := eC.2.1
    rw [eC.1.1, eR.1.1]
    by_cases hk : q.1 = 2
    · have e2 : nI q.1 = 2 := by rw [hk]; rfl
      rw [if_pos e2, if_pos e2]
      have key : ∀ t : Int32, fX8_patternTermMayBe t = 0 ↔ fX9_mayStand t 2 0 = 0 := fun t => by rw [ptm8, mst9, tm_pat]
      by_cases tb : fX9_mayStand b 2 0 = 0
      · rw [if_pos ((key b).mpr tb), if_pos tb]; exact bad _ _ 1 2 rfl rfl (by decide)
      · rw [if_neg (fun r => tb ((key b).mp r)), if_neg tb]
        by_cases tc : fX9_mayStand c 2 0 = 0
        · rw [if_pos ((key c).mpr tc), if_pos tc]; exact bad _ _ 1 2 rfl rfl (by decide)
        · rw [if_neg (fun r => tc ((key c).mp r)), if_neg tc]
          by_cases td : fX9_mayStand d 2 0 = 0
          · rw [if_pos ((key d).mpr td), if_pos td]; exact bad _ _ 1 2 rfl rfl (by decide)
          · rw [if_neg (fun r => td ((key d).mp r)), if_neg td]
            have g : ∀ t : Int32, ¬ fX9_mayStand t 2 0 = 0 → isNm t ∨ isV t := fun t ht => tm_pat.mp (Classical.not_not.mp (fun r => ht (mst9.mpr r)))
            obtain ⟨c1, c2, c3, c4, c5, c6, c7, c8, c9, c10⟩ := eC.1
            obtain ⟨r1, r2, r3, r4, r5, r6, r7, r8⟩ := eR.1
            have hl4 := eC.2.2.2.2.2.2.2.2.2.2.2.1
            by_cases hf : q.2.2.2.2.2.length = 4
            · have n4 : A 10 i = 4 := by rw [r7, hf]; rfl
              rw [if_neg (full_s c8 c9 (by omega) (by omega)), if_pos n4]; exact bad _ _ 2 3 rfl rfl (by decide)
            · have n4 : ¬ A 10 i = 4 := by rw [r7, show (4 : Int32) = nI 4 from rfl, nI_eq (by omega) (by decide)]; exact hf
              have ap := app_s (av := av) (x := b) (y := c) (z := d) c8 c9 (by omega) (by decide)
              have e4 : (4 : Int32) * nI i + nI q.2.2.2.2.2.length = nI (4 * i + q.2.2.2.2.2.length) := by rw [show (4 : Int32) * nI i = nI (4 * i) from pk_mul 4 i, nI_add]
              rw [if_pos ap.1, if_neg n4, ap.2, r7, e4, nI_clamp (by omega), nI_1]
              dsimp only
              refine ⟨0, (W.1.set i (q.1, q.2.1, q.2.2.1, q.2.2.2.1, q.2.2.2.2.1, q.2.2.2.2.2 ++ [(b, c, d)]), W.2), rfl, Or.inl rfl, by simp [upd], fun _ => by simp [upd], ?_, ?_⟩
              · have ho : okQ (q.1, q.2.1, q.2.2.1, q.2.2.2.1, q.2.2.2.2.1, q.2.2.2.2.2 ++ [(b, c, d)]) := by
                  obtain ⟨o1, o2, o3, o4, o5, o6, o7, o8, o9, o10, o11, o12⟩ := eC.2
                  refine ⟨o1, o2, o3, o4, o5, o6, o7, o8, o9, fun t ht => ?_, ?_, fun r => absurd hk r⟩
                  · rcases List.mem_append.mp ht with r | r
                    · exact o10 t r
                    · rw [List.mem_singleton] at r
                      subst r
                      exact ⟨g b tb, g c tc, g d td⟩
                  · show (q.2.2.2.2.2 ++ [(b, c, d)]).length ≤ 4
                    rw [List.length_append, List.length_singleton]; omega
                refine RelC_set hC hi (fun k f hk => u2_k _ _ _ _ (by omega)) (fun k hk => u1_k _ _ (by omega)) ?_ ho
                refine ⟨(u2_k _ _ _ _ (by omega)).trans c1, (u2_k _ _ _ _ (by omega)).trans c2, (u2_k _ _ _ _ (by omega)).trans c3, (u2_k _ _ _ _ (by omega)).trans c4, (u2_k _ _ _ _ (by omega)).trans c5, (u2_k _ _ _ _ (by omega)).trans c6, fun j t ht => ?_, ?_, (u2_f _ _ _ (by decide)).trans c9, fun j t ht => ?_⟩
                · rw [u1_k _ _ (show 61 + 6 * i + 1 + 1 ≠ 61 + 6 * i + 4 + 1 by omega), u1_k _ _ (show 61 + 6 * i + 3 ≠ 61 + 6 * i + 4 + 1 by omega)]; exact c7 j t ht
                · rw [u2_s]; show nI _ = nI (q.2.2.2.2.2 ++ [(b, c, d)]).length
                  rw [List.length_append]; rfl
                · rw [u1_s]
                  rcases get_end ht with ⟨hj, ht⟩ | ⟨rfl, rfl⟩
                  · rw [up3_lo (by omega), up3_lo (by omega), up3_lo (by omega)]; exact c10 j t ht
                  · exact ⟨up3_0, up3_1, up3_2⟩
              · have ho : okQ (q.1, q.2.1, q.2.2.1, q.2.2.2.1, q.2.2.2.2.1, q.2.2.2.2.2 ++ [(b, c, d)]) := by
                  obtain ⟨o1, o2, o3, o4, o5, o6, o7, o8, o9, o10, o11, o12⟩ := eC.2
                  refine ⟨o1, o2, o3, o4, o5, o6, o7, o8, o9, fun t ht => ?_, ?_, fun r => absurd hk r⟩
                  · rcases List.mem_append.mp ht with r | r
                    · exact o10 t r
                    · rw [List.mem_singleton] at r
                      subst r
                      exact ⟨g b tb, g c tc, g d td⟩
                  · show (q.2.2.2.2.2 ++ [(b, c, d)]).length ≤ 4
                    rw [List.length_append, List.length_singleton]; omega
                refine RelR_set hR hi (fun k hk => by simp [upd, hk]) (fun q hq => by simp [u1, show q ≠ 10 by omega, show q ≠ 11 by omega, show q ≠ 12 by omega, show q ≠ 13 by omega]) (fun j q' hj hE hoq => ?_) (fun j hj => ⟨by simp [u1], by simp [u1, upd, hj], by simp [u1]⟩) ?_ ho
                · obtain ⟨d1, d2, d3, d4, d5, d6, d7, d8⟩ := hE
                  have hl := hoq.2.2.2.2.2.2.2.2.2.2.1
                  refine ⟨by simpa [u1] using d1, fun h => by simpa [u1] using d2 h, by simpa [u1] using d3, by simpa [u1] using d4, by simpa [u1] using d5, fun j t h => by simpa [u1] using d6 j t h, by simpa [u1, upd, hj] using d7, fun j' t h => ?_⟩
                  have hlt := (List.getElem?_eq_some_iff.mp h).1
                  have hne : ¬ 4 * j + j' = 4 * i + q.2.2.2.2.2.length := by omega
                  simpa [u1, upd, hne] using d8 j' t h
                · refine ⟨by simpa [u1] using r1, fun h => by simpa [u1] using r2 h, by simpa [u1] using r3, by simpa [u1] using r4, by simpa [u1] using r5, fun j t h => by simpa [u1] using r6 j t h, by simp [u1, upd], fun j' t h => ?_⟩
                  rcases get_end h with ⟨hj, ht⟩ | ⟨rfl, rfl⟩
                  · have hne : ¬ j' = q.2.2.2.2.2.length := by omega
                    simpa [u1, upd, hne] using r8 j' t ht
                  · simp [u1, upd]
    · have e2 : ¬ nI q.1 = 2 := by rw [show (2 : Int32) = nI 2 from rfl, nI_eq (by omega) (by decide)]; exact hk
      rw [if_neg e2, if_neg e2]; exact bad _ _ 1 2 rfl rfl (by decide)
  · have e3 : ¬ fX8_stepNumbered iv a = 0 := by rw [h1]; decide
    rw [if_neg e3, if_pos h2]
    exact bad _ _ 3 1 (by rw [h1]) rfl (by decide)
end
section
/-! template on both. -/
theorem tmb8 {a b : Int32} : fX8_templateMayBe a b = 0 ↔ ¬ (a = 2 ∨ (a = 0 ∧ ¬ b = 0) ∨ (a = 1 ∧ b = 0)) := by
  unfold fX8_templateMayBe
  by_cases h2 : a = 2 <;> by_cases h0 : a = 0 <;> by_cases h1 : a = 1 <;> by_cases hb : b = 0 <;> simp_all
def vT (k b c d e : Int32) : Prop := (k = 2 ∨ (k = 0 ∧ ¬ e = 0) ∨ (k = 1 ∧ e = 0)) ∧ tmS b k e ∧ tmS c k 0 ∧ tmS d k e
theorem tmc {c k e : Int32} : tmS c k 0 ↔ (¬ isNw c ∧ tmS c k e) := by
  unfold tmS isNm isV isNw
  constructor
  · rintro (h | h | h)
    · exact ⟨fun q => by omega, Or.inl h⟩
    · exact ⟨fun q => by omega, Or.inr (Or.inl h)⟩
    · exact absurd rfl h.1
  · rintro ⟨h, q | q | q⟩
    · exact Or.inl q
    · exact Or.inr (Or.inl q)
    · exact absurd q.2 h
theorem tpl8 {iv av : Nat → Nat → Int32} {a b c d e : Int32} (hs : fX8_stepNumbered iv a = 0) : (¬ vT (iv (61 + 6 * (Int32.toNatClampNeg a)) 3) b c d e → fX8_template iv av a b c d e = (1, 0, iv, av)) ∧ (vT (iv (61 + 6 * (Int32.toNatClampNeg a)) 3) b c d e → fX8_template iv av a b c d e = if fX3_isFull iv ((61 + 6 * (Int32.toNatClampNeg a)) + 1) = 0 then (0, (fX5_addTemplate iv av (61 + 6 * (Int32.toNatClampNeg a)) b c d e).1, (fX5_addTemplate iv av (61 + 6 * (Int32.toNatClampNeg a)) b c d e).2.1, (fX5_addTemplate iv av (61 + 6 * (Int32.toNatClampNeg a)) b c d e).2.2) else (2, 0, iv, av)) := by
  unfold fX8_template
  rw [if_pos hs]
  generalize iv (61 + 6 * (Int32.toNatClampNeg a)) 3 = k
  by_cases h1 : fX8_templateMayBe k e = 0
  · rw [if_pos h1]
    exact ⟨fun _ => rfl, fun q => absurd q.1 (tmb8.mp h1)⟩
  · rw [if_neg h1]
    have g1 := Classical.not_not.mp (fun q => h1 (tmb8.mpr q))
    by_cases h2 : fX8_templateTermMayBe k e b = 0
    · rw [if_pos h2]
      exact ⟨fun _ => rfl, fun q => absurd q.2.1 (tt8.mp h2)⟩
    · rw [if_neg h2]
      have g2 := Classical.not_not.mp (fun q => h2 (tt8.mpr q))
      by_cases h3 : fX8_isNewBlank c = 0
      · rw [if_pos h3]
        have g3 := isNew8.mp h3
        by_cases h4 : fX8_templateTermMayBe k e c = 0
        · rw [if_pos h4]
          exact ⟨fun _ => rfl, fun q => absurd (tmc.mp q.2.2.1).2 (tt8.mp h4)⟩
        · rw [if_neg h4]
          have g4 := tmc.mpr ⟨g3, Classical.not_not.mp (fun q => h4 (tt8.mpr q))⟩
          by_cases h5 : fX8_templateTermMayBe k e d = 0
          · rw [if_pos h5]
            exact ⟨fun _ => rfl, fun q => absurd q.2.2.2 (tt8.mp h5)⟩
          · rw [if_neg h5]
            have g5 := Classical.not_not.mp (fun q => h5 (tt8.mpr q))
            exact ⟨fun q => absurd ⟨g1, g2, g4, g5⟩ q, fun _ => rfl⟩
      · rw [if_neg h3]
        have g3 := Classical.not_not.mp (fun q => h3 (isNew8.mpr q))
        exact ⟨fun _ => rfl, fun q => absurd g3 (tmc (e := e).mp q.2.2.1).1⟩
/-- the reference's new row -/
def tn9 (v : Nat → Int32) (A : Nat → Nat → Int32) (a b c d e : Int32) : Int32 × (Nat → Int32) × (Nat → Nat → Int32) := ((upd (A 5) (Int32.toNatClampNeg (a)) ((A 5 (Int32.toNatClampNeg (a))) + (1))) (Int32.toNatClampNeg (a)), (upd v 0 0), (u1 (u1 (u1 (u1 (u1 A 6 (upd (A 6) (Int32.toNatClampNeg (((6) * (a)) + (A 5 (Int32.toNatClampNeg (a))))) (b))) 7 (upd (A 7) (Int32.toNatClampNeg (((6) * (a)) + (A 5 (Int32.toNatClampNeg (a))))) (c))) 8 (upd (A 8) (Int32.toNatClampNeg (((6) * (a)) + (A 5 (Int32.toNatClampNeg (a))))) (d))) 9 (upd (A 9) (Int32.toNatClampNeg (((6) * (a)) + (A 5 (Int32.toNatClampNeg (a))))) (e))) 5 (upd (A 5) (Int32.toNatClampNeg (a)) ((A 5 (Int32.toNatClampNeg (a))) + (1)))))
theorem ttail {α : Type} {k b c d e : Int32} (X Z : α) : (¬ (tmS b k e ∧ tmS c k 0 ∧ tmS d k e) → (if fX9_mayStand b k e = 0 then X else if fX9_mayStand c k 0 = 0 then X else if fX9_mayStand d k e = 0 then X else Z) = X) ∧ ((tmS b k e ∧ tmS c k 0 ∧ tmS d k e) → (if fX9_mayStand b k e = 0 then X else if fX9_mayStand c k 0 = 0 then X else if fX9_mayStand d k e = 0 then X else Z) = Z) := by
  by_cases h2 : fX9_mayStand b k e = 0
  · rw [if_pos h2]
    exact ⟨fun _ => rfl, fun q => absurd q.1 (mst9.mp h2)⟩
  · rw [if_neg h2]
    have g2 := Classical.not_not.mp (fun q => h2 (mst9.mpr q))
    by_cases h3 : fX9_mayStand c k 0 = 0
    · rw [if_pos h3]
      exact ⟨fun _ => rfl, fun q => absurd q.2.1 (mst9.mp h3)⟩
    · rw [if_neg h3]
      have g3 := Classical.not_not.mp (fun q => h3 (mst9.mpr q))
      by_cases h4 : fX9_mayStand d k e = 0
      · rw [if_pos h4]
        exact ⟨fun _ => rfl, fun q => absurd q.2.2 (mst9.mp h4)⟩
      · rw [if_neg h4]
        have g4 := Classical.not_not.mp (fun q => h4 (mst9.mpr q))
        exact ⟨fun q => absurd ⟨g2, g3, g4⟩ q, fun _ => rfl⟩
theorem tpl9 {v : Nat → Int32} {A : Nat → Nat → Int32} {a b c d e : Int32} {k : Nat} (hs : ¬ fX9_isStep v a = 0) (hk : A 1 (Int32.toNatClampNeg a) = nI k) (hk9 : k ≤ 9) : (¬ vT (nI k) b c d e → fX9_template v A a b c d e = (0, upd v 0 2, A)) ∧ (vT (nI k) b c d e → fX9_template v A a b c d e = if A 5 (Int32.toNatClampNeg a) = 6 then (0, upd v 0 3, A) else tn9 v A a b c d e) := by
  unfold fX9_template
  rw [if_neg hs, hk]
  by_cases h3 : 3 ≤ k
  · rw [if_pos (show (3 : Int32) ≤ nI k from nI_le h3 (by omega))]
    refine ⟨fun _ => rfl, fun q => ?_⟩
    have n2 : ∀ j, j < 3 → ¬ nI k = nI j := fun j hj r => by rw [nI_eq (by omega) (by omega)] at r; omega
    rcases q.1 with r | r | r
    · exact absurd r (n2 2 (by decide))
    · exact absurd r.1 (n2 0 (by decide))
    · exact absurd r.1 (n2 1 (by decide))
  · rcases (show k = 0 ∨ k = 1 ∨ k = 2 by omega) with rfl | rfl | rfl
    · rw [if_neg (show ¬ (3 : Int32) ≤ nI 0 by decide), if_pos (show nI 0 = 0 from rfl)]
      by_cases he : e = 0
      · rw [if_pos he]
        exact ⟨fun _ => rfl, fun q => absurd q.1 (by subst he; decide)⟩
      · rw [if_neg he, if_neg (show ¬ nI 0 = 1 by decide)]
        exact ⟨fun q => (ttail _ _).1 (fun r => q ⟨Or.inr (Or.inl ⟨rfl, he⟩), r⟩), fun q => (ttail _ _).2 q.2⟩
    · rw [if_neg (show ¬ (3 : Int32) ≤ nI 1 by decide), if_neg (show ¬ nI 1 = 0 by decide), if_pos (show nI 1 = 1 from rfl)]
      by_cases he : e = 0
      · rw [if_pos he]
        exact ⟨fun q => (ttail _ _).1 (fun r => q ⟨Or.inr (Or.inr ⟨rfl, he⟩), r⟩), fun q => (ttail _ _).2 q.2⟩
      · rw [if_neg he]
        refine ⟨fun _ => rfl, fun q => ?_⟩
        rcases q.1 with r | r | r
        · exact absurd r (by decide)
        · exact absurd r.1 (by decide)
        · exact absurd r.2 he
    · rw [if_neg (show ¬ (3 : Int32) ≤ nI 2 by decide), if_neg (show ¬ nI 2 = 0 by decide), if_neg (show ¬ nI 2 = 1 by decide)]
      exact ⟨fun q => (ttail _ _).1 (fun r => q ⟨Or.inl rfl, r⟩), fun q => (ttail _ _).2 q.2⟩
theorem al_template {iv av : Nat → Nat → Int32} {v : Nat → Int32} {A : Nat → Nat → Int32} {W : Om} (hC : RelC iv av W) (hR : RelR v A W) (a b c d e : Int32) (he : e = 0 ∨ e = 1) : ∃ (f : Nat) (W' : Om), (fX8_template iv av a b c d e).1 = f ∧ (f = 0 ∨ f = 3 ∨ f = 1 ∨ f = 2) ∧ (fX9_template v A a b c d e).2.1 0 = (if f = 0 then 0 else if f = 3 then 1 else if f = 1 then 2 else 3) ∧ (f = 0 → (fX8_template iv av a b c d e).2.1 = (fX9_template v A a b c d e).1) ∧ RelC (fX8_template iv av a b c d e).2.2.1 (fX8_template iv av a b c d e).2.2.2 W' ∧ RelR (fX9_template v A a b c d e).2.1 (fX9_template v A a b c d e).2.2 W' := by
  have h12 := hC.1.2.1
  have te := bI_s he
  have bad : ∀ (f : Nat) (z : Int32), fX8_template iv av a b c d e = (f, 0, iv, av) → fX9_template v A a b c d e = (0, upd v 0 z, A) → ((f = 3 ∧ z = 1) ∨ (f = 1 ∧ z = 2) ∨ (f = 2 ∧ z = 3)) → ∃ (f : Nat) (W' : Om), (fX8_template iv av a b c d e).1 = f ∧ (f = 0 ∨ f = 3 ∨ f = 1 ∨ f = 2) ∧ (fX9_template v A a b c d e).2.1 0 = (if f = 0 then 0 else if f = 3 then 1 else if f = 1 then 2 else 3) ∧ (f = 0 → (fX8_template iv av a b c d e).2.1 = (fX9_template v A a b c d e).1) ∧ RelC (fX8_template iv av a b c d e).2.2.1 (fX8_template iv av a b c d e).2.2.2 W' ∧ RelR (fX9_template v A a b c d e).2.1 (fX9_template v A a b c d e).2.2 W' := by
    intro f z hx hy h
    rw [hx, hy]
    rcases h with ⟨rfl, rfl⟩ | ⟨rfl, rfl⟩ | ⟨rfl, rfl⟩
    · exact ⟨3, W, rfl, by decide, by simp [upd], fun q => absurd q (by decide), hC, hR.fault 1⟩
    · exact ⟨1, W, rfl, by decide, by simp [upd], fun q => absurd q (by decide), hC, hR.fault 2⟩
    · exact ⟨2, W, rfl, by decide, by simp [upd], fun q => absurd q (by decide), hC, hR.fault 3⟩
  rcases sn_is (a := a) hC.1.1 hR.1.1 h12 with ⟨i, hi, rfl, h1, h2⟩ | ⟨h1, h2⟩
  · have hcl : Int32.toNatClampNeg (nI i) = i := nI_clamp (by omega)
    obtain ⟨q, hq⟩ : ∃ q, W.1[i]? = some q := ⟨_, List.getElem?_eq_getElem hi⟩
    have eC := hC.1.2.2 i q hq
    have eR := hR.1.2.2 i q hq
    have t8 := tpl8 (iv := iv) (av := av) (b := b) (c := c) (d := d) (e := e) h1
    have t9 := tpl9 (A := A) (b := b) (c := c) (d := d) (e := e) h2 (by rw [hcl]; exact eR.1.1) eC.2.1
    rw [hcl] at t8 t9
    rw [eC.1.1] at t8
    by_cases hv : vT (nI q.1) b c d e
    · obtain ⟨c1, c2, c3, c4, c5, c6, c7, c8, c9, c10⟩ := eC.1
      obtain ⟨r1, r2, r3, r4, r5, r6, r7, r8⟩ := eR.1
      have hl6 := eC.2.2.2.2.2.2.2.2.2.1
      have t8 := t8.2 hv
      have t9 := t9.2 hv
      by_cases hf : q.2.2.2.2.1.length = 6
      · rw [if_neg (full_s c5 c6 (by omega) (by omega))] at t8
        rw [if_pos (by rw [r5, hf]; rfl)] at t9
        exact bad 2 3 t8 t9 (by decide)
      · have n6 : ¬ A 5 i = 6 := by rw [r5, show (6 : Int32) = nI 6 from rfl, nI_eq (by omega) (by decide)]; exact hf
        have ap := app_s (av := u1 av (61 + 6 * i + 3) (upd (av (61 + 6 * i + 3)) q.2.2.2.2.1.length e)) (x := b) (y := c) (z := d) c5 c6 (by omega) (by decide)
        have e6 : (6 : Int32) * nI i + nI q.2.2.2.2.1.length = nI (6 * i + q.2.2.2.2.1.length) := by rw [show (6 : Int32) * nI i = nI (6 * i) from pk_mul 6 i, nI_add]
        have hadd : fX5_addTemplate iv av (61 + 6 * i) b c d e = (nI (q.2.2.2.2.1.length + 1), u2 iv (61 + 6 * i + 1) 2 (nI (q.2.2.2.2.1.length + 1)), u1 (u1 av (61 + 6 * i + 3) (upd (av (61 + 6 * i + 3)) q.2.2.2.2.1.length e)) (61 + 6 * i + 1 + 1) (up3 (av (61 + 6 * i + 1 + 1)) q.2.2.2.2.1.length b c d)) := by
          unfold fX5_addTemplate
          rw [if_pos ap.1, c5, nI_clamp (by omega), ap.2, u1_k (j := 61 + 6 * i + 1 + 1) _ _ (by omega)]
        rw [if_pos ap.1, hadd] at t8
        rw [if_neg n6] at t9
        unfold tn9 at t9
        rw [hcl, r5, e6, nI_clamp (by omega), nI_1] at t9
        rw [t8, t9]
        dsimp only
        have ho : okQ (q.1, q.2.1, q.2.2.1, q.2.2.2.1, q.2.2.2.2.1 ++ [(b, c, d, decide (e = 1))], q.2.2.2.2.2) := by
          obtain ⟨o1, o2, o3, o4, o5, o6, o7, o8, o9, o10, o11, o12⟩ := eC.2
          have tr : ∀ t : Int32, tmS t (nI q.1) e → isNm t ∨ isV t ∨ (decide (e = 1) = true ∧ isNw t) := fun t h => by
            rcases h with h | h | h
            · exact Or.inl h
            · exact Or.inr (Or.inl h.2)
            · exact Or.inr (Or.inr ⟨by rcases he with r | r; exact absurd r h.1; simp [r], h.2⟩)
          have nk : ∀ j, j < 3 → (nI q.1 = nI j ↔ q.1 = j) := fun j hj => nI_eq (by omega) (by omega)
          refine ⟨o1, o2, o3, o4, o5, fun t ht => ?_, fun h0 t ht => ?_, fun h1 t ht => ?_, ?_, o10, o11, o12⟩
          · rcases List.mem_append.mp ht with r | r
            · exact o6 t r
            · rw [List.mem_singleton] at r
              subst r
              refine ⟨tr b hv.2.1, ?_, tr d hv.2.2.2⟩
              rcases hv.2.2.1 with h | h | h
              · exact Or.inl h
              · exact Or.inr h.2
              · exact absurd rfl h.1
          · rcases List.mem_append.mp ht with r | r
            · exact o7 h0 t r
            · rw [List.mem_singleton] at r
              subst r
              have h0 : q.1 = 0 := h0
              rcases hv.1 with h | h | h
              · exact absurd ((nk 2 (by decide)).mp h) (by omega)
              · rcases he with r | r
                · exact absurd r h.2
                · simp [r]
              · exact absurd ((nk 1 (by decide)).mp h.1) (by omega)
          · rcases List.mem_append.mp ht with r | r
            · exact o8 h1 t r
            · rw [List.mem_singleton] at r
              subst r
              have h1 : q.1 = 1 := h1
              rcases hv.1 with h | h | h
              · exact absurd ((nk 2 (by decide)).mp h) (by omega)
              · exact absurd ((nk 0 (by decide)).mp h.1) (by omega)
              · simp [h.2]
          · show (q.2.2.2.2.1 ++ [(b, c, d, decide (e = 1))]).length ≤ 6
            rw [List.length_append, List.length_singleton]; omega
        refine ⟨0, (W.1.set i (q.1, q.2.1, q.2.2.1, q.2.2.2.1, q.2.2.2.2.1 ++ [(b, c, d, decide (e = 1))], q.2.2.2.2.2), W.2), rfl, Or.inl rfl, by simp [upd], fun _ => by simp [upd], ?_, ?_⟩
        · refine RelC_set hC hi (fun k f hk => u2_k _ _ _ _ (by omega)) (fun k hk => (u1_k _ _ (by omega)).trans (u1_k _ _ (by omega))) ?_ ho
          refine ⟨(u2_k _ _ _ _ (by omega)).trans c1, (u2_k _ _ _ _ (by omega)).trans c2, (u2_k _ _ _ _ (by omega)).trans c3, (u2_k _ _ _ _ (by omega)).trans c4, ?_, (u2_f _ _ _ (by decide)).trans c6, fun j t ht => ?_, (u2_k _ _ _ _ (by omega)).trans c8, (u2_k _ _ _ _ (by omega)).trans c9, fun j t ht => ?_⟩
          · rw [u2_s]; show nI _ = nI (q.2.2.2.2.1 ++ [(b, c, d, decide (e = 1))]).length
            rw [List.length_append]; rfl
          · rw [u1_s, u1_k (j := 61 + 6 * i + 3) _ _ (by omega), u1_s]
            rcases get_end ht with ⟨hj, ht⟩ | ⟨rfl, rfl⟩
            · rw [up3_lo (by omega), up3_lo (by omega), up3_lo (by omega)]
              refine ⟨(c7 j t ht).1, (c7 j t ht).2.1, (c7 j t ht).2.2.1, ?_⟩
              unfold upd
              rw [if_neg (by omega)]
              exact (c7 j t ht).2.2.2
            · refine ⟨up3_0, up3_1, up3_2, ?_⟩
              unfold upd
              rw [if_pos rfl]
              exact te
          · rw [u1_k (j := 61 + 6 * i + 4 + 1) _ _ (by omega), u1_k (j := 61 + 6 * i + 4 + 1) _ _ (by omega)]; exact c10 j t ht
        · refine RelR_set hR hi (fun k hk => by simp [upd, hk]) (fun q hq => by simp [u1, show q ≠ 5 by omega, show q ≠ 6 by omega, show q ≠ 7 by omega, show q ≠ 8 by omega, show q ≠ 9 by omega]) (fun j q' hj hE hoq => ?_) (fun j hj => ⟨by simp [u1, upd, hj], by simp [u1], by simp [u1]⟩) ?_ ho
          · obtain ⟨d1, d2, d3, d4, d5, d6, d7, d8⟩ := hE
            have hl := hoq.2.2.2.2.2.2.2.2.1
            refine ⟨by simpa [u1] using d1, fun h => by simpa [u1] using d2 h, by simpa [u1] using d3, by simpa [u1] using d4, by simpa [u1, upd, hj] using d5, fun j' t h => ?_, by simpa [u1] using d7, fun j' t h => by simpa [u1] using d8 j' t h⟩
            have hlt := (List.getElem?_eq_some_iff.mp h).1
            have hne : ¬ 6 * j + j' = 6 * i + q.2.2.2.2.1.length := by omega
            simpa [u1, upd, hne] using d6 j' t h
          · refine ⟨by simpa [u1] using r1, fun h => by simpa [u1] using r2 h, by simpa [u1] using r3, by simpa [u1] using r4, by simp [u1, upd], fun j' t h => ?_, by simpa [u1] using r7, fun j t h => by simpa [u1] using r8 j t h⟩
            rcases get_end h with ⟨hj, ht⟩ | ⟨rfl, rfl⟩
            · have hne : ¬ j' = q.2.2.2.2.1.length := by omega
              simpa [u1, upd, hne] using r6 j' t ht
            · simpa [u1, upd] using te
    · exact bad 1 2 (t8.1 hv) (t9.1 hv) (by decide)
  · have e3 : ¬ fX8_stepNumbered iv a = 0 := by rw [h1]; decide
    exact bad 3 1 (by unfold fX8_template; rw [if_neg e3, h1]) (by unfold fX9_template; rw [if_pos h2]) (by decide)
end
section
set_option maxHeartbeats 1000000 in
set_option maxRecDepth 10000 in
theorem ctX9_atR {l : Launch} {D : va_G} {aC : Nat → ClassId} {b0 sz : Nat} {r : Nat} {v : Nat → Int32} {A : Nat → Nat → Int32} {R : ZM} {a_ : Int32} {b_ : Int32} {c_ : Int32} {n_ : Nat} (hs : v 20 = nI n_) (hn : n_ ≤ 120) (hO : ¬ fX9_isIn a_ 0 6 = 0 → ¬ b_ < 0 → b_ < (fX9_lineUp (upd v 0 1) A a_).1 47 → vp_in ((fX9_lineUp (upd v 0 1) A a_).2 37 (Int32.toNatClampNeg b_)) 120) : Ct l D aC b0 yX9_at cX9_at 4 (some .int) 2 0 0 [.ref (r), .int (a_), .int (b_), .int (c_)] (mm aC r v A R) sz (zd (some (.int (fX9_at v A a_ b_ c_).1)) (mm aC r (fX9_at v A a_ b_ c_).2.1 (fX9_at v A a_ b_ c_).2.2 R)) := by
  refine Ct.of (by decide) (Nat.le_of_ble_eq_true rfl) ?_
  intro p e s m below meth c ls C hr hlk hnm hl
  have hl : lv_has ls 4 [(0, .ref (r)), (1, .int (a_)), (2, .int (b_)), (3, .int (c_))] := hl
  obtain ⟨hx, hb, -, -, -⟩ := id C
  refine zz (fun _ _ => lv_aload_n hx hb dX9_at_0 rfl (lv_at hl 0 rfl)) ?_
  refine zz (fun _ _ => lv_iconst (v := 1) hx hb dX9_at_1 (by decide)) ?_
  refine z_put C fp_X9_129 (fun h => by cases h) rm_0 (Nat.le_of_ble_eq_true rfl) rfl rfl dX9_at_2 ?_
  refine zeq wm_f0 ?_
  refine zz (fun _ _ => lv_iload_n hx hb dX9_at_5 rfl (lv_at hl 1 rfl)) ?_
  refine zz (fun _ _ => lv_iconst (v := 0) hx hb dX9_at_6 (by decide)) ?_
  refine zz (fun _ _ => lv_bipush (v := 6) hx hb dX9_at_7 (by decide)) ?_
  refine zdS (As := [.int (a_), .int (0), .int (6)]) (rest := []) (st' := [.int ((fX9_isIn a_ 0 6))]) C hl.1 lk_X9_135 (ctX9_isIn ) rfl rfl (Nat.le_of_ble_eq_true rfl) ⟨by decide, by decide, by decide, by decide⟩ dX9_at_9 rfl (fun sz => ?_)
  refine zb (fun _ _ => lv_if_eq (tgt := 54) hx hb dX9_at_12 (by decide)) (fun c_1 => ?_) (fun c_1 => ?_)
  · refine zz (fun _ _ => lv_aload_n hx hb dX9_at_54 rfl (lv_at hl 0 rfl)) ?_
    refine z_get (v := .int (1)) C fd_X9_129 rm_0 rfl dX9_at_55 ?_
    refine zb (fun _ _ => lv_if_le (tgt := 63) hx hb dX9_at_58 (by decide)) (fun c_2 => ?_) (fun c_2 => ?_)
    · exact absurd c_2 (by decide)
    · refine zz (fun _ _ => lv_iconst (v := 0) hx hb dX9_at_61 (by decide)) ?_
      exact z_iret C hr hlk dX9_at_62 (by simp only [zd, fX9_at, if_pos c_1, and_self])
  · refine zz (fun _ _ => lv_aload_n hx hb dX9_at_15 rfl (lv_at hl 0 rfl)) ?_
    refine zz (fun _ _ => lv_iload_n hx hb dX9_at_16 rfl (lv_at hl 1 rfl)) ?_
    refine zdV (As := [.int (a_)]) (rest := []) (st' := []) C hl.1 lk_X9_187 (ctX9_lineUp hs hn) rm_0 rfl rfl rfl (Nat.le_of_ble_eq_true rfl) ⟨by decide, by decide, by decide, by decide⟩ dX9_at_17 rfl (fun sz => ?_)
    refine zz (fun _ _ => lv_aload_n hx hb dX9_at_20 rfl (lv_at hl 0 rfl)) ?_
    refine zz (fun _ _ => lv_iload_n hx hb dX9_at_21 rfl (lv_at hl 2 rfl)) ?_
    refine zb (fun _ _ => lv_if_lt (tgt := 33) hx hb dX9_at_22 (by decide)) (fun c_3 => ?_) (fun c_3 => ?_)
    · refine zz (fun _ _ => lv_iconst (v := 1) hx hb dX9_at_33 (by decide)) ?_
      refine zz (fun _ _ => lv_goto (tgt := 51) hx hb dX9_at_34 (by decide)) ?_
      refine z_put C fp_X9_129 (fun h => by cases h) rm_0 (Nat.le_of_ble_eq_true rfl) rfl rfl dX9_at_51 ?_
      refine zeq wm_f0 ?_
      refine zz (fun _ _ => lv_aload_n hx hb dX9_at_54 rfl (lv_at hl 0 rfl)) ?_
      refine z_get (v := .int (1)) C fd_X9_129 rm_0 rfl dX9_at_55 ?_
      refine zb (fun _ _ => lv_if_le (tgt := 63) hx hb dX9_at_58 (by decide)) (fun c_4 => ?_) (fun c_4 => ?_)
      · exact absurd c_4 (by decide)
      · refine zz (fun _ _ => lv_iconst (v := 0) hx hb dX9_at_61 (by decide)) ?_
        exact z_iret C hr hlk dX9_at_62 (by simp only [zd, fX9_at, if_neg c_1, if_pos c_3, and_self])
    · refine zz (fun _ _ => lv_iload_n hx hb dX9_at_25 rfl (lv_at hl 2 rfl)) ?_
      refine zz (fun _ _ => lv_aload_n hx hb dX9_at_26 rfl (lv_at hl 0 rfl)) ?_
      refine z_get (v := .int ((fX9_lineUp (upd v 0 1) A a_).1 47)) C fd_X9_174 rm_0 rfl dX9_at_27 ?_
      refine zb (fun _ _ => lv_icmp_lt (tgt := 37) hx hb dX9_at_30 (by decide)) (fun c_5 => ?_) (fun c_5 => ?_)
      · refine zz (fun _ _ => lv_iload_n hx hb dX9_at_37 rfl (lv_at hl 3 rfl)) ?_
        refine zz (fun _ _ => lv_iconst (v := 0) hx hb dX9_at_38 (by decide)) ?_
        refine zz (fun _ _ => lv_iconst (v := 2) hx hb dX9_at_39 (by decide)) ?_
        refine zdS (As := [.int (c_), .int (0), .int (2)]) (rest := [.ref (r)]) (st' := [.int ((fX9_isIn c_ 0 2)), .ref (r)]) C hl.1 lk_X9_135 (ctX9_isIn ) rfl rfl (Nat.le_of_ble_eq_true rfl) ⟨by decide, by decide, by decide, by decide⟩ dX9_at_40 rfl (fun sz => ?_)
        refine zbn (fun _ _ => lv_if_ne (tgt := 50) hx hb dX9_at_43 (by decide)) (fun c_6 => ?_) (fun c_6 => ?_)
        · refine zz (fun _ _ => lv_iconst (v := 0) hx hb dX9_at_50 (by decide)) ?_
          refine z_put C fp_X9_129 (fun h => by cases h) rm_0 (Nat.le_of_ble_eq_true rfl) rfl rfl dX9_at_51 ?_
          refine zeq wm_f0 ?_
          refine zz (fun _ _ => lv_aload_n hx hb dX9_at_54 rfl (lv_at hl 0 rfl)) ?_
          refine z_get (v := .int (0)) C fd_X9_129 rm_0 rfl dX9_at_55 ?_
          refine zb (fun _ _ => lv_if_le (tgt := 63) hx hb dX9_at_58 (by decide)) (fun c_7 => ?_) (fun c_7 => ?_)
          · refine zz (fun _ _ => lv_iload_n hx hb dX9_at_63 rfl (lv_at hl 3 rfl)) ?_
            refine zbn (fun _ _ => lv_if_ne (tgt := 81) hx hb dX9_at_64 (by decide)) (fun c_8 => ?_) (fun c_8 => ?_)
            · refine zz (fun _ _ => lv_iload_n hx hb dX9_at_81 rfl (lv_at hl 3 rfl)) ?_
              refine zz (fun _ _ => lv_iconst (v := 1) hx hb dX9_at_82 (by decide)) ?_
              refine zbn (fun _ _ => lv_icmp_ne (tgt := 100) hx hb dX9_at_83 (by decide)) (fun c_9 => ?_) (fun c_9 => ?_)
              · refine zz (fun _ _ => lv_aload_n hx hb dX9_at_100 rfl (lv_at hl 0 rfl)) ?_
                refine z_get (v := .ref (r + 22)) C fd_X9_74 rm_0 rfl dX9_at_101 ?_
                refine zz (fun _ _ => lv_aload_n hx hb dX9_at_104 rfl (lv_at hl 0 rfl)) ?_
                refine z_get (v := .ref (r + 37)) C fd_X9_123 rm_0 rfl dX9_at_105 ?_
                refine zz (fun _ _ => lv_iload_n hx hb dX9_at_108 rfl (lv_at hl 2 rfl)) ?_
                refine z_iald (f := (fX9_lineUp (upd v 0 1) A a_).2 37) C rm_37 (at_ix (v := upd v 0 1) (A := A) (a := a_) hs hn c_3 c_5) dX9_at_109 ?_
                refine z_iald (f := (fX9_lineUp (upd v 0 1) A a_).2 22) C rm_22 (hO c_1 c_3 c_5) dX9_at_110 ?_
                exact z_iret C hr hlk dX9_at_111 (by simp only [zd, fX9_at, if_neg c_1, if_neg c_3, if_pos c_5, if_neg c_6, if_neg c_8, if_neg c_9, and_self])
              · refine zz (fun _ _ => lv_aload_n hx hb dX9_at_86 rfl (lv_at hl 0 rfl)) ?_
                refine z_get (v := .ref (r + 21)) C fd_X9_71 rm_0 rfl dX9_at_87 ?_
                refine zz (fun _ _ => lv_aload_n hx hb dX9_at_90 rfl (lv_at hl 0 rfl)) ?_
                refine z_get (v := .ref (r + 37)) C fd_X9_123 rm_0 rfl dX9_at_91 ?_
                refine zz (fun _ _ => lv_iload_n hx hb dX9_at_94 rfl (lv_at hl 2 rfl)) ?_
                refine z_iald (f := (fX9_lineUp (upd v 0 1) A a_).2 37) C rm_37 (at_ix (v := upd v 0 1) (A := A) (a := a_) hs hn c_3 c_5) dX9_at_95 ?_
                refine z_iald (f := (fX9_lineUp (upd v 0 1) A a_).2 21) C rm_21 (hO c_1 c_3 c_5) dX9_at_96 ?_
                refine zz (fun _ _ => lv_goto (tgt := 111) hx hb dX9_at_97 (by decide)) ?_
                exact z_iret C hr hlk dX9_at_111 (by simp only [zd, fX9_at, if_neg c_1, if_neg c_3, if_pos c_5, if_neg c_6, if_neg c_8, if_pos c_9, and_self])
            · refine zz (fun _ _ => lv_aload_n hx hb dX9_at_67 rfl (lv_at hl 0 rfl)) ?_
              refine z_get (v := .ref (r + 20)) C fd_X9_68 rm_0 rfl dX9_at_68 ?_
              refine zz (fun _ _ => lv_aload_n hx hb dX9_at_71 rfl (lv_at hl 0 rfl)) ?_
              refine z_get (v := .ref (r + 37)) C fd_X9_123 rm_0 rfl dX9_at_72 ?_
              refine zz (fun _ _ => lv_iload_n hx hb dX9_at_75 rfl (lv_at hl 2 rfl)) ?_
              refine z_iald (f := (fX9_lineUp (upd v 0 1) A a_).2 37) C rm_37 (at_ix (v := upd v 0 1) (A := A) (a := a_) hs hn c_3 c_5) dX9_at_76 ?_
              refine z_iald (f := (fX9_lineUp (upd v 0 1) A a_).2 20) C rm_20 (hO c_1 c_3 c_5) dX9_at_77 ?_
              refine zz (fun _ _ => lv_goto (tgt := 111) hx hb dX9_at_78 (by decide)) ?_
              exact z_iret C hr hlk dX9_at_111 (by simp only [zd, fX9_at, if_neg c_1, if_neg c_3, if_pos c_5, if_neg c_6, if_pos c_8, and_self])
          · exact absurd (by decide) c_7
        · refine zz (fun _ _ => lv_iconst (v := 2) hx hb dX9_at_46 (by decide)) ?_
          refine zz (fun _ _ => lv_goto (tgt := 51) hx hb dX9_at_47 (by decide)) ?_
          refine z_put C fp_X9_129 (fun h => by cases h) rm_0 (Nat.le_of_ble_eq_true rfl) rfl rfl dX9_at_51 ?_
          refine zeq wm_f0 ?_
          refine zz (fun _ _ => lv_aload_n hx hb dX9_at_54 rfl (lv_at hl 0 rfl)) ?_
          refine z_get (v := .int (2)) C fd_X9_129 rm_0 rfl dX9_at_55 ?_
          refine zb (fun _ _ => lv_if_le (tgt := 63) hx hb dX9_at_58 (by decide)) (fun c_10 => ?_) (fun c_10 => ?_)
          · exact absurd c_10 (by decide)
          · refine zz (fun _ _ => lv_iconst (v := 0) hx hb dX9_at_61 (by decide)) ?_
            exact z_iret C hr hlk dX9_at_62 (by simp only [zd, fX9_at, if_neg c_1, if_neg c_3, if_pos c_5, if_pos c_6, and_self])
      · refine zz (fun _ _ => lv_iconst (v := 1) hx hb dX9_at_33 (by decide)) ?_
        refine zz (fun _ _ => lv_goto (tgt := 51) hx hb dX9_at_34 (by decide)) ?_
        refine z_put C fp_X9_129 (fun h => by cases h) rm_0 (Nat.le_of_ble_eq_true rfl) rfl rfl dX9_at_51 ?_
        refine zeq wm_f0 ?_
        refine zz (fun _ _ => lv_aload_n hx hb dX9_at_54 rfl (lv_at hl 0 rfl)) ?_
        refine z_get (v := .int (1)) C fd_X9_129 rm_0 rfl dX9_at_55 ?_
        refine zb (fun _ _ => lv_if_le (tgt := 63) hx hb dX9_at_58 (by decide)) (fun c_11 => ?_) (fun c_11 => ?_)
        · exact absurd c_11 (by decide)
        · refine zz (fun _ _ => lv_iconst (v := 0) hx hb dX9_at_61 (by decide)) ?_
          exact z_iret C hr hlk dX9_at_62 (by simp only [zd, fX9_at, if_neg c_1, if_neg c_3, if_neg c_5, and_self])
end
section
/-! file, torn, told, changed on both. -/
theorem fn_is {a : Int32} : (∃ i, i < 4 ∧ a = nI i ∧ fX8_fileNumbered a = 0 ∧ ¬ fX9_isIn a 0 3 = 0) ∨ (fX8_fileNumbered a = 3 ∧ fX9_isIn a 0 3 = 0) := by
  unfold fX8_fileNumbered fX9_isIn
  by_cases h : a < 0
  · exact Or.inr ⟨by rw [if_pos h], by rw [if_pos h]⟩
  · obtain ⟨i, hi, rfl⟩ := nI_of h
    by_cases h2 : i < 4
    · exact Or.inl ⟨i, h2, rfl, by rw [if_neg h, if_pos (show nI i < 4 from nI_lt (b := 4) h2 (by decide))], by rw [if_neg h, if_neg (show ¬ (3 : Int32) < nI i from nI_nlt (a := 3) (by omega) (by decide))]; decide⟩
    · exact Or.inr ⟨by rw [if_neg h, if_neg (show ¬ nI i < 4 from nI_nlt (b := 4) (by omega) hi)], by rw [if_neg h, if_pos (show (3 : Int32) < nI i from nI_lt (a := 3) (by omega) hi)]⟩
theorem RelC_files {iv av iv' av' : Nat → Nat → Int32} {W : Om} {TN : Nat → Bool} {FL : Nat → List Nat} (h : RelC iv av W) (hk : ∀ k f, k < 29 ∨ 40 < k → iv' k f = iv k f) (ha : ∀ k, k < 29 ∨ 40 < k → av' k = av k) (hF : FLc iv' av' TN FL) : RelC iv' av' (W.1, TN, FL, W.2.2.2) := by
  obtain ⟨h1, h2, h3, h4, h5, h6, h7, h8, h9⟩ := h
  refine ⟨⟨by rw [hk 0 5 (by omega)]; exact h1.1, h1.2.1, fun i q hq => ⟨(h1.2.2 i q hq).1.cells (fun f _ => hk _ f (by omega)) (fun f => hk _ f (by omega)) (fun f => hk _ f (by omega)) (ha _ (by omega)) (ha _ (by omega)) (ha _ (by omega)), (h1.2.2 i q hq).2⟩⟩, hF, ⟨h3.1, fun g hg => (h3.2.1 g hg).kept (hk _ _ (by omega)) (hk _ _ (by omega)) (ha _ (by omega)), by rw [hk 3 1 (by omega)]; exact h3.2.2⟩, ?_, h5, h6, by rw [hk 0 6 (by omega)]; exact h7, by rw [hk 0 7 (by omega)]; exact h8, fun j hj => ?_⟩
  · unfold CHc at h4 ⊢
    rw [hk 57 3 (by omega), ha 58 (by omega), ha 59 (by omega), ha 60 (by omega)]
    exact h4
  · rw [hk (61 + 6 * j + 1) 2 (by omega), hk (61 + 6 * j + 1) 1 (by omega), hk (61 + 6 * j + 4) 2 (by omega), hk (61 + 6 * j + 4) 1 (by omega), hk (61 + 6 * j) 6 (by omega)]
    exact h9 j hj
theorem RelR_files {v v' : Nat → Int32} {A A' : Nat → Nat → Int32} {W : Om} {TN : Nat → Bool} {FL : Nat → List Nat} (h : RelR v A W) (hv : ∀ k, k ≠ 0 → v' k = v k) (hA : ∀ q, q < 14 ∨ 18 < q → A' q = A q) (hF : FLr A' TN FL) : RelR v' A' (W.1, TN, FL, W.2.2.2) := by
  obtain ⟨h1, h2, h3, h4, h5, h6, h7, h8⟩ := h
  refine ⟨⟨by rw [hv 1 (by decide)]; exact h1.1, h1.2.1, fun i q hq => ⟨?_, (h1.2.2 i q hq).2⟩⟩, hF, RC_v h3 (hv 20 (by decide)) (hv 26 (by decide)) (fun q h _ => hA q (by omega)), by rw [hv 34 (by decide)]; exact h4, ?_, by rw [hv 42 (by decide)]; exact h6, by rw [hv 41 (by decide)]; exact h7, ?_⟩
  · have hE := (h1.2.2 i q hq).1
    unfold ER at hE ⊢
    rw [hA 1 (by omega), hA 2 (by omega), hA 3 (by omega), hA 4 (by omega), hA 5 (by omega), hA 6 (by omega), hA 7 (by omega), hA 8 (by omega), hA 9 (by omega), hA 10 (by omega), hA 11 (by omega), hA 12 (by omega), hA 13 (by omega)]
    exact hE
  · unfold chR at h5 ⊢
    rw [hA 29 (by omega), hA 30 (by omega), hA 31 (by omega), hA 32 (by omega), hA 33 (by omega)]
    exact h5
  · unfold MSR at h8 ⊢
    rw [hA 4 (by omega), hA 5 (by omega), hA 10 (by omega)]
    exact h8
theorem al_torn {iv av : Nat → Nat → Int32} {v : Nat → Int32} {A : Nat → Nat → Int32} {W : Om} (hC : RelC iv av W) (hR : RelR v A W) (a b : Int32) (hb : b = 0 ∨ b = 1) : ∃ (f : Nat) (W' : Om), (fX8_torn iv av a b).1 = f ∧ (f = 0 ∨ f = 3) ∧ (fX9_torn v A a b).2.1 0 = (if f = 0 then 0 else 1) ∧ (f = 0 → (fX8_torn iv av a b).2.1 = (fX9_torn v A a b).1) ∧ RelC (fX8_torn iv av a b).2.2.1 (fX8_torn iv av a b).2.2.2 W' ∧ RelR (fX9_torn v A a b).2.1 (fX9_torn v A a b).2.2 W' := by
  have tb := bI_s hb
  unfold fX8_torn fX9_torn
  rcases fn_is (a := a) with ⟨i, hi, rfl, h1, h2⟩ | ⟨h1, h2⟩
  · rw [if_pos h1, if_neg h2, nI_clamp (by omega)]
    dsimp only
    have fC := hC.2.1 i hi
    have fR := hR.2.1 i hi
    refine ⟨0, (W.1, fun f => if f = i then decide (b = 1) else W.2.1 f, W.2.2), rfl, Or.inl rfl, by simp [upd], fun _ => by rw [fC.2.2.2.1, fR.2.2.2.1], ?_, ?_⟩
    · refine RelC_files hC (fun k f hk => u2_k _ _ _ _ (by omega)) (fun _ _ => rfl) (fun f hf => ?_)
      have g := hC.2.1 f hf
      refine ⟨(u2_k _ _ _ _ (by omega)).trans g.1, g.2.1, (u2_k _ _ _ _ (by omega)).trans g.2.2.1, ?_, g.2.2.2.2.1, g.2.2.2.2.2⟩
      by_cases e : f = i
      · subst e; rw [u2_s, if_pos rfl]; exact tb
      · rw [u2_k _ _ _ _ (by omega), if_neg e]; exact g.2.2.2.1
    · refine RelR_files hR (fun k hk => by simp [upd, hk]) (fun q hq => u1_k _ _ (by omega)) (fun f hf => ?_)
      have g := hR.2.1 f hf
      refine ⟨(congrFun (u1_k _ _ (by decide)) f).trans g.1, g.2.1, ?_, ?_, g.2.2.2.2⟩
      · rw [u1_k _ _ (show 15 ≠ 18 by decide), u1_k _ _ (show 16 ≠ 18 by decide), u1_k _ _ (show 17 ≠ 18 by decide)]; exact g.2.2.1
      · rw [u1_s]
        unfold upd
        by_cases e : f = i
        · rw [if_pos e, if_pos e]; exact tb
        · rw [if_neg e, if_neg e]; exact g.2.2.2.1
  · have e3 : ¬ fX8_fileNumbered a = 0 := by rw [h1]; decide
    rw [if_neg e3, if_pos h2]
    exact ⟨3, W, h1, Or.inr rfl, by simp [upd], fun q => absurd q (by decide), hC, hR.fault 1⟩
theorem getD_lo {l : List Nat} {e j : Nat} (h : j < l.length) : (l ++ [e]).getD j 0 = l.getD j 0 := by
  simp [List.getD_eq_getElem?_getD, List.getElem?_append_left h]
theorem getD_hi {l : List Nat} {e : Nat} : (l ++ [e]).getD l.length 0 = e := by
  simp [List.getD_eq_getElem?_getD]
theorem al_file {iv av : Nat → Nat → Int32} {v : Nat → Int32} {A : Nat → Nat → Int32} {W : Om} (hC : RelC iv av W) (hR : RelR v A W) (a b c d : Int32) : ∃ (f : Nat) (W' : Om), (fX8_file iv av a b c d).1 = f ∧ (f = 0 ∨ f = 3 ∨ f = 1 ∨ f = 2) ∧ (fX9_file v A a b c d).2.1 0 = (if f = 0 then 0 else if f = 3 then 1 else if f = 1 then 2 else 3) ∧ (f = 0 → (fX8_file iv av a b c d).2.1 = (fX9_file v A a b c d).1) ∧ RelC (fX8_file iv av a b c d).2.2.1 (fX8_file iv av a b c d).2.2.2 W' ∧ RelR (fX9_file v A a b c d).2.1 (fX9_file v A a b c d).2.2 W' := by
  have bad : ∀ (x : Nat × Int32 × (Nat → Nat → Int32) × (Nat → Nat → Int32)) (y : Int32 × (Nat → Int32) × (Nat → Nat → Int32)) (f : Nat) (z : Int32), x = (f, 0, iv, av) → y = (0, upd v 0 z, A) → ((f = 3 ∧ z = 1) ∨ (f = 1 ∧ z = 2) ∨ (f = 2 ∧ z = 3)) → ∃ (f : Nat) (W' : Om), x.1 = f ∧ (f = 0 ∨ f = 3 ∨ f = 1 ∨ f = 2) ∧ y.2.1 0 = (if f = 0 then 0 else if f = 3 then 1 else if f = 1 then 2 else 3) ∧ (f = 0 → x.2.1 = y.1) ∧ RelC x.2.2.1 x.2.2.2 W' ∧ RelR y.2.1 y.2.2 W' := by
    intro x y f z hx hy h
    subst hx hy
    rcases h with ⟨rfl, rfl⟩ | ⟨rfl, rfl⟩ | ⟨rfl, rfl⟩
    · exact ⟨3, W, rfl, by decide, by simp [upd], fun q => absurd q (by decide), hC, hR.fault 1⟩
    · exact ⟨1, W, rfl, by decide, by simp [upd], fun q => absurd q (by decide), hC, hR.fault 2⟩
    · exact ⟨2, W, rfl, by decide, by simp [upd], fun q => absurd q (by decide), hC, hR.fault 3⟩
  unfold fX8_file fX9_file
  rcases fn_is (a := a) with ⟨i, hi, rfl, h1, h2⟩ | ⟨h1, h2⟩
  · rw [if_pos h1, if_neg h2, nI_clamp (by omega)]
    have key : ∀ t : Int32, fX8_isName t = 0 ↔ fX9_isName t = 0 := fun t => by rw [isName8, isNm9]
    by_cases tb : fX9_isName b = 0
    · rw [if_pos ((key b).mpr tb), if_pos tb]; exact bad _ _ 1 2 rfl rfl (by decide)
    · rw [if_neg (fun r => tb ((key b).mp r)), if_neg tb]
      by_cases tc : fX9_isName c = 0
      · rw [if_pos ((key c).mpr tc), if_pos tc]; exact bad _ _ 1 2 rfl rfl (by decide)
      · rw [if_neg (fun r => tc ((key c).mp r)), if_neg tc]
        by_cases td : fX9_isName d = 0
        · rw [if_pos ((key d).mpr td), if_pos td]; exact bad _ _ 1 2 rfl rfl (by decide)
        · rw [if_neg (fun r => td ((key d).mp r)), if_neg td]
          have g : ∀ t : Int32, ¬ fX9_isName t = 0 → ∃ j, j < 100 ∧ t = nI j := fun t ht => by
            have q : isNm t := Classical.not_not.mp (fun r => ht (isNm9.mpr r))
            have := nn_i q.1
            exact ⟨nn t, by have := q.2; omega, (nI_of_nn q.1).symm⟩
          obtain ⟨s, hs, rfl⟩ := g b tb
          obtain ⟨p, hp, rfl⟩ := g c tc
          obtain ⟨o, ho, rfl⟩ := g d td
          have fC := hC.2.1 i hi
          have fR := hR.2.1 i hi
          have hl := fC.2.1
          by_cases hf : (W.2.2.1 i).length = 10
          · have n4 : A 14 i = 10 := by rw [fR.1, hf]; rfl
            rw [if_neg (full_s fC.1 fC.2.2.1 (by omega) (by omega)), if_pos n4]; exact bad _ _ 2 3 rfl rfl (by decide)
          · have n4 : ¬ A 14 i = 10 := by rw [fR.1, show (10 : Int32) = nI 10 from rfl, nI_eq (by omega) (by decide)]; exact hf
            have ap := app_s (av := av) (x := nI s) (y := nI p) (z := nI o) fC.1 fC.2.2.1 (by omega) (by decide)
            have e4 : (10 : Int32) * nI i + nI (W.2.2.1 i).length = nI (10 * i + (W.2.2.1 i).length) := by rw [show (10 : Int32) * nI i = nI (10 * i) from pk_mul 10 i, nI_add]
            rw [if_pos ap.1, if_neg n4, ap.2, fR.1, e4, nI_clamp (by omega), nI_1]
            dsimp only
            have hok : okc (cd s p o) := okc_cd (by omega) (by omega) (by omega)
            have q0 : pt (cd s p o) 0 = s := pt_cd0 (by omega) (by omega)
            have q1 : pt (cd s p o) 1 = p := pt_cd1 (by omega) (by omega)
            have q2 : pt (cd s p o) 2 = o := pt_cd2 (by omega) (by omega)
            refine ⟨0, (W.1, W.2.1, fun f => if f = i then W.2.2.1 i ++ [cd s p o] else W.2.2.1 f, W.2.2.2), rfl, Or.inl rfl, by simp [upd], fun _ => by simp [upd], ?_, ?_⟩
            · refine RelC_files hC (fun k f hk => u2_k _ _ _ _ (by omega)) (fun k hk => u1_k _ _ (by omega)) (fun f hf' => ?_)
              by_cases e : f = i
              · subst e
                rw [if_pos rfl]
                refine ⟨?_, ?_, (u2_f _ _ _ (by decide)).trans fC.2.2.1, (u2_k _ _ _ _ (by omega)).trans fC.2.2.2.1, fun j hj => ?_, fun y hy => ?_⟩
                · rw [u2_s, List.length_append]; rfl
                · rw [List.length_append, List.length_singleton]; omega
                · rw [u1_s]
                  rw [List.length_append, List.length_singleton] at hj
                  by_cases ej : j = (W.2.2.1 f).length
                  · subst ej
                    rw [getD_hi, q0, q1, q2]
                    exact ⟨up3_0, up3_1, up3_2⟩
                  · have hj' : j < (W.2.2.1 f).length := by omega
                    rw [getD_lo hj', up3_lo (by omega), up3_lo (by omega), up3_lo (by omega)]
                    exact fC.2.2.2.2.1 j hj'
                · rcases List.mem_append.mp hy with r | r
                  · exact fC.2.2.2.2.2 y r
                  · rw [List.mem_singleton] at r; subst r; exact hok
              · have g := hC.2.1 f hf'
                rw [if_neg e]
                refine ⟨(u2_k _ _ _ _ (by omega)).trans g.1, g.2.1, (u2_k _ _ _ _ (by omega)).trans g.2.2.1, (u2_k _ _ _ _ (by omega)).trans g.2.2.2.1, ?_, g.2.2.2.2.2⟩
                rw [u1_k _ _ (show 29 + 3 * f + 1 + 1 ≠ 29 + 3 * i + 1 + 1 by omega)]
                exact g.2.2.2.2.1
            · refine RelR_files hR (fun k hk => by simp [upd, hk]) (fun q hq => by simp [u1, show q ≠ 14 by omega, show q ≠ 15 by omega, show q ≠ 16 by omega, show q ≠ 17 by omega]) (fun f hf' => ?_)
              by_cases e : f = i
              · subst e
                rw [if_pos rfl]
                refine ⟨?_, ?_, fun j hj => ?_, by simpa [u1] using fR.2.2.2.1, fun y hy => ?_⟩
                · simp [u1, upd]
                · rw [List.length_append, List.length_singleton]; omega
                · rw [List.length_append, List.length_singleton] at hj
                  by_cases ej : j = (W.2.2.1 f).length
                  · subst ej
                    rw [getD_hi, q0, q1, q2]
                    simp [u1, upd]
                  · have hj' : j < (W.2.2.1 f).length := by omega
                    rw [getD_lo hj']
                    simpa [u1, upd, ej] using fR.2.2.1 j hj'
                · rcases List.mem_append.mp hy with r | r
                  · exact fR.2.2.2.2 y r
                  · rw [List.mem_singleton] at r; subst r; exact hok
              · have g := hR.2.1 f hf'
                rw [if_neg e]
                refine ⟨by simpa [u1, upd, e] using g.1, g.2.1, fun j hj => ?_, by simpa [u1] using g.2.2.2.1, g.2.2.2.2⟩
                have g2 := g.2.1
                have hne : ¬ 10 * f + j = 10 * i + (W.2.2.1 i).length := by omega
                simpa [u1, upd, hne] using g.2.2.1 j hj
  · have e3 : ¬ fX8_fileNumbered a = 0 := by rw [h1]; decide
    rw [if_neg e3, if_pos h2]
    exact bad _ _ 3 1 (by rw [h1]) rfl (by decide)
theorem al_told {iv av : Nat → Nat → Int32} {v : Nat → Int32} {A : Nat → Nat → Int32} {W : Om} (hC : RelC iv av W) (hR : RelR v A W) (a : Int32) : ∃ f : Nat, (fX8_told iv a).1 = f ∧ (f = 0 ∨ f = 1) ∧ (fX9_told v A a).2.1 0 = (if f = 0 then 0 else 1) ∧ (f = 0 → (fX8_told iv a).2 = (fX9_told v A a).1) ∧ RelR (fX9_told v A a).2.1 (fX9_told v A a).2.2 W := by
  unfold fX8_told fX9_told
  by_cases h0 : a = 0
  · subst h0
    rw [if_pos rfl, if_neg (show ¬ fX9_isIn 0 0 4 = 0 by decide), if_pos rfl]
    exact ⟨0, rfl, Or.inl rfl, by simp [upd], fun _ => hC.1.1.trans hR.1.1.symm, hR.fault 0⟩
  by_cases h1 : a = 1
  · subst h1
    obtain ⟨ho, n, f, hL⟩ := hR.2.2.1
    rw [if_neg (show ¬ (1 : Int32) = 0 by decide), if_pos rfl, if_neg (show ¬ fX9_isIn 1 0 4 = 0 by decide), if_neg (show ¬ (1 : Int32) = 0 by decide), if_pos rfl]
    exact ⟨0, rfl, Or.inl rfl, by simp [upd], fun _ => by show fX6_factCount iv 3 = v 20; rw [factCount_s hC.2.2.1, hL.1, (RL_n hL ho).1], hR.fault 0⟩
  by_cases h2 : a = 2
  · subst h2
    obtain ⟨ho, n, f, hL⟩ := hR.2.2.1
    rw [if_neg (show ¬ (2 : Int32) = 0 by decide), if_neg (show ¬ (2 : Int32) = 1 by decide), if_pos rfl, if_neg (show ¬ fX9_isIn 2 0 4 = 0 by decide), if_neg (show ¬ (2 : Int32) = 0 by decide), if_neg (show ¬ (2 : Int32) = 1 by decide), if_pos rfl]
    exact ⟨0, rfl, Or.inl rfl, by simp [upd], fun _ => hC.2.2.1.2.2.trans hL.2.2.2.2.2.symm, hR.fault 0⟩
  by_cases h3 : a = 3
  · subst h3
    rw [if_neg (show ¬ (3 : Int32) = 0 by decide), if_neg (show ¬ (3 : Int32) = 1 by decide), if_neg (show ¬ (3 : Int32) = 2 by decide), if_pos rfl, if_neg (show ¬ fX9_isIn 3 0 4 = 0 by decide), if_neg (show ¬ (3 : Int32) = 0 by decide), if_neg (show ¬ (3 : Int32) = 1 by decide), if_neg (show ¬ (3 : Int32) = 2 by decide), if_pos rfl]
    exact ⟨0, rfl, Or.inl rfl, by simp [upd], fun _ => hC.2.2.2.1.1.trans hR.2.2.2.1.symm, hR.fault 0⟩
  by_cases h4 : a = 4
  · subst h4
    rw [if_neg (show ¬ (4 : Int32) = 0 by decide), if_neg (show ¬ (4 : Int32) = 1 by decide), if_neg (show ¬ (4 : Int32) = 2 by decide), if_neg (show ¬ (4 : Int32) = 3 by decide), if_pos rfl, if_neg (show ¬ fX9_isIn 4 0 4 = 0 by decide), if_neg (show ¬ (4 : Int32) = 0 by decide), if_neg (show ¬ (4 : Int32) = 1 by decide), if_neg (show ¬ (4 : Int32) = 2 by decide), if_neg (show ¬ (4 : Int32) = 3 by decide)]
    exact ⟨0, rfl, Or.inl rfl, by simp [upd], fun _ => hC.2.2.2.2.2.2.2.1.trans hR.2.2.2.2.2.2.1.symm, hR.fault 0⟩
  have hin : fX9_isIn a 0 4 = 0 := by
    rw [isIn_s]
    intro q
    have q1 : 0 ≤ a.toInt := q.1
    have q2 : a.toInt ≤ 4 := q.2
    have e : ∀ k : Int32, ∀ n : Int, k.toInt = n → ¬ a = k → ¬ a.toInt = n := fun k n hk h r => h (Int32.toInt_inj.mp (r.trans hk.symm))
    have := e 0 0 rfl h0
    have := e 1 1 rfl h1
    have := e 2 2 rfl h2
    have := e 3 3 rfl h3
    have := e 4 4 rfl h4
    omega
  rw [if_neg h0, if_neg h1, if_neg h2, if_neg h3, if_neg h4, if_pos hin]
  exact ⟨1, rfl, Or.inr rfl, by simp [upd], fun q => absurd q (by decide), hR.fault 1⟩
end
section
/-! changed, has, many, at on both. -/
theorem gn_is {a : Int32} : (∃ i, i < 7 ∧ a = nI i ∧ fX8_graphNumbered a = 0 ∧ ¬ fX9_isIn a 0 6 = 0) ∨ (fX8_graphNumbered a = 3 ∧ fX9_isIn a 0 6 = 0) := by
  unfold fX8_graphNumbered fX8_isGraph fX9_isIn
  by_cases h : a < 0
  · exact Or.inr ⟨by rw [if_pos h, if_pos rfl], by rw [if_pos h]⟩
  · obtain ⟨i, hi, rfl⟩ := nI_of h
    by_cases h2 : i < 7
    · exact Or.inl ⟨i, h2, rfl, by rw [if_neg h, if_neg (show ¬ (7 : Int32) ≤ nI i from nI_ge (b := 7) h2 (by decide)), if_neg (by decide)], by rw [if_neg h, if_neg (show ¬ (6 : Int32) < nI i from nI_nlt (a := 6) (by omega) (by decide))]; decide⟩
    · exact Or.inr ⟨by rw [if_neg h, if_pos (show (7 : Int32) ≤ nI i from nI_le (a := 7) (by omega) hi), if_pos rfl], by rw [if_neg h, if_pos (show (6 : Int32) < nI i from nI_lt (a := 6) (by omega) hi)]⟩
theorem ne_i {a k : Int32} {n : Int} (hk : k.toInt = n) (h : ¬ a = k) : ¬ a.toInt = n := fun r => h (Int32.toInt_inj.mp (r.trans hk.symm))
theorem al_changed {iv av : Nat → Nat → Int32} {v : Nat → Int32} {A : Nat → Nat → Int32} {W : Om} (hC : RelC iv av W) (hR : RelR v A W) (a b : Int32) : ∃ f : Nat, (fX8_changed iv av a b).1 = f ∧ (f = 0 ∨ f = 3 ∨ f = 1) ∧ (fX9_changed v A a b).2.1 0 = (if f = 0 then 0 else if f = 3 then 1 else 2) ∧ (f = 0 → (fX8_changed iv av a b).2 = (fX9_changed v A a b).1) ∧ RelR (fX9_changed v A a b).2.1 (fX9_changed v A a b).2.2 W := by
  have hl := hC.2.2.2.2.1
  have hcC := hC.2.2.2.1
  have hcR := hR.2.2.2.2.1
  have bad : ∀ (x : Nat × Int32) (y : Int32 × (Nat → Int32) × (Nat → Nat → Int32)) (f : Nat) (z : Int32), x = (f, 0) → y = (0, upd v 0 z, A) → ((f = 3 ∧ z = 1) ∨ (f = 1 ∧ z = 2)) → ∃ f : Nat, x.1 = f ∧ (f = 0 ∨ f = 3 ∨ f = 1) ∧ y.2.1 0 = (if f = 0 then 0 else if f = 3 then 1 else 2) ∧ (f = 0 → x.2 = y.1) ∧ RelR y.2.1 y.2.2 W := by
    intro x y f z hx hy h
    subst hx hy
    rcases h with ⟨rfl, rfl⟩ | ⟨rfl, rfl⟩
    · exact ⟨3, rfl, by decide, by simp [upd], fun q => absurd q (by decide), hR.fault 1⟩
    · exact ⟨1, rfl, by decide, by simp [upd], fun q => absurd q (by decide), hR.fault 2⟩
  have good : ∀ (x : Nat × Int32) (y : Int32 × (Nat → Int32) × (Nat → Nat → Int32)) (z w : Int32), x = (0, z) → y = (w, upd v 0 0, A) → z = w → ∃ f : Nat, x.1 = f ∧ (f = 0 ∨ f = 3 ∨ f = 1) ∧ y.2.1 0 = (if f = 0 then 0 else if f = 3 then 1 else 2) ∧ (f = 0 → x.2 = y.1) ∧ RelR y.2.1 y.2.2 W := by
    intro x y z w hx hy h
    subst hx hy
    exact ⟨0, rfl, by decide, by simp [upd], fun _ => h, hR.fault 0⟩
  unfold fX8_changed fX9_changed
  by_cases h : a < 0
  · rw [if_pos h, if_pos h]; exact bad _ _ 3 1 rfl rfl (by decide)
  rw [if_neg h, if_neg h]
  obtain ⟨i, hi, rfl⟩ := nI_of h
  rw [hcC.1, hR.2.2.2.1]
  by_cases hi2 : i < W.2.2.2.2.1.length
  · rw [if_pos (nI_lt hi2 (by omega)), if_pos (nI_lt hi2 (by omega)), nI_clamp hi]
    obtain ⟨y, hy⟩ : ∃ y, W.2.2.2.2.1[i]? = some y := ⟨_, List.getElem?_eq_getElem hi2⟩
    obtain ⟨g, c, t⟩ := y
    have cC := hcC.2 i g c t hy
    have cR := hcR i g c t hy
    have hok : okc c := (hC.2.2.2.2.2.1 _ (List.mem_of_getElem? hy)).2
    by_cases hb : fX9_isIn b 0 4 = 0
    · rw [if_pos hb]
      have hb2 := isIn_s.mp hb
      have hb2 : ¬ (0 ≤ b.toInt ∧ b.toInt ≤ 4) := hb2
      by_cases b0 : b < 0
      · rw [if_pos b0]; exact bad _ _ 1 2 rfl rfl (by decide)
      · have b4 : ¬ b ≤ 4 := fun r => by
          rw [Int32.lt_iff_toInt_lt] at b0
          rw [Int32.le_iff_toInt_le] at r
          have e0 : (0 : Int32).toInt = 0 := rfl
          have e4 : (4 : Int32).toInt = 4 := rfl
          omega
        rw [if_neg b0, if_neg b4]; exact bad _ _ 1 2 rfl rfl (by decide)
    · rw [if_neg hb]
      have hb2 : 0 ≤ b.toInt ∧ b.toInt ≤ 4 := in9.mp hb
      obtain ⟨k, hk, rfl⟩ : ∃ k, k < 5 ∧ b = nI k := ⟨nn b, by have := nn_i hb2.1; omega, (nI_of_nn hb2.1).symm⟩
      rw [if_neg (nI_pos (by omega)), if_pos (show nI k ≤ 4 from nI_le (b := 4) (by omega) (by decide))]
      rcases (show k = 0 ∨ k = 1 ∨ k = 2 ∨ k = 3 ∨ k = 4 by omega) with rfl | rfl | rfl | rfl | rfl
      · rw [if_pos (show nI 0 = 0 from rfl), if_pos (show nI 0 = 0 from rfl)]
        exact good _ _ _ _ rfl rfl (cC.1.trans cR.1.symm)
      · rw [if_neg (show ¬ nI 1 = 0 by decide), if_neg (show ¬ nI 1 = 4 by decide), if_neg (show ¬ nI 1 = 0 by decide), if_pos (show nI 1 = 1 from rfl), cC.2.1, show nI 1 - 1 = nI 0 by decide, partOf_s hok (by decide)]
        exact good _ _ _ _ rfl rfl cR.2.1.symm
      · rw [if_neg (show ¬ nI 2 = 0 by decide), if_neg (show ¬ nI 2 = 4 by decide), if_neg (show ¬ nI 2 = 0 by decide), if_neg (show ¬ nI 2 = 1 by decide), if_pos (show nI 2 = 2 from rfl), cC.2.1, show nI 2 - 1 = nI 1 by decide, partOf_s hok (by decide)]
        exact good _ _ _ _ rfl rfl cR.2.2.1.symm
      · rw [if_neg (show ¬ nI 3 = 0 by decide), if_neg (show ¬ nI 3 = 4 by decide), if_neg (show ¬ nI 3 = 0 by decide), if_neg (show ¬ nI 3 = 1 by decide), if_neg (show ¬ nI 3 = 2 by decide), if_pos (show nI 3 = 3 from rfl), cC.2.1, show nI 3 - 1 = nI 2 by decide, partOf_s hok (by decide)]
        exact good _ _ _ _ rfl rfl cR.2.2.2.1.symm
      · rw [if_neg (show ¬ nI 4 = 0 by decide), if_pos (show nI 4 = 4 from rfl), if_neg (show ¬ nI 4 = 0 by decide), if_neg (show ¬ nI 4 = 1 by decide), if_neg (show ¬ nI 4 = 2 by decide), if_neg (show ¬ nI 4 = 3 by decide), cC.2.2, cR.2.2.2.2]
        cases t
        · exact good _ _ 0 0 rfl rfl rfl
        · exact good _ _ 1 1 rfl rfl rfl
  · rw [if_neg (nI_nlt (by omega) hi), if_neg (nI_nlt (by omega) hi)]
    exact bad _ _ 3 1 rfl rfl (by decide)
theorem isPart8 {a : Int32} : fX8_isPart a = 0 ↔ ¬ (0 ≤ a.toInt ∧ a.toInt ≤ 255) := by
  have e0 : (0 : Int32).toInt = 0 := rfl
  have e1 : (255 : Int32).toInt = 255 := by decide
  unfold fX8_isPart
  split
  · rename_i h; rw [Int32.lt_iff_toInt_lt, e0] at h
    exact ⟨fun _ q => by omega, fun _ => rfl⟩
  · rename_i h; rw [Int32.lt_iff_toInt_lt, e0] at h
    split
    · rename_i h2; rw [Int32.lt_iff_toInt_lt, e1] at h2
      exact ⟨fun _ q => by omega, fun _ => rfl⟩
    · rename_i h2; rw [Int32.lt_iff_toInt_lt, e1] at h2
      exact ⟨fun q => absurd q (by decide), fun q => absurd ⟨by omega, by omega⟩ q⟩
/-- is the fact (b, c, d) in the graph i, by the rows of the reference -/
theorem find_all {v : Nat → Int32} {A : Nat → Nat → Int32} {S : St} (hR : RC v A S) {i : Nat} (hi : i < 7) (b c d : Int32) : (fX9_find v A (nI i) b c d < 0 ∧ ∀ q, S.1 i q = true → ¬ (b = nI (pt q 0) ∧ c = nI (pt q 1) ∧ d = nI (pt q 2))) ∨ (¬ fX9_find v A (nI i) b c d < 0 ∧ ∃ q, S.1 i q = true ∧ b = nI (pt q 0) ∧ c = nI (pt q 1) ∧ d = nI (pt q 2)) := by
  obtain ⟨ho, n, f, h⟩ := hR
  have hn := (RL_n h ho).2
  unfold fX9_find
  rw [h.1, nI_clamp (by omega)]
  rcases find_g A (nI i) b c d n (by omega) with ⟨e, hno⟩ | ⟨j, hj, e, a1, a2, a3, a4⟩
  · refine Or.inl ⟨by rw [e]; decide, fun q hq r => ?_⟩
    obtain ⟨k, hk, ek⟩ := (h.2.2.1 i q).mp hq
    have rk := h.2.2.2.1 k hk
    rw [ek] at rk
    exact hno k hk ⟨rk.1, rk.2.1.trans r.1.symm, rk.2.2.1.trans r.2.1.symm, rk.2.2.2.trans r.2.2.symm⟩
  · refine Or.inr ⟨by rw [e]; exact nI_pos (by omega), (f j).2, ?_, ?_⟩
    · have r1 := (h.2.2.2.1 j hj).1
      have o7 := (RL_ok h ho hj).1
      have e1 : (f j).1 = i := by rw [r1, nI_eq (by omega) (by omega)] at a1; exact a1
      exact (h.2.2.1 i _).mpr ⟨j, hj, by rw [← e1]⟩
    · have rj := h.2.2.2.1 j hj
      exact ⟨a2.symm.trans rj.2.1, a3.symm.trans rj.2.2.1, a4.symm.trans rj.2.2.2⟩
theorem al_has {iv av : Nat → Nat → Int32} {v : Nat → Int32} {A : Nat → Nat → Int32} {W : Om} (hC : RelC iv av W) (hR : RelR v A W) (a b c d : Int32) : ∃ f : Nat, (fX8_has iv av a b c d).1 = f ∧ (f = 0 ∨ f = 3) ∧ (fX9_has v A a b c d).2.1 0 = (if f = 0 then 0 else 1) ∧ (f = 0 → (fX8_has iv av a b c d).2 = (fX9_has v A a b c d).1) ∧ RelR (fX9_has v A a b c d).2.1 (fX9_has v A a b c d).2.2 W := by
  have hS := hC.2.2.1
  have hRC : RC (upd v 0 0) A W.2.2.2.1 := (hR.fault 0).2.2.1
  have good : ∀ (x : Nat × Int32) (y : Int32 × (Nat → Int32) × (Nat → Nat → Int32)) (z w : Int32), x = (0, z) → y = (w, upd v 0 0, A) → z = w → ∃ f : Nat, x.1 = f ∧ (f = 0 ∨ f = 3) ∧ y.2.1 0 = (if f = 0 then 0 else 1) ∧ (f = 0 → x.2 = y.1) ∧ RelR y.2.1 y.2.2 W := by
    intro x y z w hx hy h
    subst hx hy
    exact ⟨0, rfl, by decide, by simp [upd], fun _ => h, hR.fault 0⟩
  unfold fX8_has fX9_has
  rcases gn_is (a := a) with ⟨i, hi, rfl, h1, h2⟩ | ⟨h1, h2⟩
  · rw [if_pos h1, if_neg h2, nI_clamp (by omega)]
    have hle : (cds (W.2.2.2.1.1 i)).length ≤ 120 := Nat.le_trans (cds_le_card W.2.2.2.1.1 hi) hS.1.2.1
    have none : ∀ t : Int32, (∀ q, okc q → ¬ t = nI (pt q 0) ∧ ¬ t = nI (pt q 1) ∧ ¬ t = nI (pt q 2)) → (b = t ∨ c = t ∨ d = t) → fX9_find (upd v 0 0) A (nI i) b c d < 0 := by
      intro t ht hb
      rcases find_all hRC hi b c d with h | ⟨-, q, hq, e1, e2, e3⟩
      · exact h.1
      · have ok := (hS.1.1 _ _ hq).2
        rcases hb with r | r | r
        · exact absurd (r ▸ e1) (ht q ok).1
        · exact absurd (r ▸ e2) (ht q ok).2.1
        · exact absurd (r ▸ e3) (ht q ok).2.2
    have out : ∀ t : Int32, fX8_isPart t = 0 → ∀ q, okc q → ¬ t = nI (pt q 0) ∧ ¬ t = nI (pt q 1) ∧ ¬ t = nI (pt q 2) := by
      intro t ht q ok
      have n := isPart8.mp ht
      have e : ∀ k, ¬ t = nI (pt q k) := fun k r => by
        have := pt_lt ok k
        have e2 : (nI (pt q k)).toInt = (pt q k : Int) := nI_toInt (by omega)
        rw [r, e2] at n
        omega
      exact ⟨e 0, e 1, e 2⟩
    by_cases pb : fX8_isPart b = 0
    · rw [if_pos pb, if_pos (none b (out b pb) (Or.inl rfl))]; exact good _ _ 0 0 rfl rfl rfl
    by_cases pc : fX8_isPart c = 0
    · rw [if_neg pb, if_pos pc, if_pos (none c (out c pc) (Or.inr (Or.inl rfl)))]; exact good _ _ 0 0 rfl rfl rfl
    by_cases pd : fX8_isPart d = 0
    · rw [if_neg pb, if_neg pc, if_pos pd, if_pos (none d (out d pd) (Or.inr (Or.inr rfl)))]; exact good _ _ 0 0 rfl rfl rfl
    rw [if_neg pb, if_neg pc, if_neg pd]
    have g : ∀ t : Int32, ¬ fX8_isPart t = 0 → ∃ j, j < 256 ∧ t = nI j := fun t ht => by
      have q : 0 ≤ t.toInt ∧ t.toInt ≤ 255 := Classical.not_not.mp (fun r => ht (isPart8.mpr r))
      have := nn_i q.1
      exact ⟨nn t, by omega, (nI_of_nn q.1).symm⟩
    obtain ⟨s, hs, rfl⟩ := g b pb
    obtain ⟨p, hp, rfl⟩ := g c pc
    obtain ⟨o, ho, rfl⟩ := g d pd
    have hcd : cd s p o < 2 ^ 31 := by unfold cd; omega
    rw [show fX8_factOf (nI s) (nI p) (nI o) = nI (cd s p o) from factOf_c hs hp ho, holds_s (hS.2.1 i hi) (fun q hq => (hS.1.1 _ _ hq).2) hle hcd]
    rcases find_all hRC hi (nI s) (nI p) (nI o) with ⟨hf, hno⟩ | ⟨hf, q, hq, e1, e2, e3⟩
    · rw [if_pos hf]
      have hfalse : W.2.2.2.1.1 i (cd s p o) = false := by
        cases hv : W.2.2.2.1.1 i (cd s p o)
        · rfl
        · exact absurd ⟨by rw [pt_cd0 hp ho], by rw [pt_cd1 hp ho], by rw [pt_cd2 hp ho]⟩ (hno _ hv)
      rw [hfalse, if_pos (show tI false = 0 from rfl)]
      exact good _ _ 0 0 rfl rfl rfl
    · rw [if_neg hf]
      have ok := (hS.1.1 _ _ hq).2
      have l0 := pt_lt ok 0
      have l1 := pt_lt ok 1
      have l2 := pt_lt ok 2
      rw [nI_eq (by omega) (by omega)] at e1 e2 e3
      have eq : cd s p o = q := by rw [e1, e2, e3, cd_pt]
      rw [eq, hq, if_neg (show ¬ tI true = 0 by decide)]
      exact good _ _ 1 1 rfl rfl rfl
  · have e3 : ¬ fX8_graphNumbered a = 0 := by rw [h1]; decide
    rw [if_neg e3, if_pos h2]
    exact ⟨3, h1, Or.inr rfl, by simp [upd], fun q => absurd q (by decide), hR.fault 1⟩
theorem lu_rel {v v' : Nat → Int32} {A A' : Nat → Nat → Int32} {W : Om} {z : Int32} {g : Nat} (hR : RelR v A W) (h : luP (upd v 0 z) A W.2.2.2.1 g v' A') : RelR v' A' W :=
  hR.kept (fun k hk => (h.2.1 k (by omega)).trans (by simp [upd, show k ≠ 0 by omega])) (fun q hq => h.2.2.1 q (by omega))
theorem al_many {iv av : Nat → Nat → Int32} {v : Nat → Int32} {A : Nat → Nat → Int32} {W : Om} (hC : RelC iv av W) (hR : RelR v A W) (a : Int32) : ∃ f : Nat, (fX8_many iv a).1 = f ∧ (f = 0 ∨ f = 3) ∧ (fX9_many v A a).2.1 0 = (if f = 0 then 0 else 1) ∧ (f = 0 → (fX8_many iv a).2 = (fX9_many v A a).1) ∧ RelR (fX9_many v A a).2.1 (fX9_many v A a).2.2 W := by
  have hS := hC.2.2.1
  unfold fX8_many fX9_many
  rcases gn_is (a := a) with ⟨i, hi, rfl, h1, h2⟩ | ⟨h1, h2⟩
  · rw [if_pos h1, if_neg h2, nI_clamp (by omega)]
    have hG := hS.2.1 i hi
    have hT : A 23 i = tI (W.2.2.2.1.2.1 i) := by
      obtain ⟨ho, n, f, h⟩ := hR.2.2.1
      exact h.2.2.2.2.1 i hi
    rw [hG.2.1, hT]
    by_cases ht : tI (W.2.2.2.1.2.1 i) = 0
    · rw [if_pos ht, if_pos ht]
      exact ⟨0, rfl, Or.inl rfl, by simp [upd], fun _ => rfl, hR.fault 0⟩
    · rw [if_neg ht, if_neg ht]
      have hl := lineUp_p (g := i) (hR.fault 0).2.2.1 hi
      refine ⟨0, rfl, Or.inl rfl, ?_, fun _ => ?_, lu_rel hR hl⟩
      · exact (hl.2.1 0 (by decide)).trans (by simp [upd])
      · exact hG.1.trans hl.1.symm
  · have e3 : ¬ fX8_graphNumbered a = 0 := by rw [h1]; decide
    rw [if_neg e3, if_pos h2]
    exact ⟨3, h1, Or.inr rfl, by simp [upd], fun q => absurd q (by decide), hR.fault 1⟩
theorem al_at {iv av : Nat → Nat → Int32} {v : Nat → Int32} {A : Nat → Nat → Int32} {W : Om} (hC : RelC iv av W) (hR : RelR v A W) (a b c : Int32) : ∃ f : Nat, (fX8_at iv av a b c).1 = f ∧ (f = 0 ∨ f = 3 ∨ f = 1) ∧ (fX9_at v A a b c).2.1 0 = (if f = 0 then 0 else if f = 3 then 1 else 2) ∧ (f = 0 → (fX8_at iv av a b c).2 = (fX9_at v A a b c).1) ∧ RelR (fX9_at v A a b c).2.1 (fX9_at v A a b c).2.2 W := by
  have hS := hC.2.2.1
  unfold fX8_at fX9_at
  rcases gn_is (a := a) with ⟨i, hi, rfl, h1, h2⟩ | ⟨h1, h2⟩
  · rw [if_pos h1, if_neg h2, nI_clamp (show i < 2 ^ 31 by omega)]
    have hG := hS.2.1 i hi
    have hle : (cds (W.2.2.2.1.1 i)).length ≤ 120 := Nat.le_trans (cds_le_card W.2.2.2.1.1 hi) hS.1.2.1
    have hl := lineUp_p (g := i) (hR.fault 1).2.2.1 hi
    have hrel : RelR _ _ W := lu_rel hR hl
    revert hl hrel
    generalize (fX9_lineUp (upd v 0 1) A (nI i)).1 = v1
    generalize (fX9_lineUp (upd v 0 1) A (nI i)).2 = A1
    intro hl hrel
    rw [hG.1, hl.1]
    by_cases b0 : b < 0
    · rw [if_pos b0, if_pos b0]
      exact ⟨3, rfl, by decide, by simp [upd], fun q => absurd q (by decide), hrel.fault 1⟩
    rw [if_neg b0, if_neg b0]
    obtain ⟨j, hj, rfl⟩ := nI_of b0
    by_cases hj2 : j < (cds (W.2.2.2.1.1 i)).length
    · rw [if_pos (nI_lt hj2 (by omega)), if_pos (nI_lt hj2 (by omega)), nI_clamp hj]
      have hav := hG.2.2 j hj2
      obtain ⟨t, ht, e37, e20, e21, e22⟩ := hl.2.2.2 j hj2
      have hok : okc ((cds (W.2.2.2.1.1 i)).getD j 0) := (hS.1.1 i _ ((cds_mem (okP_g hS.1.1 i)).mp (getD_mem hj2))).2
      by_cases hc : fX9_isIn c 0 2 = 0
      · rw [if_pos hc]
        have hc2 : ¬ (0 ≤ c.toInt ∧ c.toInt ≤ 2) := isIn_s.mp hc
        by_cases c0 : c < 0
        · rw [if_pos c0]
          exact ⟨1, rfl, by decide, by simp [upd], fun q => absurd q (by decide), hrel.fault 2⟩
        · have c2 : ¬ c ≤ 2 := fun r => by
            rw [Int32.lt_iff_toInt_lt] at c0
            rw [Int32.le_iff_toInt_le] at r
            have e0 : (0 : Int32).toInt = 0 := rfl
            have e2 : (2 : Int32).toInt = 2 := rfl
            omega
          rw [if_neg c0, if_neg c2]
          exact ⟨1, rfl, by decide, by simp [upd], fun q => absurd q (by decide), hrel.fault 2⟩
      · rw [if_neg hc]
        have hc2 : 0 ≤ c.toInt ∧ c.toInt ≤ 2 := in9.mp hc
        obtain ⟨k, hk, rfl⟩ : ∃ k, k < 3 ∧ c = nI k := ⟨nn c, by have := nn_i hc2.1; omega, (nI_of_nn hc2.1).symm⟩
        rw [if_neg (nI_pos (by omega)), if_pos (show nI k ≤ 2 from nI_le (b := 2) (by omega) (by decide)), hav, partOf_s hok hk, e37, nI_clamp (by omega)]
        rcases (show k = 0 ∨ k = 1 ∨ k = 2 by omega) with rfl | rfl | rfl
        · rw [if_pos (show nI 0 = 0 from rfl)]
          exact ⟨0, rfl, by decide, by simp [upd], fun _ => e20.symm, hrel.fault 0⟩
        · rw [if_neg (show ¬ nI 1 = 0 by decide), if_pos (show nI 1 = 1 from rfl)]
          exact ⟨0, rfl, by decide, by simp [upd], fun _ => e21.symm, hrel.fault 0⟩
        · rw [if_neg (show ¬ nI 2 = 0 by decide), if_neg (show ¬ nI 2 = 1 by decide)]
          exact ⟨0, rfl, by decide, by simp [upd], fun _ => e22.symm, hrel.fault 0⟩
    · rw [if_neg (nI_nlt (by omega) hj), if_neg (nI_nlt (by omega) hj)]
      exact ⟨3, rfl, by decide, by simp [upd], fun q => absurd q (by decide), hrel.fault 1⟩
  · have e3 : ¬ fX8_graphNumbered a = 0 := by rw [h1]; decide
    rw [if_neg e3, if_pos h2]
    exact ⟨3, h1, by decide, by simp [upd], fun q => absurd q (by decide), hR.fault 1⟩
/-- the reference's at, over its store -/
theorem ctX9_atS {l : Launch} {D : va_G} {aC : Nat → ClassId} {b0 sz : Nat} {r : Nat} {v : Nat → Int32} {A : Nat → Nat → Int32} {R : ZM} {a b c : Int32} {S : St} (hR : RC v A S) : Ct l D aC b0 yX9_at cX9_at 4 (some .int) 2 0 0 [.ref (r), .int a, .int b, .int c] (mm aC r v A R) sz (zd (some (.int (fX9_at v A a b c).1)) (mm aC r (fX9_at v A a b c).2.1 (fX9_at v A a b c).2.2 R)) := by
  obtain ⟨n, hs, hn⟩ := RC_n hR
  refine ctX9_atR hs hn (fun c1 c3 c5 => ?_)
  rcases gn_is (a := a) with ⟨i, hi, rfl, h1, h2⟩ | ⟨h1, h2⟩
  · have hl := lineUp_p (g := i) (RC_v (v' := upd v 0 1) (A' := A) hR (by simp [upd]) (by simp [upd]) (fun _ _ _ => rfl)) hi
    obtain ⟨j, hj, rfl⟩ := nI_of c3
    rw [hl.1] at c5
    have hle : (cds (S.1 i)).length ≤ 120 := Nat.le_trans (cds_le_card S.1 hi) hR.1.2.1
    rw [nI_ltI hj (by omega)] at c5
    obtain ⟨t, ht, e37, -⟩ := hl.2.2.2 j c5
    rw [nI_clamp hj, e37]
    exact vp_in_nI ht (by decide)
  · exact absurd h2 c1
end
section
/-! run, solutions on both; new objects. -/
theorem EC.keptP {iv av iv' av' : Nat → Nat → Int32} {i : Nat} {q : Sq} (h : EC iv av i q) (h1 : ∀ k f, 60 < k → ¬ (61 ≤ k ∧ f = 7) → iv' k f = iv k f) (h2 : ∀ k, 60 < k → av' k = av k) : EC iv' av' i q := by
  unfold EC at h ⊢
  rw [h1 (61 + 6 * i) 3 (by omega) (by omega), h1 (61 + 6 * i) 4 (by omega) (by omega), h1 (61 + 6 * i) 5 (by omega) (by omega), h1 (61 + 6 * i) 6 (by omega) (by omega), h1 (61 + 6 * i + 1) 2 (by omega) (by omega), h1 (61 + 6 * i + 1) 1 (by omega) (by omega), h1 (61 + 6 * i + 4) 2 (by omega) (by omega), h1 (61 + 6 * i + 4) 1 (by omega) (by omega), h2 (61 + 6 * i + 1 + 1) (by omega), h2 (61 + 6 * i + 3) (by omega), h2 (61 + 6 * i + 4 + 1) (by omega)]
  exact h
theorem al_run {iv av iv' av' : Nat → Nat → Int32} {v v' : Nat → Int32} {A A' : Nat → Nat → Int32} {W : Om} {w w2 : Int32} (hC : RelC iv av W) (hR : RelR v A W) (h8 : rcP W.2.1 W.2.2.1 iv av W.2.2.2.1 W.1 w iv' av') (h9 : rnP W.2.1 W.2.2.1 v A W.2.2.2.1 W.1 w2 v' A') : w = w2 ∧ v' 0 = 0 ∧ ∃ W' : Om, RelC iv' av' W' ∧ RelR v' A' W' := by
  obtain ⟨a1, a2, a3, a4, a5⟩ := h8
  obtain ⟨b1, b2, b3, b4, b5⟩ := h9
  have qC : QC iv' av' W.1 := ⟨a1.trans hC.1.1, hC.1.2.1, fun i q hq => ⟨(hC.1.2.2 i q hq).1.keptP (fun k f h1 h2 => a2 k f (Or.inr h1) h2) (fun k h => a3 k (Or.inr h)), (hC.1.2.2 i q hq).2⟩⟩
  have fC : FLc iv' av' W.2.1 W.2.2.1 := by
    intro f hf
    rw [a2 (29 + 3 * f + 1) 2 (by omega) (by omega), a2 (29 + 3 * f + 1) 1 (by omega) (by omega), a2 (29 + 3 * f) 1 (by omega) (by omega), a3 (29 + 3 * f + 1 + 1) (by omega)]
    exact hC.2.1 f hf
  have mC : MST iv' := fun j hj => by
    rw [a2 (61 + 6 * j + 1) 2 (by omega) (by omega), a2 (61 + 6 * j + 1) 1 (by omega) (by omega), a2 (61 + 6 * j + 4) 2 (by omega) (by omega), a2 (61 + 6 * j + 4) 1 (by omega) (by omega), a2 (61 + 6 * j) 6 (by omega) (by omega)]
    exact hC.2.2.2.2.2.2.2.2 j hj
  have qR : QR v' A' W.1 := ⟨b2.trans hR.1.1, hR.1.2.1, fun i q hq => ⟨(hR.1.2.2 i q hq).1.kept b3, (hR.1.2.2 i q hq).2⟩⟩
  have fR : FLr A' W.2.1 W.2.2.1 := hR.2.1.kept b3
  have mR : MSR A' := by
    have := hR.2.2.2.2.2.2.2
    unfold MSR at this ⊢
    rw [b3 4 (by decide), b3 5 (by decide), b3 10 (by decide)]
    exact this
  cases hr : aRun W.2.1 W.2.2.1 W.1 0 W.2.2.2.1 0 with
  | inl a =>
    obtain ⟨i, rs⟩ := a
    have x := a4 i rs hr
    have y := b4 i rs hr
    refine ⟨x.1.trans y.1.symm, b1, (W.1, W.2.1, W.2.2.1, W.2.2.2.1, W.2.2.2.2.1, nI i, 0), ⟨qC, fC, x.2.2.2.1, ?_, hC.2.2.2.2.1, hC.2.2.2.2.2.1, x.2.1, x.2.2.1, mC⟩, ⟨qR, fR, y.2.2.2.1, y.2.2.2.2.1.trans hR.2.2.2.1, ?_, y.2.1, y.2.2.1, mR⟩⟩
    · have h4 := hC.2.2.2.1
      unfold CHc at h4 ⊢
      rw [x.2.2.2.2.1, x.2.2.2.2.2 58 (by decide) (by decide), x.2.2.2.2.2 59 (by decide) (by decide), x.2.2.2.2.2 60 (by decide) (by decide)]
      exact h4
    · have h5 := hR.2.2.2.2.1
      unfold chR at h5 ⊢
      rw [y.2.2.2.2.2 29 (by decide) (by decide), y.2.2.2.2.2 30 (by decide) (by decide), y.2.2.2.2.2 31 (by decide) (by decide), y.2.2.2.2.2 32 (by decide) (by decide), y.2.2.2.2.2 33 (by decide) (by decide)]
      exact h5
  | inr a =>
    obtain ⟨S', wk'⟩ := a
    obtain ⟨x1, x2, x3, L, x4, x5, x6, x7, x8⟩ := a5 S' wk' hr
    obtain ⟨y1, y2, y3, L2, y4, y5, y6, y7, y8, y9⟩ := b5 S' wk' hr
    have e := isCh_uniq x8 y9
    subst e
    exact ⟨x4.trans y4.symm, b1, (W.1, W.2.1, W.2.2.1, S', L, -1, nI wk'), ⟨qC, fC, x3, x5, x6, x7, x1, x2, mC⟩, ⟨qR, fR, y3, y5, y7, y1, y2, mR⟩⟩
theorem al_solutions {iv av : Nat → Nat → Int32} {v : Nat → Int32} {A : Nat → Nat → Int32} {W : Om} (hC : RelC iv av W) (hR : RelR v A W) (a : Int32) : ∃ f : Nat, (fX8_solutions iv a).1 = f ∧ (f = 0 ∨ f = 3) ∧ (fX9_solutions v A a).2.1 0 = (if f = 0 then 0 else 1) ∧ RelR (fX9_solutions v A a).2.1 (fX9_solutions v A a).2.2 W := by
  unfold fX8_solutions fX9_solutions
  rcases sn_is (a := a) hC.1.1 hR.1.1 hC.1.2.1 with ⟨i, hi, rfl, h1, h2⟩ | ⟨h1, h2⟩
  · rw [if_pos h1, if_neg h2]
    exact ⟨0, rfl, Or.inl rfl, by simp [upd], hR.fault 0⟩
  · have e3 : ¬ fX8_stepNumbered iv a = 0 := by rw [h1]; decide
    rw [if_neg e3, if_pos h2]
    exact ⟨3, h1, Or.inr rfl, by simp [upd], hR.fault 1⟩
/-! New objects. -/
def S0 : St := (fun _ _ => false, fun g => decide (g = 0), 0)
def W0 : Om := ([], fun _ => false, fun _ => [], S0, [], -1, 0)
theorem okS_0 : okS S0 := by
  have hp : okP S0.1 := fun g c h => by cases h
  refine ⟨hp, ?_, by decide, by decide, fun g c h => by cases h⟩
  have e : card S0.1 = 0 := by
    have := card_eq hp (L := []) (by simp) (fun x => by simp [S0])
    simpa using this.symm
  rw [e]; decide
theorem RelC_0 : RelC iv0 av0 W0 := by
  have c0 : (cds (S0.1 0)).length = 0 := by show (cds (fun _ => false)).length = 0; rw [cds_none]; rfl
  refine ⟨⟨iv0_05.trans nI_0.symm, by decide, fun i q hq => by simp [W0] at hq⟩, fun f hf => ⟨(iv0_R f hf).1, Nat.zero_le _, (iv0_R f hf).2, iv0_F f hf, fun j hj => absurd hj (Nat.not_lt_zero _), fun c hc => by simp [W0] at hc⟩, ⟨okS_0, fun g hg => ⟨?_, ?_, fun i hi => ?_⟩, iv0_31.trans nI_0.symm⟩, ⟨iv0_57.trans nI_0.symm, fun i g c b h => by simp [W0] at h⟩, by decide, fun y hy => by simp [W0] at hy, iv0_06, iv0_07, fun j hj => ⟨⟨0, by decide, (iv0_T j hj).1, (iv0_T j hj).2⟩, ⟨0, by decide, (iv0_P j hj).1, (iv0_P j hj).2⟩, iv0_S j hj⟩⟩
  · rw [iv0_sz g hg]; show (0 : Int32) = nI (cds (S0.1 0)).length; rw [c0, nI_0]
  · exact (show ∀ g, g < 7 → iv0 (4 + 1 + 2 * g) 2 = tI (decide (g = 0)) by decide +kernel) g hg
  · have hi : i < (cds (S0.1 0)).length := hi
    omega
theorem RelR_0 : RelR vM0 AM0 W0 := by
  refine ⟨⟨(vM0_0 (by decide)).trans nI_0.symm, by decide, fun i q hq => by simp [W0] at hq⟩, fun f hf => ⟨?_, Nat.zero_le _, fun j hj => absurd hj (Nat.not_lt_zero _), ?_, fun c hc => by simp [W0] at hc⟩, ⟨okS_0, 0, fun _ => (0, 0), (vM0_0 (by decide)).trans nI_0.symm, fun i j hi => absurd hi (Nat.not_lt_zero _), fun g c => ⟨fun h => (by cases h), fun ⟨i, hi, _⟩ => absurd hi (Nat.not_lt_zero _)⟩, fun i hi => absurd hi (Nat.not_lt_zero _), ?_, (vM0_0 (by decide)).trans nI_0.symm⟩, (vM0_0 (by decide)).trans nI_0.symm, fun i g c b h => by simp [W0] at h, ?_, vM0_0 (by decide), fun j hj => ⟨⟨0, by decide, ?_⟩, ⟨0, by decide, ?_⟩, Or.inl ?_⟩⟩
  · rw [AM0_0 (k := 14) (by decide) (by decide)]; exact nI_0.symm
  · rw [AM0_0 (k := 18) (by decide) (by decide)]; rfl
  · exact (show ∀ g, g < 7 → AM0 23 g = tI (decide (g = 0)) by decide +kernel)
  · simp [vM0, upd, W0]
  · rw [AM0_0 (k := 5) (by decide) (by decide)]; exact nI_0.symm
  · rw [AM0_0 (k := 10) (by decide) (by decide)]; exact nI_0.symm
  · rw [AM0_0 (k := 4) (by decide) (by decide)]
end
