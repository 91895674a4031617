set_option maxHeartbeats 2000000 in
set_option maxRecDepth 10000 in
theorem hX0_compare {l : Launch} {D : va_G} {aC : Nat → ClassId} {b0 sz : Nat} {x : Nat} {iv av : Nat → Nat → Int32} {R : ZM} {S0 S : St} (h0 : okS S0) (hB : GS iv av 41 S0) (hS : SC iv av S) : Ct l D aC b0 yX0_compare cX0_compare 4 none 2 0 0 [.ref (x + 57), .ref (x + 41), .ref (x + 3)] (cm aC x iv av R) sz (zpN (fun iv av => cm aC x iv av R) (cpP iv av S0.1 S.1)) := by
  refine Ct.of (by decide) (Nat.le_of_ble_eq_true rfl) ?_
  intro p e s m below meth c ls C hr hlk hnm hl
  have hl : lv_has ls 4 [(0, .ref (x + 57)), (1, .ref (x + 41)), (2, .ref (x + 3))] := hl
  obtain ⟨hx, hb, -, -, -⟩ := id C
  refine zz (fun _ _ => lv_aload_n hx hb dX0_compare_0 rfl (lv_at hl 0 rfl)) ?_
  refine zz (fun _ _ => lv_iconst (v := 0) hx hb dX0_compare_1 (by decide)) ?_
  refine z_put C fp_X0_21 (fun h => by cases h) (rd_16 (by decide)) (Nat.le_of_ble_eq_true rfl) rfl rfl dX0_compare_2 ?_
  refine zeq (wr_16_3 (by decide)) ?_
  refine zz (fun _ _ => lv_iconst (v := 0) hx hb dX0_compare_5 (by decide)) ?_
  refine zs (fun _ _ => lv_istore_n (lv' := [(3, .int (0)), (0, .ref (x + 57)), (1, .ref (x + 41)), (2, .ref (x + 3))]) hx hb dX0_compare_6 rfl hl (by decide) rfl) (fun ls hl => ?_)
  have hl0 := lv_sub hl [1, 2, 3, 0] rfl
  refine z_loop (γ := (Nat → Nat → Int32) × (Nat → Nat → Int32)) (G := fun a => cm aC x a.1 a.2 R) (I := fun j a => cpI iv av S0.1 S.1 j a.1 a.2) (lv := fun j a => [(0, .ref (x + 57)), (1, .ref (x + 41)), (2, .ref (x + 3)), (3, .int (nI (j)))]) (7) ?_ ?_ ((u2 iv 57 3 (0)), av) _ _ ⟨⟨fun k f hk => u2_k _ _ _ _ hk, fun _ _ => rfl⟩, [], cmJ_0, (by show u2 iv 57 3 0 57 3 = nI 0; rw [u2_s]; rfl), fun i _ _ _ h => by simp at h⟩ hl0
  · intro j1 a1 sz ls hj1 hI1 hl ih1
    obtain ⟨iv1, av1⟩ := a1
    dsimp only at hI1 hl ih1
    refine zeq (M' := (cm aC x iv1 av1 R)) rfl ?_
    obtain ⟨hf8, L8, hL8, hc8⟩ := id hI1
    have hl8 := cpN_le h0.2.1 hS.1.2.1 hj1
    refine zz (fun _ _ => lv_iload_n hx hb dX0_compare_7 rfl (lv_at hl 3 rfl)) ?_
    refine zz (fun _ _ => lv_bipush (v := 7) hx hb dX0_compare_8 (by decide)) ?_
    refine zval (v' := .int (nI 7)) (congrArg Value.int rfl) ?_
    refine zb (fun _ _ => lv_icmp_ge (tgt := 36) hx hb dX0_compare_10 (by decide)) (fun c_2 => ?_) (fun c_2 => ?_)
    · exact absurd c_2 (nI_ge (by omega) (by omega))
    · refine zz (fun _ _ => lv_aload_n hx hb dX0_compare_13 rfl (lv_at hl 0 rfl)) ?_
      refine zz (fun _ _ => lv_iload_n hx hb dX0_compare_14 rfl (lv_at hl 3 rfl)) ?_
      refine zz (fun _ _ => lv_aload_n hx hb dX0_compare_15 rfl (lv_at hl 1 rfl)) ?_
      refine z_get (v := .ref (x + 42)) C fd_X0_25 (rd_4 (by decide)) rfl dX0_compare_16 ?_
      refine zz (fun _ _ => lv_iload_n hx hb dX0_compare_19 rfl (lv_at hl 3 rfl)) ?_
      refine z_aald C 3 rfl (rd_5 (by decide)) (by first | assumption | (apply vp_in_nI <;> omega)) (v := .ref (x + (42 + 1 + 2 * j1))) (rf_if (f := fun q => x + (42 + 1 + 2 * q)) (n := 7) rfl hj1 (by decide)) dX0_compare_20 ?_
      refine zz (fun _ _ => lv_aload_n hx hb dX0_compare_21 rfl (lv_at hl 2 rfl)) ?_
      refine z_get (v := .ref (x + 4)) C fd_X0_25 (rd_4 (by decide)) rfl dX0_compare_22 ?_
      refine zz (fun _ _ => lv_iload_n hx hb dX0_compare_25 rfl (lv_at hl 3 rfl)) ?_
      refine z_aald C 3 rfl (rd_5 (by decide)) (by first | assumption | (apply vp_in_nI <;> omega)) (v := .ref (x + (4 + 1 + 2 * j1))) (rf_if (f := fun q => x + (4 + 1 + 2 * q)) (n := 7) rfl hj1 (by decide)) dX0_compare_26 ?_
      refine zqVN (As := [.int (nI (j1)), .ref (x + (42 + 1 + 2 * j1)), .ref (x + (4 + 1 + 2 * j1))]) (rest := []) C hl.1 lk_X0_31 (hX0_compareGraphs hj1 hc8 (by have := hL8.2.1; omega) (hf8.G (by omega) (hB.1 j1 hj1)) (hf8.G (by omega) (hS.2.1 j1 hj1)) (okP_g h0.1 _) (okP_g hS.1.1 _) (Nat.le_trans (cds_le_card S0.1 hj1) h0.2.1) (SC_len hS hj1)) (rd_16 (by decide)) rfl rfl rfl (Nat.le_of_ble_eq_true rfl) ⟨by decide, by decide, by decide, by decide⟩ dX0_compare_27 (fun iv3 av3 sz h3 => ?_)
      refine zeq (M' := (cm aC x iv3 av3 R)) rfl ?_
      refine zs (fun _ _ => lv_iinc (v := nI (j1) + 1) (lv' := [(3, .int (nI (j1) + 1)), (0, .ref (x + 57)), (1, .ref (x + 41)), (2, .ref (x + 3))]) hx hb dX0_compare_30 hl (k := 3) rfl rfl (by decide) rfl) (fun ls hl => ?_)
      refine zz (fun _ _ => lv_goto (tgt := 7) hx hb dX0_compare_33 (by decide)) ?_
      have hl := lv_sub hl [1, 2, 3, 0] rfl
      try simp only [nI_1] at hl
      exact ih1 (iv3, av3) _ _ (by obtain ⟨hf9, M9, hm9, hc9⟩ := h3; exact ⟨hf8.trans hf9, _, cmJ_next h0.1 hS.1.1 hL8 hm9, hc9⟩) hl
  · intro a1 sz ls hI1 hl
    obtain ⟨iv1, av1⟩ := a1
    dsimp only at hI1 hl
    refine zeq (M' := (cm aC x iv1 av1 R)) rfl ?_
    refine zz (fun _ _ => lv_iload_n hx hb dX0_compare_7 rfl (lv_at hl 3 rfl)) ?_
    refine zz (fun _ _ => lv_bipush (v := 7) hx hb dX0_compare_8 (by decide)) ?_
    refine zval (v' := .int (nI 7)) (congrArg Value.int rfl) ?_
    refine zb (fun _ _ => lv_icmp_ge (tgt := 36) hx hb dX0_compare_10 (by decide)) (fun c_4 => ?_) (fun c_4 => ?_)
    · exact z_vret C hr hlk dX0_compare_36 (zpN_mk (a := iv1) (b := av1) (cp_end h0 hS.1 hI1))
    · exact absurd (nI_le (Nat.le_refl _) (by omega)) c_4
set_option maxHeartbeats 2000000 in
set_option maxRecDepth 10000 in
theorem hX8_isPassedOver {l : Launch} {D : va_G} {aC : Nat → ClassId} {b0 sz : Nat} {x : Nat} {iv av : Nat → Nat → Int32} {R : ZM} {i a9 : Nat} {s9 : Bool} (hi : i < 12) (ha9 : a9 ≤ 5) (hsl : iv (61 + 6 * i) 6 = tI s9) : Ct l D aC b0 yX8_isPassedOver cX8_isPassedOver 2 (some .boolean) 0 0 0 [.ref (x + (61 + 6 * i)), .int (nI a9)] (cm aC x iv av R) sz (zpI (fun iv av => cm aC x iv av R) (saP iv av (tI (s9 && decide (a9 ≤ 3))))) := by
  refine Ct.of (by decide) (Nat.le_of_ble_eq_true rfl) ?_
  intro p e s m below meth c ls C hr hlk hnm hl
  have hl : lv_has ls 2 [(0, .ref (x + (61 + 6 * i))), (1, .int (nI a9))] := hl
  obtain ⟨hx, hb, -, -, -⟩ := id C
  refine zz (fun _ _ => lv_aload_n hx hb dX8_isPassedOver_0 rfl (lv_at hl 0 rfl)) ?_
  refine z_get (v := .int (iv (61 + 6 * i) 6)) C fd_X8_82 (rd_18 (ck_s hi)) rfl dX8_isPassedOver_1 ?_
  refine zval (v' := .int (tI s9)) (congrArg Value.int hsl) ?_
  refine zb (fun _ _ => lv_if_eq (tgt := 16) hx hb dX8_isPassedOver_4 (by decide)) (fun c_1 => ?_) (fun c_1 => ?_)
  · refine zz (fun _ _ => lv_iconst (v := 0) hx hb dX8_isPassedOver_16 (by decide)) ?_
    exact z_zret C hr rfl hlk dX8_isPassedOver_17 (zpI_mk (a := iv) (b := av) ⟨by rw [tI_0.mp c_1]; rfl, rfl, rfl⟩)
  · refine zz (fun _ _ => lv_iload_n hx hb dX8_isPassedOver_7 rfl (lv_at hl 1 rfl)) ?_
    refine zz (fun _ _ => lv_iconst (v := 3) hx hb dX8_isPassedOver_8 (by decide)) ?_
    refine zval (v' := .int (nI 3)) (congrArg Value.int rfl) ?_
    refine zb (fun _ _ => lv_icmp_gt (tgt := 16) hx hb dX8_isPassedOver_9 (by decide)) (fun c_2 => ?_) (fun c_2 => ?_)
    · refine zz (fun _ _ => lv_iconst (v := 0) hx hb dX8_isPassedOver_16 (by decide)) ?_
      exact z_zret C hr rfl hlk dX8_isPassedOver_17 (zpI_mk (a := iv) (b := av) ⟨by rw [tI_1.mp c_1]; simp [tI, show ¬ a9 ≤ 3 from Nat.not_le.mpr ((nI_ltI (by decide) (by omega)).mp c_2)], rfl, rfl⟩)
    · refine zz (fun _ _ => lv_iconst (v := 1) hx hb dX8_isPassedOver_12 (by decide)) ?_
      refine zz (fun _ _ => lv_goto (tgt := 17) hx hb dX8_isPassedOver_13 (by decide)) ?_
      exact z_zret C hr rfl hlk dX8_isPassedOver_17 (zpI_mk (a := iv) (b := av) ⟨by rw [tI_1.mp c_1]; simp [tI, show a9 ≤ 3 from Nat.le_of_not_lt (fun q => c_2 (nI_lt q (by omega)))], rfl, rfl⟩)
theorem GS_o {iv av : Nat → Nat → Int32} {S : St} {a b : Int32} (h : GS iv av 41 S) : GS (u2 (u2 iv 0 6 a) 0 7 b) av 41 S := ⟨fun g hg => (h.1 g hg).kept (by rw [u2_k _ _ _ _ (by omega), u2_k _ _ _ _ (by omega)]) (by rw [u2_k _ _ _ _ (by omega), u2_k _ _ _ _ (by omega)]) rfl, by rw [u2_k _ _ _ _ (by decide), u2_k _ _ _ _ (by decide)]; exact h.2⟩
theorem SC_o {iv av : Nat → Nat → Int32} {S : St} {a b : Int32} (h : SC iv av S) : SC (u2 (u2 iv 0 6 a) 0 7 b) av S := ⟨h.1, fun g hg => (h.2.1 g hg).kept (by rw [u2_k _ _ _ _ (by omega), u2_k _ _ _ _ (by omega)]) (by rw [u2_k _ _ _ _ (by omega), u2_k _ _ _ _ (by omega)]) rfl, by rw [u2_k _ _ _ _ (by decide), u2_k _ _ _ _ (by decide)]; exact h.2.2⟩
set_option maxHeartbeats 2000000 in
set_option maxRecDepth 10000 in
theorem hX8_run {l : Launch} {D : va_G} {aC : Nat → ClassId} {b0 sz : Nat} {x : Nat} {iv av : Nat → Nat → Int32} {R : ZM} {Q : List Sq} {S : St} {TN : Nat → Bool} {FL : Nat → List Nat} (hQ : QC iv av Q) (hFl : FLc iv av TN FL) (hS : SC iv av S) : Ct l D aC b0 yX8_run cX8_run 3 (some .int) 13 0 0 [.ref (x + 0)] (cm aC x iv av R) sz (zpI (fun iv av => cm aC x iv av R) (fun w' iv' av' => rcP TN FL iv av S Q w' iv' av')) := by
  refine Ct.of (by decide) (Nat.le_of_ble_eq_true rfl) ?_
  intro p e s m below meth c ls C hr hlk hnm hl
  have hl : lv_has ls 3 [(0, .ref (x + 0))] := hl
  obtain ⟨hx, hb, -, -, -⟩ := id C
  have hQl := hQ.2.1
  refine zz (fun _ _ => lv_aload_n hx hb dX8_run_0 rfl (lv_at hl 0 rfl)) ?_
  refine z_get (v := .ref (x + 41)) C fd_X8_30 (rd_1 (by decide)) rfl dX8_run_1 ?_
  refine zz (fun _ _ => lv_aload_n hx hb dX8_run_4 rfl (lv_at hl 0 rfl)) ?_
  refine z_get (v := .ref (x + 3)) C fd_X8_26 (rd_1 (by decide)) rfl dX8_run_5 ?_
  refine zqVN (As := [.ref (x + 3)]) (rest := []) C hl.1 lk_X8_151 (hX6_become (by decide) (by decide) (by decide) (fun g hg => SC_len hS hg) (SC_GS hS)) (rd_4 (by decide)) rfl rfl rfl (Nat.le_of_ble_eq_true rfl) ⟨by decide, by decide, by decide, by decide⟩ dX8_run_8 (fun iv1 av1 sz h1 => ?_)
  refine zeq (M' := (cm aC x iv1 av1 R)) rfl ?_
  refine zz (fun _ _ => lv_aload_n hx hb dX8_run_11 rfl (lv_at hl 0 rfl)) ?_
  refine z_get (v := .ref (x + 2)) C fd_X8_18 (rd_1 (by decide)) rfl dX8_run_12 ?_
  refine zz (fun _ _ => lv_iconst (v := 0) hx hb dX8_run_15 (by decide)) ?_
  refine z_put C fp_X8_155 (fun h => by cases h) (rd_3 (by decide)) (Nat.le_of_ble_eq_true rfl) rfl rfl dX8_run_16 ?_
  refine zeq (wr_3_4 (by decide)) ?_
  refine zz (fun _ _ => lv_iconst (v := 0) hx hb dX8_run_19 (by decide)) ?_
  refine zs (fun _ _ => lv_istore_n (lv' := [(1, .int (0)), (0, .ref (x + 0))]) hx hb dX8_run_20 rfl hl (by decide) rfl) (fun ls hl => ?_)
  have hl0 := lv_sub hl [1, 0] rfl
  refine z_loop (γ := (Nat → Nat → Int32) × (Nat → Nat → Int32)) (G := fun a => cm aC x a.1 a.2 R) (I := fun j a => rk0 iv av S a.1 a.2) (lv := fun j a => [(0, .ref (x + 0)), (1, .int (nI (j)))]) (Q.length) ?_ ?_ ((u2 iv1 2 4 (0)), av1) _ _ (rk0_0 hS h1) hl0
  · intro j2 a2 sz ls hj2 hI2 hl ih2
    obtain ⟨iv2, av2⟩ := a2
    dsimp only at hI2 hl ih2
    refine zeq (M' := (cm aC x iv2 av2 R)) rfl ?_
    refine zz (fun _ _ => lv_iload_n hx hb dX8_run_21 rfl (lv_at hl 1 rfl)) ?_
    refine zz (fun _ _ => lv_aload_n hx hb dX8_run_22 rfl (lv_at hl 0 rfl)) ?_
    refine z_get (v := .int (iv2 0 5)) C fd_X8_40 (rd_1 (by decide)) rfl dX8_run_23 ?_
    refine zval (v' := .int (nI Q.length)) (congrArg Value.int (hI2.1.1.trans hQ.1)) ?_
    refine zb (fun _ _ => lv_icmp_ge (tgt := 45) hx hb dX8_run_26 (by decide)) (fun c_3 => ?_) (fun c_3 => ?_)
    · exact absurd c_3 (nI_ge (by omega) (by omega))
    · refine zz (fun _ _ => lv_aload_n hx hb dX8_run_29 rfl (lv_at hl 0 rfl)) ?_
      refine z_get (v := .ref (x + 1)) C fd_X8_11 (rd_1 (by decide)) rfl dX8_run_30 ?_
      refine zz (fun _ _ => lv_iload_n hx hb dX8_run_33 rfl (lv_at hl 1 rfl)) ?_
      refine z_aald C 4 rfl (rd_2 (by decide)) (by first | assumption | (apply vp_in_nI <;> omega)) (v := .ref (x + (61 + 6 * j2))) (rf_if (f := fun q => x + (61 + 6 * q)) (n := 12) rfl (show j2 < 12 by omega) (by decide)) dX8_run_34 ?_
      refine zz (fun _ _ => lv_iconst (v := (-1)) hx hb dX8_run_35 (by decide)) ?_
      refine z_put C fp_X8_158 (fun h => by cases h) (rd_18 (kp_2 (show j2 < 12 by omega))) (Nat.le_of_ble_eq_true rfl) rfl rfl dX8_run_36 ?_
      refine zeq (wr_18_7 (kp_2 (show j2 < 12 by omega))) ?_
      refine zs (fun _ _ => lv_iinc (v := nI (j2) + 1) (lv' := [(1, .int (nI (j2) + 1)), (0, .ref (x + 0))]) hx hb dX8_run_39 hl (k := 1) rfl rfl (by decide) rfl) (fun ls hl => ?_)
      refine zz (fun _ _ => lv_goto (tgt := 21) hx hb dX8_run_42 (by decide)) ?_
      have hl := lv_sub hl [1, 0] rfl
      try simp only [nI_1] at hl
      exact ih2 ((u2 iv2 (61 + 6 * j2) 7 ((-1))), av2) _ _ (rk0_7 hI2) hl
  · intro a2 sz ls hI2 hl
    obtain ⟨iv2, av2⟩ := a2
    dsimp only at hI2 hl
    refine zeq (M' := (cm aC x iv2 av2 R)) rfl ?_
    refine zz (fun _ _ => lv_iload_n hx hb dX8_run_21 rfl (lv_at hl 1 rfl)) ?_
    refine zz (fun _ _ => lv_aload_n hx hb dX8_run_22 rfl (lv_at hl 0 rfl)) ?_
    refine z_get (v := .int (iv2 0 5)) C fd_X8_40 (rd_1 (by decide)) rfl dX8_run_23 ?_
    refine zval (v' := .int (nI Q.length)) (congrArg Value.int (hI2.1.1.trans hQ.1)) ?_
    refine zb (fun _ _ => lv_icmp_ge (tgt := 45) hx hb dX8_run_26 (by decide)) (fun c_4 => ?_) (fun c_4 => ?_)
    · refine zz (fun _ _ => lv_iconst (v := 0) hx hb dX8_run_45 (by decide)) ?_
      refine zs (fun _ _ => lv_istore_n (lv' := [(1, .int (0)), (0, .ref (x + 0))]) hx hb dX8_run_46 rfl hl (by decide) rfl) (fun ls hl => ?_)
      have hl0 := lv_sub hl [1, 0] rfl
      refine z_loop (γ := (Nat → Nat → Int32) × (Nat → Nat → Int32)) (G := fun a => cm aC x a.1 a.2 R) (I := fun j a => rk1 TN FL iv av S Q j a.1 a.2) (lv := fun j a => [(0, .ref (x + 0)), (1, .int (nI (j)))]) (Q.length) ?_ ?_ (iv2, av2) _ _ (rk1_0 hI2) hl0
      · intro j5 a5 sz ls hj5 hI5 hl ih5
        obtain ⟨iv5, av5⟩ := a5
        dsimp only at hI5 hl ih5
        refine zeq (M' := (cm aC x iv5 av5 R)) rfl ?_
        obtain ⟨hF8, hB8, S8, w8, e8, hS8, hw8⟩ := id hI5
        obtain ⟨q5, eq5⟩ : ∃ t, Q[j5]? = some t := ⟨_, List.getElem?_eq_getElem hj5⟩
        have hE5 := (hQ.2.2 j5 q5 eq5).1.keptR hF8
        have hq5 := (hQ.2.2 j5 q5 eq5).2
        refine zz (fun _ _ => lv_iload_n hx hb dX8_run_47 rfl (lv_at hl 1 rfl)) ?_
        refine zz (fun _ _ => lv_aload_n hx hb dX8_run_48 rfl (lv_at hl 0 rfl)) ?_
        refine z_get (v := .int (iv5 0 5)) C fd_X8_40 (rd_1 (by decide)) rfl dX8_run_49 ?_
        refine zval (v' := .int (nI Q.length)) (congrArg Value.int (hI5.1.1.trans hQ.1)) ?_
        refine zb (fun _ _ => lv_icmp_ge (tgt := 117) hx hb dX8_run_52 (by decide)) (fun c_6 => ?_) (fun c_6 => ?_)
        · exact absurd c_6 (nI_ge (by omega) (by omega))
        · refine zz (fun _ _ => lv_aload_n hx hb dX8_run_55 rfl (lv_at hl 0 rfl)) ?_
          refine z_get (v := .ref (x + 2)) C fd_X8_18 (rd_1 (by decide)) rfl dX8_run_56 ?_
          refine zz (fun _ _ => lv_aload_n hx hb dX8_run_59 rfl (lv_at hl 0 rfl)) ?_
          refine z_get (v := .ref (x + 1)) C fd_X8_11 (rd_1 (by decide)) rfl dX8_run_60 ?_
          refine zz (fun _ _ => lv_iload_n hx hb dX8_run_63 rfl (lv_at hl 1 rfl)) ?_
          refine z_aald C 4 rfl (rd_2 (by decide)) (by first | assumption | (apply vp_in_nI <;> omega)) (v := .ref (x + (61 + 6 * j5))) (rf_if (f := fun q => x + (61 + 6 * q)) (n := 12) rfl (show j5 < 12 by omega) (by decide)) dX8_run_64 ?_
          refine zqVI (As := [.ref (x + (61 + 6 * j5))]) (rest := []) C hl.1 lk_X8_161 (hX7_perform (by omega) hE5 hq5 (hFl.keptR hF8) hS8) (rd_3 (by decide)) rfl rfl rfl (Nat.le_of_ble_eq_true rfl) ⟨by decide, by decide, by decide, by decide⟩ dX8_run_65 (fun w7 iv7 av7 sz h7 => ?_)
          refine zeq (M' := (cm aC x iv7 av7 R)) rfl ?_
          have hle8 := aAct_le (TN := TN) (FL := FL) (q := q5) (S := S8)
          refine zval (v' := .int (nI (aAct TN FL q5 S8).1)) (congrArg Value.int h7.1) ?_
          refine zs (fun _ _ => lv_istore_n (lv' := [(2, .int (nI (aAct TN FL q5 S8).1)), (0, .ref (x + 0)), (1, .int (nI (j5)))]) hx hb dX8_run_68 rfl hl (by decide) rfl) (fun ls hl => ?_)
          refine zz (fun _ _ => lv_iload_n hx hb dX8_run_69 rfl (lv_at hl 0 rfl)) ?_
          refine zb (fun _ _ => lv_if_eq (tgt := 111) hx hb dX8_run_70 (by decide)) (fun c_8 => ?_) (fun c_8 => ?_)
          · refine zs (fun _ _ => lv_iinc (v := nI (j5) + 1) (lv' := [(1, .int (nI (j5) + 1)), (2, .int (nI (aAct TN FL q5 S8).1)), (0, .ref (x + 0))]) hx hb dX8_run_111 hl (k := 2) rfl rfl (by decide) rfl) (fun ls hl => ?_)
            refine zz (fun _ _ => lv_goto (tgt := 47) hx hb dX8_run_114 (by decide)) ?_
            have hl := lv_sub hl [2, 0] rfl
            try simp only [nI_1] at hl
            exact ih5 (iv7, av7) _ _ (rk1_next eq5 hF8 hB8 e8 hw8 h7 (Or.inl (nI_z (by omega) c_8))) hl
          · refine zz (fun _ _ => lv_aload_n hx hb dX8_run_73 rfl (lv_at hl 1 rfl)) ?_
            refine z_get (v := .ref (x + 1)) C fd_X8_11 (rd_1 (by decide)) rfl dX8_run_74 ?_
            refine zz (fun _ _ => lv_iload_n hx hb dX8_run_77 rfl (lv_at hl 2 rfl)) ?_
            refine z_aald C 4 rfl (rd_2 (by decide)) (by first | assumption | (apply vp_in_nI <;> omega)) (v := .ref (x + (61 + 6 * j5))) (rf_if (f := fun q => x + (61 + 6 * q)) (n := 12) rfl (show j5 < 12 by omega) (by decide)) dX8_run_78 ?_
            refine zz (fun _ _ => lv_iload_n hx hb dX8_run_79 rfl (lv_at hl 0 rfl)) ?_
            refine zdS (As := [.ref (x + (61 + 6 * j5)), .int (nI (aAct TN FL q5 S8).1)]) (rest := []) (st' := [.int (tI (q5.2.2.2.1 && decide ((aAct TN FL q5 S8).1 ≤ 3)))]) C hl.1 lk_X8_165 (Ct.ofS (hX8_isPassedOver (a9 := (aAct TN FL q5 S8).1) (s9 := q5.2.2.2.1) (by omega) hle8 ((h7.2.1.1 _ 6 (by omega) (by omega)).trans hE5.2.2.2.1))) rfl rfl (Nat.le_of_ble_eq_true rfl) ⟨by decide, by decide, by decide, by decide⟩ dX8_run_80 rfl (fun sz => ?_)
            refine zbn (fun _ _ => lv_if_ne (tgt := 111) hx hb dX8_run_83 (by decide)) (fun c_9 => ?_) (fun c_9 => ?_)
            · refine zs (fun _ _ => lv_iinc (v := nI (j5) + 1) (lv' := [(1, .int (nI (j5) + 1)), (2, .int (nI (aAct TN FL q5 S8).1)), (0, .ref (x + 0))]) hx hb dX8_run_111 hl (k := 2) rfl rfl (by decide) rfl) (fun ls hl => ?_)
              refine zz (fun _ _ => lv_goto (tgt := 47) hx hb dX8_run_114 (by decide)) ?_
              have hl := lv_sub hl [2, 0] rfl
              try simp only [nI_1] at hl
              exact ih5 (iv7, av7) _ _ (rk1_next eq5 hF8 hB8 e8 hw8 h7 (Or.inr (pov_y (tI_1.mp c_9)))) hl
            · refine zz (fun _ _ => lv_aload_n hx hb dX8_run_86 rfl (lv_at hl 1 rfl)) ?_
              refine z_get (v := .ref (x + 3)) C fd_X8_26 (rd_1 (by decide)) rfl dX8_run_87 ?_
              refine zz (fun _ _ => lv_aload_n hx hb dX8_run_90 rfl (lv_at hl 1 rfl)) ?_
              refine z_get (v := .ref (x + 41)) C fd_X8_30 (rd_1 (by decide)) rfl dX8_run_91 ?_
              refine zqVN (As := [.ref (x + 41)]) (rest := []) C hl.1 lk_X8_151 (hX6_become (by decide) (by decide) (by decide) (fun g hg => SC_len hS hg) (GS_K hB8 h7.2.1)) (rd_4 (by decide)) rfl rfl rfl (Nat.le_of_ble_eq_true rfl) ⟨by decide, by decide, by decide, by decide⟩ dX8_run_94 (fun iv10 av10 sz h10 => ?_)
              refine zeq (M' := (cm aC x iv10 av10 R)) rfl ?_
              refine zz (fun _ _ => lv_aload_n hx hb dX8_run_97 rfl (lv_at hl 1 rfl)) ?_
              refine zz (fun _ _ => lv_iload_n hx hb dX8_run_98 rfl (lv_at hl 2 rfl)) ?_
              refine z_put C fp_X8_44 (fun h => by cases h) (rd_1 (by decide)) (Nat.le_of_ble_eq_true rfl) rfl rfl dX8_run_99 ?_
              refine zeq (wr_1_6 (by decide)) ?_
              refine zz (fun _ _ => lv_aload_n hx hb dX8_run_102 rfl (lv_at hl 1 rfl)) ?_
              refine zz (fun _ _ => lv_iconst (v := 0) hx hb dX8_run_103 (by decide)) ?_
              refine z_put C fp_X8_47 (fun h => by cases h) (rd_1 (by decide)) (Nat.le_of_ble_eq_true rfl) rfl rfl dX8_run_104 ?_
              refine zeq (wr_1_7 (by decide)) ?_
              refine zz (fun _ _ => lv_iconst (v := (-1)) hx hb dX8_run_107 (by decide)) ?_
              refine zz (fun _ _ => lv_iload_n hx hb dX8_run_108 rfl (lv_at hl 0 rfl)) ?_
              refine zz (fun _ _ => lv_isub hx hb dX8_run_109) ?_
              exact z_iret C hr hlk dX8_run_110 (zpI_mk (a := (u2 (u2 iv10 0 6 (nI (j5))) 0 7 (0))) (b := av10) (by rw [← h7.1]; exact rk_fail hS.1 eq5 hF8 e8 h7 (pov_z (by rw [tI_0.mp c_9]; decide) (fun q => c_8 (by rw [q]; rfl))) h10))
      · intro a5 sz ls hI5 hl
        obtain ⟨iv5, av5⟩ := a5
        dsimp only at hI5 hl
        refine zeq (M' := (cm aC x iv5 av5 R)) rfl ?_
        obtain ⟨hF8, hB8, S8, w8, e8, hS8, hw8⟩ := id hI5
        refine zz (fun _ _ => lv_iload_n hx hb dX8_run_47 rfl (lv_at hl 1 rfl)) ?_
        refine zz (fun _ _ => lv_aload_n hx hb dX8_run_48 rfl (lv_at hl 0 rfl)) ?_
        refine z_get (v := .int (iv5 0 5)) C fd_X8_40 (rd_1 (by decide)) rfl dX8_run_49 ?_
        refine zval (v' := .int (nI Q.length)) (congrArg Value.int (hI5.1.1.trans hQ.1)) ?_
        refine zb (fun _ _ => lv_icmp_ge (tgt := 117) hx hb dX8_run_52 (by decide)) (fun c_11 => ?_) (fun c_11 => ?_)
        · refine zz (fun _ _ => lv_aload_n hx hb dX8_run_117 rfl (lv_at hl 0 rfl)) ?_
          refine zz (fun _ _ => lv_iconst (v := (-1)) hx hb dX8_run_118 (by decide)) ?_
          refine z_put C fp_X8_44 (fun h => by cases h) (rd_1 (by decide)) (Nat.le_of_ble_eq_true rfl) rfl rfl dX8_run_119 ?_
          refine zeq (wr_1_6 (by decide)) ?_
          refine zz (fun _ _ => lv_aload_n hx hb dX8_run_122 rfl (lv_at hl 0 rfl)) ?_
          refine zz (fun _ _ => lv_aload_n hx hb dX8_run_123 rfl (lv_at hl 0 rfl)) ?_
          refine z_get (v := .ref (x + 2)) C fd_X8_18 (rd_1 (by decide)) rfl dX8_run_124 ?_
          refine z_get (v := .int (iv5 2 4)) C fd_X8_155 (rd_3 (by decide)) (by simp [u2]) dX8_run_127 ?_
          refine z_put C fp_X8_47 (fun h => by cases h) (rd_1 (by decide)) (Nat.le_of_ble_eq_true rfl) rfl rfl dX8_run_130 ?_
          refine zeq (wr_1_7 (by decide)) ?_
          refine zz (fun _ _ => lv_aload_n hx hb dX8_run_133 rfl (lv_at hl 0 rfl)) ?_
          refine z_get (v := .ref (x + 57)) C fd_X8_36 (rd_1 (by decide)) rfl dX8_run_134 ?_
          refine zz (fun _ _ => lv_aload_n hx hb dX8_run_137 rfl (lv_at hl 0 rfl)) ?_
          refine z_get (v := .ref (x + 41)) C fd_X8_30 (rd_1 (by decide)) rfl dX8_run_138 ?_
          refine zz (fun _ _ => lv_aload_n hx hb dX8_run_141 rfl (lv_at hl 0 rfl)) ?_
          refine z_get (v := .ref (x + 3)) C fd_X8_26 (rd_1 (by decide)) rfl dX8_run_142 ?_
          refine zqVN (As := [.ref (x + 41), .ref (x + 3)]) (rest := []) C hl.1 lk_X8_169 (hX0_compare hS.1 (S := S8) (GS_o hB8) (SC_o hS8)) (rd_16 (by decide)) rfl rfl rfl (Nat.le_of_ble_eq_true rfl) ⟨by decide, by decide, by decide, by decide⟩ dX8_run_145 (fun iv12 av12 sz h12 => ?_)
          refine zeq (M' := (cm aC x iv12 av12 R)) rfl ?_
          refine zz (fun _ _ => lv_aload_n hx hb dX8_run_148 rfl (lv_at hl 0 rfl)) ?_
          refine z_get (v := .ref (x + 57)) C fd_X8_36 (rd_1 (by decide)) rfl dX8_run_149 ?_
          refine z_get (v := .int (iv12 57 3)) C fd_X8_173 (rd_16 (by decide)) rfl dX8_run_152 ?_
          exact z_iret C hr hlk dX8_run_155 (zpI_mk (a := iv12) (b := av12) (rk_end hF8 e8 hS8 hw8 h12))
        · exact absurd (nI_le (Nat.le_refl _) (by omega)) c_11
    · exact absurd (nI_le (Nat.le_refl _) (by omega)) c_4
