set_option maxHeartbeats 2000000 in
set_option maxRecDepth 10000 in
theorem hX7_makeGraph {l : Launch} {D : va_G} {aC : Nat → ClassId} {b0 sz : Nat} {x : Nat} {iv av : Nat → Nat → Int32} {R : ZM} {i t : Nat} {S : St} (hi : i < 12) (ht : t < 7) (hto : iv (61 + 6 * i) 5 = nI t) (hS : SC iv av S) : Ct l D aC b0 yX7_makeGraph cX7_makeGraph 3 (some .int) 0 0 0 [.ref (x + 2), .ref (x + (61 + 6 * i))] (cm aC x iv av R) sz (zpI (fun iv av => cm aC x iv av R) (fun w' iv' av' => AC iv av (aMake t S) w' iv' av')) := by
  refine Ct.of (by decide) (Nat.le_of_ble_eq_true rfl) ?_
  intro p e s m below meth c ls C hr hlk hnm hl
  have hl : lv_has ls 3 [(0, .ref (x + 2)), (1, .ref (x + (61 + 6 * i)))] := hl
  obtain ⟨hx, hb, -, -, -⟩ := id C
  refine zz (fun _ _ => lv_aload_n hx hb dX7_makeGraph_0 rfl (lv_at hl 0 rfl)) ?_
  refine z_get (v := .ref (x + 3)) C fd_X7_12 (rd_3 (by decide)) rfl dX7_makeGraph_1 ?_
  refine z_get (v := .ref (x + 4)) C fd_X7_68 (rd_4 (by decide)) rfl dX7_makeGraph_4 ?_
  refine zz (fun _ _ => lv_aload_n hx hb dX7_makeGraph_7 rfl (lv_at hl 1 rfl)) ?_
  refine z_get (v := .int (iv (61 + 6 * i) 5)) C fd_X7_61 (rd_18 (ck_s hi)) rfl dX7_makeGraph_8 ?_
  refine zval (v' := .int (nI t)) (congrArg Value.int hto) ?_
  refine z_aald C 3 rfl (rd_5 (by decide)) (by first | assumption | (apply vp_in_nI <;> omega)) (v := .ref (x + (4 + 1 + 2 * t))) (rf_if (f := fun q => x + (4 + 1 + 2 * q)) (n := 7) rfl ht (by decide)) dX7_makeGraph_11 ?_
  refine zs (fun _ _ => lv_astore_n (lv' := [(2, .ref (x + (4 + 1 + 2 * t))), (0, .ref (x + 2)), (1, .ref (x + (61 + 6 * i)))]) hx hb dX7_makeGraph_12 rfl hl (by decide) rfl) (fun ls hl => ?_)
  refine zz (fun _ _ => lv_aload_n hx hb dX7_makeGraph_13 rfl (lv_at hl 0 rfl)) ?_
  refine z_get (v := .int (iv (4 + 1 + 2 * t) 2)) C fd_X7_72 (rd_6 (kp_5 (by decide) ht)) rfl dX7_makeGraph_14 ?_
  refine zval (v' := .int (tI (S.2.1 t))) (congrArg Value.int (hS.2.1 t ht).2.1) ?_
  refine zb (fun _ _ => lv_if_eq (tgt := 22) hx hb dX7_makeGraph_17 (by decide)) (fun c_1 => ?_) (fun c_1 => ?_)
  · refine zz (fun _ _ => lv_aload_n hx hb dX7_makeGraph_22 rfl (lv_at hl 0 rfl)) ?_
    refine zz (fun _ _ => lv_iconst (v := 1) hx hb dX7_makeGraph_23 (by decide)) ?_
    refine z_put C fp_X7_72 (fun h => by cases h) (rd_6 (kp_5 (by decide) ht)) (Nat.le_of_ble_eq_true rfl) rfl rfl dX7_makeGraph_24 ?_
    refine zeq (wr_6_2 (kp_5 (by decide) ht)) ?_
    refine zz (fun _ _ => lv_iconst (v := 0) hx hb dX7_makeGraph_27 (by decide)) ?_
    exact z_iret C hr hlk dX7_makeGraph_28 (zpI_mk (a := (u2 iv (4 + 1 + 2 * t) 2 (1))) (b := av) (mkc_0 hS ht c_1))
  · refine zz (fun _ _ => lv_iconst (v := 1) hx hb dX7_makeGraph_20 (by decide)) ?_
    exact z_iret C hr hlk dX7_makeGraph_21 (zpI_mk (a := iv) (b := av) (mkc_1 hS c_1))
set_option maxHeartbeats 2000000 in
set_option maxRecDepth 10000 in
theorem hX7_readFile {l : Launch} {D : va_G} {aC : Nat → ClassId} {b0 sz : Nat} {x : Nat} {iv av : Nat → Nat → Int32} {R : ZM} {i f t : Nat} {S : St} {TN : Nat → Bool} {FL : Nat → List Nat} (hi : i < 12) (hf : f < 4) (ht : t < 7) (hfrom : iv (61 + 6 * i) 4 = nI f) (hto : iv (61 + 6 * i) 5 = nI t) (hF : FLc iv av TN FL) (hS : SC iv av S) : Ct l D aC b0 yX7_readFile cX7_readFile 5 (some .int) 3 0 0 [.ref (x + 2), .ref (x + (61 + 6 * i))] (cm aC x iv av R) sz (zpI (fun iv av => cm aC x iv av R) (fun w' iv' av' => AC iv av (aRead (TN f) (FL f) t S) w' iv' av')) := by
  refine Ct.of (by decide) (Nat.le_of_ble_eq_true rfl) ?_
  intro p e s m below meth c ls C hr hlk hnm hl
  have hl : lv_has ls 5 [(0, .ref (x + 2)), (1, .ref (x + (61 + 6 * i)))] := hl
  obtain ⟨hx, hb, -, -, -⟩ := id C
  have hlen := (hF f hf).2.1
  refine zz (fun _ _ => lv_aload_n hx hb dX7_readFile_0 rfl (lv_at hl 0 rfl)) ?_
  refine z_get (v := .ref (x + 19)) C fd_X7_20 (rd_3 (by decide)) rfl dX7_readFile_1 ?_
  refine zz (fun _ _ => lv_aload_n hx hb dX7_readFile_4 rfl (lv_at hl 1 rfl)) ?_
  refine z_get (v := .int (iv (61 + 6 * i) 4)) C fd_X7_85 (rd_18 (ck_s hi)) rfl dX7_readFile_5 ?_
  refine zval (v' := .int (nI f)) (congrArg Value.int hfrom) ?_
  refine z_aald C 2 rfl (rd_8 (by decide)) (by first | assumption | (apply vp_in_nI <;> omega)) (v := .ref (x + (29 + 3 * f))) (rf_if (f := fun q => x + (29 + 3 * q)) (n := 4) rfl hf (by decide)) dX7_readFile_8 ?_
  refine zs (fun _ _ => lv_astore_n (lv' := [(2, .ref (x + (29 + 3 * f))), (0, .ref (x + 2)), (1, .ref (x + (61 + 6 * i)))]) hx hb dX7_readFile_9 rfl hl (by decide) rfl) (fun ls hl => ?_)
  refine zz (fun _ _ => lv_aload_n hx hb dX7_readFile_10 rfl (lv_at hl 0 rfl)) ?_
  refine z_get (v := .int (iv (29 + 3 * f) 1)) C fd_X7_107 (rd_13 (kp_8 hf)) rfl dX7_readFile_11 ?_
  refine zval (v' := .int (tI (TN f))) (congrArg Value.int (hF f hf).2.2.2.1) ?_
  refine zb (fun _ _ => lv_if_eq (tgt := 19) hx hb dX7_readFile_14 (by decide)) (fun c_1 => ?_) (fun c_1 => ?_)
  · refine zz (fun _ _ => lv_aload_n hx hb dX7_readFile_19 rfl (lv_at hl 1 rfl)) ?_
    refine z_get (v := .ref (x + 3)) C fd_X7_12 (rd_3 (by decide)) rfl dX7_readFile_20 ?_
    refine z_get (v := .ref (x + 4)) C fd_X7_68 (rd_4 (by decide)) rfl dX7_readFile_23 ?_
    refine zz (fun _ _ => lv_aload_n hx hb dX7_readFile_26 rfl (lv_at hl 2 rfl)) ?_
    refine z_get (v := .int (iv (61 + 6 * i) 5)) C fd_X7_61 (rd_18 (ck_s hi)) rfl dX7_readFile_27 ?_
    refine zval (v' := .int (nI t)) (congrArg Value.int hto) ?_
    refine z_aald C 3 rfl (rd_5 (by decide)) (by first | assumption | (apply vp_in_nI <;> omega)) (v := .ref (x + (4 + 1 + 2 * t))) (rf_if (f := fun q => x + (4 + 1 + 2 * q)) (n := 7) rfl ht (by decide)) dX7_readFile_30 ?_
    refine zs (fun _ _ => lv_astore_n (lv' := [(3, .ref (x + (4 + 1 + 2 * t))), (2, .ref (x + (29 + 3 * f))), (0, .ref (x + 2)), (1, .ref (x + (61 + 6 * i)))]) hx hb dX7_readFile_31 rfl hl (by decide) rfl) (fun ls hl => ?_)
    refine zz (fun _ _ => lv_aload_n hx hb dX7_readFile_32 rfl (lv_at hl 0 rfl)) ?_
    refine zz (fun _ _ => lv_iconst (v := 1) hx hb dX7_readFile_33 (by decide)) ?_
    refine z_put C fp_X7_72 (fun h => by cases h) (rd_6 (kp_5 (by decide) ht)) (Nat.le_of_ble_eq_true rfl) rfl rfl dX7_readFile_34 ?_
    refine zeq (wr_6_2 (kp_5 (by decide) ht)) ?_
    refine zz (fun _ _ => lv_iconst (v := 0) hx hb dX7_readFile_37 (by decide)) ?_
    refine zs (fun _ _ => lv_istore (lv' := [(4, .int (0)), (3, .ref (x + (4 + 1 + 2 * t))), (2, .ref (x + (29 + 3 * f))), (0, .ref (x + 2)), (1, .ref (x + (61 + 6 * i)))]) hx hb dX7_readFile_38 hl (by decide) rfl) (fun ls hl => ?_)
    have hl0 := lv_sub hl [3, 4, 2, 1, 0] rfl
    refine z_loop (γ := (Nat → Nat → Int32) × (Nat → Nat → Int32)) (G := fun a => cm aC x a.1 a.2 R) (I := fun j a => piI iv av t ((FL f).take j) (S.1, tS S.2.1 t true, S.2.2) a.1 a.2) (lv := fun j a => [(0, .ref (x + 2)), (1, .ref (x + (61 + 6 * i))), (2, .ref (x + (29 + 3 * f))), (3, .ref (x + (4 + 1 + 2 * t))), (4, .int (nI (j)))]) ((FL f).length) ?_ ?_ ((u2 iv (4 + 1 + 2 * t) 2 (1)), av) _ _ ⟨FC_there ht, _, by rw [List.take_zero]; rfl, SC_there hS ht⟩ hl0
    · intro j2 a2 sz ls hj2 hI2 hl ih2
      obtain ⟨iv2, av2⟩ := a2
      dsimp only at hI2 hl ih2
      refine zeq (M' := (cm aC x iv2 av2 R)) rfl ?_
      have hF2 := hF.kept hI2.1.K
      obtain ⟨hf8, S8, e8, hS8⟩ := id hI2
      have hok8 := (hF f hf).2.2.2.2.2 _ (getD_mem hj2)
      refine zz (fun _ _ => lv_iload hx hb dX7_readFile_40 (lv_at hl 4 rfl)) ?_
      refine zz (fun _ _ => lv_aload_n hx hb dX7_readFile_42 rfl (lv_at hl 2 rfl)) ?_
      refine z_get (v := .ref (x + ((29 + 3 * f) + 1))) C fd_X7_110 (rd_13 (kp_8 hf)) rfl dX7_readFile_43 ?_
      refine z_get (v := .int (iv2 ((29 + 3 * f) + 1) 2)) C fd_X7_114 (rd_14 (nb_13_1 (kp_8 hf))) rfl dX7_readFile_46 ?_
      refine zval (v' := .int (nI (FL f).length)) (congrArg Value.int (hF2 f hf).1) ?_
      refine zb (fun _ _ => lv_icmp_ge (tgt := 101) hx hb dX7_readFile_49 (by decide)) (fun c_3 => ?_) (fun c_3 => ?_)
      · exact absurd c_3 (nI_ge (by omega) (by omega))
      · refine zz (fun _ _ => lv_aload_n hx hb dX7_readFile_52 rfl (lv_at hl 0 rfl)) ?_
        refine z_get (v := .ref (x + 3)) C fd_X7_12 (rd_3 (by decide)) rfl dX7_readFile_53 ?_
        refine zz (fun _ _ => lv_aload_n hx hb dX7_readFile_56 rfl (lv_at hl 3 rfl)) ?_
        refine zz (fun _ _ => lv_aload_n hx hb dX7_readFile_57 rfl (lv_at hl 2 rfl)) ?_
        refine z_get (v := .ref (x + ((29 + 3 * f) + 1))) C fd_X7_110 (rd_13 (kp_8 hf)) rfl dX7_readFile_58 ?_
        refine zz (fun _ _ => lv_iload hx hb dX7_readFile_61 (lv_at hl 4 rfl)) ?_
        refine zdV (As := [.int (nI (j2))]) (rest := [.ref (x + (4 + 1 + 2 * t)), .ref (x + 3)]) (st' := [.int ((fX3_subject av2 ((29 + 3 * f) + 1) (nI (j2)))), .ref (x + (4 + 1 + 2 * t)), .ref (x + 3)]) C hl.1 lk_X7_119 (ctX3_subject (j_0 := 0) (nb_13_1 (kp_8 hf)) rfl (by rw [tl_f hf]; omega)) (rd_14 (nb_13_1 (kp_8 hf))) rfl rfl rfl (Nat.le_of_ble_eq_true rfl) ⟨by decide, by decide, by decide, by decide⟩ dX7_readFile_63 rfl (fun sz => ?_)
        refine zval (v' := .int (nI (pt ((FL f).getD j2 0) 0))) (congrArg Value.int ((row_s (by omega)).1.trans ((hF2 f hf).2.2.2.2.1 j2 hj2).1)) ?_
        refine zz (fun _ _ => lv_aload_n hx hb dX7_readFile_66 rfl (lv_at hl 2 rfl)) ?_
        refine z_get (v := .ref (x + ((29 + 3 * f) + 1))) C fd_X7_110 (rd_13 (kp_8 hf)) rfl dX7_readFile_67 ?_
        refine zz (fun _ _ => lv_iload hx hb dX7_readFile_70 (lv_at hl 4 rfl)) ?_
        refine zdV (As := [.int (nI (j2))]) (rest := [.int (nI (pt ((FL f).getD j2 0) 0)), .ref (x + (4 + 1 + 2 * t)), .ref (x + 3)]) (st' := [.int ((fX3_property av2 ((29 + 3 * f) + 1) (nI (j2)))), .int (nI (pt ((FL f).getD j2 0) 0)), .ref (x + (4 + 1 + 2 * t)), .ref (x + 3)]) C hl.1 lk_X7_123 (ctX3_property (j_0 := 0) (nb_13_1 (kp_8 hf)) rfl (by rw [tl_f hf]; omega)) (rd_14 (nb_13_1 (kp_8 hf))) rfl rfl rfl (Nat.le_of_ble_eq_true rfl) ⟨by decide, by decide, by decide, by decide⟩ dX7_readFile_72 rfl (fun sz => ?_)
        refine zval (v' := .int (nI (pt ((FL f).getD j2 0) 1))) (congrArg Value.int ((row_s (by omega)).2.1.trans ((hF2 f hf).2.2.2.2.1 j2 hj2).2.1)) ?_
        refine zz (fun _ _ => lv_aload_n hx hb dX7_readFile_75 rfl (lv_at hl 2 rfl)) ?_
        refine z_get (v := .ref (x + ((29 + 3 * f) + 1))) C fd_X7_110 (rd_13 (kp_8 hf)) rfl dX7_readFile_76 ?_
        refine zz (fun _ _ => lv_iload hx hb dX7_readFile_79 (lv_at hl 4 rfl)) ?_
        refine zdV (As := [.int (nI (j2))]) (rest := [.int (nI (pt ((FL f).getD j2 0) 1)), .int (nI (pt ((FL f).getD j2 0) 0)), .ref (x + (4 + 1 + 2 * t)), .ref (x + 3)]) (st' := [.int ((fX3_object av2 ((29 + 3 * f) + 1) (nI (j2)))), .int (nI (pt ((FL f).getD j2 0) 1)), .int (nI (pt ((FL f).getD j2 0) 0)), .ref (x + (4 + 1 + 2 * t)), .ref (x + 3)]) C hl.1 lk_X7_126 (ctX3_object (j_0 := 0) (nb_13_1 (kp_8 hf)) rfl (by rw [tl_f hf]; omega)) (rd_14 (nb_13_1 (kp_8 hf))) rfl rfl rfl (Nat.le_of_ble_eq_true rfl) ⟨by decide, by decide, by decide, by decide⟩ dX7_readFile_81 rfl (fun sz => ?_)
        refine zval (v' := .int (nI (pt ((FL f).getD j2 0) 2))) (congrArg Value.int ((row_s (by omega)).2.2.trans ((hF2 f hf).2.2.2.2.1 j2 hj2).2.2)) ?_
        refine zdS (As := [.int (nI (pt ((FL f).getD j2 0) 0)), .int (nI (pt ((FL f).getD j2 0) 1)), .int (nI (pt ((FL f).getD j2 0) 2))]) (rest := [.ref (x + (4 + 1 + 2 * t)), .ref (x + 3)]) (st' := [.int ((fX8_factOf (nI (pt ((FL f).getD j2 0) 0)) (nI (pt ((FL f).getD j2 0) 1)) (nI (pt ((FL f).getD j2 0) 2)))), .ref (x + (4 + 1 + 2 * t)), .ref (x + 3)]) C hl.1 lk_X7_129 (ctX8_factOf ) rfl rfl (Nat.le_of_ble_eq_true rfl) ⟨by decide, by decide, by decide, by decide⟩ dX7_readFile_84 rfl (fun sz => ?_)
        refine zval (v' := .int (nI ((FL f).getD j2 0))) (congrArg Value.int (factOf_s hok8)) ?_
        refine zqVI (As := [.ref (x + (4 + 1 + 2 * t)), .int (nI ((FL f).getD j2 0))]) (rest := []) C hl.1 lk_X7_103 (hX6_put ht hS8 hok8) (rd_4 (by decide)) rfl rfl rfl (Nat.le_of_ble_eq_true rfl) ⟨by decide, by decide, by decide, by decide⟩ dX7_readFile_87 (fun w4 iv4 av4 sz h4 => ?_)
        refine zeq (M' := (cm aC x iv4 av4 R)) rfl ?_
        refine zbn (fun _ _ => lv_if_ne (tgt := 95) hx hb dX7_readFile_90 (by decide)) (fun c_5 => ?_) (fun c_5 => ?_)
        · refine zs (fun _ _ => lv_iinc (v := nI (j2) + 1) (lv' := [(4, .int (nI (j2) + 1)), (0, .ref (x + 2)), (1, .ref (x + (61 + 6 * i))), (2, .ref (x + (29 + 3 * f))), (3, .ref (x + (4 + 1 + 2 * t)))]) hx hb dX7_readFile_95 hl (k := 4) rfl rfl (by decide) rfl) (fun ls hl => ?_)
          refine zz (fun _ _ => lv_goto (tgt := 40) hx hb dX7_readFile_98 (by decide)) ?_
          have hl := lv_sub hl [1, 2, 3, 4, 0] rfl
          try simp only [nI_1] at hl
          exact ih2 (iv4, av4) _ _ (pi_next hj2 hf8 e8 h4 c_5) hl
        · refine zz (fun _ _ => lv_iconst (v := 4) hx hb dX7_readFile_93 (by decide)) ?_
          exact z_iret C hr hlk dX7_readFile_94 (zpI_mk (a := iv4) (b := av4) (rdc_4 c_1 (hf8.trans h4.1) (pi_no hj2 e8 h4 c_5)))
    · intro a2 sz ls hI2 hl
      obtain ⟨iv2, av2⟩ := a2
      dsimp only at hI2 hl
      refine zeq (M' := (cm aC x iv2 av2 R)) rfl ?_
      have hF2 := hF.kept hI2.1.K
      refine zz (fun _ _ => lv_iload hx hb dX7_readFile_40 (lv_at hl 4 rfl)) ?_
      refine zz (fun _ _ => lv_aload_n hx hb dX7_readFile_42 rfl (lv_at hl 2 rfl)) ?_
      refine z_get (v := .ref (x + ((29 + 3 * f) + 1))) C fd_X7_110 (rd_13 (kp_8 hf)) rfl dX7_readFile_43 ?_
      refine z_get (v := .int (iv2 ((29 + 3 * f) + 1) 2)) C fd_X7_114 (rd_14 (nb_13_1 (kp_8 hf))) rfl dX7_readFile_46 ?_
      refine zval (v' := .int (nI (FL f).length)) (congrArg Value.int (hF2 f hf).1) ?_
      refine zb (fun _ _ => lv_icmp_ge (tgt := 101) hx hb dX7_readFile_49 (by decide)) (fun c_6 => ?_) (fun c_6 => ?_)
      · refine zz (fun _ _ => lv_iconst (v := 0) hx hb dX7_readFile_101 (by decide)) ?_
        exact z_iret C hr hlk dX7_readFile_102 (zpI_mk (a := iv2) (b := av2) (rdc_0 c_1 hI2))
      · exact absurd (nI_le (Nat.le_refl _) (by omega)) c_6
  · refine zz (fun _ _ => lv_iconst (v := 3) hx hb dX7_readFile_17 (by decide)) ?_
    exact z_iret C hr hlk dX7_readFile_18 (zpI_mk (a := iv) (b := av) (rdc_3 hS c_1))
set_option maxHeartbeats 2000000 in
set_option maxRecDepth 10000 in
theorem hX7_addGraph {l : Launch} {D : va_G} {aC : Nat → ClassId} {b0 sz : Nat} {x : Nat} {iv av : Nat → Nat → Int32} {R : ZM} {f t : Nat} {S : St} (hf7 : f < 7) (ht : t < 7) (hft : f ≠ t) (hS : SC iv av S) : Ct l D aC b0 yX7_addGraph cX7_addGraph 4 (some .int) 3 0 0 [.ref (x + 2), .ref (x + (4 + 1 + 2 * f)), .ref (x + (4 + 1 + 2 * t))] (cm aC x iv av R) sz (zpI (fun iv av => cm aC x iv av R) (fun w' iv' av' => FC iv av iv' av' ∧ ((w' = 4 ∧ putAll t (cds (S.1 f)) (S.1, tS S.2.1 t true, S.2.2) = none) ∨ ∃ S', w' = 0 ∧ putAll t (cds (S.1 f)) (S.1, tS S.2.1 t true, S.2.2) = some S' ∧ SC iv' av' S'))) := by
  refine Ct.of (by decide) (Nat.le_of_ble_eq_true rfl) ?_
  intro p e s m below meth c ls C hr hlk hnm hl
  have hl : lv_has ls 4 [(0, .ref (x + 2)), (1, .ref (x + (4 + 1 + 2 * f))), (2, .ref (x + (4 + 1 + 2 * t)))] := hl
  obtain ⟨hx, hb, -, -, -⟩ := id C
  have hlen := SC_len hS hf7
  refine zz (fun _ _ => lv_aload_n hx hb dX7_addGraph_0 rfl (lv_at hl 2 rfl)) ?_
  refine zz (fun _ _ => lv_iconst (v := 1) hx hb dX7_addGraph_1 (by decide)) ?_
  refine z_put C fp_X7_72 (fun h => by cases h) (rd_6 (ck_g ht)) (Nat.le_of_ble_eq_true rfl) rfl rfl dX7_addGraph_2 ?_
  refine zeq (wr_6_2 (ck_g ht)) ?_
  refine zz (fun _ _ => lv_iconst (v := 0) hx hb dX7_addGraph_5 (by decide)) ?_
  refine zs (fun _ _ => lv_istore_n (lv' := [(3, .int (0)), (0, .ref (x + 2)), (1, .ref (x + (4 + 1 + 2 * f))), (2, .ref (x + (4 + 1 + 2 * t)))]) hx hb dX7_addGraph_6 rfl hl (by decide) rfl) (fun ls hl => ?_)
  have hl0 := lv_sub hl [1, 2, 3, 0] rfl
  refine z_loop (γ := (Nat → Nat → Int32) × (Nat → Nat → Int32)) (G := fun a => cm aC x a.1 a.2 R) (I := fun j a => piI iv av t ((cds (S.1 f)).take j) (S.1, tS S.2.1 t true, S.2.2) a.1 a.2) (lv := fun j a => [(0, .ref (x + 2)), (1, .ref (x + (4 + 1 + 2 * f))), (2, .ref (x + (4 + 1 + 2 * t))), (3, .int (nI (j)))]) ((cds (S.1 f)).length) ?_ ?_ ((u2 iv (4 + 1 + 2 * t) 2 (1)), av) _ _ ⟨FC_there ht, _, by rw [List.take_zero]; rfl, SC_there hS ht⟩ hl0
  · intro j1 a1 sz ls hj1 hI1 hl ih1
    obtain ⟨iv1, av1⟩ := a1
    dsimp only at hI1 hl ih1
    refine zeq (M' := (cm aC x iv1 av1 R)) rfl ?_
    obtain ⟨hf8, S8, e8, hS8⟩ := id hI1
    have hG1 := hS8.2.1 f hf7
    rw [putAll_other hft e8] at hG1
    have hok8 := okP_g hS.1.1 f _ ((cds_mem (okP_g hS.1.1 f)).mp (getD_mem hj1))
    refine zz (fun _ _ => lv_iload_n hx hb dX7_addGraph_7 rfl (lv_at hl 3 rfl)) ?_
    refine zz (fun _ _ => lv_aload_n hx hb dX7_addGraph_8 rfl (lv_at hl 1 rfl)) ?_
    refine z_get (v := .int (iv1 (4 + 1 + 2 * f) 1)) C fd_X7_82 (rd_6 (ck_g hf7)) rfl dX7_addGraph_9 ?_
    refine zval (v' := .int (nI (cds (S.1 f)).length)) (congrArg Value.int hG1.1) ?_
    refine zb (fun _ _ => lv_icmp_ge (tgt := 40) hx hb dX7_addGraph_12 (by decide)) (fun c_2 => ?_) (fun c_2 => ?_)
    · exact absurd c_2 (nI_ge (by omega) (by omega))
    · refine zz (fun _ _ => lv_aload_n hx hb dX7_addGraph_15 rfl (lv_at hl 0 rfl)) ?_
      refine z_get (v := .ref (x + 3)) C fd_X7_12 (rd_3 (by decide)) rfl dX7_addGraph_16 ?_
      refine zz (fun _ _ => lv_aload_n hx hb dX7_addGraph_19 rfl (lv_at hl 2 rfl)) ?_
      refine zz (fun _ _ => lv_aload_n hx hb dX7_addGraph_20 rfl (lv_at hl 1 rfl)) ?_
      refine z_get (v := .ref (x + ((4 + 1 + 2 * f) + 1))) C fd_X7_100 (rd_6 (ck_g hf7)) rfl dX7_addGraph_21 ?_
      refine zz (fun _ _ => lv_iload_n hx hb dX7_addGraph_24 rfl (lv_at hl 3 rfl)) ?_
      refine z_iald (f := av1 ((4 + 1 + 2 * f) + 1)) C (rd_7 (nb_6_1 (ck_g hf7))) (by first | assumption | (apply vp_in_nI <;> omega)) dX7_addGraph_25 ?_
      refine zval (v' := .int (nI ((cds (S.1 f)).getD j1 0))) (congrArg Value.int (rdI (hG1.2.2 j1 hj1) (by omega))) ?_
      refine zqVI (As := [.ref (x + (4 + 1 + 2 * t)), .int (nI ((cds (S.1 f)).getD j1 0))]) (rest := []) C hl.1 lk_X7_103 (hX6_put ht hS8 hok8) (rd_4 (by decide)) rfl rfl rfl (Nat.le_of_ble_eq_true rfl) ⟨by decide, by decide, by decide, by decide⟩ dX7_addGraph_26 (fun w3 iv3 av3 sz h3 => ?_)
      refine zeq (M' := (cm aC x iv3 av3 R)) rfl ?_
      refine zbn (fun _ _ => lv_if_ne (tgt := 34) hx hb dX7_addGraph_29 (by decide)) (fun c_4 => ?_) (fun c_4 => ?_)
      · refine zs (fun _ _ => lv_iinc (v := nI (j1) + 1) (lv' := [(3, .int (nI (j1) + 1)), (0, .ref (x + 2)), (1, .ref (x + (4 + 1 + 2 * f))), (2, .ref (x + (4 + 1 + 2 * t)))]) hx hb dX7_addGraph_34 hl (k := 3) rfl rfl (by decide) rfl) (fun ls hl => ?_)
        refine zz (fun _ _ => lv_goto (tgt := 7) hx hb dX7_addGraph_37 (by decide)) ?_
        have hl := lv_sub hl [1, 2, 3, 0] rfl
        try simp only [nI_1] at hl
        exact ih1 (iv3, av3) _ _ (pi_next hj1 hf8 e8 h3 c_4) hl
      · refine zz (fun _ _ => lv_iconst (v := 4) hx hb dX7_addGraph_32 (by decide)) ?_
        exact z_iret C hr hlk dX7_addGraph_33 (zpI_mk (a := iv3) (b := av3) ⟨hf8.trans h3.1, Or.inl ⟨rfl, pi_no hj1 e8 h3 c_4⟩⟩)
  · intro a1 sz ls hI1 hl
    obtain ⟨iv1, av1⟩ := a1
    dsimp only at hI1 hl
    refine zeq (M' := (cm aC x iv1 av1 R)) rfl ?_
    obtain ⟨hf8, S8, e8, hS8⟩ := id hI1
    have hG1 := hS8.2.1 f hf7
    rw [putAll_other hft e8] at hG1
    refine zz (fun _ _ => lv_iload_n hx hb dX7_addGraph_7 rfl (lv_at hl 3 rfl)) ?_
    refine zz (fun _ _ => lv_aload_n hx hb dX7_addGraph_8 rfl (lv_at hl 1 rfl)) ?_
    refine z_get (v := .int (iv1 (4 + 1 + 2 * f) 1)) C fd_X7_82 (rd_6 (ck_g hf7)) rfl dX7_addGraph_9 ?_
    refine zval (v' := .int (nI (cds (S.1 f)).length)) (congrArg Value.int hG1.1) ?_
    refine zb (fun _ _ => lv_icmp_ge (tgt := 40) hx hb dX7_addGraph_12 (by decide)) (fun c_5 => ?_) (fun c_5 => ?_)
    · refine zz (fun _ _ => lv_iconst (v := 0) hx hb dX7_addGraph_40 (by decide)) ?_
      exact z_iret C hr hlk dX7_addGraph_41 (zpI_mk (a := iv1) (b := av1) ⟨hf8, Or.inr ⟨S8, rfl, by rw [List.take_length] at e8; exact e8, hS8⟩⟩)
    · exact absurd (nI_le (Nat.le_refl _) (by omega)) c_5
