set_option maxHeartbeats 2000000 in
set_option maxRecDepth 10000 in
theorem hX4_agrees {l : Launch} {D : va_G} {aC : Nat → ClassId} {b0 sz : Nat} {x : Nat} {iv av : Nat → Nat → Int32} {R : ZM} {r9 q9 : Nat} {a_ : Int32} {σ : Sg} (hr5 : r9 < 5) (ha : isNm a_ ∨ isV a_) (hV : VA av r9 σ) : Ct l D aC b0 yX4_agrees cX4_agrees 4 (some .boolean) 0 0 0 [.ref (x + (22 + r9)), .int (a_), .int (nI q9)] (cm aC x iv av R) sz (zpI (fun iv av => cm aC x iv av R) (agP iv av r9 σ a_ q9)) := by
  refine Ct.of (by decide) (Nat.le_of_ble_eq_true rfl) ?_
  intro p e s m below meth c ls C hr hlk hnm hl
  have hl : lv_has ls 4 [(0, .ref (x + (22 + r9))), (1, .int (a_)), (2, .int (nI q9))] := hl
  obtain ⟨hx, hb, -, -, -⟩ := id C
  refine zz (fun _ _ => lv_iload_n hx hb dX4_agrees_0 rfl (lv_at hl 1 rfl)) ?_
  refine zb (fun _ _ => lv_if_lt (tgt := 15) hx hb dX4_agrees_1 (by decide)) (fun c_1 => ?_) (fun c_1 => ?_)
  · have hv9 := ag_v ha c_1
    have hs9 := (sl_s hv9).1
    refine zz (fun _ _ => lv_iconst (v := (-1)) hx hb dX4_agrees_15 (by decide)) ?_
    refine zz (fun _ _ => lv_iload_n hx hb dX4_agrees_16 rfl (lv_at hl 1 rfl)) ?_
    refine zz (fun _ _ => lv_isub hx hb dX4_agrees_17) ?_
    refine zval (v' := .int (nI (sl a_))) (congrArg Value.int (sl_s hv9).2) ?_
    refine zs (fun _ _ => lv_istore_n (lv' := [(3, .int (nI (sl a_))), (0, .ref (x + (22 + r9))), (1, .int (a_)), (2, .int (nI q9))]) hx hb dX4_agrees_18 rfl hl (by decide) rfl) (fun ls hl => ?_)
    refine zz (fun _ _ => lv_aload_n hx hb dX4_agrees_19 rfl (lv_at hl 1 rfl)) ?_
    refine zz (fun _ _ => lv_iload_n hx hb dX4_agrees_20 rfl (lv_at hl 0 rfl)) ?_
    refine z_iald (f := av (22 + r9)) C (rd_11 (kp_10 hr5)) (by first | assumption | (apply vp_in_nI <;> omega)) dX4_agrees_21 ?_
    refine zval (v' := .int (σ (sl a_))) (congrArg Value.int (rdI (hV _ (sl_s hv9).1) (by omega))) ?_
    refine zz (fun _ _ => lv_iconst (v := (-1)) hx hb dX4_agrees_22 (by decide)) ?_
    refine zbn (fun _ _ => lv_icmp_ne (tgt := 30) hx hb dX4_agrees_23 (by decide)) (fun c_2 => ?_) (fun c_2 => ?_)
    · refine zz (fun _ _ => lv_aload_n hx hb dX4_agrees_30 rfl (lv_at hl 1 rfl)) ?_
      refine zz (fun _ _ => lv_iload_n hx hb dX4_agrees_31 rfl (lv_at hl 0 rfl)) ?_
      refine z_iald (f := av (22 + r9)) C (rd_11 (kp_10 hr5)) (by first | assumption | (apply vp_in_nI <;> omega)) dX4_agrees_32 ?_
      refine zval (v' := .int (σ (sl a_))) (congrArg Value.int (rdI (hV _ (sl_s hv9).1) (by omega))) ?_
      refine zz (fun _ _ => lv_iload_n hx hb dX4_agrees_33 rfl (lv_at hl 3 rfl)) ?_
      refine zbn (fun _ _ => lv_icmp_ne (tgt := 41) hx hb dX4_agrees_34 (by decide)) (fun c_3 => ?_) (fun c_3 => ?_)
      · refine zz (fun _ _ => lv_iconst (v := 0) hx hb dX4_agrees_41 (by decide)) ?_
        exact z_zret C hr rfl hlk dX4_agrees_42 (zpI_mk (a := iv) (b := av) (ag_ne hv9 c_2 c_3))
      · refine zz (fun _ _ => lv_iconst (v := 1) hx hb dX4_agrees_37 (by decide)) ?_
        refine zz (fun _ _ => lv_goto (tgt := 42) hx hb dX4_agrees_38 (by decide)) ?_
        exact z_zret C hr rfl hlk dX4_agrees_42 (zpI_mk (a := iv) (b := av) (ag_eq hv9 hV c_2 c_3))
    · refine zz (fun _ _ => lv_aload_n hx hb dX4_agrees_26 rfl (lv_at hl 1 rfl)) ?_
      refine zz (fun _ _ => lv_iload_n hx hb dX4_agrees_27 rfl (lv_at hl 0 rfl)) ?_
      refine zz (fun _ _ => lv_iload_n hx hb dX4_agrees_28 rfl (lv_at hl 3 rfl)) ?_
      refine z_iast (f := av (22 + r9)) C (rd_11 (kp_10 hr5)) (by first | assumption | (apply vp_in_nI <;> omega)) dX4_agrees_29 ?_
      refine zeq (wr_11 (kp_10 hr5)) ?_
      refine zz (fun _ _ => lv_aload_n hx hb dX4_agrees_30 rfl (lv_at hl 1 rfl)) ?_
      refine zz (fun _ _ => lv_iload_n hx hb dX4_agrees_31 rfl (lv_at hl 0 rfl)) ?_
      refine z_iald (n := 4) (f := (upd (av (22 + r9)) (Int32.toNatClampNeg (nI (sl a_))) (nI q9))) C ((rd_11 (kp_10 hr5)).trans (by simp [u1])) (by first | assumption | (apply vp_in_nI <;> omega)) dX4_agrees_32 ?_
      refine zval (v' := .int (nI q9)) (congrArg Value.int (by simp [upd])) ?_
      refine zz (fun _ _ => lv_iload_n hx hb dX4_agrees_33 rfl (lv_at hl 3 rfl)) ?_
      refine zbn (fun _ _ => lv_icmp_ne (tgt := 41) hx hb dX4_agrees_34 (by decide)) (fun c_4 => ?_) (fun c_4 => ?_)
      · refine zz (fun _ _ => lv_iconst (v := 0) hx hb dX4_agrees_41 (by decide)) ?_
        exact z_zret C hr rfl hlk dX4_agrees_42 (zpI_mk (a := iv) (b := (u1 av (22 + r9) (upd (av (22 + r9)) (Int32.toNatClampNeg (nI (sl a_))) (nI q9)))) (absurd rfl c_4))
      · refine zz (fun _ _ => lv_iconst (v := 1) hx hb dX4_agrees_37 (by decide)) ?_
        refine zz (fun _ _ => lv_goto (tgt := 42) hx hb dX4_agrees_38 (by decide)) ?_
        exact z_zret C hr rfl hlk dX4_agrees_42 (zpI_mk (a := iv) (b := (u1 av (22 + r9) (upd (av (22 + r9)) (Int32.toNatClampNeg (nI (sl a_))) (nI q9)))) (ag_set hv9 hV c_2))
  · refine zz (fun _ _ => lv_iload_n hx hb dX4_agrees_4 rfl (lv_at hl 1 rfl)) ?_
    refine zz (fun _ _ => lv_iload_n hx hb dX4_agrees_5 rfl (lv_at hl 2 rfl)) ?_
    refine zbn (fun _ _ => lv_icmp_ne (tgt := 13) hx hb dX4_agrees_6 (by decide)) (fun c_5 => ?_) (fun c_5 => ?_)
    · refine zz (fun _ _ => lv_iconst (v := 0) hx hb dX4_agrees_13 (by decide)) ?_
      exact z_zret C hr rfl hlk dX4_agrees_14 (zpI_mk (a := iv) (b := av) (ag_0 ha c_1 c_5))
    · refine zz (fun _ _ => lv_iconst (v := 1) hx hb dX4_agrees_9 (by decide)) ?_
      refine zz (fun _ _ => lv_goto (tgt := 14) hx hb dX4_agrees_10 (by decide)) ?_
      exact z_zret C hr rfl hlk dX4_agrees_14 (zpI_mk (a := iv) (b := av) (ag_1 ha hV c_1 c_5))
set_option maxHeartbeats 2000000 in
set_option maxRecDepth 10000 in
theorem hX4_fits {l : Launch} {D : va_G} {aC : Nat → ClassId} {b0 sz : Nat} {x : Nat} {iv av : Nat → Nat → Int32} {R : ZM} {i r9 c9 : Nat} {ps : List Rw} {rw9 : Rw} {σ : Sg} (hi : i < 12) (hP : PRc iv av i ps) (erw : ps[r9]? = some rw9) (hc : okc c9) (hV : VA av r9 σ) : Ct l D aC b0 yX4_fits cX4_fits 5 (some .boolean) 1 0 0 [.ref (x + 20), .ref (x + ((61 + 6 * i) + 4)), .int (nI r9), .int (nI c9)] (cm aC x iv av R) sz (zpI (fun iv av => cm aC x iv av R) (fcP iv av r9 rw9 σ c9)) := by
  refine Ct.of (by decide) (Nat.le_of_ble_eq_true rfl) ?_
  intro p e s m below meth c ls C hr hlk hnm hl
  have hl : lv_has ls 5 [(0, .ref (x + 20)), (1, .ref (x + ((61 + 6 * i) + 4))), (2, .int (nI r9)), (3, .int (nI c9))] := hl
  obtain ⟨hx, hb, -, -, -⟩ := id C
  have hr9 := (List.getElem?_eq_some_iff.mp erw).1
  have hp4 := hP.2.1
  have hokr := hP.2.2.1 _ (List.mem_of_getElem? erw)
  refine zz (fun _ _ => lv_aload_n hx hb dX4_fits_0 rfl (lv_at hl 0 rfl)) ?_
  refine z_get (v := .ref (x + 21)) C fd_X4_11 (rd_9 (by decide)) rfl dX4_fits_1 ?_
  refine zz (fun _ _ => lv_iload_n hx hb dX4_fits_4 rfl (lv_at hl 2 rfl)) ?_
  refine zz (fun _ _ => lv_iconst (v := 1) hx hb dX4_fits_5 (by decide)) ?_
  refine zz (fun _ _ => lv_iadd hx hb dX4_fits_6) ?_
  refine zval (v' := .int (nI (r9 + 1))) (congrArg Value.int (nI_1 _)) ?_
  refine z_aaldA C (rd_10 (by decide)) (by first | assumption | (apply vp_in_nI <;> omega)) (v := .ref (x + (22 + (r9 + 1)))) (rf_if (f := fun q => x + (22 + q)) (n := 5) rfl (show r9 + 1 < 5 by omega) (by decide)) dX4_fits_7 ?_
  refine zs (fun _ _ => lv_astore (lv' := [(4, .ref (x + (22 + (r9 + 1)))), (0, .ref (x + 20)), (1, .ref (x + ((61 + 6 * i) + 4))), (2, .int (nI r9)), (3, .int (nI c9))]) hx hb dX4_fits_8 hl (by decide) rfl) (fun ls hl => ?_)
  refine zz (fun _ _ => lv_aload_n hx hb dX4_fits_10 rfl (lv_at hl 1 rfl)) ?_
  refine z_get (v := .ref (x + 21)) C fd_X4_11 (rd_9 (by decide)) rfl dX4_fits_11 ?_
  refine zz (fun _ _ => lv_iload_n hx hb dX4_fits_14 rfl (lv_at hl 3 rfl)) ?_
  refine z_aaldA C (rd_10 (by decide)) (by first | assumption | (apply vp_in_nI <;> omega)) (v := .ref (x + (22 + r9))) (rf_if (f := fun q => x + (22 + q)) (n := 5) rfl (show r9 < 5 by omega) (by decide)) dX4_fits_15 ?_
  refine zz (fun _ _ => lv_iconst (v := 0) hx hb dX4_fits_16 (by decide)) ?_
  refine zz (fun _ _ => lv_aload hx hb dX4_fits_17 (lv_at hl 0 rfl)) ?_
  refine zz (fun _ _ => lv_iconst (v := 0) hx hb dX4_fits_19 (by decide)) ?_
  refine zz (fun _ _ => lv_iconst (v := 4) hx hb dX4_fits_20 (by decide)) ?_
  refine z_copy C hl.1 ac_X4_62 (rd_11 (kp_10 (show r9 < 5 by omega))) (rd_11 (kp_10 (show r9 + 1 < 5 by omega))) (by decide) (by decide) (by decide) (by decide) (by decide) (by decide) (by decide) dX4_fits_21 (fun sz => ?_)
  refine zeq (wr_11 (kp_10 (show r9 + 1 < 5 by omega))) ?_
  have hkp9 : kpA (r9 + 1) iv av iv (u1 av (22 + (r9 + 1)) (va_cpy (av (22 + r9)) (av (22 + (r9 + 1))) (Int32.toNatClampNeg (0)) (Int32.toNatClampNeg (0)) (Int32.toNatClampNeg (4)))) := ⟨rfl, fun k hk => u1_k _ _ hk⟩
  have hV9 := VA_cpy hV
  refine zz (fun _ _ => lv_aload hx hb dX4_fits_24 (lv_at hl 0 rfl)) ?_
  refine zz (fun _ _ => lv_aload_n hx hb dX4_fits_26 rfl (lv_at hl 2 rfl)) ?_
  refine zz (fun _ _ => lv_iload_n hx hb dX4_fits_27 rfl (lv_at hl 3 rfl)) ?_
  refine zdV (As := [.int (nI r9)]) (rest := [.ref (x + (22 + (r9 + 1)))]) (st' := [.int ((fX3_subject (u1 av (22 + (r9 + 1)) (va_cpy (av (22 + r9)) (av (22 + (r9 + 1))) (Int32.toNatClampNeg (0)) (Int32.toNatClampNeg (0)) (Int32.toNatClampNeg (4)))) ((61 + 6 * i) + 4) (nI r9))), .ref (x + (22 + (r9 + 1)))]) C hl.1 lk_X4_68 (ctX3_subject (j_0 := 0) (nb_18_4 (ck_s hi)) rfl (by rw [tl_p hi]; omega)) (rd_14 (nb_18_4 (ck_s hi))) rfl rfl rfl (Nat.le_of_ble_eq_true rfl) ⟨by decide, by decide, by decide, by decide⟩ dX4_fits_28 rfl (fun sz => ?_)
  refine zval (v' := .int (rw9.1)) (congrArg Value.int ((row_s (by omega)).1.trans ((congrFun (hkp9.2 _ (by omega)) _).trans (hP.2.2.2 r9 rw9 erw).1))) ?_
  refine zz (fun _ _ => lv_iload_n hx hb dX4_fits_31 rfl (lv_at hl 4 rfl)) ?_
  refine zz (fun _ _ => lv_iconst (v := 0) hx hb dX4_fits_32 (by decide)) ?_
  refine zval (v' := .int (nI 0)) (congrArg Value.int rfl) ?_
  refine zdS (As := [.int (nI c9), .int (nI 0)]) (rest := [.int (rw9.1), .ref (x + (22 + (r9 + 1)))]) (st' := [.int ((fX8_partOf (nI c9) (nI 0))), .int (rw9.1), .ref (x + (22 + (r9 + 1)))]) C hl.1 lk_X4_72 (ctX8_partOf ) rfl rfl (Nat.le_of_ble_eq_true rfl) ⟨by decide, by decide, by decide, by decide⟩ dX4_fits_33 rfl (fun sz => ?_)
  refine zval (v' := .int (nI (pt c9 0))) (congrArg Value.int (partOf_s hc (by decide))) ?_
  refine zqSI (As := [.ref (x + (22 + (r9 + 1))), .int (rw9.1), .int (nI (pt c9 0))]) (rest := []) C hl.1 lk_X4_76 (hX4_agrees (by omega) hokr.1 hV9) rfl rfl (Nat.le_of_ble_eq_true rfl) ⟨by decide, by decide, by decide, by decide⟩ dX4_fits_36 (fun w1 iv1 av1 sz h1 => ?_)
  refine zeq (M' := (cm aC x iv1 av1 R)) rfl ?_
  refine zb (fun _ _ => lv_if_eq (tgt := 82) hx hb dX4_fits_39 (by decide)) (fun c_2 => ?_) (fun c_2 => ?_)
  · refine zz (fun _ _ => lv_iconst (v := 0) hx hb dX4_fits_82 (by decide)) ?_
    exact z_zret C hr rfl hlk dX4_fits_83 (zpI_mk (a := iv1) (b := av1) ⟨(kpA_f hkp9 h1).1, (kpA_f hkp9 h1).2, Or.inl ⟨rfl, mtc_1 (ag_no h1 c_2)⟩⟩)
  · obtain ⟨sx2, ex2, hx2⟩ := ag_ok h1 c_2
    refine zz (fun _ _ => lv_aload hx hb dX4_fits_42 (lv_at hl 0 rfl)) ?_
    refine zz (fun _ _ => lv_aload_n hx hb dX4_fits_44 rfl (lv_at hl 2 rfl)) ?_
    refine zz (fun _ _ => lv_iload_n hx hb dX4_fits_45 rfl (lv_at hl 3 rfl)) ?_
    refine zdV (As := [.int (nI r9)]) (rest := [.ref (x + (22 + (r9 + 1)))]) (st' := [.int ((fX3_property av1 ((61 + 6 * i) + 4) (nI r9))), .ref (x + (22 + (r9 + 1)))]) C hl.1 lk_X4_80 (ctX3_property (j_0 := 0) (nb_18_4 (ck_s hi)) rfl (by rw [tl_p hi]; omega)) (rd_14 (nb_18_4 (ck_s hi))) rfl rfl rfl (Nat.le_of_ble_eq_true rfl) ⟨by decide, by decide, by decide, by decide⟩ dX4_fits_46 rfl (fun sz => ?_)
    refine zval (v' := .int (rw9.2.1)) (congrArg Value.int ((row_s (by omega)).2.1.trans ((congrFun ((kpA_f hkp9 h1).2 _ (by omega)) _).trans (hP.2.2.2 r9 rw9 erw).2.1))) ?_
    refine zz (fun _ _ => lv_iload_n hx hb dX4_fits_49 rfl (lv_at hl 4 rfl)) ?_
    refine zz (fun _ _ => lv_iconst (v := 1) hx hb dX4_fits_50 (by decide)) ?_
    refine zval (v' := .int (nI 1)) (congrArg Value.int rfl) ?_
    refine zdS (As := [.int (nI c9), .int (nI 1)]) (rest := [.int (rw9.2.1), .ref (x + (22 + (r9 + 1)))]) (st' := [.int ((fX8_partOf (nI c9) (nI 1))), .int (rw9.2.1), .ref (x + (22 + (r9 + 1)))]) C hl.1 lk_X4_72 (ctX8_partOf ) rfl rfl (Nat.le_of_ble_eq_true rfl) ⟨by decide, by decide, by decide, by decide⟩ dX4_fits_51 rfl (fun sz => ?_)
    refine zval (v' := .int (nI (pt c9 1))) (congrArg Value.int (partOf_s hc (by decide))) ?_
    refine zqSI (As := [.ref (x + (22 + (r9 + 1))), .int (rw9.2.1), .int (nI (pt c9 1))]) (rest := []) C hl.1 lk_X4_76 (hX4_agrees (by omega) hokr.2.1 hx2) rfl rfl (Nat.le_of_ble_eq_true rfl) ⟨by decide, by decide, by decide, by decide⟩ dX4_fits_54 (fun w3 iv3 av3 sz h3 => ?_)
    refine zeq (M' := (cm aC x iv3 av3 R)) rfl ?_
    refine zb (fun _ _ => lv_if_eq (tgt := 82) hx hb dX4_fits_57 (by decide)) (fun c_4 => ?_) (fun c_4 => ?_)
    · refine zz (fun _ _ => lv_iconst (v := 0) hx hb dX4_fits_82 (by decide)) ?_
      exact z_zret C hr rfl hlk dX4_fits_83 (zpI_mk (a := iv3) (b := av3) ⟨(kpA_f (kpA_f hkp9 h1) h3).1, (kpA_f (kpA_f hkp9 h1) h3).2, Or.inl ⟨rfl, mtc_2 ex2 (ag_no h3 c_4)⟩⟩)
    · obtain ⟨sx3, ex3, hx3⟩ := ag_ok h3 c_4
      refine zz (fun _ _ => lv_aload hx hb dX4_fits_60 (lv_at hl 0 rfl)) ?_
      refine zz (fun _ _ => lv_aload_n hx hb dX4_fits_62 rfl (lv_at hl 2 rfl)) ?_
      refine zz (fun _ _ => lv_iload_n hx hb dX4_fits_63 rfl (lv_at hl 3 rfl)) ?_
      refine zdV (As := [.int (nI r9)]) (rest := [.ref (x + (22 + (r9 + 1)))]) (st' := [.int ((fX3_object av3 ((61 + 6 * i) + 4) (nI r9))), .ref (x + (22 + (r9 + 1)))]) C hl.1 lk_X4_83 (ctX3_object (j_0 := 0) (nb_18_4 (ck_s hi)) rfl (by rw [tl_p hi]; omega)) (rd_14 (nb_18_4 (ck_s hi))) rfl rfl rfl (Nat.le_of_ble_eq_true rfl) ⟨by decide, by decide, by decide, by decide⟩ dX4_fits_64 rfl (fun sz => ?_)
      refine zval (v' := .int (rw9.2.2)) (congrArg Value.int ((row_s (by omega)).2.2.trans ((congrFun ((kpA_f (kpA_f hkp9 h1) h3).2 _ (by omega)) _).trans (hP.2.2.2 r9 rw9 erw).2.2))) ?_
      refine zz (fun _ _ => lv_iload_n hx hb dX4_fits_67 rfl (lv_at hl 4 rfl)) ?_
      refine zz (fun _ _ => lv_iconst (v := 2) hx hb dX4_fits_68 (by decide)) ?_
      refine zval (v' := .int (nI 2)) (congrArg Value.int rfl) ?_
      refine zdS (As := [.int (nI c9), .int (nI 2)]) (rest := [.int (rw9.2.2), .ref (x + (22 + (r9 + 1)))]) (st' := [.int ((fX8_partOf (nI c9) (nI 2))), .int (rw9.2.2), .ref (x + (22 + (r9 + 1)))]) C hl.1 lk_X4_72 (ctX8_partOf ) rfl rfl (Nat.le_of_ble_eq_true rfl) ⟨by decide, by decide, by decide, by decide⟩ dX4_fits_69 rfl (fun sz => ?_)
      refine zval (v' := .int (nI (pt c9 2))) (congrArg Value.int (partOf_s hc (by decide))) ?_
      refine zqSI (As := [.ref (x + (22 + (r9 + 1))), .int (rw9.2.2), .int (nI (pt c9 2))]) (rest := []) C hl.1 lk_X4_76 (hX4_agrees (by omega) hokr.2.2 hx3) rfl rfl (Nat.le_of_ble_eq_true rfl) ⟨by decide, by decide, by decide, by decide⟩ dX4_fits_72 (fun w5 iv5 av5 sz h5 => ?_)
      refine zeq (M' := (cm aC x iv5 av5 R)) rfl ?_
      refine zb (fun _ _ => lv_if_eq (tgt := 82) hx hb dX4_fits_75 (by decide)) (fun c_6 => ?_) (fun c_6 => ?_)
      · refine zz (fun _ _ => lv_iconst (v := 0) hx hb dX4_fits_82 (by decide)) ?_
        exact z_zret C hr rfl hlk dX4_fits_83 (zpI_mk (a := iv5) (b := av5) ⟨(kpA_f (kpA_f (kpA_f hkp9 h1) h3) h5).1, (kpA_f (kpA_f (kpA_f hkp9 h1) h3) h5).2, Or.inl ⟨rfl, (mtc_3 ex2 ex3).trans (ag_no h5 c_6)⟩⟩)
      · refine zz (fun _ _ => lv_iconst (v := 1) hx hb dX4_fits_78 (by decide)) ?_
        refine zz (fun _ _ => lv_goto (tgt := 83) hx hb dX4_fits_79 (by decide)) ?_
        exact z_zret C hr rfl hlk dX4_fits_83 (zpI_mk (a := iv5) (b := av5) (by obtain ⟨sx4, ex4, hx4⟩ := ag_ok h5 c_6; exact ⟨(kpA_f (kpA_f (kpA_f hkp9 h1) h3) h5).1, (kpA_f (kpA_f (kpA_f hkp9 h1) h3) h5).2, Or.inr ⟨sx4, rfl, (mtc_3 ex2 ex3).trans ex4, hx4⟩⟩))
