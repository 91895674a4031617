set_option maxHeartbeats 2000000 in
set_option maxRecDepth 10000 in
theorem hX7_applyRow_t {l : Launch} {D : va_G} {aC : Nat → ClassId} {b0 sz : Nat} {x : Nat} {iv av : Nat → Nat → Int32} {R : ZM} {i j9 u9 to : Nat} {S : St} {σ : Sg} {ts : List TR} {t9 : TR} (hi : i < 12) (hto7 : to < 7) (hto : iv (61 + 6 * i) 5 = nI to) (hT : TRc iv av i ts) (et : ts[j9]? = some t9) (hu : u9 < 100) (hV : SV av u9 σ) (hσ : okG σ) (hS : SC iv av S) (ha : t9.2.2.2 = false) : Ct l D aC b0 yX7_applyRow cX7_applyRow 10 (some .boolean) 2 0 0 [.ref (x + 2), .ref (x + (61 + 6 * i)), .int (nI j9), .int (nI u9)] (cm aC x iv av R) sz (zpI (fun iv av => cm aC x iv av R) (fun _ iv' av' => FC iv av iv' av' ∧ SC iv' av' (takeRow to σ S t9))) := by
  refine Ct.of (by decide) (Nat.le_of_ble_eq_true rfl) ?_
  intro p e s m below meth c ls C hr hlk hnm hl
  have hl : lv_has ls 10 [(0, .ref (x + 2)), (1, .ref (x + (61 + 6 * i))), (2, .int (nI j9)), (3, .int (nI u9))] := hl
  obtain ⟨hx, hb, -, -, -⟩ := id C
  have hlen := hT.2.1
  have hj9 := (List.getElem?_eq_some_iff.mp et).1
  have hrow := hT.2.2.2 j9 t9 et
  have hok := hT.2.2.1 t9 (List.mem_of_getElem? et)
  refine zz (fun _ _ => lv_aload_n hx hb dX7_applyRow_0 rfl (lv_at hl 0 rfl)) ?_
  refine z_get (v := .ref (x + 3)) C fd_X7_12 (rd_3 (by decide)) rfl dX7_applyRow_1 ?_
  refine z_get (v := .ref (x + 4)) C fd_X7_68 (rd_4 (by decide)) rfl dX7_applyRow_4 ?_
  refine zz (fun _ _ => lv_aload_n hx hb dX7_applyRow_7 rfl (lv_at hl 1 rfl)) ?_
  refine z_get (v := .int (iv (61 + 6 * i) 5)) C fd_X7_61 (rd_18 (ck_s hi)) rfl dX7_applyRow_8 ?_
  refine zval (v' := .int (nI to)) (congrArg Value.int hto) ?_
  refine z_aald C 3 rfl (rd_5 (by decide)) (by first | assumption | (apply vp_in_nI <;> omega)) (v := .ref (x + (4 + 1 + 2 * to))) (rf_if (f := fun q => x + (4 + 1 + 2 * q)) (n := 7) rfl hto7 (by decide)) dX7_applyRow_11 ?_
  refine zs (fun _ _ => lv_astore (lv' := [(4, .ref (x + (4 + 1 + 2 * to))), (0, .ref (x + 2)), (1, .ref (x + (61 + 6 * i))), (2, .int (nI j9)), (3, .int (nI u9))]) hx hb dX7_applyRow_12 hl (by decide) rfl) (fun ls hl => ?_)
  refine zz (fun _ _ => lv_aload_n hx hb dX7_applyRow_14 rfl (lv_at hl 1 rfl)) ?_
  refine zz (fun _ _ => lv_aload_n hx hb dX7_applyRow_15 rfl (lv_at hl 2 rfl)) ?_
  refine z_get (v := .ref (x + ((61 + 6 * i) + 1))) C fd_X7_153 (rd_18 (ck_s hi)) rfl dX7_applyRow_16 ?_
  refine zz (fun _ _ => lv_iload_n hx hb dX7_applyRow_19 rfl (lv_at hl 3 rfl)) ?_
  refine zdV (As := [.int (nI j9)]) (rest := [.ref (x + 2)]) (st' := [.int ((fX3_subject av ((61 + 6 * i) + 1) (nI j9))), .ref (x + 2)]) C hl.1 lk_X7_119 (ctX3_subject (j_0 := 0) (nb_18_1 (ck_s hi)) rfl (by rw [tl_t hi]; omega)) (rd_14 (nb_18_1 (ck_s hi))) rfl rfl rfl (Nat.le_of_ble_eq_true rfl) ⟨by decide, by decide, by decide, by decide⟩ dX7_applyRow_20 rfl (fun sz => ?_)
  refine zval (v' := .int (t9.1)) (congrArg Value.int ((row_s (by omega)).1.trans hrow.1)) ?_
  refine zz (fun _ _ => lv_iload_n hx hb dX7_applyRow_23 rfl (lv_at hl 4 rfl)) ?_
  refine zdV (As := [.int (t9.1), .int (nI u9)]) (rest := []) (st' := [.int (vl σ (t9.1))]) C hl.1 lk_X7_170 (Ct.ofS (hX7_valueOf (a_ := t9.1) (σ := σ) hu hV)) (rd_3 (by decide)) rfl rfl rfl (Nat.le_of_ble_eq_true rfl) ⟨by decide, by decide, by decide, by decide⟩ dX7_applyRow_24 rfl (fun sz => ?_)
  refine zval (v' := .int (vl σ t9.1)) (congrArg Value.int rfl) ?_
  refine zs (fun _ _ => lv_istore (lv' := [(5, .int (vl σ t9.1)), (4, .ref (x + (4 + 1 + 2 * to))), (0, .ref (x + 2)), (1, .ref (x + (61 + 6 * i))), (2, .int (nI j9)), (3, .int (nI u9))]) hx hb dX7_applyRow_27 hl (by decide) rfl) (fun ls hl => ?_)
  refine zz (fun _ _ => lv_aload_n hx hb dX7_applyRow_29 rfl (lv_at hl 2 rfl)) ?_
  refine zz (fun _ _ => lv_aload_n hx hb dX7_applyRow_30 rfl (lv_at hl 3 rfl)) ?_
  refine z_get (v := .ref (x + ((61 + 6 * i) + 1))) C fd_X7_153 (rd_18 (ck_s hi)) rfl dX7_applyRow_31 ?_
  refine zz (fun _ _ => lv_iload_n hx hb dX7_applyRow_34 rfl (lv_at hl 4 rfl)) ?_
  refine zdV (As := [.int (nI j9)]) (rest := [.ref (x + 2)]) (st' := [.int ((fX3_property av ((61 + 6 * i) + 1) (nI j9))), .ref (x + 2)]) C hl.1 lk_X7_123 (ctX3_property (j_0 := 0) (nb_18_1 (ck_s hi)) rfl (by rw [tl_t hi]; omega)) (rd_14 (nb_18_1 (ck_s hi))) rfl rfl rfl (Nat.le_of_ble_eq_true rfl) ⟨by decide, by decide, by decide, by decide⟩ dX7_applyRow_35 rfl (fun sz => ?_)
  refine zval (v' := .int (t9.2.1)) (congrArg Value.int ((row_s (by omega)).2.1.trans hrow.2.1)) ?_
  refine zz (fun _ _ => lv_iload_n hx hb dX7_applyRow_38 rfl (lv_at hl 5 rfl)) ?_
  refine zdV (As := [.int (t9.2.1), .int (nI u9)]) (rest := []) (st' := [.int (vl σ (t9.2.1))]) C hl.1 lk_X7_170 (Ct.ofS (hX7_valueOf (a_ := t9.2.1) (σ := σ) hu hV)) (rd_3 (by decide)) rfl rfl rfl (Nat.le_of_ble_eq_true rfl) ⟨by decide, by decide, by decide, by decide⟩ dX7_applyRow_39 rfl (fun sz => ?_)
  refine zval (v' := .int (vl σ t9.2.1)) (congrArg Value.int rfl) ?_
  refine zs (fun _ _ => lv_istore (lv' := [(6, .int (vl σ t9.2.1)), (5, .int (vl σ t9.1)), (4, .ref (x + (4 + 1 + 2 * to))), (0, .ref (x + 2)), (1, .ref (x + (61 + 6 * i))), (2, .int (nI j9)), (3, .int (nI u9))]) hx hb dX7_applyRow_42 hl (by decide) rfl) (fun ls hl => ?_)
  refine zz (fun _ _ => lv_aload_n hx hb dX7_applyRow_44 rfl (lv_at hl 3 rfl)) ?_
  refine zz (fun _ _ => lv_aload_n hx hb dX7_applyRow_45 rfl (lv_at hl 4 rfl)) ?_
  refine z_get (v := .ref (x + ((61 + 6 * i) + 1))) C fd_X7_153 (rd_18 (ck_s hi)) rfl dX7_applyRow_46 ?_
  refine zz (fun _ _ => lv_iload_n hx hb dX7_applyRow_49 rfl (lv_at hl 5 rfl)) ?_
  refine zdV (As := [.int (nI j9)]) (rest := [.ref (x + 2)]) (st' := [.int ((fX3_object av ((61 + 6 * i) + 1) (nI j9))), .ref (x + 2)]) C hl.1 lk_X7_126 (ctX3_object (j_0 := 0) (nb_18_1 (ck_s hi)) rfl (by rw [tl_t hi]; omega)) (rd_14 (nb_18_1 (ck_s hi))) rfl rfl rfl (Nat.le_of_ble_eq_true rfl) ⟨by decide, by decide, by decide, by decide⟩ dX7_applyRow_50 rfl (fun sz => ?_)
  refine zval (v' := .int (t9.2.2.1)) (congrArg Value.int ((row_s (by omega)).2.2.trans hrow.2.2.1)) ?_
  refine zz (fun _ _ => lv_iload_n hx hb dX7_applyRow_53 rfl (lv_at hl 6 rfl)) ?_
  refine zdV (As := [.int (t9.2.2.1), .int (nI u9)]) (rest := []) (st' := [.int (vl σ (t9.2.2.1))]) C hl.1 lk_X7_170 (Ct.ofS (hX7_valueOf (a_ := t9.2.2.1) (σ := σ) hu hV)) (rd_3 (by decide)) rfl rfl rfl (Nat.le_of_ble_eq_true rfl) ⟨by decide, by decide, by decide, by decide⟩ dX7_applyRow_54 rfl (fun sz => ?_)
  refine zval (v' := .int (vl σ t9.2.2.1)) (congrArg Value.int rfl) ?_
  refine zs (fun _ _ => lv_istore (lv' := [(7, .int (vl σ t9.2.2.1)), (6, .int (vl σ t9.2.1)), (5, .int (vl σ t9.1)), (4, .ref (x + (4 + 1 + 2 * to))), (0, .ref (x + 2)), (1, .ref (x + (61 + 6 * i))), (2, .int (nI j9)), (3, .int (nI u9))]) hx hb dX7_applyRow_57 hl (by decide) rfl) (fun ls hl => ?_)
  refine zz (fun _ _ => lv_iload hx hb dX7_applyRow_59 (lv_at hl 2 rfl)) ?_
  refine zz (fun _ _ => lv_iconst (v := (-1)) hx hb dX7_applyRow_61 (by decide)) ?_
  refine zb (fun _ _ => lv_icmp_eq (tgt := 79) hx hb dX7_applyRow_62 (by decide)) (fun c_1 => ?_) (fun c_1 => ?_)
  · refine zz (fun _ _ => lv_iconst (v := 1) hx hb dX7_applyRow_79 (by decide)) ?_
    exact z_zret C hr rfl hlk dX7_applyRow_80 (zpI_mk (a := iv) (b := av) ⟨FC.refl, by rw [tk_skip (Or.inr (lo_1 c_1))]; exact hS⟩)
  · refine zz (fun _ _ => lv_iload hx hb dX7_applyRow_65 (lv_at hl 0 rfl)) ?_
    refine zz (fun _ _ => lv_iconst (v := (-1)) hx hb dX7_applyRow_67 (by decide)) ?_
    refine zb (fun _ _ => lv_icmp_eq (tgt := 79) hx hb dX7_applyRow_68 (by decide)) (fun c_2 => ?_) (fun c_2 => ?_)
    · refine zz (fun _ _ => lv_iconst (v := 1) hx hb dX7_applyRow_79 (by decide)) ?_
      exact z_zret C hr rfl hlk dX7_applyRow_80 (zpI_mk (a := iv) (b := av) ⟨FC.refl, by rw [tk_skip (Or.inr (lo_2 c_2))]; exact hS⟩)
    · refine zz (fun _ _ => lv_iload hx hb dX7_applyRow_71 (lv_at hl 1 rfl)) ?_
      refine zdS (As := [.int (vl σ t9.2.1)]) (rest := []) (st' := [.int ((fX8_isName (vl σ t9.2.1)))]) C hl.1 lk_X7_174 (ctX8_isName ) rfl rfl (Nat.le_of_ble_eq_true rfl) ⟨by decide, by decide, by decide, by decide⟩ dX7_applyRow_73 rfl (fun sz => ?_)
      refine zbn (fun _ _ => lv_if_ne (tgt := 81) hx hb dX7_applyRow_76 (by decide)) (fun c_3 => ?_) (fun c_3 => ?_)
      · have hnl9 := lo_n c_1 c_2 c_3
        refine zz (fun _ _ => lv_aload_n hx hb dX7_applyRow_81 rfl (lv_at hl 5 rfl)) ?_
        refine z_get (v := .ref (x + ((61 + 6 * i) + 3))) C fd_X7_156 (rd_18 (ck_s hi)) rfl dX7_applyRow_82 ?_
        refine zz (fun _ _ => lv_iload_n hx hb dX7_applyRow_85 rfl (lv_at hl 6 rfl)) ?_
        refine z_zald (f := av ((61 + 6 * i) + 3)) C (rd_20 (nb_18_3 (ck_s hi))) (by first | assumption | (apply vp_in_nI <;> omega)) dX7_applyRow_86 ?_
        refine zval (v' := .int (0)) (congrArg Value.int ((rdI hrow.2.2.2 (by omega)).trans (by rw [ha]; rfl))) ?_
        refine zbn (fun _ _ => lv_if_ne (tgt := 106) hx hb dX7_applyRow_87 (by decide)) (fun c_4 => ?_) (fun c_4 => ?_)
        · exact absurd (by decide) c_4
        · refine zz (fun _ _ => lv_aload hx hb dX7_applyRow_90 (lv_at hl 3 rfl)) ?_
          refine zz (fun _ _ => lv_iload hx hb dX7_applyRow_92 (lv_at hl 2 rfl)) ?_
          refine zz (fun _ _ => lv_iload hx hb dX7_applyRow_94 (lv_at hl 1 rfl)) ?_
          refine zz (fun _ _ => lv_iload hx hb dX7_applyRow_96 (lv_at hl 0 rfl)) ?_
          refine zdS (As := [.int (vl σ t9.1), .int (vl σ t9.2.1), .int (vl σ t9.2.2.1)]) (rest := [.ref (x + (4 + 1 + 2 * to))]) (st' := [.int ((fX8_factOf (vl σ t9.1) (vl σ t9.2.1) (vl σ t9.2.2.1))), .ref (x + (4 + 1 + 2 * to))]) C hl.1 lk_X7_129 (ctX8_factOf ) rfl rfl (Nat.le_of_ble_eq_true rfl) ⟨by decide, by decide, by decide, by decide⟩ dX7_applyRow_98 rfl (fun sz => ?_)
          refine zval (v' := .int (nI (tcd σ t9))) (congrArg Value.int (tcd_f hσ hok ha hnl9)) ?_
          refine zqVN (As := [.int (nI (tcd σ t9))]) (rest := []) C hl.1 lk_X7_177 (hX2_remove (ck_g hto7) (hS.2.1 to hto7) (okP_g hS.1.1 to) (SC_len hS hto7) (tcd_s hσ hok ha hnl9).1) (rd_6 (kp_5 (by decide) hto7)) rfl rfl rfl (Nat.le_of_ble_eq_true rfl) ⟨by decide, by decide, by decide, by decide⟩ dX7_applyRow_101 (fun iv5 av5 sz h5 => ?_)
          refine zeq (M' := (cm aC x iv5 av5 R)) rfl ?_
          refine zz (fun _ _ => lv_iconst (v := 1) hx hb dX7_applyRow_104 (by decide)) ?_
          exact z_zret C hr rfl hlk dX7_applyRow_105 (zpI_mk (a := iv5) (b := av5) ⟨h5.2.C hto7, by rw [tk_do ha hnl9]; exact SC_del hS hto7 h5⟩)
      · refine zz (fun _ _ => lv_iconst (v := 1) hx hb dX7_applyRow_79 (by decide)) ?_
        exact z_zret C hr rfl hlk dX7_applyRow_80 (zpI_mk (a := iv) (b := av) ⟨FC.refl, by rw [tk_skip (Or.inr (lo_3 c_3))]; exact hS⟩)
set_option maxHeartbeats 2000000 in
set_option maxRecDepth 10000 in
theorem hX7_applyRow_a {l : Launch} {D : va_G} {aC : Nat → ClassId} {b0 sz : Nat} {x : Nat} {iv av : Nat → Nat → Int32} {R : ZM} {i j9 u9 to : Nat} {S : St} {σ : Sg} {ts : List TR} {t9 : TR} (hi : i < 12) (hto7 : to < 7) (hto : iv (61 + 6 * i) 5 = nI to) (hT : TRc iv av i ts) (et : ts[j9]? = some t9) (hu : u9 < 100) (hV : SV av u9 σ) (hσ : okG σ) (hS : SC iv av S) {mk : Sg} (hB : BL av mk) (hmk : okm mk) (ha : t9.2.2.2 = true) : Ct l D aC b0 yX7_applyRow cX7_applyRow 10 (some .boolean) 3 0 0 [.ref (x + 2), .ref (x + (61 + 6 * i)), .int (nI j9), .int (nI u9)] (cm aC x iv av R) sz (zpI (fun iv av => cm aC x iv av R) (arP iv av to σ S mk t9)) := by
  refine Ct.of (by decide) (Nat.le_of_ble_eq_true rfl) ?_
  intro p e s m below meth c ls C hr hlk hnm hl
  have hl : lv_has ls 10 [(0, .ref (x + 2)), (1, .ref (x + (61 + 6 * i))), (2, .int (nI j9)), (3, .int (nI u9))] := hl
  obtain ⟨hx, hb, -, -, -⟩ := id C
  have hlen := hT.2.1
  have hj9 := (List.getElem?_eq_some_iff.mp et).1
  have hrow := hT.2.2.2 j9 t9 et
  have hok := hT.2.2.1 t9 (List.mem_of_getElem? et)
  refine zz (fun _ _ => lv_aload_n hx hb dX7_applyRow_0 rfl (lv_at hl 0 rfl)) ?_
  refine z_get (v := .ref (x + 3)) C fd_X7_12 (rd_3 (by decide)) rfl dX7_applyRow_1 ?_
  refine z_get (v := .ref (x + 4)) C fd_X7_68 (rd_4 (by decide)) rfl dX7_applyRow_4 ?_
  refine zz (fun _ _ => lv_aload_n hx hb dX7_applyRow_7 rfl (lv_at hl 1 rfl)) ?_
  refine z_get (v := .int (iv (61 + 6 * i) 5)) C fd_X7_61 (rd_18 (ck_s hi)) rfl dX7_applyRow_8 ?_
  refine zval (v' := .int (nI to)) (congrArg Value.int hto) ?_
  refine z_aald C 3 rfl (rd_5 (by decide)) (by first | assumption | (apply vp_in_nI <;> omega)) (v := .ref (x + (4 + 1 + 2 * to))) (rf_if (f := fun q => x + (4 + 1 + 2 * q)) (n := 7) rfl hto7 (by decide)) dX7_applyRow_11 ?_
  refine zs (fun _ _ => lv_astore (lv' := [(4, .ref (x + (4 + 1 + 2 * to))), (0, .ref (x + 2)), (1, .ref (x + (61 + 6 * i))), (2, .int (nI j9)), (3, .int (nI u9))]) hx hb dX7_applyRow_12 hl (by decide) rfl) (fun ls hl => ?_)
  refine zz (fun _ _ => lv_aload_n hx hb dX7_applyRow_14 rfl (lv_at hl 1 rfl)) ?_
  refine zz (fun _ _ => lv_aload_n hx hb dX7_applyRow_15 rfl (lv_at hl 2 rfl)) ?_
  refine z_get (v := .ref (x + ((61 + 6 * i) + 1))) C fd_X7_153 (rd_18 (ck_s hi)) rfl dX7_applyRow_16 ?_
  refine zz (fun _ _ => lv_iload_n hx hb dX7_applyRow_19 rfl (lv_at hl 3 rfl)) ?_
  refine zdV (As := [.int (nI j9)]) (rest := [.ref (x + 2)]) (st' := [.int ((fX3_subject av ((61 + 6 * i) + 1) (nI j9))), .ref (x + 2)]) C hl.1 lk_X7_119 (ctX3_subject (j_0 := 0) (nb_18_1 (ck_s hi)) rfl (by rw [tl_t hi]; omega)) (rd_14 (nb_18_1 (ck_s hi))) rfl rfl rfl (Nat.le_of_ble_eq_true rfl) ⟨by decide, by decide, by decide, by decide⟩ dX7_applyRow_20 rfl (fun sz => ?_)
  refine zval (v' := .int (t9.1)) (congrArg Value.int ((row_s (by omega)).1.trans hrow.1)) ?_
  refine zz (fun _ _ => lv_iload_n hx hb dX7_applyRow_23 rfl (lv_at hl 4 rfl)) ?_
  refine zdV (As := [.int (t9.1), .int (nI u9)]) (rest := []) (st' := [.int (vl σ (t9.1))]) C hl.1 lk_X7_170 (Ct.ofS (hX7_valueOf (a_ := t9.1) (σ := σ) hu hV)) (rd_3 (by decide)) rfl rfl rfl (Nat.le_of_ble_eq_true rfl) ⟨by decide, by decide, by decide, by decide⟩ dX7_applyRow_24 rfl (fun sz => ?_)
  refine zval (v' := .int (vl σ t9.1)) (congrArg Value.int rfl) ?_
  refine zs (fun _ _ => lv_istore (lv' := [(5, .int (vl σ t9.1)), (4, .ref (x + (4 + 1 + 2 * to))), (0, .ref (x + 2)), (1, .ref (x + (61 + 6 * i))), (2, .int (nI j9)), (3, .int (nI u9))]) hx hb dX7_applyRow_27 hl (by decide) rfl) (fun ls hl => ?_)
  refine zz (fun _ _ => lv_aload_n hx hb dX7_applyRow_29 rfl (lv_at hl 2 rfl)) ?_
  refine zz (fun _ _ => lv_aload_n hx hb dX7_applyRow_30 rfl (lv_at hl 3 rfl)) ?_
  refine z_get (v := .ref (x + ((61 + 6 * i) + 1))) C fd_X7_153 (rd_18 (ck_s hi)) rfl dX7_applyRow_31 ?_
  refine zz (fun _ _ => lv_iload_n hx hb dX7_applyRow_34 rfl (lv_at hl 4 rfl)) ?_
  refine zdV (As := [.int (nI j9)]) (rest := [.ref (x + 2)]) (st' := [.int ((fX3_property av ((61 + 6 * i) + 1) (nI j9))), .ref (x + 2)]) C hl.1 lk_X7_123 (ctX3_property (j_0 := 0) (nb_18_1 (ck_s hi)) rfl (by rw [tl_t hi]; omega)) (rd_14 (nb_18_1 (ck_s hi))) rfl rfl rfl (Nat.le_of_ble_eq_true rfl) ⟨by decide, by decide, by decide, by decide⟩ dX7_applyRow_35 rfl (fun sz => ?_)
  refine zval (v' := .int (t9.2.1)) (congrArg Value.int ((row_s (by omega)).2.1.trans hrow.2.1)) ?_
  refine zz (fun _ _ => lv_iload_n hx hb dX7_applyRow_38 rfl (lv_at hl 5 rfl)) ?_
  refine zdV (As := [.int (t9.2.1), .int (nI u9)]) (rest := []) (st' := [.int (vl σ (t9.2.1))]) C hl.1 lk_X7_170 (Ct.ofS (hX7_valueOf (a_ := t9.2.1) (σ := σ) hu hV)) (rd_3 (by decide)) rfl rfl rfl (Nat.le_of_ble_eq_true rfl) ⟨by decide, by decide, by decide, by decide⟩ dX7_applyRow_39 rfl (fun sz => ?_)
  refine zval (v' := .int (vl σ t9.2.1)) (congrArg Value.int rfl) ?_
  refine zs (fun _ _ => lv_istore (lv' := [(6, .int (vl σ t9.2.1)), (5, .int (vl σ t9.1)), (4, .ref (x + (4 + 1 + 2 * to))), (0, .ref (x + 2)), (1, .ref (x + (61 + 6 * i))), (2, .int (nI j9)), (3, .int (nI u9))]) hx hb dX7_applyRow_42 hl (by decide) rfl) (fun ls hl => ?_)
  refine zz (fun _ _ => lv_aload_n hx hb dX7_applyRow_44 rfl (lv_at hl 3 rfl)) ?_
  refine zz (fun _ _ => lv_aload_n hx hb dX7_applyRow_45 rfl (lv_at hl 4 rfl)) ?_
  refine z_get (v := .ref (x + ((61 + 6 * i) + 1))) C fd_X7_153 (rd_18 (ck_s hi)) rfl dX7_applyRow_46 ?_
  refine zz (fun _ _ => lv_iload_n hx hb dX7_applyRow_49 rfl (lv_at hl 5 rfl)) ?_
  refine zdV (As := [.int (nI j9)]) (rest := [.ref (x + 2)]) (st' := [.int ((fX3_object av ((61 + 6 * i) + 1) (nI j9))), .ref (x + 2)]) C hl.1 lk_X7_126 (ctX3_object (j_0 := 0) (nb_18_1 (ck_s hi)) rfl (by rw [tl_t hi]; omega)) (rd_14 (nb_18_1 (ck_s hi))) rfl rfl rfl (Nat.le_of_ble_eq_true rfl) ⟨by decide, by decide, by decide, by decide⟩ dX7_applyRow_50 rfl (fun sz => ?_)
  refine zval (v' := .int (t9.2.2.1)) (congrArg Value.int ((row_s (by omega)).2.2.trans hrow.2.2.1)) ?_
  refine zz (fun _ _ => lv_iload_n hx hb dX7_applyRow_53 rfl (lv_at hl 6 rfl)) ?_
  refine zdV (As := [.int (t9.2.2.1), .int (nI u9)]) (rest := []) (st' := [.int (vl σ (t9.2.2.1))]) C hl.1 lk_X7_170 (Ct.ofS (hX7_valueOf (a_ := t9.2.2.1) (σ := σ) hu hV)) (rd_3 (by decide)) rfl rfl rfl (Nat.le_of_ble_eq_true rfl) ⟨by decide, by decide, by decide, by decide⟩ dX7_applyRow_54 rfl (fun sz => ?_)
  refine zval (v' := .int (vl σ t9.2.2.1)) (congrArg Value.int rfl) ?_
  refine zs (fun _ _ => lv_istore (lv' := [(7, .int (vl σ t9.2.2.1)), (6, .int (vl σ t9.2.1)), (5, .int (vl σ t9.1)), (4, .ref (x + (4 + 1 + 2 * to))), (0, .ref (x + 2)), (1, .ref (x + (61 + 6 * i))), (2, .int (nI j9)), (3, .int (nI u9))]) hx hb dX7_applyRow_57 hl (by decide) rfl) (fun ls hl => ?_)
  refine zz (fun _ _ => lv_iload hx hb dX7_applyRow_59 (lv_at hl 2 rfl)) ?_
  refine zz (fun _ _ => lv_iconst (v := (-1)) hx hb dX7_applyRow_61 (by decide)) ?_
  refine zb (fun _ _ => lv_icmp_eq (tgt := 79) hx hb dX7_applyRow_62 (by decide)) (fun c_1 => ?_) (fun c_1 => ?_)
  · refine zz (fun _ _ => lv_iconst (v := 1) hx hb dX7_applyRow_79 (by decide)) ?_
    exact z_zret C hr rfl hlk dX7_applyRow_80 (zpI_mk (a := iv) (b := av) (ar_skip hS hB hmk (lo_1 c_1)))
  · refine zz (fun _ _ => lv_iload hx hb dX7_applyRow_65 (lv_at hl 0 rfl)) ?_
    refine zz (fun _ _ => lv_iconst (v := (-1)) hx hb dX7_applyRow_67 (by decide)) ?_
    refine zb (fun _ _ => lv_icmp_eq (tgt := 79) hx hb dX7_applyRow_68 (by decide)) (fun c_2 => ?_) (fun c_2 => ?_)
    · refine zz (fun _ _ => lv_iconst (v := 1) hx hb dX7_applyRow_79 (by decide)) ?_
      exact z_zret C hr rfl hlk dX7_applyRow_80 (zpI_mk (a := iv) (b := av) (ar_skip hS hB hmk (lo_2 c_2)))
    · refine zz (fun _ _ => lv_iload hx hb dX7_applyRow_71 (lv_at hl 1 rfl)) ?_
      refine zdS (As := [.int (vl σ t9.2.1)]) (rest := []) (st' := [.int ((fX8_isName (vl σ t9.2.1)))]) C hl.1 lk_X7_174 (ctX8_isName ) rfl rfl (Nat.le_of_ble_eq_true rfl) ⟨by decide, by decide, by decide, by decide⟩ dX7_applyRow_73 rfl (fun sz => ?_)
      refine zbn (fun _ _ => lv_if_ne (tgt := 81) hx hb dX7_applyRow_76 (by decide)) (fun c_3 => ?_) (fun c_3 => ?_)
      · have hnl9 := lo_n c_1 c_2 c_3
        have htm9 := ad_term hσ hok hnl9
        refine zz (fun _ _ => lv_aload_n hx hb dX7_applyRow_81 rfl (lv_at hl 5 rfl)) ?_
        refine z_get (v := .ref (x + ((61 + 6 * i) + 3))) C fd_X7_156 (rd_18 (ck_s hi)) rfl dX7_applyRow_82 ?_
        refine zz (fun _ _ => lv_iload_n hx hb dX7_applyRow_85 rfl (lv_at hl 6 rfl)) ?_
        refine z_zald (f := av ((61 + 6 * i) + 3)) C (rd_20 (nb_18_3 (ck_s hi))) (by first | assumption | (apply vp_in_nI <;> omega)) dX7_applyRow_86 ?_
        refine zval (v' := .int (1)) (congrArg Value.int ((rdI hrow.2.2.2 (by omega)).trans (by rw [ha]; rfl))) ?_
        refine zbn (fun _ _ => lv_if_ne (tgt := 106) hx hb dX7_applyRow_87 (by decide)) (fun c_4 => ?_) (fun c_4 => ?_)
        · refine zz (fun _ _ => lv_aload_n hx hb dX7_applyRow_106 rfl (lv_at hl 4 rfl)) ?_
          refine zz (fun _ _ => lv_iload hx hb dX7_applyRow_107 (lv_at hl 2 rfl)) ?_
          refine zqVI (As := [.int (vl σ t9.1)]) (rest := []) C hl.1 lk_X7_180 (hX7_withBlank hS hB hmk (wb_hid hS hB hmk htm9.1) (wb_het htm9.1)) (rd_3 (by decide)) rfl rfl rfl (Nat.le_of_ble_eq_true rfl) ⟨by decide, by decide, by decide, by decide⟩ dX7_applyRow_109 (fun w5 iv5 av5 sz h5 => ?_)
          refine zeq (M' := (cm aC x iv5 av5 R)) rfl ?_
          refine zs (fun _ _ => lv_istore (lv' := [(8, .int (w5)), (7, .int (vl σ t9.2.2.1)), (6, .int (vl σ t9.2.1)), (5, .int (vl σ t9.1)), (4, .ref (x + (4 + 1 + 2 * to))), (0, .ref (x + 2)), (1, .ref (x + (61 + 6 * i))), (2, .int (nI j9)), (3, .int (nI u9))]) hx hb dX7_applyRow_112 hl (by decide) rfl) (fun ls hl => ?_)
          rcases h5.2 with ⟨e9, ew9, hS9, hB9⟩ | ⟨b9, m10, y9, e9, hy9, ew9, hS9, hB9, hk9⟩
          · refine zz (fun _ _ => lv_aload_n hx hb dX7_applyRow_114 rfl (lv_at hl 5 rfl)) ?_
            refine zz (fun _ _ => lv_iload hx hb dX7_applyRow_115 (lv_at hl 1 rfl)) ?_
            refine zqVI (As := [.int (vl σ t9.2.2.1)]) (rest := []) C hl.1 lk_X7_180 (hX7_withBlank hS9 hB9 hmk (wb_hid hS9 hB9 hmk htm9.2.1) (wb_het htm9.2.1)) (rd_3 (by decide)) rfl rfl rfl (Nat.le_of_ble_eq_true rfl) ⟨by decide, by decide, by decide, by decide⟩ dX7_applyRow_117 (fun w6 iv6 av6 sz h6 => ?_)
            refine zeq (M' := (cm aC x iv6 av6 R)) rfl ?_
            refine zs (fun _ _ => lv_istore (lv' := [(9, .int (w6)), (8, .int (w5)), (7, .int (vl σ t9.2.2.1)), (6, .int (vl σ t9.2.1)), (5, .int (vl σ t9.1)), (4, .ref (x + (4 + 1 + 2 * to))), (0, .ref (x + 2)), (1, .ref (x + (61 + 6 * i))), (2, .int (nI j9)), (3, .int (nI u9))]) hx hb dX7_applyRow_120 hl (by decide) rfl) (fun ls hl => ?_)
            refine zz (fun _ _ => lv_iload hx hb dX7_applyRow_122 (lv_at hl 1 rfl)) ?_
            refine zz (fun _ _ => lv_iconst (v := (-1)) hx hb dX7_applyRow_124 (by decide)) ?_
            refine zb (fun _ _ => lv_icmp_eq (tgt := 159) hx hb dX7_applyRow_125 (by decide)) (fun c_7 => ?_) (fun c_7 => ?_)
            · refine zz (fun _ _ => lv_iconst (v := 0) hx hb dX7_applyRow_159 (by decide)) ?_
              exact z_zret C hr rfl hlk dX7_applyRow_160 (zpI_mk (a := iv6) (b := av6) (ar_no1 ha hnl9 (h5.1.trans h6.1) e9))
            · exact absurd ew9 c_7
          · have hne9 : ¬ w5 = (-1) := by rw [ew9]; exact nI_n1 (by omega)
            refine zz (fun _ _ => lv_aload_n hx hb dX7_applyRow_114 rfl (lv_at hl 5 rfl)) ?_
            refine zz (fun _ _ => lv_iload hx hb dX7_applyRow_115 (lv_at hl 1 rfl)) ?_
            refine zqVI (As := [.int (vl σ t9.2.2.1)]) (rest := []) C hl.1 lk_X7_180 (hX7_withBlank hS9 hB9 hk9 (wb_hid hS9 hB9 hk9 htm9.2.1) (wb_het htm9.2.1)) (rd_3 (by decide)) rfl rfl rfl (Nat.le_of_ble_eq_true rfl) ⟨by decide, by decide, by decide, by decide⟩ dX7_applyRow_117 (fun w8 iv8 av8 sz h8 => ?_)
            refine zeq (M' := (cm aC x iv8 av8 R)) rfl ?_
            refine zs (fun _ _ => lv_istore (lv' := [(9, .int (w8)), (8, .int (w5)), (7, .int (vl σ t9.2.2.1)), (6, .int (vl σ t9.2.1)), (5, .int (vl σ t9.1)), (4, .ref (x + (4 + 1 + 2 * to))), (0, .ref (x + 2)), (1, .ref (x + (61 + 6 * i))), (2, .int (nI j9)), (3, .int (nI u9))]) hx hb dX7_applyRow_120 hl (by decide) rfl) (fun ls hl => ?_)
            refine zz (fun _ _ => lv_iload hx hb dX7_applyRow_122 (lv_at hl 1 rfl)) ?_
            refine zz (fun _ _ => lv_iconst (v := (-1)) hx hb dX7_applyRow_124 (by decide)) ?_
            refine zb (fun _ _ => lv_icmp_eq (tgt := 159) hx hb dX7_applyRow_125 (by decide)) (fun c_9 => ?_) (fun c_9 => ?_)
            · exact absurd c_9 hne9
            · refine zz (fun _ _ => lv_iload hx hb dX7_applyRow_128 (lv_at hl 0 rfl)) ?_
              refine zz (fun _ _ => lv_iconst (v := (-1)) hx hb dX7_applyRow_130 (by decide)) ?_
              refine zb (fun _ _ => lv_icmp_eq (tgt := 159) hx hb dX7_applyRow_131 (by decide)) (fun c_10 => ?_) (fun c_10 => ?_)
              · refine zz (fun _ _ => lv_iconst (v := 0) hx hb dX7_applyRow_159 (by decide)) ?_
                exact z_zret C hr rfl hlk dX7_applyRow_160 (zpI_mk (a := iv8) (b := av8) (ar_no2 ha hnl9 (h5.1.trans h8.1) e9 (by have h9 := wb_no h8 c_10; exact h9)))
              · obtain ⟨b10, m11, z9, ec9, hz9, ew10, hS12, hB12, hk12⟩ := wb_ok h8 c_10
                have hp9 := htm9.2.2.1
                have hoc9 : okc (cd y9 (nn (vl σ t9.2.1)) z9) := okc_cd hy9 hp9 hz9
                refine zz (fun _ _ => lv_aload_n hx hb dX7_applyRow_134 rfl (lv_at hl 6 rfl)) ?_
                refine z_get (v := .ref (x + 3)) C fd_X7_12 (rd_3 (by decide)) rfl dX7_applyRow_135 ?_
                refine zz (fun _ _ => lv_aload hx hb dX7_applyRow_138 (lv_at hl 5 rfl)) ?_
                refine zz (fun _ _ => lv_iload hx hb dX7_applyRow_140 (lv_at hl 1 rfl)) ?_
                refine zval (v' := .int (nI (pt (cd y9 (nn (vl σ t9.2.1)) z9) 0))) (congrArg Value.int (ew9.trans (by rw [pt_cd0 (by omega) (by omega)]))) ?_
                refine zz (fun _ _ => lv_iload hx hb dX7_applyRow_142 (lv_at hl 3 rfl)) ?_
                refine zval (v' := .int (nI (pt (cd y9 (nn (vl σ t9.2.1)) z9) 1))) (congrArg Value.int (htm9.2.2.2.trans (by rw [pt_cd1 (by omega) (by omega)]))) ?_
                refine zz (fun _ _ => lv_iload hx hb dX7_applyRow_144 (lv_at hl 0 rfl)) ?_
                refine zval (v' := .int (nI (pt (cd y9 (nn (vl σ t9.2.1)) z9) 2))) (congrArg Value.int (ew10.trans (by rw [pt_cd2 (by omega) (by omega)]))) ?_
                refine zdS (As := [.int (nI (pt (cd y9 (nn (vl σ t9.2.1)) z9) 0)), .int (nI (pt (cd y9 (nn (vl σ t9.2.1)) z9) 1)), .int (nI (pt (cd y9 (nn (vl σ t9.2.1)) z9) 2))]) (rest := [.ref (x + (4 + 1 + 2 * to)), .ref (x + 3)]) (st' := [.int ((fX8_factOf (nI (pt (cd y9 (nn (vl σ t9.2.1)) z9) 0)) (nI (pt (cd y9 (nn (vl σ t9.2.1)) z9) 1)) (nI (pt (cd y9 (nn (vl σ t9.2.1)) z9) 2)))), .ref (x + (4 + 1 + 2 * to)), .ref (x + 3)]) C hl.1 lk_X7_129 (ctX8_factOf ) rfl rfl (Nat.le_of_ble_eq_true rfl) ⟨by decide, by decide, by decide, by decide⟩ dX7_applyRow_146 rfl (fun sz => ?_)
                refine zval (v' := .int (nI (cd y9 (nn (vl σ t9.2.1)) z9))) (congrArg Value.int (factOf_s hoc9)) ?_
                refine zqVI (As := [.ref (x + (4 + 1 + 2 * to)), .int (nI (cd y9 (nn (vl σ t9.2.1)) z9))]) (rest := []) C hl.1 lk_X7_103 (hX6_put hto7 hS12 hoc9) (rd_4 (by decide)) rfl rfl rfl (Nat.le_of_ble_eq_true rfl) ⟨by decide, by decide, by decide, by decide⟩ dX7_applyRow_149 (fun w11 iv11 av11 sz h11 => ?_)
                refine zeq (M' := (cm aC x iv11 av11 R)) rfl ?_
                refine zb (fun _ _ => lv_if_eq (tgt := 159) hx hb dX7_applyRow_152 (by decide)) (fun c_12 => ?_) (fun c_12 => ?_)
                · refine zz (fun _ _ => lv_iconst (v := 0) hx hb dX7_applyRow_159 (by decide)) ?_
                  exact z_zret C hr rfl hlk dX7_applyRow_160 (zpI_mk (a := iv11) (b := av11) (ar_no3 ha hnl9 ((h5.1.trans h8.1).trans h11.1) e9 ec9 (by have h9 := pt_nn h11 c_12; exact h9)))
                · refine zz (fun _ _ => lv_iconst (v := 1) hx hb dX7_applyRow_155 (by decide)) ?_
                  refine zz (fun _ _ => lv_goto (tgt := 160) hx hb dX7_applyRow_156 (by decide)) ?_
                  exact z_zret C hr rfl hlk dX7_applyRow_160 (zpI_mk (a := iv11) (b := av11) (by obtain ⟨S13, es9, hS13⟩ := pt_ok h11 c_12; exact ar_ok ha hnl9 ((h5.1.trans h8.1).trans h11.1) e9 ec9 es9 hS13 (fun k hk => (congrFun h11.2.1 k).trans (hB12 k hk)) hk12))
        · exact absurd c_4 (by decide)
      · refine zz (fun _ _ => lv_iconst (v := 1) hx hb dX7_applyRow_79 (by decide)) ?_
        exact z_zret C hr rfl hlk dX7_applyRow_80 (zpI_mk (a := iv) (b := av) (ar_skip hS hB hmk (lo_3 c_3)))
