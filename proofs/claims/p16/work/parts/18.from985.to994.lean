section
set_option maxHeartbeats 2000000 in
set_option maxRecDepth 10000 in
theorem hX2_insert {l : Launch} {D : va_G} {aC : Nat → ClassId} {b0 sz : Nat} {x : Nat} {iv av : Nat → Nat → Int32} {R : ZM} {k c9 : Nat} {p9 : Nat → Bool} {t9 : Bool} (hk : ck k = 6) (hG : GC iv av k p9 t9) (ho : ∀ c, p9 c = true → okc c) (hn : (cds p9).length < 120) (hc : okc c9) (hp : p9 c9 = false) : Ct l D aC b0 yX2_insert cX2_insert 3 none 1 0 0 [.ref (x + k), .int (nI c9)] (cm aC x iv av R) sz (zpN (fun iv av => cm aC x iv av R) (fun iv' av' => GC iv' av' k (pC p9 c9 true) t9 ∧ GF k iv av iv' av')) := by
  refine Ct.of (by decide) (Nat.le_of_ble_eq_true rfl) ?_
  intro p e s m below meth c ls C hr hlk hnm hl
  have hl : lv_has ls 3 [(0, .ref (x + k)), (1, .int (nI c9))] := hl
  obtain ⟨hx, hb, -, -, -⟩ := id C
  obtain ⟨q9, eq9, hq9, hlo9, hhi9⟩ := place_s hG ho (by omega) (show c9 < 2 ^ 31 by have := okc_lt hc; omega)
  refine zz (fun _ _ => lv_aload_n hx hb dX2_insert_0 rfl (lv_at hl 0 rfl)) ?_
  refine zz (fun _ _ => lv_iload_n hx hb dX2_insert_1 rfl (lv_at hl 1 rfl)) ?_
  refine zdV (As := [.int (nI c9)]) (rest := []) (st' := [.int ((fX2_placeOf iv av k (nI c9)))]) C hl.1 lk_X2_23 (ctX2_placeOf hk hG.1 (by omega)) (rd_6 hk) rfl rfl rfl (Nat.le_of_ble_eq_true rfl) ⟨by decide, by decide, by decide, by decide⟩ dX2_insert_2 rfl (fun sz => ?_)
  refine zval (v' := .int (nI q9)) (congrArg Value.int eq9) ?_
  refine zs (fun _ _ => lv_istore_n (lv' := [(2, .int (nI q9)), (0, .ref (x + k)), (1, .int (nI c9))]) hx hb dX2_insert_5 rfl hl (by decide) rfl) (fun ls hl => ?_)
  refine zz (fun _ _ => lv_aload_n hx hb dX2_insert_6 rfl (lv_at hl 1 rfl)) ?_
  refine z_get (v := .int (iv k 1)) C fd_X2_15 (rd_6 hk) rfl dX2_insert_7 ?_
  refine zval (v' := .int (nI (cds p9).length)) (congrArg Value.int hG.1) ?_
  refine zz (fun _ _ => lv_bipush (v := 120) hx hb dX2_insert_10 (by decide)) ?_
  refine zval (v' := .int (nI 120)) (congrArg Value.int rfl) ?_
  refine zb (fun _ _ => lv_icmp_ge (tgt := 53) hx hb dX2_insert_12 (by decide)) (fun c_1 => ?_) (fun c_1 => ?_)
  · exact absurd c_1 (nI_ge (by omega) (by omega))
  · refine zz (fun _ _ => lv_aload_n hx hb dX2_insert_15 rfl (lv_at hl 1 rfl)) ?_
    refine z_get (v := .ref (x + (k + 1))) C fd_X2_9 (rd_6 hk) rfl dX2_insert_16 ?_
    refine zz (fun _ _ => lv_iload_n hx hb dX2_insert_19 rfl (lv_at hl 0 rfl)) ?_
    refine zz (fun _ _ => lv_aload_n hx hb dX2_insert_20 rfl (lv_at hl 1 rfl)) ?_
    refine z_get (v := .ref (x + (k + 1))) C fd_X2_9 (rd_6 hk) rfl dX2_insert_21 ?_
    refine zz (fun _ _ => lv_iload_n hx hb dX2_insert_24 rfl (lv_at hl 0 rfl)) ?_
    refine zz (fun _ _ => lv_iconst (v := 1) hx hb dX2_insert_25 (by decide)) ?_
    refine zz (fun _ _ => lv_iadd hx hb dX2_insert_26) ?_
    refine zval (v' := .int (nI (q9 + 1))) (congrArg Value.int (nI_1 _)) ?_
    refine zz (fun _ _ => lv_aload_n hx hb dX2_insert_27 rfl (lv_at hl 1 rfl)) ?_
    refine z_get (v := .int (iv k 1)) C fd_X2_15 (rd_6 hk) rfl dX2_insert_28 ?_
    refine zval (v' := .int (nI (cds p9).length)) (congrArg Value.int hG.1) ?_
    refine zz (fun _ _ => lv_iload_n hx hb dX2_insert_31 rfl (lv_at hl 0 rfl)) ?_
    refine zz (fun _ _ => lv_isub hx hb dX2_insert_32) ?_
    refine zval (v' := .int (nI ((cds p9).length - q9))) (congrArg Value.int (pk_sub hq9)) ?_
    refine z_copy C hl.1 ac_X2_27 (rd_7 (nb_6_1 hk)) (rd_7 (nb_6_1 hk)) (nI_pos (by omega)) (nI_pos (by omega)) (nI_pos (by omega)) (by rw [nI_clamp (by omega), nI_clamp (by omega)]; omega) (by rw [nI_clamp (by omega), nI_clamp (by omega)]; omega) (by decide) (by decide) dX2_insert_33 (fun sz => ?_)
    refine zeq (wr_7 (nb_6_1 hk)) ?_
    refine zz (fun _ _ => lv_aload_n hx hb dX2_insert_36 rfl (lv_at hl 1 rfl)) ?_
    refine z_get (v := .ref (x + (k + 1))) C fd_X2_9 (rd_6 hk) rfl dX2_insert_37 ?_
    refine zz (fun _ _ => lv_iload_n hx hb dX2_insert_40 rfl (lv_at hl 0 rfl)) ?_
    refine zz (fun _ _ => lv_iload_n hx hb dX2_insert_41 rfl (lv_at hl 2 rfl)) ?_
    refine z_iast (n := 120) (f := (va_cpy (av (k + 1)) (av (k + 1)) (Int32.toNatClampNeg (nI q9)) (Int32.toNatClampNeg (nI (q9 + 1))) (Int32.toNatClampNeg (nI ((cds p9).length - q9))))) C ((rd_7 (nb_6_1 hk)).trans (by simp [u1])) (by first | assumption | (apply vp_in_nI <;> omega)) dX2_insert_42 ?_
    refine zeq (wr_7 (nb_6_1 hk)) ?_
    refine zz (fun _ _ => lv_aload_n hx hb dX2_insert_43 rfl (lv_at hl 1 rfl)) ?_
    refine zz (fun _ _ => lv_dup hx hb dX2_insert_44 rfl) ?_
    refine z_get (v := .int (iv k 1)) C fd_X2_15 (rd_6 hk) rfl dX2_insert_45 ?_
    refine zval (v' := .int (nI (cds p9).length)) (congrArg Value.int hG.1) ?_
    refine zz (fun _ _ => lv_iconst (v := 1) hx hb dX2_insert_48 (by decide)) ?_
    refine zz (fun _ _ => lv_iadd hx hb dX2_insert_49) ?_
    refine zval (v' := .int (nI ((cds p9).length + 1))) (congrArg Value.int (nI_1 _)) ?_
    refine z_put C fp_X2_15 (fun h => by cases h) (rd_6 hk) (Nat.le_of_ble_eq_true rfl) rfl rfl dX2_insert_50 ?_
    refine zeq (wr_6_1 hk) ?_
    exact z_vret C hr hlk dX2_insert_53 (zpN_mk (a := (u2 iv k 1 (nI ((cds p9).length + 1)))) (b := (u1 (u1 av (k + 1) (va_cpy (av (k + 1)) (av (k + 1)) (Int32.toNatClampNeg (nI q9)) (Int32.toNatClampNeg (nI (q9 + 1))) (Int32.toNatClampNeg (nI ((cds p9).length - q9))))) (k + 1) (upd ((va_cpy (av (k + 1)) (av (k + 1)) (Int32.toNatClampNeg (nI q9)) (Int32.toNatClampNeg (nI (q9 + 1))) (Int32.toNatClampNeg (nI ((cds p9).length - q9))))) (Int32.toNatClampNeg (nI q9)) (nI c9)))) (ins_end hG ho hn hc hp hq9 hlo9 hhi9))
set_option maxHeartbeats 2000000 in
set_option maxRecDepth 10000 in
theorem hX2_remove {l : Launch} {D : va_G} {aC : Nat → ClassId} {b0 sz : Nat} {x : Nat} {iv av : Nat → Nat → Int32} {R : ZM} {k c9 : Nat} {p9 : Nat → Bool} {t9 : Bool} (hk : ck k = 6) (hG : GC iv av k p9 t9) (ho : ∀ c, p9 c = true → okc c) (hn : (cds p9).length ≤ 120) (hc : okc c9) : Ct l D aC b0 yX2_remove cX2_remove 3 none 1 0 0 [.ref (x + k), .int (nI c9)] (cm aC x iv av R) sz (zpN (fun iv av => cm aC x iv av R) (fun iv' av' => GC iv' av' k (pC p9 c9 false) t9 ∧ GF k iv av iv' av')) := by
  refine Ct.of (by decide) (Nat.le_of_ble_eq_true rfl) ?_
  intro p e s m below meth c ls C hr hlk hnm hl
  have hl : lv_has ls 3 [(0, .ref (x + k)), (1, .int (nI c9))] := hl
  obtain ⟨hx, hb, -, -, -⟩ := id C
  have hc9 : c9 < 2 ^ 31 := by have := okc_lt hc; omega
  obtain ⟨q9, eq9, hq9, hlo9, hhi9⟩ := place_s hG ho (by omega) hc9
  have hm9 := (place_mem hq9 hlo9 hhi9).symm.trans (cds_mem ho)
  refine zz (fun _ _ => lv_aload_n hx hb dX2_remove_0 rfl (lv_at hl 0 rfl)) ?_
  refine zz (fun _ _ => lv_iload_n hx hb dX2_remove_1 rfl (lv_at hl 1 rfl)) ?_
  refine zdV (As := [.int (nI c9)]) (rest := []) (st' := [.int ((fX2_placeOf iv av k (nI c9)))]) C hl.1 lk_X2_23 (ctX2_placeOf hk hG.1 (by omega)) (rd_6 hk) rfl rfl rfl (Nat.le_of_ble_eq_true rfl) ⟨by decide, by decide, by decide, by decide⟩ dX2_remove_2 rfl (fun sz => ?_)
  refine zval (v' := .int (nI q9)) (congrArg Value.int eq9) ?_
  refine zs (fun _ _ => lv_istore_n (lv' := [(2, .int (nI q9)), (0, .ref (x + k)), (1, .int (nI c9))]) hx hb dX2_remove_5 rfl hl (by decide) rfl) (fun ls hl => ?_)
  refine zz (fun _ _ => lv_iload_n hx hb dX2_remove_6 rfl (lv_at hl 0 rfl)) ?_
  refine zz (fun _ _ => lv_aload_n hx hb dX2_remove_7 rfl (lv_at hl 1 rfl)) ?_
  refine z_get (v := .int (iv k 1)) C fd_X2_15 (rd_6 hk) rfl dX2_remove_8 ?_
  refine zval (v' := .int (nI (cds p9).length)) (congrArg Value.int hG.1) ?_
  refine zb (fun _ _ => lv_icmp_ge (tgt := 57) hx hb dX2_remove_11 (by decide)) (fun c_1 => ?_) (fun c_1 => ?_)
  · exact z_vret C hr hlk dX2_remove_57 (zpN_mk (a := iv) (b := av) (rem_no hG (Bool.eq_false_iff.mpr (fun r => by have h9 := hm9.mpr r; exact nI_ge h9.1 (by omega) c_1))))
  · have hlt9 : q9 < (cds p9).length := Nat.lt_of_not_le (fun q => c_1 (nI_le q (by omega)))
    have hb9 := cds_lt ho hlt9
    refine zz (fun _ _ => lv_aload_n hx hb dX2_remove_14 rfl (lv_at hl 1 rfl)) ?_
    refine z_get (v := .ref (x + (k + 1))) C fd_X2_9 (rd_6 hk) rfl dX2_remove_15 ?_
    refine zz (fun _ _ => lv_iload_n hx hb dX2_remove_18 rfl (lv_at hl 0 rfl)) ?_
    refine z_iald (f := av (k + 1)) C (rd_7 (nb_6_1 hk)) (by first | assumption | (apply vp_in_nI <;> omega)) dX2_remove_19 ?_
    refine zval (v' := .int (nI ((cds p9).getD q9 0))) (congrArg Value.int (rdI (hG.2.2 q9 hlt9) (by omega))) ?_
    refine zz (fun _ _ => lv_iload_n hx hb dX2_remove_20 rfl (lv_at hl 2 rfl)) ?_
    refine zbn (fun _ _ => lv_icmp_ne (tgt := 57) hx hb dX2_remove_21 (by decide)) (fun c_2 => ?_) (fun c_2 => ?_)
    · exact z_vret C hr hlk dX2_remove_57 (zpN_mk (a := iv) (b := av) (rem_no hG (Bool.eq_false_iff.mpr (fun r => by have h9 := hm9.mpr r; exact c_2 (by rw [h9.2])))))
    · refine zz (fun _ _ => lv_aload_n hx hb dX2_remove_24 rfl (lv_at hl 1 rfl)) ?_
      refine z_get (v := .ref (x + (k + 1))) C fd_X2_9 (rd_6 hk) rfl dX2_remove_25 ?_
      refine zz (fun _ _ => lv_iload_n hx hb dX2_remove_28 rfl (lv_at hl 0 rfl)) ?_
      refine zz (fun _ _ => lv_iconst (v := 1) hx hb dX2_remove_29 (by decide)) ?_
      refine zz (fun _ _ => lv_iadd hx hb dX2_remove_30) ?_
      refine zval (v' := .int (nI (q9 + 1))) (congrArg Value.int (nI_1 _)) ?_
      refine zz (fun _ _ => lv_aload_n hx hb dX2_remove_31 rfl (lv_at hl 1 rfl)) ?_
      refine z_get (v := .ref (x + (k + 1))) C fd_X2_9 (rd_6 hk) rfl dX2_remove_32 ?_
      refine zz (fun _ _ => lv_iload_n hx hb dX2_remove_35 rfl (lv_at hl 0 rfl)) ?_
      refine zz (fun _ _ => lv_aload_n hx hb dX2_remove_36 rfl (lv_at hl 1 rfl)) ?_
      refine z_get (v := .int (iv k 1)) C fd_X2_15 (rd_6 hk) rfl dX2_remove_37 ?_
      refine zval (v' := .int (nI (cds p9).length)) (congrArg Value.int hG.1) ?_
      refine zz (fun _ _ => lv_iload_n hx hb dX2_remove_40 rfl (lv_at hl 0 rfl)) ?_
      refine zz (fun _ _ => lv_isub hx hb dX2_remove_41) ?_
      refine zval (v' := .int (nI ((cds p9).length - q9))) (congrArg Value.int (pk_sub hq9)) ?_
      refine zz (fun _ _ => lv_iconst (v := 1) hx hb dX2_remove_42 (by decide)) ?_
      refine zz (fun _ _ => lv_isub hx hb dX2_remove_43) ?_
      refine zval (v' := .int (nI ((cds p9).length - q9 - 1))) (congrArg Value.int (pk_sub (b := 1) (by omega))) ?_
      refine z_copy C hl.1 ac_X2_27 (rd_7 (nb_6_1 hk)) (rd_7 (nb_6_1 hk)) (nI_pos (by omega)) (nI_pos (by omega)) (nI_pos (by omega)) (by rw [nI_clamp (by omega), nI_clamp (by omega)]; omega) (by rw [nI_clamp (by omega), nI_clamp (by omega)]; omega) (by decide) (by decide) dX2_remove_44 (fun sz => ?_)
      refine zeq (wr_7 (nb_6_1 hk)) ?_
      refine zz (fun _ _ => lv_aload_n hx hb dX2_remove_47 rfl (lv_at hl 1 rfl)) ?_
      refine zz (fun _ _ => lv_dup hx hb dX2_remove_48 rfl) ?_
      refine z_get (v := .int (iv k 1)) C fd_X2_15 (rd_6 hk) rfl dX2_remove_49 ?_
      refine zval (v' := .int (nI (cds p9).length)) (congrArg Value.int hG.1) ?_
      refine zz (fun _ _ => lv_iconst (v := 1) hx hb dX2_remove_52 (by decide)) ?_
      refine zz (fun _ _ => lv_isub hx hb dX2_remove_53) ?_
      refine zval (v' := .int (nI ((cds p9).length - 1))) (congrArg Value.int (pk_sub (b := 1) (by omega))) ?_
      refine z_put C fp_X2_15 (fun h => by cases h) (rd_6 hk) (Nat.le_of_ble_eq_true rfl) rfl rfl dX2_remove_54 ?_
      refine zeq (wr_6_1 hk) ?_
      exact z_vret C hr hlk dX2_remove_57 (zpN_mk (a := (u2 iv k 1 (nI ((cds p9).length - 1)))) (b := (u1 av (k + 1) (va_cpy (av (k + 1)) (av (k + 1)) (Int32.toNatClampNeg (nI (q9 + 1))) (Int32.toNatClampNeg (nI q9)) (Int32.toNatClampNeg (nI ((cds p9).length - q9 - 1)))))) (rem_end hG ho hn hlt9 ((nI_eq (by omega) hc9).mp c_2)))
theorem ck_g {g : Nat} (h : g < 7) : ck (4 + 1 + 2 * g) = 6 := kp_5 (k := 4) (by decide) h
set_option maxHeartbeats 2000000 in
set_option maxRecDepth 10000 in
theorem hX6_put {l : Launch} {D : va_G} {aC : Nat → ClassId} {b0 sz : Nat} {x : Nat} {iv av : Nat → Nat → Int32} {R : ZM} {g c9 : Nat} {S : St} (hg : g < 7) (hS : SC iv av S) (hc : okc c9) : Ct l D aC b0 yX6_put cX6_put 3 (some .boolean) 2 0 0 [.ref (x + 3), .ref (x + (4 + 1 + 2 * g)), .int (nI c9)] (cm aC x iv av R) sz (zpI (fun iv av => cm aC x iv av R) (ptP iv av S g c9)) := by
  refine Ct.of (by decide) (Nat.le_of_ble_eq_true rfl) ?_
  intro p e s m below meth c ls C hr hlk hnm hl
  have hl : lv_has ls 3 [(0, .ref (x + 3)), (1, .ref (x + (4 + 1 + 2 * g))), (2, .int (nI c9))] := hl
  obtain ⟨hx, hb, -, -, -⟩ := id C
  have hc9 : c9 < 2 ^ 31 := by have := okc_lt hc; omega
  have hS9 := SC_there hS hg
  have hG9 := hS9.2.1 g hg
  rw [show (((S.1, tS S.2.1 g true, S.2.2) : St).2.1 g) = true by simp [tS]] at hG9
  refine zz (fun _ _ => lv_aload_n hx hb dX6_put_0 rfl (lv_at hl 1 rfl)) ?_
  refine zz (fun _ _ => lv_iconst (v := 1) hx hb dX6_put_1 (by decide)) ?_
  refine z_put C fp_X6_22 (fun h => by cases h) (rd_6 (ck_g hg)) (Nat.le_of_ble_eq_true rfl) rfl rfl dX6_put_2 ?_
  refine zeq (wr_6_2 (ck_g hg)) ?_
  refine zz (fun _ _ => lv_aload_n hx hb dX6_put_5 rfl (lv_at hl 1 rfl)) ?_
  refine zz (fun _ _ => lv_iload_n hx hb dX6_put_6 rfl (lv_at hl 2 rfl)) ?_
  refine zdV (As := [.int (nI c9)]) (rest := []) (st' := [.int ((fX2_holds (u2 iv (4 + 1 + 2 * g) 2 (1)) av (4 + 1 + 2 * g) (nI c9)))]) C hl.1 lk_X6_29 (ctX2_holds (ck_g hg) (hS9.2.1 g hg).1 (SC_len hS hg)) (rd_6 (ck_g hg)) rfl rfl rfl (Nat.le_of_ble_eq_true rfl) ⟨by decide, by decide, by decide, by decide⟩ dX6_put_7 rfl (fun sz => ?_)
  refine zval (v' := .int (tI (S.1 g c9))) (congrArg Value.int (holds_s (hS9.2.1 g hg) (okP_g hS.1.1 g) (SC_len hS hg) hc9)) ?_
  refine zb (fun _ _ => lv_if_eq (tgt := 15) hx hb dX6_put_10 (by decide)) (fun c_1 => ?_) (fun c_1 => ?_)
  · refine zz (fun _ _ => lv_aload_n hx hb dX6_put_15 rfl (lv_at hl 0 rfl)) ?_
    refine zdV (As := []) (rest := []) (st' := [.int ((fX6_factCount (u2 iv (4 + 1 + 2 * g) 2 (1)) 3))]) C hl.1 lk_X6_33 (ctX6_factCount (by decide)) (rd_4 (by decide)) rfl rfl rfl (Nat.le_of_ble_eq_true rfl) ⟨by decide, by decide, by decide, by decide⟩ dX6_put_16 rfl (fun sz => ?_)
    refine zval (v' := .int (nI (card S.1))) (congrArg Value.int (by have h9 := factCount_s hS9; exact h9)) ?_
    refine zz (fun _ _ => lv_bipush (v := 120) hx hb dX6_put_19 (by decide)) ?_
    refine zval (v' := .int (nI 120)) (congrArg Value.int rfl) ?_
    refine zb (fun _ _ => lv_icmp_lt (tgt := 26) hx hb dX6_put_21 (by decide)) (fun c_2 => ?_) (fun c_2 => ?_)
    · refine zz (fun _ _ => lv_aload_n hx hb dX6_put_26 rfl (lv_at hl 1 rfl)) ?_
      refine zz (fun _ _ => lv_iload_n hx hb dX6_put_27 rfl (lv_at hl 2 rfl)) ?_
      refine zqVN (As := [.int (nI c9)]) (rest := []) C hl.1 lk_X6_37 (hX2_insert (ck_g hg) hG9 (okP_g hS.1.1 g) (Nat.lt_of_le_of_lt (cds_le_card S.1 hg) ((nI_ltI (by have := hS.1.2.1; omega) (by decide)).mp c_2)) hc (tI_0.mp c_1)) (rd_6 (ck_g hg)) rfl rfl rfl (Nat.le_of_ble_eq_true rfl) ⟨by decide, by decide, by decide, by decide⟩ dX6_put_28 (fun iv3 av3 sz h3 => ?_)
      refine zeq (M' := (cm aC x iv3 av3 R)) rfl ?_
      refine zz (fun _ _ => lv_iconst (v := 1) hx hb dX6_put_31 (by decide)) ?_
      exact z_zret C hr rfl hlk dX6_put_32 (zpI_mk (a := iv3) (b := av3) (pt_in hS hg hc c_1 c_2 h3))
    · refine zz (fun _ _ => lv_iconst (v := 0) hx hb dX6_put_24 (by decide)) ?_
      exact z_zret C hr rfl hlk dX6_put_25 (zpI_mk (a := (u2 iv (4 + 1 + 2 * g) 2 (1))) (b := av) (pt_no hS hg c_1 c_2))
  · refine zz (fun _ _ => lv_iconst (v := 1) hx hb dX6_put_13 (by decide)) ?_
    exact z_zret C hr rfl hlk dX6_put_14 (zpI_mk (a := (u2 iv (4 + 1 + 2 * g) 2 (1))) (b := av) (pt_has hS hg c_1))
end
section
/-! The sequence and the files in rows of cells, and steps on the sorted store. -/
def EC (iv av : Nat → Nat → Int32) (i : Nat) (q : Sq) : Prop := iv (61 + 6 * i) 3 = nI q.1 ∧ iv (61 + 6 * i) 4 = nI q.2.1 ∧ iv (61 + 6 * i) 5 = q.2.2.1 ∧ iv (61 + 6 * i) 6 = tI q.2.2.2.1 ∧ iv (61 + 6 * i + 1) 2 = nI q.2.2.2.2.1.length ∧ iv (61 + 6 * i + 1) 1 = nI 6 ∧
  (∀ j t, q.2.2.2.2.1[j]? = some t → av (61 + 6 * i + 1 + 1) (3 * j) = t.1 ∧ av (61 + 6 * i + 1 + 1) (3 * j + 1) = t.2.1 ∧ av (61 + 6 * i + 1 + 1) (3 * j + 2) = t.2.2.1 ∧ av (61 + 6 * i + 3) j = tI t.2.2.2) ∧ iv (61 + 6 * i + 4) 2 = nI q.2.2.2.2.2.length ∧ iv (61 + 6 * i + 4) 1 = nI 4 ∧
  (∀ j t, q.2.2.2.2.2[j]? = some t → av (61 + 6 * i + 4 + 1) (3 * j) = t.1 ∧ av (61 + 6 * i + 4 + 1) (3 * j + 1) = t.2.1 ∧ av (61 + 6 * i + 4 + 1) (3 * j + 2) = t.2.2)
def FLc (iv av : Nat → Nat → Int32) (TN : Nat → Bool) (FL : Nat → List Nat) : Prop := ∀ f, f < 4 → iv (29 + 3 * f + 1) 2 = nI (FL f).length ∧ (FL f).length ≤ 10 ∧ iv (29 + 3 * f + 1) 1 = nI 10 ∧ iv (29 + 3 * f) 1 = tI (TN f) ∧ (∀ j, j < (FL f).length → av (29 + 3 * f + 1 + 1) (3 * j) = nI (pt ((FL f).getD j 0) 0) ∧ av (29 + 3 * f + 1 + 1) (3 * j + 1) = nI (pt ((FL f).getD j 0) 1) ∧ av (29 + 3 * f + 1 + 1) (3 * j + 2) = nI (pt ((FL f).getD j 0) 2)) ∧ ∀ c ∈ FL f, okc c
/-- what a step may change of the cells -/
def FK (iv av iv' av' : Nat → Nat → Int32) : Prop := (∀ k f, (k < 2 ∨ (18 < k ∧ k ≠ 20)) → ¬ (61 ≤ k ∧ f = 7) → iv' k f = iv k f) ∧ ∀ k, (k < 3 ∨ (18 < k ∧ k < 22) ∨ 28 < k) → av' k = av k
theorem FK.refl {iv av : Nat → Nat → Int32} : FK iv av iv av := ⟨fun _ _ _ _ => rfl, fun _ _ => rfl⟩
theorem FK.trans {iv av iv1 av1 iv2 av2 : Nat → Nat → Int32} (h : FK iv av iv1 av1) (h2 : FK iv1 av1 iv2 av2) : FK iv av iv2 av2 := ⟨fun k f a b => (h2.1 k f a b).trans (h.1 k f a b), fun k a => (h2.2 k a).trans (h.2 k a)⟩
theorem FC.K {iv av iv' av' : Nat → Nat → Int32} (h : FC iv av iv' av') : FK iv av iv' av' := ⟨fun k f a _ => h.1 k f (by omega), fun k a => h.2 k (by omega)⟩
theorem EC.kept {iv av iv' av' : Nat → Nat → Int32} {i : Nat} {q : Sq} (h : EC iv av i q) (hf : FK iv av iv' av') : EC iv' av' i q := by
  unfold EC at h ⊢
  rw [hf.1 (61 + 6 * i) 3 (by omega) (by omega), hf.1 (61 + 6 * i) 4 (by omega) (by omega), hf.1 (61 + 6 * i) 5 (by omega) (by omega), hf.1 (61 + 6 * i) 6 (by omega) (by omega), hf.1 (61 + 6 * i + 1) 2 (by omega) (by omega), hf.1 (61 + 6 * i + 1) 1 (by omega) (by omega), hf.1 (61 + 6 * i + 4) 2 (by omega) (by omega), hf.1 (61 + 6 * i + 4) 1 (by omega) (by omega), hf.2 (61 + 6 * i + 1 + 1) (by omega), hf.2 (61 + 6 * i + 3) (by omega), hf.2 (61 + 6 * i + 4 + 1) (by omega)]
  exact h
theorem FLc.kept {iv av iv' av' : Nat → Nat → Int32} {TN : Nat → Bool} {FL : Nat → List Nat} (h : FLc iv av TN FL) (hf : FK iv av iv' av') : FLc iv' av' TN FL := by
  intro f hf4
  rw [hf.1 (29 + 3 * f + 1) 2 (by omega) (by omega), hf.1 (29 + 3 * f + 1) 1 (by omega) (by omega), hf.1 (29 + 3 * f) 1 (by omega) (by omega), hf.2 (29 + 3 * f + 1 + 1) (by omega)]
  exact h f hf4
/-- the end of a step -/
def AC (iv av : Nat → Nat → Int32) (a : Nat × St × Nat) (w : Int32) (iv' av' : Nat → Nat → Int32) : Prop := w = nI a.1 ∧ FK iv av iv' av' ∧ (a.1 < 4 → SC iv' av' a.2.1 ∧ iv' 2 4 = iv 2 4 + nI a.2.2)
theorem AC_same {iv av iv' av' : Nat → Nat → Int32} {S : St} {w : Int32} {n : Nat} (hw : w = nI n) (hf : FC iv av iv' av') (hS : SC iv' av' S) : AC iv av (n, S, 0) w iv' av' := ⟨hw, hf.K, fun _ => ⟨hS, by show iv' 2 4 = iv 2 4 + nI 0; rw [nI_0, hf.1 2 4 (by omega)]; simp⟩⟩
theorem AC_no {iv av iv' av' : Nat → Nat → Int32} {S : St} {w : Int32} {n : Nat} (hw : w = nI n) (hn : 4 ≤ n) (hf : FK iv av iv' av') : AC iv av (n, S, 0) w iv' av' := ⟨hw, hf, fun q => absurd q (show ¬ n < 4 by omega)⟩
theorem mkc_1 {iv av : Nat → Nat → Int32} {S : St} {to : Nat} (hS : SC iv av S) (h : ¬ tI (S.2.1 to) = 0) : AC iv av (aMake to S) 1 iv av := by
  unfold aMake
  rw [if_pos (tI_1.mp h)]
  exact AC_same rfl FC.refl hS
theorem mkc_0 {iv av : Nat → Nat → Int32} {S : St} {to : Nat} (hS : SC iv av S) (ht : to < 7) (h : tI (S.2.1 to) = 0) : AC iv av (aMake to S) 0 (u2 iv (4 + 1 + 2 * to) 2 1) av := by
  unfold aMake
  rw [if_neg (by rw [tI_0.mp h]; decide)]
  exact AC_same rfl (FC_there ht) (SC_there hS ht)
/-- rows put in one by one -/
def piI (iv av : Nat → Nat → Int32) (to : Nat) (l : List Nat) (S : St) (iv' av' : Nat → Nat → Int32) : Prop := FC iv av iv' av' ∧ ∃ S', putAll to l S = some S' ∧ SC iv' av' S'
theorem pi_next {iv av iv1 av1 iv2 av2 : Nat → Nat → Int32} {to j : Nat} {l : List Nat} {S S' : St} {w : Int32} (hj : j < l.length) (hf : FC iv av iv1 av1) (e : putAll to (l.take j) S = some S') (h : ptP iv1 av1 S' to (l.getD j 0) w iv2 av2) (hw : ¬ w = 0) : piI iv av to (l.take (j + 1)) S iv2 av2 := by
  refine ⟨hf.trans h.1, ?_⟩
  rcases h.2.2 with q | ⟨S2, _, q, hS⟩
  · exact absurd q.1 hw
  · exact ⟨S2, by rw [putAll_step hj, e]; exact q, hS⟩
theorem pi_no {iv1 av1 iv2 av2 : Nat → Nat → Int32} {to j : Nat} {l : List Nat} {S S' : St} {w : Int32} (hj : j < l.length) (e : putAll to (l.take j) S = some S') (h : ptP iv1 av1 S' to (l.getD j 0) w iv2 av2) (hw : w = 0) : putAll to l S = none := by
  refine putAll_none (j := j + 1) ?_
  rw [putAll_step hj, e]
  rcases h.2.2 with q | ⟨S2, q, _⟩
  · exact q.2
  · rw [hw] at q; exact absurd q (by decide)
theorem rdc_3 {iv av : Nat → Nat → Int32} {S : St} {tn : Bool} {fl : List Nat} {to : Nat} (hS : SC iv av S) (h : ¬ tI tn = 0) : AC iv av (aRead tn fl to S) 3 iv av := by
  unfold aRead
  rw [if_pos (tI_1.mp h)]
  exact AC_same rfl FC.refl hS
theorem rdc_4 {iv av iv' av' : Nat → Nat → Int32} {S : St} {tn : Bool} {fl : List Nat} {to : Nat} (h : tI tn = 0) (hf : FC iv av iv' av') (e : putAll to fl (S.1, tS S.2.1 to true, S.2.2) = none) : AC iv av (aRead tn fl to S) 4 iv' av' := by
  unfold aRead
  rw [if_neg (by rw [tI_0.mp h]; decide), e]
  exact AC_no rfl (by decide) hf.K
theorem rdc_0 {iv av iv' av' : Nat → Nat → Int32} {S : St} {tn : Bool} {fl : List Nat} {to : Nat} (h : tI tn = 0) (hI : piI iv av to (fl.take fl.length) (S.1, tS S.2.1 to true, S.2.2) iv' av') : AC iv av (aRead tn fl to S) 0 iv' av' := by
  rw [List.take_length] at hI
  obtain ⟨hf, S', e, hS⟩ := hI
  unfold aRead
  rw [if_neg (by rw [tI_0.mp h]; decide), e]
  exact AC_same rfl hf hS
/-- a fact out of its parts -/
theorem or_cd {a b d : Nat} (hb : b < 256) (hd : d < 256) : (a * 65536 ||| b * 256) ||| d = a * 65536 + b * 256 + d := by
  have e1 : a * 65536 ||| b * 256 = (a * 256 + b) * 256 := by
    have h : (a * 256) <<< 8 ||| b <<< 8 = (a * 256 ||| b) <<< 8 := Nat.shiftLeft_or_distrib.symm
    rw [Nat.shiftLeft_eq, Nat.shiftLeft_eq, Nat.shiftLeft_eq] at h
    have h2 : a * 256 ||| b = a * 256 + b := by
      have := Nat.shiftLeft_add_eq_or_of_lt (b := b) (i := 8) hb a
      rw [Nat.shiftLeft_eq] at this
      exact this.symm
    rw [h2] at h
    have e : a * 256 * 2 ^ 8 = a * 65536 := by omega
    rw [e] at h
    exact h
  rw [e1]
  have := Nat.shiftLeft_add_eq_or_of_lt (b := d) (i := 8) hd (a * 256 + b)
  rw [Nat.shiftLeft_eq] at this
  rw [show (a * 256 + b) * 256 = (a * 256 + b) * 2 ^ 8 from rfl, ← this]
  omega
theorem factOf_c {a b d : Nat} (ha : a < 256) (hb : b < 256) (hd : d < 256) : fX8_factOf (nI a) (nI b) (nI d) = nI (a * 65536 + b * 256 + d) := by
  unfold fX8_factOf
  rw [show ((16 : Int32) &&& 31) = 16 by decide, show ((8 : Int32) &&& 31) = 8 by decide, pk_shlN 16 16 (by decide) (by omega), pk_shlN 8 8 (by decide) (by omega)]
  apply Int32.toBitVec_inj.mp
  rw [Int32.toBitVec_or, Int32.toBitVec_or]
  apply BitVec.eq_of_toNat_eq
  rw [BitVec.toNat_or, BitVec.toNat_or, pk_tn (by omega), pk_tn (by omega), pk_tn (by omega), pk_tn (by omega)]
  exact or_cd hb hd
theorem factOf_s {c : Nat} (h : okc c) : fX8_factOf (nI (pt c 0)) (nI (pt c 1)) (nI (pt c 2)) = nI c := by
  rw [factOf_c (pt_lt h 0) (pt_lt h 1) (pt_lt h 2)]
  exact congrArg nI (cd_pt c)
theorem partOf_s {c k : Nat} (h : okc c) (hk : k < 3) : fX8_partOf (nI c) (nI k) = nI (pt c k) := by
  have hc := okc_lt h
  have h0 := pt_lt h 0
  unfold fX8_partOf
  rcases (show k = 0 ∨ k = 1 ∨ k = 2 by omega) with rfl | rfl | rfl
  · rw [show ((16 : Int32) - 8 * nI 0) &&& 31 = 16 by decide, pk_shrN (by omega) 16 16 (by decide), pk_andN (by omega) 8 (by decide)]
    congr 1
    unfold pt at h0 ⊢
    show c / 2 ^ 16 % 2 ^ 8 = c / 65536
    rw [Nat.mod_eq_of_lt (by omega)]
  · rw [show ((16 : Int32) - 8 * nI 1) &&& 31 = 8 by decide, pk_shrN (by omega) 8 8 (by decide), pk_andN (by omega) 8 (by decide)]
    rfl
  · rw [show ((16 : Int32) - 8 * nI 2) &&& 31 = 0 by decide, pk_shrN (by omega) 0 0 (by decide), pk_andN (by omega) 8 (by decide)]
    congr 1
    unfold pt
    show c / 2 ^ 0 % 2 ^ 8 = c % 256
    rw [Nat.pow_zero, Nat.div_one]
theorem ck_s {i : Nat} (h : i < 12) : ck (61 + 6 * i) = 18 := kp_2 h
theorem ck_f {f : Nat} (h : f < 4) : ck (29 + 3 * f) = 13 := kp_8 h
theorem tl_f {f : Nat} (h : f < 4) : tl (29 + 3 * f + 1) = 30 := by
  rcases (show f = 0 ∨ f = 1 ∨ f = 2 ∨ f = 3 by omega) with rfl | rfl | rfl | rfl <;> decide
theorem tl_t {i : Nat} (h : i < 12) : tl (61 + 6 * i + 1) = 18 := by
  rcases (show i = 0 ∨ i = 1 ∨ i = 2 ∨ i = 3 ∨ i = 4 ∨ i = 5 ∨ i = 6 ∨ i = 7 ∨ i = 8 ∨ i = 9 ∨ i = 10 ∨ i = 11 by omega) with rfl | rfl | rfl | rfl | rfl | rfl | rfl | rfl | rfl | rfl | rfl | rfl <;> decide
theorem tl_p {i : Nat} (h : i < 12) : tl (61 + 6 * i + 4) = 12 := by
  rcases (show i = 0 ∨ i = 1 ∨ i = 2 ∨ i = 3 ∨ i = 4 ∨ i = 5 ∨ i = 6 ∨ i = 7 ∨ i = 8 ∨ i = 9 ∨ i = 10 ∨ i = 11 by omega) with rfl | rfl | rfl | rfl | rfl | rfl | rfl | rfl | rfl | rfl | rfl | rfl <;> decide
theorem row_s {av : Nat → Nat → Int32} {k j : Nat} (hj : j < 100) : fX3_subject av k (nI j) = av (k + 1) (3 * j) ∧ fX3_property av k (nI j) = av (k + 1) (3 * j + 1) ∧ fX3_object av k (nI j) = av (k + 1) (3 * j + 2) := by
  have e : (3 : Int32) * nI j = nI (3 * j) := pk_mul 3 j
  have e1 : nI (3 * j) + 1 = nI (3 * j + 1) := nI_1 _
  have e2 : nI (3 * j) + 2 = nI (3 * j + 2) := nI_add _ 2
  unfold fX3_subject fX3_property fX3_object
  rw [e, e1, e2, nI_clamp (by omega), nI_clamp (by omega), nI_clamp (by omega)]
  exact ⟨rfl, rfl, rfl⟩
theorem putAll_other {to f : Nat} (hft : f ≠ to) : ∀ {l : List Nat} {S S' : St}, putAll to l S = some S' → S'.1 f = S.1 f
  | [], S, S', h => by cases h; rfl
  | c :: cs, S, S', h => by
    rw [putAll] at h
    cases e : stPut S to c with
    | none => rw [e] at h; cases h
    | some S1 =>
      rw [e] at h
      rw [putAll_other hft (l := cs) h]
      unfold stPut at e
      split at e
      · cases e; rfl
      · split at e
        · cases e
        · cases e; exact pS_k _ _ _ hft
end
section
set_option maxHeartbeats 2000000 in
set_option maxRecDepth 10000 in
theorem hX7_makeGraph {l : Launch} {D : va_G} {aC : Nat → ClassId} {b0 sz : Nat} {x : Nat} {iv av : Nat → Nat → Int32} {R : ZM} {i t : Nat} {S : St} (hi : i < 12) (ht : t < 7) (hto : iv (61 + 6 * i) 5 = nI t) (hS : SC iv av S) : Ct l D aC b0 yX7_makeGraph cX7_makeGraph 3 (some .int) 0 0 0 [.ref (x + 2), .ref (x + (61 + 6 * i))] (cm aC x iv av R) sz (zpI (fun iv av => cm aC x iv av R) (fun w' iv' av' => AC iv av (aMake t S) w' iv' av')) := by
  refine Ct.of (by decide) (Nat.le_of_ble_eq_true rfl) ?_
  intro p e s m below meth c ls C hr hlk hnm hl
  have hl : lv_has ls 3 [(0, .ref (x + 2)), (1, .ref (x + (61 + 6 * i)))] := hl
  obtain ⟨hx, hb, -, -, -⟩ := id C
  refine zz (fun _ _ => lv_aload_n hx hb dX7_makeGraph_0 rfl (lv_at hl 0 rfl)) ?_
  refine z_get (v := .ref (x + 3)) C fd_X7_12 (rd_3 (by decide)) rfl dX7_makeGraph_1 ?_
  refine z_get (v := .ref (x + 4)) C fd_X7_68 (rd_4 (by decide)) rfl dX7_makeGraph_4 ?_
  refine zz (fun _ _ => lv_aload_n hx hb dX7_makeGraph_7 rfl (lv_at hl 1 rfl)) ?_
  refine z_get (v := .int (iv (61 + 6 * i) 5)) C fd_X7_61 (rd_18 (ck_s hi)) rfl dX7_makeGraph_8 ?_
  refine zval (v' := .int (nI t)) (congrArg Value.int hto) ?_
  refine z_aald C 3 rfl (rd_5 (by decide)) (by first | assumption | (apply vp_in_nI <;> omega)) (v := .ref (x + (4 + 1 + 2 * t))) (rf_if (f := fun q => x + (4 + 1 + 2 * q)) (n := 7) rfl ht (by decide)) dX7_makeGraph_11 ?_
  refine zs (fun _ _ => lv_astore_n (lv' := [(2, .ref (x + (4 + 1 + 2 * t))), (0, .ref (x + 2)), (1, .ref (x + (61 + 6 * i)))]) hx hb dX7_makeGraph_12 rfl hl (by decide) rfl) (fun ls hl => ?_)
  refine zz (fun _ _ => lv_aload_n hx hb dX7_makeGraph_13 rfl (lv_at hl 0 rfl)) ?_
  refine z_get (v := .int (iv (4 + 1 + 2 * t) 2)) C fd_X7_72 (rd_6 (kp_5 (by decide) ht)) rfl dX7_makeGraph_14 ?_
  refine zval (v' := .int (tI (S.2.1 t))) (congrArg Value.int (hS.2.1 t ht).2.1) ?_
  refine zb (fun _ _ => lv_if_eq (tgt := 22) hx hb dX7_makeGraph_17 (by decide)) (fun c_1 => ?_) (fun c_1 => ?_)
  · refine zz (fun _ _ => lv_aload_n hx hb dX7_makeGraph_22 rfl (lv_at hl 0 rfl)) ?_
    refine zz (fun _ _ => lv_iconst (v := 1) hx hb dX7_makeGraph_23 (by decide)) ?_
    refine z_put C fp_X7_72 (fun h => by cases h) (rd_6 (kp_5 (by decide) ht)) (Nat.le_of_ble_eq_true rfl) rfl rfl dX7_makeGraph_24 ?_
    refine zeq (wr_6_2 (kp_5 (by decide) ht)) ?_
    refine zz (fun _ _ => lv_iconst (v := 0) hx hb dX7_makeGraph_27 (by decide)) ?_
    exact z_iret C hr hlk dX7_makeGraph_28 (zpI_mk (a := (u2 iv (4 + 1 + 2 * t) 2 (1))) (b := av) (mkc_0 hS ht c_1))
  · refine zz (fun _ _ => lv_iconst (v := 1) hx hb dX7_makeGraph_20 (by decide)) ?_
    exact z_iret C hr hlk dX7_makeGraph_21 (zpI_mk (a := iv) (b := av) (mkc_1 hS c_1))
set_option maxHeartbeats 2000000 in
set_option maxRecDepth 10000 in
theorem hX7_readFile {l : Launch} {D : va_G} {aC : Nat → ClassId} {b0 sz : Nat} {x : Nat} {iv av : Nat → Nat → Int32} {R : ZM} {i f t : Nat} {S : St} {TN : Nat → Bool} {FL : Nat → List Nat} (hi : i < 12) (hf : f < 4) (ht : t < 7) (hfrom : iv (61 + 6 * i) 4 = nI f) (hto : iv (61 + 6 * i) 5 = nI t) (hF : FLc iv av TN FL) (hS : SC iv av S) : Ct l D aC b0 yX7_readFile cX7_readFile 5 (some .int) 3 0 0 [.ref (x + 2), .ref (x + (61 + 6 * i))] (cm aC x iv av R) sz (zpI (fun iv av => cm aC x iv av R) (fun w' iv' av' => AC iv av (aRead (TN f) (FL f) t S) w' iv' av')) := by
  refine Ct.of (by decide) (Nat.le_of_ble_eq_true rfl) ?_
  intro p e s m below meth c ls C hr hlk hnm hl
  have hl : lv_has ls 5 [(0, .ref (x + 2)), (1, .ref (x + (61 + 6 * i)))] := hl
  obtain ⟨hx, hb, -, -, -⟩ := id C
  have hlen := (hF f hf).2.1
  refine zz (fun _ _ => lv_aload_n hx hb dX7_readFile_0 rfl (lv_at hl 0 rfl)) ?_
  refine z_get (v := .ref (x + 19)) C fd_X7_20 (rd_3 (by decide)) rfl dX7_readFile_1 ?_
  refine zz (fun _ _ => lv_aload_n hx hb dX7_readFile_4 rfl (lv_at hl 1 rfl)) ?_
  refine z_get (v := .int (iv (61 + 6 * i) 4)) C fd_X7_85 (rd_18 (ck_s hi)) rfl dX7_readFile_5 ?_
  refine zval (v' := .int (nI f)) (congrArg Value.int hfrom) ?_
  refine z_aald C 2 rfl (rd_8 (by decide)) (by first | assumption | (apply vp_in_nI <;> omega)) (v := .ref (x + (29 + 3 * f))) (rf_if (f := fun q => x + (29 + 3 * q)) (n := 4) rfl hf (by decide)) dX7_readFile_8 ?_
  refine zs (fun _ _ => lv_astore_n (lv' := [(2, .ref (x + (29 + 3 * f))), (0, .ref (x + 2)), (1, .ref (x + (61 + 6 * i)))]) hx hb dX7_readFile_9 rfl hl (by decide) rfl) (fun ls hl => ?_)
  refine zz (fun _ _ => lv_aload_n hx hb dX7_readFile_10 rfl (lv_at hl 0 rfl)) ?_
  refine z_get (v := .int (iv (29 + 3 * f) 1)) C fd_X7_107 (rd_13 (kp_8 hf)) rfl dX7_readFile_11 ?_
  refine zval (v' := .int (tI (TN f))) (congrArg Value.int (hF f hf).2.2.2.1) ?_
  refine zb (fun _ _ => lv_if_eq (tgt := 19) hx hb dX7_readFile_14 (by decide)) (fun c_1 => ?_) (fun c_1 => ?_)
  · refine zz (fun _ _ => lv_aload_n hx hb dX7_readFile_19 rfl (lv_at hl 1 rfl)) ?_
    refine z_get (v := .ref (x + 3)) C fd_X7_12 (rd_3 (by decide)) rfl dX7_readFile_20 ?_
    refine z_get (v := .ref (x + 4)) C fd_X7_68 (rd_4 (by decide)) rfl dX7_readFile_23 ?_
    refine zz (fun _ _ => lv_aload_n hx hb dX7_readFile_26 rfl (lv_at hl 2 rfl)) ?_
    refine z_get (v := .int (iv (61 + 6 * i) 5)) C fd_X7_61 (rd_18 (ck_s hi)) rfl dX7_readFile_27 ?_
    refine zval (v' := .int (nI t)) (congrArg Value.int hto) ?_
    refine z_aald C 3 rfl (rd_5 (by decide)) (by first | assumption | (apply vp_in_nI <;> omega)) (v := .ref (x + (4 + 1 + 2 * t))) (rf_if (f := fun q => x + (4 + 1 + 2 * q)) (n := 7) rfl ht (by decide)) dX7_readFile_30 ?_
    refine zs (fun _ _ => lv_astore_n (lv' := [(3, .ref (x + (4 + 1 + 2 * t))), (2, .ref (x + (29 + 3 * f))), (0, .ref (x + 2)), (1, .ref (x + (61 + 6 * i)))]) hx hb dX7_readFile_31 rfl hl (by decide) rfl) (fun ls hl => ?_)
    refine zz (fun _ _ => lv_aload_n hx hb dX7_readFile_32 rfl (lv_at hl 0 rfl)) ?_
    refine zz (fun _ _ => lv_iconst (v := 1) hx hb dX7_readFile_33 (by decide)) ?_
    refine z_put C fp_X7_72 (fun h => by cases h) (rd_6 (kp_5 (by decide) ht)) (Nat.le_of_ble_eq_true rfl) rfl rfl dX7_readFile_34 ?_
    refine zeq (wr_6_2 (kp_5 (by decide) ht)) ?_
    refine zz (fun _ _ => lv_iconst (v := 0) hx hb dX7_readFile_37 (by decide)) ?_
    refine zs (fun _ _ => lv_istore (lv' := [(4, .int (0)), (3, .ref (x + (4 + 1 + 2 * t))), (2, .ref (x + (29 + 3 * f))), (0, .ref (x + 2)), (1, .ref (x + (61 + 6 * i)))]) hx hb dX7_readFile_38 hl (by decide) rfl) (fun ls hl => ?_)
    have hl0 := lv_sub hl [3, 4, 2, 1, 0] rfl
    refine z_loop (γ := (Nat → Nat → Int32) × (Nat → Nat → Int32)) (G := fun a => cm aC x a.1 a.2 R) (I := fun j a => piI iv av t ((FL f).take j) (S.1, tS S.2.1 t true, S.2.2) a.1 a.2) (lv := fun j a => [(0, .ref (x + 2)), (1, .ref (x + (61 + 6 * i))), (2, .ref (x + (29 + 3 * f))), (3, .ref (x + (4 + 1 + 2 * t))), (4, .int (nI (j)))]) ((FL f).length) ?_ ?_ ((u2 iv (4 + 1 + 2 * t) 2 (1)), av) _ _ ⟨FC_there ht, _, by rw [List.take_zero]; rfl, SC_there hS ht⟩ hl0
    · intro j2 a2 sz ls hj2 hI2 hl ih2
      obtain ⟨iv2, av2⟩ := a2
      dsimp only at hI2 hl ih2
      refine zeq (M' := (cm aC x iv2 av2 R)) rfl ?_
      have hF2 := hF.kept hI2.1.K
      obtain ⟨hf8, S8, e8, hS8⟩ := id hI2
      have hok8 := (hF f hf).2.2.2.2.2 _ (getD_mem hj2)
      refine zz (fun _ _ => lv_iload hx hb dX7_readFile_40 (lv_at hl 4 rfl)) ?_
      refine zz (fun _ _ => lv_aload_n hx hb dX7_readFile_42 rfl (lv_at hl 2 rfl)) ?_
      refine z_get (v := .ref (x + ((29 + 3 * f) + 1))) C fd_X7_110 (rd_13 (kp_8 hf)) rfl dX7_readFile_43 ?_
      refine z_get (v := .int (iv2 ((29 + 3 * f) + 1) 2)) C fd_X7_114 (rd_14 (nb_13_1 (kp_8 hf))) rfl dX7_readFile_46 ?_
      refine zval (v' := .int (nI (FL f).length)) (congrArg Value.int (hF2 f hf).1) ?_
      refine zb (fun _ _ => lv_icmp_ge (tgt := 101) hx hb dX7_readFile_49 (by decide)) (fun c_3 => ?_) (fun c_3 => ?_)
      · exact absurd c_3 (nI_ge (by omega) (by omega))
      · refine zz (fun _ _ => lv_aload_n hx hb dX7_readFile_52 rfl (lv_at hl 0 rfl)) ?_
        refine z_get (v := .ref (x + 3)) C fd_X7_12 (rd_3 (by decide)) rfl dX7_readFile_53 ?_
        refine zz (fun _ _ => lv_aload_n hx hb dX7_readFile_56 rfl (lv_at hl 3 rfl)) ?_
        refine zz (fun _ _ => lv_aload_n hx hb dX7_readFile_57 rfl (lv_at hl 2 rfl)) ?_
        refine z_get (v := .ref (x + ((29 + 3 * f) + 1))) C fd_X7_110 (rd_13 (kp_8 hf)) rfl dX7_readFile_58 ?_
        refine zz (fun _ _ => lv_iload hx hb dX7_readFile_61 (lv_at hl 4 rfl)) ?_
        refine zdV (As := [.int (nI (j2))]) (rest := [.ref (x + (4 + 1 + 2 * t)), .ref (x + 3)]) (st' := [.int ((fX3_subject av2 ((29 + 3 * f) + 1) (nI (j2)))), .ref (x + (4 + 1 + 2 * t)), .ref (x + 3)]) C hl.1 lk_X7_119 (ctX3_subject (j_0 := 0) (nb_13_1 (kp_8 hf)) rfl (by rw [tl_f hf]; omega)) (rd_14 (nb_13_1 (kp_8 hf))) rfl rfl rfl (Nat.le_of_ble_eq_true rfl) ⟨by decide, by decide, by decide, by decide⟩ dX7_readFile_63 rfl (fun sz => ?_)
        refine zval (v' := .int (nI (pt ((FL f).getD j2 0) 0))) (congrArg Value.int ((row_s (by omega)).1.trans ((hF2 f hf).2.2.2.2.1 j2 hj2).1)) ?_
        refine zz (fun _ _ => lv_aload_n hx hb dX7_readFile_66 rfl (lv_at hl 2 rfl)) ?_
        refine z_get (v := .ref (x + ((29 + 3 * f) + 1))) C fd_X7_110 (rd_13 (kp_8 hf)) rfl dX7_readFile_67 ?_
        refine zz (fun _ _ => lv_iload hx hb dX7_readFile_70 (lv_at hl 4 rfl)) ?_
        refine zdV (As := [.int (nI (j2))]) (rest := [.int (nI (pt ((FL f).getD j2 0) 0)), .ref (x + (4 + 1 + 2 * t)), .ref (x + 3)]) (st' := [.int ((fX3_property av2 ((29 + 3 * f) + 1) (nI (j2)))), .int (nI (pt ((FL f).getD j2 0) 0)), .ref (x + (4 + 1 + 2 * t)), .ref (x + 3)]) C hl.1 lk_X7_123 (ctX3_property (j_0 := 0) (nb_13_1 (kp_8 hf)) rfl (by rw [tl_f hf]; omega)) (rd_14 (nb_13_1 (kp_8 hf))) rfl rfl rfl (Nat.le_of_ble_eq_true rfl) ⟨by decide, by decide, by decide, by decide⟩ dX7_readFile_72 rfl (fun sz => ?_)
        refine zval (v' := .int (nI (pt ((FL f).getD j2 0) 1))) (congrArg Value.int ((row_s (by omega)).2.1.trans ((hF2 f hf).2.2.2.2.1 j2 hj2).2.1)) ?_
        refine zz (fun _ _ => lv_aload_n hx hb dX7_readFile_75 rfl (lv_at hl 2 rfl)) ?_
        refine z_get (v := .ref (x + ((29 + 3 * f) + 1))) C fd_X7_110 (rd_13 (kp_8 hf)) rfl dX7_readFile_76 ?_
        refine zz (fun _ _ => lv_iload hx hb dX7_readFile_79 (lv_at hl 4 rfl)) ?_
        refine zdV (As := [.int (nI (j2))]) (rest := [.int (nI (pt ((FL f).getD j2 0) 1)), .int (nI (pt ((FL f).getD j2 0) 0)), .ref (x + (4 + 1 + 2 * t)), .ref (x + 3)]) (st' := [.int ((fX3_object av2 ((29 + 3 * f) + 1) (nI (j2)))), .int (nI (pt ((FL f).getD j2 0) 1)), .int (nI (pt ((FL f).getD j2 0) 0)), .ref (x + (4 + 1 + 2 * t)), .ref (x + 3)]) C hl.1 lk_X7_126 (ctX3_object (j_0 := 0) (nb_13_1 (kp_8 hf)) rfl (by rw [tl_f hf]; omega)) (rd_14 (nb_13_1 (kp_8 hf))) rfl rfl rfl (Nat.le_of_ble_eq_true rfl) ⟨by decide, by decide, by decide, by decide⟩ dX7_readFile_81 rfl (fun sz => ?_)
        refine zval (v' := .int (nI (pt ((FL f).getD j2 0) 2))) (congrArg Value.int ((row_s (by omega)).2.2.trans ((hF2 f hf).2.2.2.2.1 j2 hj2).2.2)) ?_
        refine zdS (As := [.int (nI (pt ((FL f).getD j2 0) 0)), .int (nI (pt ((FL f).getD j2 0) 1)), .int (nI (pt ((FL f).getD j2 0) 2))]) (rest := [.ref (x + (4 + 1 + 2 * t)), .ref (x + 3)]) (st' := [.int ((fX8_factOf (nI (pt ((FL f).getD j2 0) 0)) (nI (pt ((FL f).getD j2 0) 1)) (nI (pt ((FL f).getD j2 0) 2)))), .ref (x + (4 + 1 + 2 * t)), .ref (x + 3)]) C hl.1 lk_X7_129 (ctX8_factOf ) rfl rfl (Nat.le_of_ble_eq_true rfl) ⟨by decide, by decide, by decide, by decide⟩ dX7_readFile_84 rfl (fun sz => ?_)
        refine zval (v' := .int (nI ((FL f).getD j2 0))) (congrArg Value.int (factOf_s hok8)) ?_
        refine zqVI (As := [.ref (x + (4 + 1 + 2 * t)), .int (nI ((FL f).getD j2 0))]) (rest := []) C hl.1 lk_X7_103 (hX6_put ht hS8 hok8) (rd_4 (by decide)) rfl rfl rfl (Nat.le_of_ble_eq_true rfl) ⟨by decide, by decide, by decide, by decide⟩ dX7_readFile_87 (fun w4 iv4 av4 sz h4 => ?_)
        refine zeq (M' := (cm aC x iv4 av4 R)) rfl ?_
        refine zbn (fun _ _ => lv_if_ne (tgt := 95) hx hb dX7_readFile_90 (by decide)) (fun c_5 => ?_) (fun c_5 => ?_)
        · refine zs (fun _ _ => lv_iinc (v := nI (j2) + 1) (lv' := [(4, .int (nI (j2) + 1)), (0, .ref (x + 2)), (1, .ref (x + (61 + 6 * i))), (2, .ref (x + (29 + 3 * f))), (3, .ref (x + (4 + 1 + 2 * t)))]) hx hb dX7_readFile_95 hl (k := 4) rfl rfl (by decide) rfl) (fun ls hl => ?_)
          refine zz (fun _ _ => lv_goto (tgt := 40) hx hb dX7_readFile_98 (by decide)) ?_
          have hl := lv_sub hl [1, 2, 3, 4, 0] rfl
          try simp only [nI_1] at hl
          exact ih2 (iv4, av4) _ _ (pi_next hj2 hf8 e8 h4 c_5) hl
        · refine zz (fun _ _ => lv_iconst (v := 4) hx hb dX7_readFile_93 (by decide)) ?_
          exact z_iret C hr hlk dX7_readFile_94 (zpI_mk (a := iv4) (b := av4) (rdc_4 c_1 (hf8.trans h4.1) (pi_no hj2 e8 h4 c_5)))
    · intro a2 sz ls hI2 hl
      obtain ⟨iv2, av2⟩ := a2
      dsimp only at hI2 hl
      refine zeq (M' := (cm aC x iv2 av2 R)) rfl ?_
      have hF2 := hF.kept hI2.1.K
      refine zz (fun _ _ => lv_iload hx hb dX7_readFile_40 (lv_at hl 4 rfl)) ?_
      refine zz (fun _ _ => lv_aload_n hx hb dX7_readFile_42 rfl (lv_at hl 2 rfl)) ?_
      refine z_get (v := .ref (x + ((29 + 3 * f) + 1))) C fd_X7_110 (rd_13 (kp_8 hf)) rfl dX7_readFile_43 ?_
      refine z_get (v := .int (iv2 ((29 + 3 * f) + 1) 2)) C fd_X7_114 (rd_14 (nb_13_1 (kp_8 hf))) rfl dX7_readFile_46 ?_
      refine zval (v' := .int (nI (FL f).length)) (congrArg Value.int (hF2 f hf).1) ?_
      refine zb (fun _ _ => lv_icmp_ge (tgt := 101) hx hb dX7_readFile_49 (by decide)) (fun c_6 => ?_) (fun c_6 => ?_)
      · refine zz (fun _ _ => lv_iconst (v := 0) hx hb dX7_readFile_101 (by decide)) ?_
        exact z_iret C hr hlk dX7_readFile_102 (zpI_mk (a := iv2) (b := av2) (rdc_0 c_1 hI2))
      · exact absurd (nI_le (Nat.le_refl _) (by omega)) c_6
  · refine zz (fun _ _ => lv_iconst (v := 3) hx hb dX7_readFile_17 (by decide)) ?_
    exact z_iret C hr hlk dX7_readFile_18 (zpI_mk (a := iv) (b := av) (rdc_3 hS c_1))
set_option maxHeartbeats 2000000 in
set_option maxRecDepth 10000 in
theorem hX7_addGraph {l : Launch} {D : va_G} {aC : Nat → ClassId} {b0 sz : Nat} {x : Nat} {iv av : Nat → Nat → Int32} {R : ZM} {f t : Nat} {S : St} (hf7 : f < 7) (ht : t < 7) (hft : f ≠ t) (hS : SC iv av S) : Ct l D aC b0 yX7_addGraph cX7_addGraph 4 (some .int) 3 0 0 [.ref (x + 2), .ref (x + (4 + 1 + 2 * f)), .ref (x + (4 + 1 + 2 * t))] (cm aC x iv av R) sz (zpI (fun iv av => cm aC x iv av R) (fun w' iv' av' => FC iv av iv' av' ∧ ((w' = 4 ∧ putAll t (cds (S.1 f)) (S.1, tS S.2.1 t true, S.2.2) = none) ∨ ∃ S', w' = 0 ∧ putAll t (cds (S.1 f)) (S.1, tS S.2.1 t true, S.2.2) = some S' ∧ SC iv' av' S'))) := by
  refine Ct.of (by decide) (Nat.le_of_ble_eq_true rfl) ?_
  intro p e s m below meth c ls C hr hlk hnm hl
  have hl : lv_has ls 4 [(0, .ref (x + 2)), (1, .ref (x + (4 + 1 + 2 * f))), (2, .ref (x + (4 + 1 + 2 * t)))] := hl
  obtain ⟨hx, hb, -, -, -⟩ := id C
  have hlen := SC_len hS hf7
  refine zz (fun _ _ => lv_aload_n hx hb dX7_addGraph_0 rfl (lv_at hl 2 rfl)) ?_
  refine zz (fun _ _ => lv_iconst (v := 1) hx hb dX7_addGraph_1 (by decide)) ?_
  refine z_put C fp_X7_72 (fun h => by cases h) (rd_6 (ck_g ht)) (Nat.le_of_ble_eq_true rfl) rfl rfl dX7_addGraph_2 ?_
  refine zeq (wr_6_2 (ck_g ht)) ?_
  refine zz (fun _ _ => lv_iconst (v := 0) hx hb dX7_addGraph_5 (by decide)) ?_
  refine zs (fun _ _ => lv_istore_n (lv' := [(3, .int (0)), (0, .ref (x + 2)), (1, .ref (x + (4 + 1 + 2 * f))), (2, .ref (x + (4 + 1 + 2 * t)))]) hx hb dX7_addGraph_6 rfl hl (by decide) rfl) (fun ls hl => ?_)
  have hl0 := lv_sub hl [1, 2, 3, 0] rfl
  refine z_loop (γ := (Nat → Nat → Int32) × (Nat → Nat → Int32)) (G := fun a => cm aC x a.1 a.2 R) (I := fun j a => piI iv av t ((cds (S.1 f)).take j) (S.1, tS S.2.1 t true, S.2.2) a.1 a.2) (lv := fun j a => [(0, .ref (x + 2)), (1, .ref (x + (4 + 1 + 2 * f))), (2, .ref (x + (4 + 1 + 2 * t))), (3, .int (nI (j)))]) ((cds (S.1 f)).length) ?_ ?_ ((u2 iv (4 + 1 + 2 * t) 2 (1)), av) _ _ ⟨FC_there ht, _, by rw [List.take_zero]; rfl, SC_there hS ht⟩ hl0
  · intro j1 a1 sz ls hj1 hI1 hl ih1
    obtain ⟨iv1, av1⟩ := a1
    dsimp only at hI1 hl ih1
    refine zeq (M' := (cm aC x iv1 av1 R)) rfl ?_
    obtain ⟨hf8, S8, e8, hS8⟩ := id hI1
    have hG1 := hS8.2.1 f hf7
    rw [putAll_other hft e8] at hG1
    have hok8 := okP_g hS.1.1 f _ ((cds_mem (okP_g hS.1.1 f)).mp (getD_mem hj1))
    refine zz (fun _ _ => lv_iload_n hx hb dX7_addGraph_7 rfl (lv_at hl 3 rfl)) ?_
    refine zz (fun _ _ => lv_aload_n hx hb dX7_addGraph_8 rfl (lv_at hl 1 rfl)) ?_
    refine z_get (v := .int (iv1 (4 + 1 + 2 * f) 1)) C fd_X7_82 (rd_6 (ck_g hf7)) rfl dX7_addGraph_9 ?_
    refine zval (v' := .int (nI (cds (S.1 f)).length)) (congrArg Value.int hG1.1) ?_
    refine zb (fun _ _ => lv_icmp_ge (tgt := 40) hx hb dX7_addGraph_12 (by decide)) (fun c_2 => ?_) (fun c_2 => ?_)
    · exact absurd c_2 (nI_ge (by omega) (by omega))
    · refine zz (fun _ _ => lv_aload_n hx hb dX7_addGraph_15 rfl (lv_at hl 0 rfl)) ?_
      refine z_get (v := .ref (x + 3)) C fd_X7_12 (rd_3 (by decide)) rfl dX7_addGraph_16 ?_
      refine zz (fun _ _ => lv_aload_n hx hb dX7_addGraph_19 rfl (lv_at hl 2 rfl)) ?_
      refine zz (fun _ _ => lv_aload_n hx hb dX7_addGraph_20 rfl (lv_at hl 1 rfl)) ?_
      refine z_get (v := .ref (x + ((4 + 1 + 2 * f) + 1))) C fd_X7_100 (rd_6 (ck_g hf7)) rfl dX7_addGraph_21 ?_
      refine zz (fun _ _ => lv_iload_n hx hb dX7_addGraph_24 rfl (lv_at hl 3 rfl)) ?_
      refine z_iald (f := av1 ((4 + 1 + 2 * f) + 1)) C (rd_7 (nb_6_1 (ck_g hf7))) (by first | assumption | (apply vp_in_nI <;> omega)) dX7_addGraph_25 ?_
      refine zval (v' := .int (nI ((cds (S.1 f)).getD j1 0))) (congrArg Value.int (rdI (hG1.2.2 j1 hj1) (by omega))) ?_
      refine zqVI (As := [.ref (x + (4 + 1 + 2 * t)), .int (nI ((cds (S.1 f)).getD j1 0))]) (rest := []) C hl.1 lk_X7_103 (hX6_put ht hS8 hok8) (rd_4 (by decide)) rfl rfl rfl (Nat.le_of_ble_eq_true rfl) ⟨by decide, by decide, by decide, by decide⟩ dX7_addGraph_26 (fun w3 iv3 av3 sz h3 => ?_)
      refine zeq (M' := (cm aC x iv3 av3 R)) rfl ?_
      refine zbn (fun _ _ => lv_if_ne (tgt := 34) hx hb dX7_addGraph_29 (by decide)) (fun c_4 => ?_) (fun c_4 => ?_)
      · refine zs (fun _ _ => lv_iinc (v := nI (j1) + 1) (lv' := [(3, .int (nI (j1) + 1)), (0, .ref (x + 2)), (1, .ref (x + (4 + 1 + 2 * f))), (2, .ref (x + (4 + 1 + 2 * t)))]) hx hb dX7_addGraph_34 hl (k := 3) rfl rfl (by decide) rfl) (fun ls hl => ?_)
        refine zz (fun _ _ => lv_goto (tgt := 7) hx hb dX7_addGraph_37 (by decide)) ?_
        have hl := lv_sub hl [1, 2, 3, 0] rfl
        try simp only [nI_1] at hl
        exact ih1 (iv3, av3) _ _ (pi_next hj1 hf8 e8 h3 c_4) hl
      · refine zz (fun _ _ => lv_iconst (v := 4) hx hb dX7_addGraph_32 (by decide)) ?_
        exact z_iret C hr hlk dX7_addGraph_33 (zpI_mk (a := iv3) (b := av3) ⟨hf8.trans h3.1, Or.inl ⟨rfl, pi_no hj1 e8 h3 c_4⟩⟩)
  · intro a1 sz ls hI1 hl
    obtain ⟨iv1, av1⟩ := a1
    dsimp only at hI1 hl
    refine zeq (M' := (cm aC x iv1 av1 R)) rfl ?_
    obtain ⟨hf8, S8, e8, hS8⟩ := id hI1
    have hG1 := hS8.2.1 f hf7
    rw [putAll_other hft e8] at hG1
    refine zz (fun _ _ => lv_iload_n hx hb dX7_addGraph_7 rfl (lv_at hl 3 rfl)) ?_
    refine zz (fun _ _ => lv_aload_n hx hb dX7_addGraph_8 rfl (lv_at hl 1 rfl)) ?_
    refine z_get (v := .int (iv1 (4 + 1 + 2 * f) 1)) C fd_X7_82 (rd_6 (ck_g hf7)) rfl dX7_addGraph_9 ?_
    refine zval (v' := .int (nI (cds (S.1 f)).length)) (congrArg Value.int hG1.1) ?_
    refine zb (fun _ _ => lv_icmp_ge (tgt := 40) hx hb dX7_addGraph_12 (by decide)) (fun c_5 => ?_) (fun c_5 => ?_)
    · refine zz (fun _ _ => lv_iconst (v := 0) hx hb dX7_addGraph_40 (by decide)) ?_
      exact z_iret C hr hlk dX7_addGraph_41 (zpI_mk (a := iv1) (b := av1) ⟨hf8, Or.inr ⟨S8, rfl, by rw [List.take_length] at e8; exact e8, hS8⟩⟩)
    · exact absurd (nI_le (Nat.le_refl _) (by omega)) c_5
end
section
/-! Copying, moving, clearing on the sorted store. -/
theorem card_pG {P : Pd} {t : Nat} (ht : t < 7) (p : Nat → Bool) : card (pG P t p) = card (pG P t (fun _ => false)) + (cds p).length := by
  have h0 : cds (fun _ => false) = [] := cds_none
  rw [card_sum, card_sum]
  rcases (show t = 0 ∨ t = 1 ∨ t = 2 ∨ t = 3 ∨ t = 4 ∨ t = 5 ∨ t = 6 by omega) with rfl | rfl | rfl | rfl | rfl | rfl | rfl <;>
    simp [pG, h0] <;> omega
theorem pG_id {P : Pd} {g : Nat} : pG P g (P g) = P := by
  funext g' c; unfold pG; split
  · rename_i e; rw [e]
  · rfl
theorem card_move {P : Pd} {f t : Nat} (hf : f < 7) (ht : t < 7) (hft : f ≠ t) : card (pG (pG P t (P f)) f (fun _ => false)) = card (pG P t (fun _ => false)) := by
  have h1 := card_pG (P := pG P t (P f)) hf ((pG P t (P f)) f)
  rw [pG_id] at h1
  have h2 := card_pG (P := P) ht (P f)
  have e : (pG P t (P f)) f = P f := pG_k _ _ hft
  rw [e] at h1
  omega
/-- the store's cells, whatever the number of facts -/
def SG (iv av : Nat → Nat → Int32) (S : St) : Prop := (∀ g, g < 7 → GC iv av (4 + 1 + 2 * g) (S.1 g) (S.2.1 g)) ∧ iv 3 1 = nI S.2.2
theorem SG_put1 {iv av iv' av' : Nat → Nat → Int32} {S S' : St} {g : Nat} (h : SG iv av S) (hG : GC iv' av' (4 + 1 + 2 * g) (S'.1 g) (S'.2.1 g)) (hF : GF (4 + 1 + 2 * g) iv av iv' av') (h1 : ∀ g', g' ≠ g → S'.1 g' = S.1 g') (h2 : ∀ g', g' ≠ g → S'.2.1 g' = S.2.1 g') (h3 : S'.2.2 = S.2.2) : SG iv' av' S' := by
  refine ⟨fun g' hg' => ?_, by rw [hF.1 3 1 (by omega), h3]; exact h.2⟩
  by_cases q : g' = g
  · subst q; exact hG
  · rw [h1 g' q, h2 g' q]
    exact (h.1 g' hg').kept (hF.1 _ _ (by omega)) (hF.1 _ _ (by omega)) (hF.2 _ (by omega))
theorem GF_u2 {iv av : Nat → Nat → Int32} {k f : Nat} {z : Int32} : GF k iv av (u2 iv k f z) av := ⟨fun k' f' hk => u2_k _ _ _ _ hk, fun _ _ => rfl⟩
theorem GF.trans {k : Nat} {iv av iv1 av1 iv2 av2 : Nat → Nat → Int32} (h : GF k iv av iv1 av1) (h2 : GF k iv1 av1 iv2 av2) : GF k iv av iv2 av2 := ⟨fun k' f a => (h2.1 k' f a).trans (h.1 k' f a), fun k' a => (h2.2 k' a).trans (h.2 k' a)⟩
theorem SG_clr {iv av : Nat → Nat → Int32} {S : St} {g : Nat} (h : SG iv av S) (hg : g < 7) : SG (u2 iv (4 + 1 + 2 * g) 1 0) av (pG S.1 g (fun _ => false), S.2) := by
  refine SG_put1 h ?_ GF_u2 (fun g' q => pG_k _ _ q) (fun _ _ => rfl) rfl
  show GC _ _ _ (pG S.1 g (fun _ => false) g) _
  rw [pG_s]
  have hG := h.1 g hg
  exact ⟨by rw [u2_s, cds_none]; rfl, by rw [u2_f _ _ _ (by decide)]; exact hG.2.1, fun i hi => by rw [cds_none] at hi; exact absurd hi (Nat.not_lt_zero _)⟩
theorem drop_s {iv av : Nat → Nat → Int32} {S : St} {g : Nat} (h : SG iv av S) (hg : g < 7) : SG (fX6_drop iv av 3 g (nI g)).1 (fX6_drop iv av 3 g (nI g)).2 (pG S.1 g (fun _ => false), tS S.2.1 g (decide (g = 0)), S.2.2) ∧ FC iv av (fX6_drop iv av 3 g (nI g)).1 (fX6_drop iv av 3 g (nI g)).2 := by
  have key : ∀ z : Int32, z = tI (decide (g = 0)) → SG (u2 (u2 iv (4 + 1 + 2 * g) 1 0) (4 + 1 + 2 * g) 2 z) av (pG S.1 g (fun _ => false), tS S.2.1 g (decide (g = 0)), S.2.2) ∧ FC iv av (u2 (u2 iv (4 + 1 + 2 * g) 1 0) (4 + 1 + 2 * g) 2 z) av := by
    intro z hz
    refine ⟨SG_put1 h ?_ (GF_u2.trans GF_u2) (fun g' q => pG_k _ _ q) (fun g' q => by simp [tS, q]) rfl, (GF.trans GF_u2 GF_u2).C hg⟩
    show GC _ _ _ (pG S.1 g (fun _ => false) g) (tS S.2.1 g (decide (g = 0)) g)
    rw [pG_s, show tS S.2.1 g (decide (g = 0)) g = decide (g = 0) by simp [tS]]
    exact ⟨by rw [u2_f _ _ _ (by decide), u2_s, cds_none]; rfl, by rw [u2_s]; exact hz, fun i hi => by rw [cds_none] at hi; exact absurd hi (Nat.not_lt_zero _)⟩
  unfold fX6_drop
  by_cases q : g = 0
  · subst q
    rw [if_pos (show nI 0 = 0 from rfl)]
    exact key 1 rfl
  · rw [if_neg (nI_ne0 (by omega) (by omega))]
    exact key 0 (by simp [q, tI])
theorem become_s {iv av : Nat → Nat → Int32} {S : St} {f t : Nat} (h : SG iv av S) (hl : (cds (S.1 f)).length ≤ 120) (hf : f < 7) (ht : t < 7) : SG (fX2_become iv av (4 + 1 + 2 * t) (4 + 1 + 2 * f)).1 (fX2_become iv av (4 + 1 + 2 * t) (4 + 1 + 2 * f)).2 (pG S.1 t (S.1 f), tS S.2.1 t (S.2.1 f), S.2.2) ∧ FC iv av (fX2_become iv av (4 + 1 + 2 * t) (4 + 1 + 2 * f)).1 (fX2_become iv av (4 + 1 + 2 * t) (4 + 1 + 2 * f)).2 := by
  have hG := h.1 f hf
  unfold fX2_become
  have hF : GF (4 + 1 + 2 * t) iv av (u2 (u2 iv (4 + 1 + 2 * t) 1 (iv (4 + 1 + 2 * f) 1)) (4 + 1 + 2 * t) 2 (iv (4 + 1 + 2 * f) 2)) (u1 av (4 + 1 + 2 * t + 1) (va_cpy (av (4 + 1 + 2 * f + 1)) (av (4 + 1 + 2 * t + 1)) (Int32.toNatClampNeg 0) (Int32.toNatClampNeg 0) (Int32.toNatClampNeg (iv (4 + 1 + 2 * f) 1)))) :=
    ⟨fun k' f' hk => by rw [u2_k _ _ _ _ hk, u2_k _ _ _ _ hk], fun k' hk => u1_k _ _ hk⟩
  refine ⟨SG_put1 h ?_ hF (fun g' q => pG_k _ _ q) (fun g' q => by simp [tS, q]) rfl, hF.C ht⟩
  show GC _ _ _ (pG S.1 t (S.1 f) t) (tS S.2.1 t (S.2.1 f) t)
  rw [pG_s, show tS S.2.1 t (S.2.1 f) t = S.2.1 f by simp [tS]]
  dsimp only
  refine ⟨by rw [u2_f _ _ _ (by decide), u2_s]; exact hG.1, by rw [u2_s]; exact hG.2.1, fun i hi => ?_⟩
  rw [u1_s, hG.1, nI_clamp (by omega)]
  unfold va_cpy
  rw [show Int32.toNatClampNeg 0 = 0 by decide, if_pos (by omega), Nat.sub_zero, Nat.zero_add]
  exact hG.2.2 i hi
theorem okS_copy {S : St} (h : okS S) {f t : Nat} (ht : t < 7) (hc : card (pG S.1 t (S.1 f)) ≤ 120) : okS (pG S.1 t (S.1 f), tS S.2.1 t true, S.2.2) := by
  refine ⟨okP_pG h.1 ht (okP_g h.1 f), hc, h.2.2.1, ?_, fun g c q => ?_⟩
  · show tS S.2.1 t true 0 = true
    unfold tS; split <;> first | rfl | exact h.2.2.2.1
  · show tS S.2.1 t true g = true
    unfold tS
    split
    · rfl
    · rename_i e
      have q : pG S.1 t (S.1 f) g c = true := q
      rw [pG_k _ _ e] at q
      exact h.2.2.2.2 g c q
theorem okS_move {S : St} (h : okS S) {f t : Nat} (hf : f < 7) (ht : t < 7) (hft : f ≠ t) : okS (pG (pG S.1 t (S.1 f)) f (fun _ => false), tS (tS S.2.1 t true) f (decide (f = 0)), S.2.2) := by
  refine ⟨okP_pG (okP_pG h.1 ht (okP_g h.1 f)) hf (fun c q => by cases q), ?_, h.2.2.1, ?_, fun g c q => ?_⟩
  · show card _ ≤ 120
    rw [card_move hf ht hft]
    exact (okS_clr h t).2.1
  · show tS (tS S.2.1 t true) f (decide (f = 0)) 0 = true
    unfold tS
    split
    · rename_i e; simp [← e]
    · split <;> first | rfl | exact h.2.2.2.1
  · have q : pG (pG S.1 t (S.1 f)) f (fun _ => false) g c = true := q
    show tS (tS S.2.1 t true) f (decide (f = 0)) g = true
    unfold pG at q
    split at q
    · cases q
    · rename_i e
      unfold tS
      rw [if_neg e]
      split at q
      · rename_i e2; rw [if_pos e2]
      · rename_i e2; rw [if_neg e2]; exact h.2.2.2.2 g c q
theorem SC.G {iv av : Nat → Nat → Int32} {S : St} (h : SC iv av S) : SG iv av S := h.2
theorem brc_2 {iv av : Nat → Nat → Int32} {S : St} {k f t : Nat} (hS : SC iv av S) (h : tI (S.2.1 f) = 0) : AC iv av (aBring k f t S) 2 iv av := by
  unfold aBring
  rw [if_pos (tI_0.mp h)]
  exact AC_same rfl FC.refl hS
theorem brc_s {iv av : Nat → Nat → Int32} {S : St} {k f t : Nat} (hS : SC iv av S) (h : ¬ tI (S.2.1 f) = 0) (e : f = t) : AC iv av (aBring k f t S) 0 iv av := by
  unfold aBring
  rw [if_neg (by rw [tI_1.mp h]; decide), if_pos e]
  exact AC_same rfl FC.refl hS
theorem brc_8 {iv av iv' av' : Nat → Nat → Int32} {S : St} {f t : Nat} {w : Int32} (h : ¬ tI (S.2.1 f) = 0) (e : ¬ f = t) (ha : FC iv av iv' av' ∧ ((w = 4 ∧ putAll t (cds (S.1 f)) (S.1, tS S.2.1 t true, S.2.2) = none) ∨ ∃ S', w = 0 ∧ putAll t (cds (S.1 f)) (S.1, tS S.2.1 t true, S.2.2) = some S' ∧ SC iv' av' S')) : AC iv av (aBring 8 f t S) w iv' av' := by
  unfold aBring
  rw [if_neg (by rw [tI_1.mp h]; decide), if_neg e, if_pos rfl]
  rcases ha.2 with q | ⟨S', q1, q2, q3⟩
  · rw [q.2]; exact AC_no q.1 (by decide) ha.1.K
  · rw [q2]; exact AC_same q1 ha.1 q3
theorem brc_4 {iv av iv' av' : Nat → Nat → Int32} {S : St} {f t : Nat} (ht : t < 7) (h : ¬ tI (S.2.1 f) = 0) (e : ¬ f = t) (hl : card (pG S.1 t (fun _ => false)) + (cds (S.1 f)).length < 2 ^ 31) (hc : ¬ nI (card (pG S.1 t (fun _ => false)) + (cds (S.1 f)).length) ≤ nI 120) (hf : FC iv av iv' av') : AC iv av (aBring 6 f t S) 4 iv' av' := by
  rw [nI_leI hl (by decide)] at hc
  unfold aBring
  rw [if_neg (by rw [tI_1.mp h]; decide), if_neg e, if_neg (by decide), if_neg (by decide), if_pos (by rw [card_pG ht]; omega)]
  exact AC_no rfl (by decide) hf.K
theorem brc_6 {iv av iv' av' : Nat → Nat → Int32} {S : St} {f t : Nat} (hS : okS S) (ht : t < 7) (h : ¬ tI (S.2.1 f) = 0) (e : ¬ f = t) (hl : card (pG S.1 t (fun _ => false)) + (cds (S.1 f)).length < 2 ^ 31) (hc : nI (card (pG S.1 t (fun _ => false)) + (cds (S.1 f)).length) ≤ nI 120) (hf : FC iv av iv' av') (hG : SG iv' av' (pG S.1 t (S.1 f), tS S.2.1 t (S.2.1 f), S.2.2)) : AC iv av (aBring 6 f t S) 0 iv' av' := by
  rw [nI_leI hl (by decide), ← card_pG ht] at hc
  unfold aBring
  rw [if_neg (by rw [tI_1.mp h]; decide), if_neg e, if_neg (by decide), if_neg (by decide), if_neg (by omega)]
  rw [tI_1.mp h] at hG
  exact AC_same rfl hf ⟨okS_copy hS ht hc, hG⟩
theorem brc_7 {iv av iv' av' : Nat → Nat → Int32} {S : St} {f t : Nat} (hS : okS S) (hf7 : f < 7) (ht : t < 7) (h : ¬ tI (S.2.1 f) = 0) (e : ¬ f = t) (hf : FC iv av iv' av') (hG : SG iv' av' (pG (pG S.1 t (S.1 f)) f (fun _ => false), tS (tS S.2.1 t (S.2.1 f)) f (decide (f = 0)), S.2.2)) : AC iv av (aBring 7 f t S) 0 iv' av' := by
  unfold aBring
  rw [if_neg (by rw [tI_1.mp h]; decide), if_neg e, if_neg (by decide), if_pos rfl]
  rw [tI_1.mp h] at hG
  exact AC_same rfl hf ⟨okS_move hS hf7 ht e, hG⟩
theorem factCount_g {iv av : Nat → Nat → Int32} {S : St} (h : SG iv av S) : fX6_factCount iv 3 = nI (card S.1) := by
  have e : ∀ g, g < 7 → iv (3 + 1 + 1 + 2 * g) 1 = nI (cds (S.1 g)).length := fun g hg => (h.1 g hg).1
  unfold fX6_factCount
  simp only [stX6_factCount_4]
  rw [e 0 (by decide), e 1 (by decide), e 2 (by decide), e 3 (by decide), e 4 (by decide), e 5 (by decide), e 6 (by decide), card_sum, show (0 : Int32) = nI 0 from rfl]
  simp only [nI_add, Nat.zero_add]
theorem pG_2 {P : Pd} {t : Nat} {p : Nat → Bool} : pG (pG P t (fun _ => false)) t p = pG P t p := by
  funext g c; unfold pG; split <;> rfl
theorem tS_2 {T : Nat → Bool} {g : Nat} {a b : Bool} : tS (tS T g a) g b = tS T g b := by
  funext g'; unfold tS; split <;> rfl
/-- clearing from a place on -/
def cwP (P : Pd) (a j : Nat) : Pd := fun g c => P g c && !(decide (a ≤ g) && decide (g < a + j))
def cwT (T : Nat → Bool) (d : Bool) (a j : Nat) : Nat → Bool := fun g => if d = true ∧ a ≤ g ∧ g < a + j then decide (g = 0) else T g
theorem cw_0 {S : St} {d : Bool} {a : Nat} : (cwP S.1 a 0, cwT S.2.1 d a 0, S.2.2) = S := by
  have e1 : cwP S.1 a 0 = S.1 := by funext g c; unfold cwP; by_cases q : a ≤ g <;> simp [q]
  have e2 : cwT S.2.1 d a 0 = S.2.1 := by funext g; unfold cwT; rw [if_neg (by omega)]
  rw [e1, e2]
theorem cw_step {S : St} {d : Bool} {a j : Nat} : (cwP S.1 a (j + 1), cwT S.2.1 d a (j + 1), S.2.2) = (pG (cwP S.1 a j) (a + j) (fun _ => false), (if d = true then tS (cwT S.2.1 d a j) (a + j) (decide (a + j = 0)) else cwT S.2.1 d a j), S.2.2) := by
  have e1 : cwP S.1 a (j + 1) = pG (cwP S.1 a j) (a + j) (fun _ => false) := by
    funext g c
    unfold cwP pG
    by_cases q : g = a + j
    · rw [if_pos q]; simp [q]
    · rw [if_neg q]
      have : (g < a + (j + 1)) ↔ g < a + j := by omega
      simp [this]
  have e2 : cwT S.2.1 d a (j + 1) = (if d = true then tS (cwT S.2.1 d a j) (a + j) (decide (a + j = 0)) else cwT S.2.1 d a j) := by
    by_cases hd : d = true
    · rw [if_pos hd]
      funext g
      unfold cwT tS
      by_cases q : g = a + j
      · rw [if_pos ⟨hd, by omega, by omega⟩, if_pos q, q]
      · rw [if_neg q]
        dsimp only
        by_cases r : a ≤ g ∧ g < a + j
        · rw [if_pos ⟨hd, by omega, by omega⟩, if_pos ⟨hd, r⟩]
        · rw [if_neg (by omega), if_neg (by omega)]
    · rw [if_neg hd]
      funext g
      unfold cwT
      rw [if_neg (fun q => hd q.1), if_neg (fun q => hd q.1)]
  rw [e1, e2]
theorem cw_end {S : St} {d : Bool} {to : Int32} {a n : Nat} (ho : okS S) (h : ∀ g, g < 7 → (inTo to g = true ↔ a ≤ g ∧ g < a + n)) (hn : a + n ≤ 7) : okS ((fun g c => S.1 g c && !inTo to g, fun g => S.2.1 g && (!(d && inTo to g) || decide (g = 0)), S.2.2) : St) ∧ ∀ iv av, SG iv av (cwP S.1 a n, cwT S.2.1 d a n, S.2.2) → SG iv av ((fun g c => S.1 g c && !inTo to g, fun g => S.2.1 g && (!(d && inTo to g) || decide (g = 0)), S.2.2) : St) := by
  refine ⟨⟨fun g c q => ho.1 g c (by simp at q; exact q.1), Nat.le_trans (card_le ho.1 (fun g c q => by simp at q; exact q.1)) ho.2.1, ho.2.2.1, by show (S.2.1 0 && _) = true; rw [ho.2.2.2.1]; simp, fun g c q => ?_⟩, fun iv av hG => ⟨fun g hg => ?_, hG.2⟩⟩
  · have q : (S.1 g c && !inTo to g) = true := q
    show (S.2.1 g && (!(d && inTo to g) || decide (g = 0))) = true
    simp at q
    rw [ho.2.2.2.2 g c q.1, q.2]
    simp
  · have := hG.1 g hg
    have e1 : cwP S.1 a n g = fun c => S.1 g c && !inTo to g := by
      funext c
      unfold cwP
      by_cases q : a ≤ g ∧ g < a + n
      · rw [(h g hg).mpr q]; simp [q]
      · rw [Bool.eq_false_iff.mpr (fun r => q ((h g hg).mp r))]
        simp only [Bool.not_false, Bool.and_true]
        by_cases q1 : a ≤ g
        · simp [q1, show ¬ g < a + n by omega]
        · simp [q1]
    have e2 : cwT S.2.1 d a n g = (S.2.1 g && (!(d && inTo to g) || decide (g = 0))) := by
      unfold cwT
      by_cases q : a ≤ g ∧ g < a + n
      · rw [(h g hg).mpr q]
        cases d with
        | false => simp
        | true =>
          rw [if_pos ⟨rfl, q⟩]
          by_cases g0 : g = 0
          · subst g0; simp [ho.2.2.2.1]
          · simp [g0]
      · rw [if_neg (fun r => q r.2), Bool.eq_false_iff.mpr (fun r => q ((h g hg).mp r))]
        simp
    show GC iv av (4 + 1 + 2 * g) (fun c => S.1 g c && !inTo to g) (S.2.1 g && (!(d && inTo to g) || decide (g = 0)))
    rw [← e1, ← e2]
    exact this
theorem isGr_s {a : Int32} : fX8_isGraph a = 0 ↔ ¬ (0 ≤ a.toInt ∧ a.toInt ≤ 6) := by
  unfold fX8_isGraph
  have h0 : (0 : Int32).toInt = 0 := rfl
  have h7 : (7 : Int32).toInt = 7 := rfl
  split
  · rename_i h; rw [Int32.lt_iff_toInt_lt] at h; exact ⟨fun _ q => by omega, fun _ => rfl⟩
  · rename_i h; rw [Int32.lt_iff_toInt_lt] at h
    split
    · rename_i h2; rw [Int32.le_iff_toInt_le] at h2; exact ⟨fun _ q => by omega, fun _ => rfl⟩
    · rename_i h2; rw [Int32.le_iff_toInt_le] at h2; exact ⟨fun q => absurd q (by decide), fun q => absurd ⟨by omega, by omega⟩ q⟩
theorem to_gr {to : Int32} (h : ¬ fX8_isGraph to = 0) : ∃ t, t < 7 ∧ to = nI t ∧ nn to = t := by
  have h : 0 ≤ to.toInt ∧ to.toInt ≤ 6 := Classical.not_not.mp (fun q => h (isGr_s.mpr q))
  obtain ⟨j, hj, e⟩ := vp_in_of (x := to) (n := 7) (vp_in_iff.mpr ⟨h.1, by omega⟩) (by decide)
  exact ⟨j, hj, e, by rw [e]; exact nI_clamp (by omega)⟩
theorem to_m2 {to : Int32} (h : fX8_isGraph to = 0) (h1 : -2 ≤ to.toInt) (h2 : to.toInt ≤ 6) (h3 : ¬ to = -1) : to = -2 := by
  rw [isGr_s] at h
  apply Int32.toInt_inj.mp
  have e1 : (-1 : Int32).toInt = -1 := by decide
  have e2 : (-2 : Int32).toInt = -2 := by decide
  have : to.toInt ≠ -1 := fun q => h3 (Int32.toInt_inj.mp (q.trans e1.symm))
  omega
theorem inTo_one {t g : Nat} (ht : t < 7) (hg : g < 7) : inTo (nI t) g = true ↔ t ≤ g ∧ g < t + 1 := by
  have e : (nI t = nI g) ↔ t = g := nI_eq (by omega) (by omega)
  have n2 : ¬ nI t = -2 := fun q => by have := congrArg Int32.toInt q; rw [nI_toInt (by omega)] at this; have e : (-2 : Int32).toInt = -2 := by decide
                                       omega
  unfold inTo
  simp only [e, nI_n1 (show t < 2 ^ 31 by omega), n2, hg, decide_true, decide_false, Bool.true_and, Bool.false_and, Bool.or_false, decide_eq_true_eq]
  omega
theorem inTo_all {g : Nat} (hg : g < 7) : inTo (-1) g = true ↔ 0 ≤ g ∧ g < 0 + 7 := by
  unfold inTo; simp [hg]
theorem inTo_named {g : Nat} (hg : g < 7) : inTo (-2) g = true ↔ 1 ≤ g ∧ g < 1 + 6 := by
  have n2 : ¬ (-2 : Int32) = nI g := fun q => by have := congrArg Int32.toInt q; rw [nI_toInt (by omega)] at this; have e : (-2 : Int32).toInt = -2 := by decide
                                                 omega
  unfold inTo
  rw [decide_eq_false n2, decide_eq_false (show ¬ ((-2 : Int32) = -1) by decide)]
  simp [hg]
  omega
theorem wpc_2 {iv av : Nat → Nat → Int32} {S : St} {d : Bool} {to : Int32} (hS : SC iv av S) (h0 : ¬ fX8_isGraph to = 0) (h : tI (S.2.1 (nn to)) = 0) : AC iv av (aWipe d to S) 2 iv av := by
  have h0 : 0 ≤ to.toInt ∧ to.toInt ≤ 6 := Classical.not_not.mp (fun q => h0 (isGr_s.mpr q))
  unfold aWipe
  rw [if_pos ⟨h0.1, tI_0.mp h⟩]
  exact AC_same rfl FC.refl hS
/-- clearing, graph by graph -/
def cwJ (iv av : Nat → Nat → Int32) (S : St) (d : Bool) (a j : Nat) (iv' av' : Nat → Nat → Int32) : Prop := FC iv av iv' av' ∧ SG iv' av' (cwP S.1 a j, cwT S.2.1 d a j, S.2.2)
theorem cwJ_0 {iv av : Nat → Nat → Int32} {S : St} {d : Bool} {a : Nat} (hS : SC iv av S) : cwJ iv av S d a 0 iv av := ⟨FC.refl, by rw [cw_0]; exact hS.2⟩
theorem cwJ_d {iv av iv1 av1 : Nat → Nat → Int32} {S : St} {a j : Nat} (h : cwJ iv av S true a j iv1 av1) (hj : a + j < 7) : cwJ iv av S true a (j + 1) (fX6_drop iv1 av1 3 (a + j) (nI (a + j))).1 (fX6_drop iv1 av1 3 (a + j) (nI (a + j))).2 := by
  have := drop_s h.2 hj
  refine ⟨h.1.trans this.2, ?_⟩
  rw [cw_step, if_pos rfl]
  exact this.1
theorem cwJ_c {iv av iv1 av1 : Nat → Nat → Int32} {S : St} {a j : Nat} (h : cwJ iv av S false a j iv1 av1) (hj : a + j < 7) : cwJ iv av S false a (j + 1) (u2 iv1 (4 + 1 + 2 * (a + j)) 1 0) av1 := by
  refine ⟨h.1.trans (GF_u2.C hj), ?_⟩
  rw [cw_step, if_neg (by decide)]
  exact SG_clr h.2 hj
theorem wpc_0 {iv av iv' av' : Nat → Nat → Int32} {S : St} {d : Bool} {to : Int32} {a n : Nat} (h6 : to.toInt ≤ 6) (hS : SC iv av S) (h0 : fX8_isGraph to = 0 ∨ ¬ tI (S.2.1 (nn to)) = 0) (h : ∀ g, g < 7 → (inTo to g = true ↔ a ≤ g ∧ g < a + n)) (hn : a + n ≤ 7) (hI : cwJ iv av S d a n iv' av') : AC iv av (aWipe d to S) 0 iv' av' := by
  have hc := cw_end (d := d) hS.1 h hn
  unfold aWipe
  rw [if_neg]
  · exact AC_same rfl hI.1 ⟨hc.1, hc.2 _ _ hI.2⟩
  · rintro ⟨q1, q2⟩
    rcases h0 with r | r
    · rw [isGr_s] at r
      exact r ⟨q1, h6⟩
    · rw [q2] at r; exact r rfl
end
section
set_option maxHeartbeats 2000000 in
set_option maxRecDepth 10000 in
theorem hX7_bringGraph {l : Launch} {D : va_G} {aC : Nat → ClassId} {b0 sz : Nat} {x : Nat} {iv av : Nat → Nat → Int32} {R : ZM} {i k f t : Nat} {S : St} (hi : i < 12) (hk6 : 6 ≤ k) (hk8 : k ≤ 8) (hf7 : f < 7) (ht : t < 7) (hkd : iv (61 + 6 * i) 3 = nI k) (hfrom : iv (61 + 6 * i) 4 = nI f) (hto : iv (61 + 6 * i) 5 = nI t) (hS : SC iv av S) : Ct l D aC b0 yX7_bringGraph cX7_bringGraph 4 (some .int) 4 0 0 [.ref (x + 2), .ref (x + (61 + 6 * i))] (cm aC x iv av R) sz (zpI (fun iv av => cm aC x iv av R) (fun w' iv' av' => AC iv av (aBring k f t S) w' iv' av')) := by
  refine Ct.of (by decide) (Nat.le_of_ble_eq_true rfl) ?_
  intro p e s m below meth c ls C hr hlk hnm hl
  have hl : lv_has ls 4 [(0, .ref (x + 2)), (1, .ref (x + (61 + 6 * i)))] := hl
  obtain ⟨hx, hb, -, -, -⟩ := id C
  have hlen := SC_len hS hf7
  refine zz (fun _ _ => lv_aload_n hx hb dX7_bringGraph_0 rfl (lv_at hl 0 rfl)) ?_
  refine z_get (v := .ref (x + 3)) C fd_X7_12 (rd_3 (by decide)) rfl dX7_bringGraph_1 ?_
  refine z_get (v := .ref (x + 4)) C fd_X7_68 (rd_4 (by decide)) rfl dX7_bringGraph_4 ?_
  refine zz (fun _ _ => lv_aload_n hx hb dX7_bringGraph_7 rfl (lv_at hl 1 rfl)) ?_
  refine z_get (v := .int (iv (61 + 6 * i) 4)) C fd_X7_85 (rd_18 (ck_s hi)) rfl dX7_bringGraph_8 ?_
  refine zval (v' := .int (nI f)) (congrArg Value.int (hfrom)) ?_
  refine z_aald C 3 rfl (rd_5 (by decide)) (by first | assumption | (apply vp_in_nI <;> omega)) (v := .ref (x + (4 + 1 + 2 * f))) (rf_if (f := fun q => x + (4 + 1 + 2 * q)) (n := 7) rfl hf7 (by decide)) dX7_bringGraph_11 ?_
  refine zs (fun _ _ => lv_astore_n (lv' := [(2, .ref (x + (4 + 1 + 2 * f))), (0, .ref (x + 2)), (1, .ref (x + (61 + 6 * i)))]) hx hb dX7_bringGraph_12 rfl hl (by decide) rfl) (fun ls hl => ?_)
  refine zz (fun _ _ => lv_aload_n hx hb dX7_bringGraph_13 rfl (lv_at hl 1 rfl)) ?_
  refine z_get (v := .ref (x + 3)) C fd_X7_12 (rd_3 (by decide)) rfl dX7_bringGraph_14 ?_
  refine z_get (v := .ref (x + 4)) C fd_X7_68 (rd_4 (by decide)) rfl dX7_bringGraph_17 ?_
  refine zz (fun _ _ => lv_aload_n hx hb dX7_bringGraph_20 rfl (lv_at hl 2 rfl)) ?_
  refine z_get (v := .int (iv (61 + 6 * i) 5)) C fd_X7_61 (rd_18 (ck_s hi)) rfl dX7_bringGraph_21 ?_
  refine zval (v' := .int (nI t)) (congrArg Value.int (hto)) ?_
  refine z_aald C 3 rfl (rd_5 (by decide)) (by first | assumption | (apply vp_in_nI <;> omega)) (v := .ref (x + (4 + 1 + 2 * t))) (rf_if (f := fun q => x + (4 + 1 + 2 * q)) (n := 7) rfl ht (by decide)) dX7_bringGraph_24 ?_
  refine zs (fun _ _ => lv_astore_n (lv' := [(3, .ref (x + (4 + 1 + 2 * t))), (2, .ref (x + (4 + 1 + 2 * f))), (0, .ref (x + 2)), (1, .ref (x + (61 + 6 * i)))]) hx hb dX7_bringGraph_25 rfl hl (by decide) rfl) (fun ls hl => ?_)
  refine zz (fun _ _ => lv_aload_n hx hb dX7_bringGraph_26 rfl (lv_at hl 1 rfl)) ?_
  refine z_get (v := .int (iv (4 + 1 + 2 * f) 2)) C fd_X7_72 (rd_6 (kp_5 (by decide) hf7)) rfl dX7_bringGraph_27 ?_
  refine zval (v' := .int (tI (S.2.1 f))) (congrArg Value.int (hS.2.1 f hf7).2.1) ?_
  refine zbn (fun _ _ => lv_if_ne (tgt := 35) hx hb dX7_bringGraph_30 (by decide)) (fun c_1 => ?_) (fun c_1 => ?_)
  · refine zz (fun _ _ => lv_aload_n hx hb dX7_bringGraph_35 rfl (lv_at hl 3 rfl)) ?_
    refine z_get (v := .int (iv (61 + 6 * i) 4)) C fd_X7_85 (rd_18 (ck_s hi)) rfl dX7_bringGraph_36 ?_
    refine zval (v' := .int (nI f)) (congrArg Value.int (hfrom)) ?_
    refine zz (fun _ _ => lv_aload_n hx hb dX7_bringGraph_39 rfl (lv_at hl 3 rfl)) ?_
    refine z_get (v := .int (iv (61 + 6 * i) 5)) C fd_X7_61 (rd_18 (ck_s hi)) rfl dX7_bringGraph_40 ?_
    refine zval (v' := .int (nI t)) (congrArg Value.int (hto)) ?_
    refine zbn (fun _ _ => lv_icmp_ne (tgt := 48) hx hb dX7_bringGraph_43 (by decide)) (fun c_2 => ?_) (fun c_2 => ?_)
    · refine zz (fun _ _ => lv_aload_n hx hb dX7_bringGraph_48 rfl (lv_at hl 3 rfl)) ?_
      refine z_get (v := .int (iv (61 + 6 * i) 3)) C fd_X7_40 (rd_18 (ck_s hi)) rfl dX7_bringGraph_49 ?_
      refine zval (v' := .int (nI k)) (congrArg Value.int (hkd)) ?_
      refine zz (fun _ _ => lv_bipush (v := 8) hx hb dX7_bringGraph_52 (by decide)) ?_
      refine zval (v' := .int (nI 8)) (congrArg Value.int rfl) ?_
      refine zbn (fun _ _ => lv_icmp_ne (tgt := 64) hx hb dX7_bringGraph_54 (by decide)) (fun c_3 => ?_) (fun c_3 => ?_)
      · refine zz (fun _ _ => lv_aload_n hx hb dX7_bringGraph_64 rfl (lv_at hl 0 rfl)) ?_
        refine zz (fun _ _ => lv_iconst (v := 0) hx hb dX7_bringGraph_65 (by decide)) ?_
        refine z_put C fp_X7_82 (fun h => by cases h) (rd_6 (kp_5 (by decide) ht)) (Nat.le_of_ble_eq_true rfl) rfl rfl dX7_bringGraph_66 ?_
        refine zeq (wr_6_1 (kp_5 (by decide) ht)) ?_
        have hft9 : ¬ f = t := fun q => c_2 (by rw [q])
        have hG9 := SG_clr hS.2 ht
        have hfc9 : FC iv av (u2 iv (4 + 1 + 2 * t) 1 (0)) av := GF_u2.C ht
        have hGf9 : (u2 iv (4 + 1 + 2 * t) 1 (0)) (4 + 1 + 2 * f) 1 = nI (cds (S.1 f)).length := by rw [u2_k _ _ _ _ (by omega)]; exact (hS.2.1 f hf7).1
        have hGt9 : (u2 iv (4 + 1 + 2 * t) 1 (0)) (4 + 1 + 2 * f) 2 = tI (S.2.1 f) := by rw [u2_k _ _ _ _ (by omega)]; exact (hS.2.1 f hf7).2.1
        have hfe9 : pG S.1 t (fun _ => false) f = S.1 f := pG_k _ _ hft9
        have hcl9 : card (pG S.1 t (fun _ => false)) ≤ 120 := (okS_clr hS.1 t).2.1
        have hbc9 := become_s hG9 (by show (cds (pG S.1 t (fun _ => false) f)).length ≤ 120; rw [hfe9]; exact hlen) hf7 ht
        refine zz (fun _ _ => lv_aload_n hx hb dX7_bringGraph_69 rfl (lv_at hl 3 rfl)) ?_
        refine z_get (v := .int (iv (61 + 6 * i) 3)) C fd_X7_40 (rd_18 (ck_s hi)) (by simp [u2]) dX7_bringGraph_70 ?_
        refine zval (v' := .int (nI k)) (congrArg Value.int (hkd)) ?_
        refine zz (fun _ _ => lv_bipush (v := 6) hx hb dX7_bringGraph_73 (by decide)) ?_
        refine zval (v' := .int (nI 6)) (congrArg Value.int rfl) ?_
        refine zbn (fun _ _ => lv_icmp_ne (tgt := 97) hx hb dX7_bringGraph_75 (by decide)) (fun c_4 => ?_) (fun c_4 => ?_)
        · refine zz (fun _ _ => lv_aload_n hx hb dX7_bringGraph_97 rfl (lv_at hl 0 rfl)) ?_
          refine zz (fun _ _ => lv_aload_n hx hb dX7_bringGraph_98 rfl (lv_at hl 1 rfl)) ?_
          refine zdV (As := [.ref (x + (4 + 1 + 2 * f))]) (rest := []) (st' := []) C hl.1 lk_X7_96 (ctX2_become (ck_g ht) (ck_g hf7) hGf9 hlen (by rw [hGt9]; exact tI_b _)) (rd_6 (kp_5 (by decide) ht)) rfl rfl rfl (Nat.le_of_ble_eq_true rfl) ⟨by decide, by decide, by decide, by decide⟩ dX7_bringGraph_99 rfl (fun sz => ?_)
          refine zz (fun _ _ => lv_aload_n hx hb dX7_bringGraph_102 rfl (lv_at hl 3 rfl)) ?_
          refine z_get (v := .int ((fX2_become (u2 iv (4 + 1 + 2 * t) 1 (0)) av (4 + 1 + 2 * t) (4 + 1 + 2 * f)).1 (61 + 6 * i) 3)) C fd_X7_40 (rd_18 (ck_s hi)) rfl dX7_bringGraph_103 ?_
          refine zval (v' := .int (nI k)) (congrArg Value.int (((hfc9.trans hbc9.2).1 (61 + 6 * i) 3 (by omega)).trans hkd)) ?_
          refine zz (fun _ _ => lv_bipush (v := 7) hx hb dX7_bringGraph_106 (by decide)) ?_
          refine zval (v' := .int (nI 7)) (congrArg Value.int rfl) ?_
          refine zbn (fun _ _ => lv_icmp_ne (tgt := 122) hx hb dX7_bringGraph_108 (by decide)) (fun c_5 => ?_) (fun c_5 => ?_)
          · refine zz (fun _ _ => lv_iconst (v := 0) hx hb dX7_bringGraph_122 (by decide)) ?_
            exact z_iret C hr hlk dX7_bringGraph_123 (zpI_mk (a := (fX2_become (u2 iv (4 + 1 + 2 * t) 1 (0)) av (4 + 1 + 2 * t) (4 + 1 + 2 * f)).1) (b := (fX2_become (u2 iv (4 + 1 + 2 * t) 1 (0)) av (4 + 1 + 2 * t) (4 + 1 + 2 * f)).2) (by exfalso; have h9 : k ≠ 8 := fun q => c_3 (by rw [q]); have h8 : k ≠ 6 := fun q => c_4 (by rw [q]); have h7 : k ≠ 7 := fun q => c_5 (by rw [q]); omega))
          · refine zz (fun _ _ => lv_aload_n hx hb dX7_bringGraph_111 rfl (lv_at hl 2 rfl)) ?_
            refine z_get (v := .ref (x + 3)) C fd_X7_12 (rd_3 (by decide)) rfl dX7_bringGraph_112 ?_
            refine zz (fun _ _ => lv_aload_n hx hb dX7_bringGraph_115 rfl (lv_at hl 3 rfl)) ?_
            refine z_get (v := .int ((fX2_become (u2 iv (4 + 1 + 2 * t) 1 (0)) av (4 + 1 + 2 * t) (4 + 1 + 2 * f)).1 (61 + 6 * i) 4)) C fd_X7_85 (rd_18 (ck_s hi)) rfl dX7_bringGraph_116 ?_
            refine zval (v' := .int (nI f)) (congrArg Value.int (((hfc9.trans hbc9.2).1 (61 + 6 * i) 4 (by omega)).trans hfrom)) ?_
            refine zdV (As := [.int (nI f)]) (rest := []) (st' := []) C hl.1 lk_X7_78 (ctX6_drop (by decide) rfl hf7) (rd_4 (by decide)) rfl rfl rfl (Nat.le_of_ble_eq_true rfl) ⟨by decide, by decide, by decide, by decide⟩ dX7_bringGraph_119 rfl (fun sz => ?_)
            refine zz (fun _ _ => lv_iconst (v := 0) hx hb dX7_bringGraph_122 (by decide)) ?_
            exact z_iret C hr hlk dX7_bringGraph_123 (zpI_mk (a := (fX6_drop ((fX2_become (u2 iv (4 + 1 + 2 * t) 1 (0)) av (4 + 1 + 2 * t) (4 + 1 + 2 * f)).1) ((fX2_become (u2 iv (4 + 1 + 2 * t) 1 (0)) av (4 + 1 + 2 * t) (4 + 1 + 2 * f)).2) 3 f (nI f)).1) (b := (fX6_drop ((fX2_become (u2 iv (4 + 1 + 2 * t) 1 (0)) av (4 + 1 + 2 * t) (4 + 1 + 2 * f)).1) ((fX2_become (u2 iv (4 + 1 + 2 * t) 1 (0)) av (4 + 1 + 2 * t) (4 + 1 + 2 * f)).2) 3 f (nI f)).2) (by rw [show k = 7 from ((nI_eq (by omega) (by omega)).mp c_5)]; exact brc_7 hS.1 hf7 ht c_1 hft9 (hfc9.trans (hbc9.2.trans (drop_s hbc9.1 hf7).2)) (by have h9 := (drop_s hbc9.1 hf7).1; dsimp only at h9; rw [hfe9, pG_2] at h9; exact h9)))
        · refine zz (fun _ _ => lv_aload_n hx hb dX7_bringGraph_78 rfl (lv_at hl 2 rfl)) ?_
          refine z_get (v := .ref (x + 3)) C fd_X7_12 (rd_3 (by decide)) rfl dX7_bringGraph_79 ?_
          refine zdV (As := []) (rest := []) (st' := [.int ((fX6_factCount (u2 iv (4 + 1 + 2 * t) 1 (0)) 3))]) C hl.1 lk_X7_92 (ctX6_factCount (by decide)) (rd_4 (by decide)) rfl rfl rfl (Nat.le_of_ble_eq_true rfl) ⟨by decide, by decide, by decide, by decide⟩ dX7_bringGraph_82 rfl (fun sz => ?_)
          refine zval (v' := .int (nI (card (pG S.1 t (fun _ => false))))) (congrArg Value.int (by have h9 := factCount_g hG9; exact h9)) ?_
          refine zz (fun _ _ => lv_aload_n hx hb dX7_bringGraph_85 rfl (lv_at hl 1 rfl)) ?_
          refine z_get (v := .int ((u2 iv (4 + 1 + 2 * t) 1 (0)) (4 + 1 + 2 * f) 1)) C fd_X7_82 (rd_6 (kp_5 (by decide) hf7)) (by simp [u2]) dX7_bringGraph_86 ?_
          refine zval (v' := .int (nI (cds (S.1 f)).length)) (congrArg Value.int hGf9) ?_
          refine zz (fun _ _ => lv_iadd hx hb dX7_bringGraph_89) ?_
          refine zval (v' := .int (nI (card (pG S.1 t (fun _ => false)) + (cds (S.1 f)).length))) (congrArg Value.int (nI_add _ _)) ?_
          refine zz (fun _ _ => lv_bipush (v := 120) hx hb dX7_bringGraph_90 (by decide)) ?_
          refine zval (v' := .int (nI 120)) (congrArg Value.int rfl) ?_
          refine zb (fun _ _ => lv_icmp_le (tgt := 97) hx hb dX7_bringGraph_92 (by decide)) (fun c_6 => ?_) (fun c_6 => ?_)
          · refine zz (fun _ _ => lv_aload_n hx hb dX7_bringGraph_97 rfl (lv_at hl 0 rfl)) ?_
            refine zz (fun _ _ => lv_aload_n hx hb dX7_bringGraph_98 rfl (lv_at hl 1 rfl)) ?_
            refine zdV (As := [.ref (x + (4 + 1 + 2 * f))]) (rest := []) (st' := []) C hl.1 lk_X7_96 (ctX2_become (ck_g ht) (ck_g hf7) hGf9 hlen (by rw [hGt9]; exact tI_b _)) (rd_6 (kp_5 (by decide) ht)) rfl rfl rfl (Nat.le_of_ble_eq_true rfl) ⟨by decide, by decide, by decide, by decide⟩ dX7_bringGraph_99 rfl (fun sz => ?_)
            refine zz (fun _ _ => lv_aload_n hx hb dX7_bringGraph_102 rfl (lv_at hl 3 rfl)) ?_
            refine z_get (v := .int ((fX2_become (u2 iv (4 + 1 + 2 * t) 1 (0)) av (4 + 1 + 2 * t) (4 + 1 + 2 * f)).1 (61 + 6 * i) 3)) C fd_X7_40 (rd_18 (ck_s hi)) rfl dX7_bringGraph_103 ?_
            refine zval (v' := .int (nI k)) (congrArg Value.int (((hfc9.trans hbc9.2).1 (61 + 6 * i) 3 (by omega)).trans hkd)) ?_
            refine zz (fun _ _ => lv_bipush (v := 7) hx hb dX7_bringGraph_106 (by decide)) ?_
            refine zval (v' := .int (nI 7)) (congrArg Value.int rfl) ?_
            refine zbn (fun _ _ => lv_icmp_ne (tgt := 122) hx hb dX7_bringGraph_108 (by decide)) (fun c_7 => ?_) (fun c_7 => ?_)
            · refine zz (fun _ _ => lv_iconst (v := 0) hx hb dX7_bringGraph_122 (by decide)) ?_
              exact z_iret C hr hlk dX7_bringGraph_123 (zpI_mk (a := (fX2_become (u2 iv (4 + 1 + 2 * t) 1 (0)) av (4 + 1 + 2 * t) (4 + 1 + 2 * f)).1) (b := (fX2_become (u2 iv (4 + 1 + 2 * t) 1 (0)) av (4 + 1 + 2 * t) (4 + 1 + 2 * f)).2) (by rw [show k = 6 from ((nI_eq (by omega) (by omega)).mp c_4)]; exact brc_6 hS.1 ht c_1 hft9 (by omega) c_6 (hfc9.trans hbc9.2) (by have h9 := hbc9.1; dsimp only at h9; rw [hfe9, pG_2] at h9; exact h9)))
            · exact absurd (c_4.symm.trans c_7) (by decide)
          · refine zz (fun _ _ => lv_iconst (v := 4) hx hb dX7_bringGraph_95 (by decide)) ?_
            exact z_iret C hr hlk dX7_bringGraph_96 (zpI_mk (a := (u2 iv (4 + 1 + 2 * t) 1 (0))) (b := av) (by rw [show k = 6 from ((nI_eq (by omega) (by omega)).mp c_4)]; exact brc_4 ht c_1 hft9 (by omega) c_6 hfc9))
      · refine zz (fun _ _ => lv_aload_n hx hb dX7_bringGraph_57 rfl (lv_at hl 2 rfl)) ?_
        refine zz (fun _ _ => lv_aload_n hx hb dX7_bringGraph_58 rfl (lv_at hl 1 rfl)) ?_
        refine zz (fun _ _ => lv_aload_n hx hb dX7_bringGraph_59 rfl (lv_at hl 0 rfl)) ?_
        refine zqVI (As := [.ref (x + (4 + 1 + 2 * f)), .ref (x + (4 + 1 + 2 * t))]) (rest := []) C hl.1 lk_X7_88 (hX7_addGraph hf7 ht (fun q => c_2 (by rw [q])) hS) (rd_3 (by decide)) rfl rfl rfl (Nat.le_of_ble_eq_true rfl) ⟨by decide, by decide, by decide, by decide⟩ dX7_bringGraph_60 (fun w8 iv8 av8 sz h8 => ?_)
        refine zeq (M' := (cm aC x iv8 av8 R)) rfl ?_
        exact z_iret C hr hlk dX7_bringGraph_63 (zpI_mk (a := iv8) (b := av8) (by rw [show k = 8 from ((nI_eq (by omega) (by omega)).mp c_3)]; exact brc_8 c_1 (fun q => c_2 (by rw [q])) h8))
    · refine zz (fun _ _ => lv_iconst (v := 0) hx hb dX7_bringGraph_46 (by decide)) ?_
      exact z_iret C hr hlk dX7_bringGraph_47 (zpI_mk (a := iv) (b := av) (brc_s hS c_1 ((nI_eq (by omega) (by omega)).mp c_2)))
  · refine zz (fun _ _ => lv_iconst (v := 2) hx hb dX7_bringGraph_33 (by decide)) ?_
    exact z_iret C hr hlk dX7_bringGraph_34 (zpI_mk (a := iv) (b := av) (brc_2 hS c_1))
end
section
set_option maxHeartbeats 2000000 in
set_option maxRecDepth 10000 in
theorem hX7_takeAllFacts {l : Launch} {D : va_G} {aC : Nat → ClassId} {b0 sz : Nat} {x : Nat} {iv av : Nat → Nat → Int32} {R : ZM} {i k : Nat} {to : Int32} {S : St} (hi : i < 12) (hk9 : k ≤ 9) (hkd : iv (61 + 6 * i) 3 = nI k) (hto : iv (61 + 6 * i) 5 = to) (h2 : -2 ≤ to.toInt) (h6 : to.toInt ≤ 6) (hS : SC iv av S) : Ct l D aC b0 yX7_takeAllFacts cX7_takeAllFacts 6 (some .int) 1 0 0 [.ref (x + 2), .ref (x + (61 + 6 * i))] (cm aC x iv av R) sz (zpI (fun iv av => cm aC x iv av R) (fun w' iv' av' => AC iv av (aWipe (decide (k = 5)) to S) w' iv' av')) := by
  refine Ct.of (by decide) (Nat.le_of_ble_eq_true rfl) ?_
  intro p e s m below meth c ls C hr hlk hnm hl
  have hl : lv_has ls 6 [(0, .ref (x + 2)), (1, .ref (x + (61 + 6 * i)))] := hl
  obtain ⟨hx, hb, -, -, -⟩ := id C
  refine zz (fun _ _ => lv_aload_n hx hb dX7_takeAllFacts_0 rfl (lv_at hl 1 rfl)) ?_
  refine z_get (v := .int (iv (61 + 6 * i) 5)) C fd_X7_61 (rd_18 (ck_s hi)) rfl dX7_takeAllFacts_1 ?_
  refine zval (v' := .int (to)) (congrArg Value.int hto) ?_
  refine zdS (As := [.int (to)]) (rest := []) (st' := [.int ((fX8_isGraph to))]) C hl.1 lk_X7_64 (ctX8_isGraph ) rfl rfl (Nat.le_of_ble_eq_true rfl) ⟨by decide, by decide, by decide, by decide⟩ dX7_takeAllFacts_4 rfl (fun sz => ?_)
  refine zs (fun _ _ => lv_istore_n (lv' := [(2, .int ((fX8_isGraph to))), (0, .ref (x + 2)), (1, .ref (x + (61 + 6 * i)))]) hx hb dX7_takeAllFacts_7 rfl hl (by decide) rfl) (fun ls hl => ?_)
  refine zz (fun _ _ => lv_iload_n hx hb dX7_takeAllFacts_8 rfl (lv_at hl 0 rfl)) ?_
  refine zb (fun _ _ => lv_if_eq (tgt := 32) hx hb dX7_takeAllFacts_9 (by decide)) (fun c_1 => ?_) (fun c_1 => ?_)
  · refine zz (fun _ _ => lv_iload_n hx hb dX7_takeAllFacts_32 rfl (lv_at hl 0 rfl)) ?_
    refine zb (fun _ _ => lv_if_eq (tgt := 43) hx hb dX7_takeAllFacts_33 (by decide)) (fun c_2 => ?_) (fun c_2 => ?_)
    · refine zz (fun _ _ => lv_aload_n hx hb dX7_takeAllFacts_43 rfl (lv_at hl 2 rfl)) ?_
      refine z_get (v := .int (iv (61 + 6 * i) 5)) C fd_X7_61 (rd_18 (ck_s hi)) rfl dX7_takeAllFacts_44 ?_
      refine zval (v' := .int (to)) (congrArg Value.int hto) ?_
      refine zz (fun _ _ => lv_iconst (v := (-1)) hx hb dX7_takeAllFacts_47 (by decide)) ?_
      refine zbn (fun _ _ => lv_icmp_ne (tgt := 55) hx hb dX7_takeAllFacts_48 (by decide)) (fun c_3 => ?_) (fun c_3 => ?_)
      · refine zz (fun _ _ => lv_iconst (v := 1) hx hb dX7_takeAllFacts_55 (by decide)) ?_
        refine zval (v' := .int (nI 1)) (congrArg Value.int rfl) ?_
        refine zs (fun _ _ => lv_istore_n (lv' := [(3, .int (nI 1)), (2, .int ((fX8_isGraph to))), (0, .ref (x + 2)), (1, .ref (x + (61 + 6 * i)))]) hx hb dX7_takeAllFacts_56 rfl hl (by decide) rfl) (fun ls hl => ?_)
        refine zz (fun _ _ => lv_iload_n hx hb dX7_takeAllFacts_57 rfl (lv_at hl 1 rfl)) ?_
        refine zb (fun _ _ => lv_if_eq (tgt := 68) hx hb dX7_takeAllFacts_58 (by decide)) (fun c_4 => ?_) (fun c_4 => ?_)
        · refine zz (fun _ _ => lv_bipush (v := 6) hx hb dX7_takeAllFacts_68 (by decide)) ?_
          refine zval (v' := .int (nI 6)) (congrArg Value.int rfl) ?_
          refine zs (fun _ _ => lv_istore (lv' := [(4, .int (nI 6)), (3, .int (nI 1)), (2, .int ((fX8_isGraph to))), (0, .ref (x + 2)), (1, .ref (x + (61 + 6 * i)))]) hx hb dX7_takeAllFacts_70 hl (by decide) rfl) (fun ls hl => ?_)
          refine zz (fun _ _ => lv_iload_n hx hb dX7_takeAllFacts_72 rfl (lv_at hl 1 rfl)) ?_
          refine zs (fun _ _ => lv_istore (lv' := [(5, .int (nI 1)), (4, .int (nI 6)), (3, .int (nI 1)), (2, .int ((fX8_isGraph to))), (0, .ref (x + 2)), (1, .ref (x + (61 + 6 * i)))]) hx hb dX7_takeAllFacts_73 hl (by decide) rfl) (fun ls hl => ?_)
          have hl0 := lv_sub hl [4, 5, 3, 2, 1, 0] rfl
          refine z_loop (γ := (Nat → Nat → Int32) × (Nat → Nat → Int32)) (G := fun a => cm aC x a.1 a.2 R) (I := fun j a => cwJ iv av S (decide (k = 5)) 1 j a.1 a.2) (lv := fun j a => [(0, .ref (x + 2)), (1, .ref (x + (61 + 6 * i))), (2, .int ((fX8_isGraph to))), (3, .int (nI 1)), (4, .int (nI 6)), (5, .int (nI (1 + j)))]) (6) ?_ ?_ (iv, av) _ _ (cwJ_0 hS) hl0
          · intro j5 a5 sz ls hj5 hI5 hl ih5
            obtain ⟨iv5, av5⟩ := a5
            dsimp only at hI5 hl ih5
            refine zeq (M' := (cm aC x iv5 av5 R)) rfl ?_
            refine zz (fun _ _ => lv_iload hx hb dX7_takeAllFacts_75 (lv_at hl 5 rfl)) ?_
            refine zz (fun _ _ => lv_iload hx hb dX7_takeAllFacts_77 (lv_at hl 4 rfl)) ?_
            refine zb (fun _ _ => lv_icmp_gt (tgt := 122) hx hb dX7_takeAllFacts_79 (by decide)) (fun c_6 => ?_) (fun c_6 => ?_)
            · exact absurd c_6 (nI_nlt (by omega) (by omega))
            · refine zz (fun _ _ => lv_aload_n hx hb dX7_takeAllFacts_82 rfl (lv_at hl 1 rfl)) ?_
              refine z_get (v := .int (iv5 (61 + 6 * i) 3)) C fd_X7_40 (rd_18 (ck_s hi)) rfl dX7_takeAllFacts_83 ?_
              refine zval (v' := .int (nI k)) (congrArg Value.int ((hI5.1.1 (61 + 6 * i) 3 (by omega)).trans hkd)) ?_
              refine zz (fun _ _ => lv_iconst (v := 5) hx hb dX7_takeAllFacts_86 (by decide)) ?_
              refine zval (v' := .int (nI 5)) (congrArg Value.int rfl) ?_
              refine zbn (fun _ _ => lv_icmp_ne (tgt := 102) hx hb dX7_takeAllFacts_87 (by decide)) (fun c_7 => ?_) (fun c_7 => ?_)
              · refine zz (fun _ _ => lv_aload_n hx hb dX7_takeAllFacts_102 rfl (lv_at hl 0 rfl)) ?_
                refine z_get (v := .ref (x + 3)) C fd_X7_12 (rd_3 (by decide)) rfl dX7_takeAllFacts_103 ?_
                refine z_get (v := .ref (x + 4)) C fd_X7_68 (rd_4 (by decide)) rfl dX7_takeAllFacts_106 ?_
                refine zz (fun _ _ => lv_iload hx hb dX7_takeAllFacts_109 (lv_at hl 5 rfl)) ?_
                refine z_aald C 3 rfl (rd_5 (by decide)) (by first | assumption | (apply vp_in_nI <;> omega)) (v := .ref (x + (4 + 1 + 2 * (1 + j5)))) (rf_if (f := fun q => x + (4 + 1 + 2 * q)) (n := 7) rfl (by omega) (by decide)) dX7_takeAllFacts_111 ?_
                refine zz (fun _ _ => lv_iconst (v := 0) hx hb dX7_takeAllFacts_112 (by decide)) ?_
                refine z_put C fp_X7_82 (fun h => by cases h) (rd_6 (kp_5 (by decide) (by omega))) (Nat.le_of_ble_eq_true rfl) rfl rfl dX7_takeAllFacts_113 ?_
                refine zeq (wr_6_1 (kp_5 (by decide) (by omega))) ?_
                refine zs (fun _ _ => lv_iinc (v := nI (1 + j5) + 1) (lv' := [(5, .int (nI (1 + j5) + 1)), (0, .ref (x + 2)), (1, .ref (x + (61 + 6 * i))), (2, .int ((fX8_isGraph to))), (3, .int (nI 1)), (4, .int (nI 6))]) hx hb dX7_takeAllFacts_116 hl (k := 5) rfl rfl (by decide) rfl) (fun ls hl => ?_)
                refine zz (fun _ _ => lv_goto (tgt := 75) hx hb dX7_takeAllFacts_119 (by decide)) ?_
                have hl := lv_sub hl [1, 2, 3, 4, 5, 0] rfl
                try simp only [nI_1] at hl
                exact ih5 ((u2 iv5 (4 + 1 + 2 * (1 + j5)) 1 (0)), av5) _ _ (by show cwJ iv av S (decide (k = 5)) 1 (j5 + 1) _ _; rw [show decide (k = 5) = false by simp [show ¬ k = 5 from fun q => c_7 (by rw [q])]]; exact cwJ_c (by have h9 := hI5; rw [show decide (k = 5) = false by simp [show ¬ k = 5 from fun q => c_7 (by rw [q])]] at h9; exact h9) (by omega)) hl
              · refine zz (fun _ _ => lv_aload_n hx hb dX7_takeAllFacts_90 rfl (lv_at hl 0 rfl)) ?_
                refine z_get (v := .ref (x + 3)) C fd_X7_12 (rd_3 (by decide)) rfl dX7_takeAllFacts_91 ?_
                refine zz (fun _ _ => lv_iload hx hb dX7_takeAllFacts_94 (lv_at hl 5 rfl)) ?_
                refine zdV (As := [.int (nI (1 + j5))]) (rest := []) (st' := []) C hl.1 lk_X7_78 (ctX6_drop (by decide) rfl (by omega)) (rd_4 (by decide)) rfl rfl rfl (Nat.le_of_ble_eq_true rfl) ⟨by decide, by decide, by decide, by decide⟩ dX7_takeAllFacts_96 rfl (fun sz => ?_)
                refine zz (fun _ _ => lv_goto (tgt := 116) hx hb dX7_takeAllFacts_99 (by decide)) ?_
                refine zs (fun _ _ => lv_iinc (v := nI (1 + j5) + 1) (lv' := [(5, .int (nI (1 + j5) + 1)), (0, .ref (x + 2)), (1, .ref (x + (61 + 6 * i))), (2, .int ((fX8_isGraph to))), (3, .int (nI 1)), (4, .int (nI 6))]) hx hb dX7_takeAllFacts_116 hl (k := 5) rfl rfl (by decide) rfl) (fun ls hl => ?_)
                refine zz (fun _ _ => lv_goto (tgt := 75) hx hb dX7_takeAllFacts_119 (by decide)) ?_
                have hl := lv_sub hl [1, 2, 3, 4, 5, 0] rfl
                try simp only [nI_1] at hl
                exact ih5 ((fX6_drop iv5 av5 3 (1 + j5) (nI (1 + j5))).1, (fX6_drop iv5 av5 3 (1 + j5) (nI (1 + j5))).2) _ _ (by show cwJ iv av S (decide (k = 5)) 1 (j5 + 1) _ _; rw [show decide (k = 5) = true by simp [show k = 5 from ((nI_eq (by omega) (by omega)).mp c_7)]]; exact cwJ_d (by have h9 := hI5; rw [show decide (k = 5) = true by simp [show k = 5 from ((nI_eq (by omega) (by omega)).mp c_7)]] at h9; exact h9) (by omega)) hl
          · intro a5 sz ls hI5 hl
            obtain ⟨iv5, av5⟩ := a5
            dsimp only at hI5 hl
            refine zeq (M' := (cm aC x iv5 av5 R)) rfl ?_
            refine zz (fun _ _ => lv_iload hx hb dX7_takeAllFacts_75 (lv_at hl 5 rfl)) ?_
            refine zz (fun _ _ => lv_iload hx hb dX7_takeAllFacts_77 (lv_at hl 4 rfl)) ?_
            refine zb (fun _ _ => lv_icmp_gt (tgt := 122) hx hb dX7_takeAllFacts_79 (by decide)) (fun c_8 => ?_) (fun c_8 => ?_)
            · refine zz (fun _ _ => lv_iconst (v := 0) hx hb dX7_takeAllFacts_122 (by decide)) ?_
              exact z_iret C hr hlk dX7_takeAllFacts_123 (zpI_mk (a := iv5) (b := av5) (wpc_0 h6 hS (Or.inl c_1) (fun g hg => by rw [to_m2 c_1 h2 h6 c_3]; exact inTo_named hg) (by decide) hI5))
            · exact absurd (nI_lt (by omega) (by omega)) c_8
        · exact absurd c_1 c_4
      · refine zz (fun _ _ => lv_iconst (v := 0) hx hb dX7_takeAllFacts_51 (by decide)) ?_
        refine zval (v' := .int (nI 0)) (congrArg Value.int rfl) ?_
        refine zz (fun _ _ => lv_goto (tgt := 56) hx hb dX7_takeAllFacts_52 (by decide)) ?_
        refine zs (fun _ _ => lv_istore_n (lv' := [(3, .int (nI 0)), (2, .int ((fX8_isGraph to))), (0, .ref (x + 2)), (1, .ref (x + (61 + 6 * i)))]) hx hb dX7_takeAllFacts_56 rfl hl (by decide) rfl) (fun ls hl => ?_)
        refine zz (fun _ _ => lv_iload_n hx hb dX7_takeAllFacts_57 rfl (lv_at hl 1 rfl)) ?_
        refine zb (fun _ _ => lv_if_eq (tgt := 68) hx hb dX7_takeAllFacts_58 (by decide)) (fun c_9 => ?_) (fun c_9 => ?_)
        · refine zz (fun _ _ => lv_bipush (v := 6) hx hb dX7_takeAllFacts_68 (by decide)) ?_
          refine zval (v' := .int (nI 6)) (congrArg Value.int rfl) ?_
          refine zs (fun _ _ => lv_istore (lv' := [(4, .int (nI 6)), (3, .int (nI 0)), (2, .int ((fX8_isGraph to))), (0, .ref (x + 2)), (1, .ref (x + (61 + 6 * i)))]) hx hb dX7_takeAllFacts_70 hl (by decide) rfl) (fun ls hl => ?_)
          refine zz (fun _ _ => lv_iload_n hx hb dX7_takeAllFacts_72 rfl (lv_at hl 1 rfl)) ?_
          refine zs (fun _ _ => lv_istore (lv' := [(5, .int (nI 0)), (4, .int (nI 6)), (3, .int (nI 0)), (2, .int ((fX8_isGraph to))), (0, .ref (x + 2)), (1, .ref (x + (61 + 6 * i)))]) hx hb dX7_takeAllFacts_73 hl (by decide) rfl) (fun ls hl => ?_)
          have hl0 := lv_sub hl [4, 5, 3, 2, 1, 0] rfl
          refine z_loop (γ := (Nat → Nat → Int32) × (Nat → Nat → Int32)) (G := fun a => cm aC x a.1 a.2 R) (I := fun j a => cwJ iv av S (decide (k = 5)) 0 j a.1 a.2) (lv := fun j a => [(0, .ref (x + 2)), (1, .ref (x + (61 + 6 * i))), (2, .int ((fX8_isGraph to))), (3, .int (nI 0)), (4, .int (nI 6)), (5, .int (nI (0 + j)))]) (7) ?_ ?_ (iv, av) _ _ (cwJ_0 hS) hl0
          · intro j10 a10 sz ls hj10 hI10 hl ih10
            obtain ⟨iv10, av10⟩ := a10
            dsimp only at hI10 hl ih10
            refine zeq (M' := (cm aC x iv10 av10 R)) rfl ?_
            refine zz (fun _ _ => lv_iload hx hb dX7_takeAllFacts_75 (lv_at hl 5 rfl)) ?_
            refine zz (fun _ _ => lv_iload hx hb dX7_takeAllFacts_77 (lv_at hl 4 rfl)) ?_
            refine zb (fun _ _ => lv_icmp_gt (tgt := 122) hx hb dX7_takeAllFacts_79 (by decide)) (fun c_11 => ?_) (fun c_11 => ?_)
            · exact absurd c_11 (nI_nlt (by omega) (by omega))
            · refine zz (fun _ _ => lv_aload_n hx hb dX7_takeAllFacts_82 rfl (lv_at hl 1 rfl)) ?_
              refine z_get (v := .int (iv10 (61 + 6 * i) 3)) C fd_X7_40 (rd_18 (ck_s hi)) rfl dX7_takeAllFacts_83 ?_
              refine zval (v' := .int (nI k)) (congrArg Value.int ((hI10.1.1 (61 + 6 * i) 3 (by omega)).trans hkd)) ?_
              refine zz (fun _ _ => lv_iconst (v := 5) hx hb dX7_takeAllFacts_86 (by decide)) ?_
              refine zval (v' := .int (nI 5)) (congrArg Value.int rfl) ?_
              refine zbn (fun _ _ => lv_icmp_ne (tgt := 102) hx hb dX7_takeAllFacts_87 (by decide)) (fun c_12 => ?_) (fun c_12 => ?_)
              · refine zz (fun _ _ => lv_aload_n hx hb dX7_takeAllFacts_102 rfl (lv_at hl 0 rfl)) ?_
                refine z_get (v := .ref (x + 3)) C fd_X7_12 (rd_3 (by decide)) rfl dX7_takeAllFacts_103 ?_
                refine z_get (v := .ref (x + 4)) C fd_X7_68 (rd_4 (by decide)) rfl dX7_takeAllFacts_106 ?_
                refine zz (fun _ _ => lv_iload hx hb dX7_takeAllFacts_109 (lv_at hl 5 rfl)) ?_
                refine z_aald C 3 rfl (rd_5 (by decide)) (by first | assumption | (apply vp_in_nI <;> omega)) (v := .ref (x + (4 + 1 + 2 * (0 + j10)))) (rf_if (f := fun q => x + (4 + 1 + 2 * q)) (n := 7) rfl (by omega) (by decide)) dX7_takeAllFacts_111 ?_
                refine zz (fun _ _ => lv_iconst (v := 0) hx hb dX7_takeAllFacts_112 (by decide)) ?_
                refine z_put C fp_X7_82 (fun h => by cases h) (rd_6 (kp_5 (by decide) (by omega))) (Nat.le_of_ble_eq_true rfl) rfl rfl dX7_takeAllFacts_113 ?_
                refine zeq (wr_6_1 (kp_5 (by decide) (by omega))) ?_
                refine zs (fun _ _ => lv_iinc (v := nI (0 + j10) + 1) (lv' := [(5, .int (nI (0 + j10) + 1)), (0, .ref (x + 2)), (1, .ref (x + (61 + 6 * i))), (2, .int ((fX8_isGraph to))), (3, .int (nI 0)), (4, .int (nI 6))]) hx hb dX7_takeAllFacts_116 hl (k := 5) rfl rfl (by decide) rfl) (fun ls hl => ?_)
                refine zz (fun _ _ => lv_goto (tgt := 75) hx hb dX7_takeAllFacts_119 (by decide)) ?_
                have hl := lv_sub hl [1, 2, 3, 4, 5, 0] rfl
                try simp only [nI_1] at hl
                exact ih10 ((u2 iv10 (4 + 1 + 2 * (0 + j10)) 1 (0)), av10) _ _ (by show cwJ iv av S (decide (k = 5)) 0 (j10 + 1) _ _; rw [show decide (k = 5) = false by simp [show ¬ k = 5 from fun q => c_12 (by rw [q])]]; exact cwJ_c (by have h9 := hI10; rw [show decide (k = 5) = false by simp [show ¬ k = 5 from fun q => c_12 (by rw [q])]] at h9; exact h9) (by omega)) hl
              · refine zz (fun _ _ => lv_aload_n hx hb dX7_takeAllFacts_90 rfl (lv_at hl 0 rfl)) ?_
                refine z_get (v := .ref (x + 3)) C fd_X7_12 (rd_3 (by decide)) rfl dX7_takeAllFacts_91 ?_
                refine zz (fun _ _ => lv_iload hx hb dX7_takeAllFacts_94 (lv_at hl 5 rfl)) ?_
                refine zdV (As := [.int (nI (0 + j10))]) (rest := []) (st' := []) C hl.1 lk_X7_78 (ctX6_drop (by decide) rfl (by omega)) (rd_4 (by decide)) rfl rfl rfl (Nat.le_of_ble_eq_true rfl) ⟨by decide, by decide, by decide, by decide⟩ dX7_takeAllFacts_96 rfl (fun sz => ?_)
                refine zz (fun _ _ => lv_goto (tgt := 116) hx hb dX7_takeAllFacts_99 (by decide)) ?_
                refine zs (fun _ _ => lv_iinc (v := nI (0 + j10) + 1) (lv' := [(5, .int (nI (0 + j10) + 1)), (0, .ref (x + 2)), (1, .ref (x + (61 + 6 * i))), (2, .int ((fX8_isGraph to))), (3, .int (nI 0)), (4, .int (nI 6))]) hx hb dX7_takeAllFacts_116 hl (k := 5) rfl rfl (by decide) rfl) (fun ls hl => ?_)
                refine zz (fun _ _ => lv_goto (tgt := 75) hx hb dX7_takeAllFacts_119 (by decide)) ?_
                have hl := lv_sub hl [1, 2, 3, 4, 5, 0] rfl
                try simp only [nI_1] at hl
                exact ih10 ((fX6_drop iv10 av10 3 (0 + j10) (nI (0 + j10))).1, (fX6_drop iv10 av10 3 (0 + j10) (nI (0 + j10))).2) _ _ (by show cwJ iv av S (decide (k = 5)) 0 (j10 + 1) _ _; rw [show decide (k = 5) = true by simp [show k = 5 from ((nI_eq (by omega) (by omega)).mp c_12)]]; exact cwJ_d (by have h9 := hI10; rw [show decide (k = 5) = true by simp [show k = 5 from ((nI_eq (by omega) (by omega)).mp c_12)]] at h9; exact h9) (by omega)) hl
          · intro a10 sz ls hI10 hl
            obtain ⟨iv10, av10⟩ := a10
            dsimp only at hI10 hl
            refine zeq (M' := (cm aC x iv10 av10 R)) rfl ?_
            refine zz (fun _ _ => lv_iload hx hb dX7_takeAllFacts_75 (lv_at hl 5 rfl)) ?_
            refine zz (fun _ _ => lv_iload hx hb dX7_takeAllFacts_77 (lv_at hl 4 rfl)) ?_
            refine zb (fun _ _ => lv_icmp_gt (tgt := 122) hx hb dX7_takeAllFacts_79 (by decide)) (fun c_13 => ?_) (fun c_13 => ?_)
            · refine zz (fun _ _ => lv_iconst (v := 0) hx hb dX7_takeAllFacts_122 (by decide)) ?_
              exact z_iret C hr hlk dX7_takeAllFacts_123 (zpI_mk (a := iv10) (b := av10) (wpc_0 h6 hS (Or.inl c_1) (fun g hg => by rw [c_3]; exact inTo_all hg) (by decide) hI10))
            · exact absurd (nI_lt (by omega) (by omega)) c_13
        · exact absurd c_1 c_9
    · exact absurd c_1 c_2
  · obtain ⟨t9, ht9, et9, en9⟩ := to_gr c_1
    refine zz (fun _ _ => lv_aload_n hx hb dX7_takeAllFacts_12 rfl (lv_at hl 1 rfl)) ?_
    refine z_get (v := .ref (x + 3)) C fd_X7_12 (rd_3 (by decide)) rfl dX7_takeAllFacts_13 ?_
    refine z_get (v := .ref (x + 4)) C fd_X7_68 (rd_4 (by decide)) rfl dX7_takeAllFacts_16 ?_
    refine zz (fun _ _ => lv_aload_n hx hb dX7_takeAllFacts_19 rfl (lv_at hl 2 rfl)) ?_
    refine z_get (v := .int (iv (61 + 6 * i) 5)) C fd_X7_61 (rd_18 (ck_s hi)) rfl dX7_takeAllFacts_20 ?_
    refine zval (v' := .int (nI t9)) (congrArg Value.int (hto.trans et9)) ?_
    refine z_aald C 3 rfl (rd_5 (by decide)) (by first | assumption | (apply vp_in_nI <;> omega)) (v := .ref (x + (4 + 1 + 2 * t9))) (rf_if (f := fun q => x + (4 + 1 + 2 * q)) (n := 7) rfl ht9 (by decide)) dX7_takeAllFacts_23 ?_
    refine z_get (v := .int (iv (4 + 1 + 2 * t9) 2)) C fd_X7_72 (rd_6 (kp_5 (by decide) ht9)) rfl dX7_takeAllFacts_24 ?_
    refine zval (v' := .int (tI (S.2.1 t9))) (congrArg Value.int (hS.2.1 t9 ht9).2.1) ?_
    refine zbn (fun _ _ => lv_if_ne (tgt := 32) hx hb dX7_takeAllFacts_27 (by decide)) (fun c_14 => ?_) (fun c_14 => ?_)
    · refine zz (fun _ _ => lv_iload_n hx hb dX7_takeAllFacts_32 rfl (lv_at hl 0 rfl)) ?_
      refine zb (fun _ _ => lv_if_eq (tgt := 43) hx hb dX7_takeAllFacts_33 (by decide)) (fun c_15 => ?_) (fun c_15 => ?_)
      · exact absurd c_15 c_1
      · refine zz (fun _ _ => lv_aload_n hx hb dX7_takeAllFacts_36 rfl (lv_at hl 2 rfl)) ?_
        refine z_get (v := .int (iv (61 + 6 * i) 5)) C fd_X7_61 (rd_18 (ck_s hi)) rfl dX7_takeAllFacts_37 ?_
        refine zval (v' := .int (nI t9)) (congrArg Value.int (hto.trans et9)) ?_
        refine zz (fun _ _ => lv_goto (tgt := 56) hx hb dX7_takeAllFacts_40 (by decide)) ?_
        refine zs (fun _ _ => lv_istore_n (lv' := [(3, .int (nI t9)), (2, .int ((fX8_isGraph to))), (0, .ref (x + 2)), (1, .ref (x + (61 + 6 * i)))]) hx hb dX7_takeAllFacts_56 rfl hl (by decide) rfl) (fun ls hl => ?_)
        refine zz (fun _ _ => lv_iload_n hx hb dX7_takeAllFacts_57 rfl (lv_at hl 1 rfl)) ?_
        refine zb (fun _ _ => lv_if_eq (tgt := 68) hx hb dX7_takeAllFacts_58 (by decide)) (fun c_16 => ?_) (fun c_16 => ?_)
        · exact absurd c_16 c_1
        · refine zz (fun _ _ => lv_aload_n hx hb dX7_takeAllFacts_61 rfl (lv_at hl 3 rfl)) ?_
          refine z_get (v := .int (iv (61 + 6 * i) 5)) C fd_X7_61 (rd_18 (ck_s hi)) rfl dX7_takeAllFacts_62 ?_
          refine zval (v' := .int (nI t9)) (congrArg Value.int (hto.trans et9)) ?_
          refine zz (fun _ _ => lv_goto (tgt := 70) hx hb dX7_takeAllFacts_65 (by decide)) ?_
          refine zs (fun _ _ => lv_istore (lv' := [(4, .int (nI t9)), (3, .int (nI t9)), (2, .int ((fX8_isGraph to))), (0, .ref (x + 2)), (1, .ref (x + (61 + 6 * i)))]) hx hb dX7_takeAllFacts_70 hl (by decide) rfl) (fun ls hl => ?_)
          refine zz (fun _ _ => lv_iload_n hx hb dX7_takeAllFacts_72 rfl (lv_at hl 1 rfl)) ?_
          refine zs (fun _ _ => lv_istore (lv' := [(5, .int (nI t9)), (4, .int (nI t9)), (3, .int (nI t9)), (2, .int ((fX8_isGraph to))), (0, .ref (x + 2)), (1, .ref (x + (61 + 6 * i)))]) hx hb dX7_takeAllFacts_73 hl (by decide) rfl) (fun ls hl => ?_)
          have hl0 := lv_sub hl [4, 5, 3, 2, 1, 0] rfl
          refine z_loop (γ := (Nat → Nat → Int32) × (Nat → Nat → Int32)) (G := fun a => cm aC x a.1 a.2 R) (I := fun j a => cwJ iv av S (decide (k = 5)) t9 j a.1 a.2) (lv := fun j a => [(0, .ref (x + 2)), (1, .ref (x + (61 + 6 * i))), (2, .int ((fX8_isGraph to))), (3, .int (nI t9)), (4, .int (nI t9)), (5, .int (nI (t9 + j)))]) (1) ?_ ?_ (iv, av) _ _ (cwJ_0 hS) hl0
          · intro j17 a17 sz ls hj17 hI17 hl ih17
            obtain ⟨iv17, av17⟩ := a17
            dsimp only at hI17 hl ih17
            refine zeq (M' := (cm aC x iv17 av17 R)) rfl ?_
            refine zz (fun _ _ => lv_iload hx hb dX7_takeAllFacts_75 (lv_at hl 5 rfl)) ?_
            refine zz (fun _ _ => lv_iload hx hb dX7_takeAllFacts_77 (lv_at hl 4 rfl)) ?_
            refine zb (fun _ _ => lv_icmp_gt (tgt := 122) hx hb dX7_takeAllFacts_79 (by decide)) (fun c_18 => ?_) (fun c_18 => ?_)
            · exact absurd c_18 (nI_nlt (by omega) (by omega))
            · refine zz (fun _ _ => lv_aload_n hx hb dX7_takeAllFacts_82 rfl (lv_at hl 1 rfl)) ?_
              refine z_get (v := .int (iv17 (61 + 6 * i) 3)) C fd_X7_40 (rd_18 (ck_s hi)) rfl dX7_takeAllFacts_83 ?_
              refine zval (v' := .int (nI k)) (congrArg Value.int ((hI17.1.1 (61 + 6 * i) 3 (by omega)).trans hkd)) ?_
              refine zz (fun _ _ => lv_iconst (v := 5) hx hb dX7_takeAllFacts_86 (by decide)) ?_
              refine zval (v' := .int (nI 5)) (congrArg Value.int rfl) ?_
              refine zbn (fun _ _ => lv_icmp_ne (tgt := 102) hx hb dX7_takeAllFacts_87 (by decide)) (fun c_19 => ?_) (fun c_19 => ?_)
              · refine zz (fun _ _ => lv_aload_n hx hb dX7_takeAllFacts_102 rfl (lv_at hl 0 rfl)) ?_
                refine z_get (v := .ref (x + 3)) C fd_X7_12 (rd_3 (by decide)) rfl dX7_takeAllFacts_103 ?_
                refine z_get (v := .ref (x + 4)) C fd_X7_68 (rd_4 (by decide)) rfl dX7_takeAllFacts_106 ?_
                refine zz (fun _ _ => lv_iload hx hb dX7_takeAllFacts_109 (lv_at hl 5 rfl)) ?_
                refine z_aald C 3 rfl (rd_5 (by decide)) (by first | assumption | (apply vp_in_nI <;> omega)) (v := .ref (x + (4 + 1 + 2 * (t9 + j17)))) (rf_if (f := fun q => x + (4 + 1 + 2 * q)) (n := 7) rfl (by omega) (by decide)) dX7_takeAllFacts_111 ?_
                refine zz (fun _ _ => lv_iconst (v := 0) hx hb dX7_takeAllFacts_112 (by decide)) ?_
                refine z_put C fp_X7_82 (fun h => by cases h) (rd_6 (kp_5 (by decide) (by omega))) (Nat.le_of_ble_eq_true rfl) rfl rfl dX7_takeAllFacts_113 ?_
                refine zeq (wr_6_1 (kp_5 (by decide) (by omega))) ?_
                refine zs (fun _ _ => lv_iinc (v := nI (t9 + j17) + 1) (lv' := [(5, .int (nI (t9 + j17) + 1)), (0, .ref (x + 2)), (1, .ref (x + (61 + 6 * i))), (2, .int ((fX8_isGraph to))), (3, .int (nI t9)), (4, .int (nI t9))]) hx hb dX7_takeAllFacts_116 hl (k := 5) rfl rfl (by decide) rfl) (fun ls hl => ?_)
                refine zz (fun _ _ => lv_goto (tgt := 75) hx hb dX7_takeAllFacts_119 (by decide)) ?_
                have hl := lv_sub hl [1, 2, 3, 4, 5, 0] rfl
                try simp only [nI_1] at hl
                exact ih17 ((u2 iv17 (4 + 1 + 2 * (t9 + j17)) 1 (0)), av17) _ _ (by show cwJ iv av S (decide (k = 5)) t9 (j17 + 1) _ _; rw [show decide (k = 5) = false by simp [show ¬ k = 5 from fun q => c_19 (by rw [q])]]; exact cwJ_c (by have h9 := hI17; rw [show decide (k = 5) = false by simp [show ¬ k = 5 from fun q => c_19 (by rw [q])]] at h9; exact h9) (by omega)) hl
              · refine zz (fun _ _ => lv_aload_n hx hb dX7_takeAllFacts_90 rfl (lv_at hl 0 rfl)) ?_
                refine z_get (v := .ref (x + 3)) C fd_X7_12 (rd_3 (by decide)) rfl dX7_takeAllFacts_91 ?_
                refine zz (fun _ _ => lv_iload hx hb dX7_takeAllFacts_94 (lv_at hl 5 rfl)) ?_
                refine zdV (As := [.int (nI (t9 + j17))]) (rest := []) (st' := []) C hl.1 lk_X7_78 (ctX6_drop (by decide) rfl (by omega)) (rd_4 (by decide)) rfl rfl rfl (Nat.le_of_ble_eq_true rfl) ⟨by decide, by decide, by decide, by decide⟩ dX7_takeAllFacts_96 rfl (fun sz => ?_)
                refine zz (fun _ _ => lv_goto (tgt := 116) hx hb dX7_takeAllFacts_99 (by decide)) ?_
                refine zs (fun _ _ => lv_iinc (v := nI (t9 + j17) + 1) (lv' := [(5, .int (nI (t9 + j17) + 1)), (0, .ref (x + 2)), (1, .ref (x + (61 + 6 * i))), (2, .int ((fX8_isGraph to))), (3, .int (nI t9)), (4, .int (nI t9))]) hx hb dX7_takeAllFacts_116 hl (k := 5) rfl rfl (by decide) rfl) (fun ls hl => ?_)
                refine zz (fun _ _ => lv_goto (tgt := 75) hx hb dX7_takeAllFacts_119 (by decide)) ?_
                have hl := lv_sub hl [1, 2, 3, 4, 5, 0] rfl
                try simp only [nI_1] at hl
                exact ih17 ((fX6_drop iv17 av17 3 (t9 + j17) (nI (t9 + j17))).1, (fX6_drop iv17 av17 3 (t9 + j17) (nI (t9 + j17))).2) _ _ (by show cwJ iv av S (decide (k = 5)) t9 (j17 + 1) _ _; rw [show decide (k = 5) = true by simp [show k = 5 from ((nI_eq (by omega) (by omega)).mp c_19)]]; exact cwJ_d (by have h9 := hI17; rw [show decide (k = 5) = true by simp [show k = 5 from ((nI_eq (by omega) (by omega)).mp c_19)]] at h9; exact h9) (by omega)) hl
          · intro a17 sz ls hI17 hl
            obtain ⟨iv17, av17⟩ := a17
            dsimp only at hI17 hl
            refine zeq (M' := (cm aC x iv17 av17 R)) rfl ?_
            refine zz (fun _ _ => lv_iload hx hb dX7_takeAllFacts_75 (lv_at hl 5 rfl)) ?_
            refine zz (fun _ _ => lv_iload hx hb dX7_takeAllFacts_77 (lv_at hl 4 rfl)) ?_
            refine zb (fun _ _ => lv_icmp_gt (tgt := 122) hx hb dX7_takeAllFacts_79 (by decide)) (fun c_20 => ?_) (fun c_20 => ?_)
            · refine zz (fun _ _ => lv_iconst (v := 0) hx hb dX7_takeAllFacts_122 (by decide)) ?_
              exact z_iret C hr hlk dX7_takeAllFacts_123 (zpI_mk (a := iv17) (b := av17) (wpc_0 h6 hS (Or.inr (by rw [en9]; exact c_14)) (fun g hg => by rw [et9]; exact inTo_one ht9 hg) (by omega) hI17))
            · exact absurd (nI_lt (by omega) (by omega)) c_20
    · refine zz (fun _ _ => lv_iconst (v := 2) hx hb dX7_takeAllFacts_30 (by decide)) ?_
      exact z_iret C hr hlk dX7_takeAllFacts_31 (zpI_mk (a := iv) (b := av) (wpc_2 hS c_1 (by rw [en9]; exact c_14)))
end
section
/-! Rows of rows; values by depth. -/
section ZR9
variable {p : Program} {l : Launch} {e : Env} {R : Room} {s : State} {m : MethodId} {args : Array Value} {below : List Frame} {meth : Method} {c : Code} {D : va_G} {aC : Nat → ClassId} {b0 : Nat} {M : ZM} {sz cells slots : Nat} {Q : State → Prop} {own : String} {cc : ByteArray} {nL pc : Nat} {ls : Array Slot} {rest : List Value} {a : Nat}
theorem z_aaldA (C : zC p l s m c D aC b0 own cc nL) {n : Nat} {f : Nat → Option Nat} {i : Int32} (ha : M a = some (.inl (aC 5, n, .inr (.inr (.inr (.inr f)))))) (hin : vp_in i n) {v : Value} (hv : va_rf (f i.toNatClampNeg) = v) (hdg : decode cc pc = .ok (.aaload, 1))
    (kk : Z p l e R s m args below meth c D b0 M sz cells slots Q (F0 m (pc + 1) ls (v :: rest))) : Z p l e R s m args below meth c D b0 M sz cells slots Q (F0 m pc ls (.int i :: .ref a :: rest)) := by
  obtain ⟨hx, hb, -, hown, -, hK, hg, -⟩ := C
  subst hv
  intro H locs h1 h2 h3
  have hlt : i.toNatClampNeg < n := Nat.not_le.mp fun q => hin (Or.inr q)
  exact W.aald (v := va_rf (f i.toNatClampNeg)) (ty := .array .int) hx hb ((h1.one ha) 0 _ rfl) ((hK.2 5 (aC 5, .array .int) rfl).1 n (fun j => va_rf (f j))) rfl (fun q => by cases q) (by show ¬ (i < 0 ∨ (arrV _ _ _).slots.size ≤ _); rw [arrV_size]; exact hin) (by show (arrV _ _ _).slots[_]? = _; rw [arrV_read _ _ hlt]) rfl rfl hdg (kk H locs h1 h2 h3)
end ZR9
def VA (av : Nat → Nat → Int32) (r : Nat) (σ : Sg) : Prop := ∀ k, k < 4 → av (22 + r) k = σ k
def agP (iv av : Nat → Nat → Int32) (r : Nat) (σ : Sg) (a : Int32) (q : Nat) (w : Int32) (iv' av' : Nat → Nat → Int32) : Prop := iv' = iv ∧ (∀ k, k ≠ 22 + r → av' k = av k) ∧ ((w = 0 ∧ agr σ a (nI q) = none) ∨ ∃ σ', w = 1 ∧ agr σ a (nI q) = some σ' ∧ VA av' r σ')
theorem lt0 {a : Int32} : a < 0 ↔ a.toInt < 0 := by rw [Int32.lt_iff_toInt_lt]; exact Iff.rfl
theorem ag_v {a : Int32} (ha : isNm a ∨ isV a) (h : a < 0) : isV a := by
  rcases ha with q | q
  · have := lt0.mp h; have := q.1; omega
  · exact q
theorem ag_n {a : Int32} (ha : isNm a ∨ isV a) (h : ¬ a < 0) : isNm a := by
  rcases ha with q | q
  · exact q
  · exact absurd (lt0.mpr (by have := q.2; omega)) h
theorem vl_n {σ : Sg} {a : Int32} (h : isNm a) : vl σ a = a := by
  unfold vl
  rw [if_neg (fun r => by have := h.1; have := r.2; omega)]
theorem vl_v {σ : Sg} {a : Int32} (h : isV a) : vl σ a = σ (sl a) := if_pos h
theorem ag_1 {iv av : Nat → Nat → Int32} {r : Nat} {σ : Sg} {a : Int32} {q : Nat} (ha : isNm a ∨ isV a) (hV : VA av r σ) (h : ¬ a < 0) (e : a = nI q) : agP iv av r σ a q 1 iv av :=
  ⟨rfl, fun _ _ => rfl, Or.inr ⟨σ, rfl, by rw [agr_n (ag_n ha h), vl_n (ag_n ha h), if_pos e], hV⟩⟩
theorem ag_0 {iv av : Nat → Nat → Int32} {r : Nat} {σ : Sg} {a : Int32} {q : Nat} (ha : isNm a ∨ isV a) (h : ¬ a < 0) (e : ¬ a = nI q) : agP iv av r σ a q 0 iv av :=
  ⟨rfl, fun _ _ => rfl, Or.inl ⟨rfl, by rw [agr_n (ag_n ha h), vl_n (ag_n ha h), if_neg e]⟩⟩
theorem ag_set {iv av : Nat → Nat → Int32} {r : Nat} {σ : Sg} {a : Int32} {q : Nat} (hv : isV a) (hV : VA av r σ) (h : σ (sl a) = -1) : agP iv av r σ a q 1 iv (u1 av (22 + r) (upd (av (22 + r)) (Int32.toNatClampNeg (nI (sl a))) (nI q))) := by
  have hs := (sl_s hv).1
  rw [nI_clamp (by omega)]
  refine ⟨rfl, fun k hk => u1_k _ _ hk, Or.inr ⟨upd σ (sl a) (nI q), rfl, by rw [agr_v hv, vl_v hv, if_pos h], fun k hk => ?_⟩⟩
  rw [u1_s]
  unfold upd
  split
  · rfl
  · exact hV k hk
theorem ag_eq {iv av : Nat → Nat → Int32} {r : Nat} {σ : Sg} {a : Int32} {q : Nat} (hv : isV a) (hV : VA av r σ) (h : ¬ σ (sl a) = -1) (e : σ (sl a) = nI q) : agP iv av r σ a q 1 iv av :=
  ⟨rfl, fun _ _ => rfl, Or.inr ⟨σ, rfl, by rw [agr_v hv, vl_v hv, if_neg h, if_pos e], hV⟩⟩
theorem ag_ne {iv av : Nat → Nat → Int32} {r : Nat} {σ : Sg} {a : Int32} {q : Nat} (hv : isV a) (h : ¬ σ (sl a) = -1) (e : ¬ σ (sl a) = nI q) : agP iv av r σ a q 0 iv av :=
  ⟨rfl, fun _ _ => rfl, Or.inl ⟨rfl, by rw [agr_v hv, vl_v hv, if_neg h, if_neg e]⟩⟩
theorem ag_no {iv av iv' av' : Nat → Nat → Int32} {r : Nat} {σ : Sg} {a : Int32} {q : Nat} {w : Int32} (h : agP iv av r σ a q w iv' av') (hw : w = 0) : agr σ a (nI q) = none := by
  rcases h.2.2 with q | ⟨σ', q, _⟩
  · exact q.2
  · rw [hw] at q; exact absurd q (by decide)
theorem ag_ok {iv av iv' av' : Nat → Nat → Int32} {r : Nat} {σ : Sg} {a : Int32} {q : Nat} {w : Int32} (h : agP iv av r σ a q w iv' av') (hw : ¬ w = 0) : ∃ σ', agr σ a (nI q) = some σ' ∧ VA av' r σ' := by
  rcases h.2.2 with q | ⟨σ', _, q⟩
  · exact absurd q.1 hw
  · exact ⟨σ', q⟩
def fcP (iv av : Nat → Nat → Int32) (r : Nat) (rw' : Rw) (σ : Sg) (c : Nat) (w : Int32) (iv' av' : Nat → Nat → Int32) : Prop := iv' = iv ∧ (∀ k, k ≠ 22 + (r + 1) → av' k = av k) ∧ ((w = 0 ∧ mtc rw' σ c = none) ∨ ∃ σ', w = 1 ∧ mtc rw' σ c = some σ' ∧ VA av' (r + 1) σ')
theorem VA_cpy {av : Nat → Nat → Int32} {r : Nat} {σ : Sg} (h : VA av r σ) : VA (u1 av (22 + (r + 1)) (va_cpy (av (22 + r)) (av (22 + (r + 1))) (Int32.toNatClampNeg 0) (Int32.toNatClampNeg 0) (Int32.toNatClampNeg 4))) (r + 1) σ := by
  intro k hk
  rw [u1_s]
  unfold va_cpy
  rw [show Int32.toNatClampNeg 0 = 0 by decide, show Int32.toNatClampNeg 4 = 4 by decide, if_pos (by omega), Nat.sub_zero, Nat.zero_add]
  exact h k hk
def kpA (r : Nat) (iv av iv' av' : Nat → Nat → Int32) : Prop := iv' = iv ∧ ∀ k, k ≠ 22 + r → av' k = av k
theorem kpA_f {r : Nat} {iv av iv1 av1 iv2 av2 : Nat → Nat → Int32} {σ : Sg} {a w : Int32} {q : Nat} (h : kpA r iv av iv1 av1) (h2 : agP iv1 av1 r σ a q w iv2 av2) : kpA r iv av iv2 av2 := ⟨h2.1.trans h.1, fun k hk => (h2.2.1 k hk).trans (h.2 k hk)⟩
/-- rows of a pattern in cells -/
def PRc (iv av : Nat → Nat → Int32) (i : Nat) (ps : List Rw) : Prop := iv (61 + 6 * i + 4) 2 = nI ps.length ∧ ps.length ≤ 4 ∧ (∀ t ∈ ps, okR t) ∧ ∀ j t, ps[j]? = some t → av (61 + 6 * i + 4 + 1) (3 * j) = t.1 ∧ av (61 + 6 * i + 4 + 1) (3 * j + 1) = t.2.1 ∧ av (61 + 6 * i + 4 + 1) (3 * j + 2) = t.2.2
end
section
set_option maxHeartbeats 2000000 in
set_option maxRecDepth 10000 in
theorem hX4_agrees {l : Launch} {D : va_G} {aC : Nat → ClassId} {b0 sz : Nat} {x : Nat} {iv av : Nat → Nat → Int32} {R : ZM} {r9 q9 : Nat} {a_ : Int32} {σ : Sg} (hr5 : r9 < 5) (ha : isNm a_ ∨ isV a_) (hV : VA av r9 σ) : Ct l D aC b0 yX4_agrees cX4_agrees 4 (some .boolean) 0 0 0 [.ref (x + (22 + r9)), .int (a_), .int (nI q9)] (cm aC x iv av R) sz (zpI (fun iv av => cm aC x iv av R) (agP iv av r9 σ a_ q9)) := by
  refine Ct.of (by decide) (Nat.le_of_ble_eq_true rfl) ?_
  intro p e s m below meth c ls C hr hlk hnm hl
  have hl : lv_has ls 4 [(0, .ref (x + (22 + r9))), (1, .int (a_)), (2, .int (nI q9))] := hl
  obtain ⟨hx, hb, -, -, -⟩ := id C
  refine zz (fun _ _ => lv_iload_n hx hb dX4_agrees_0 rfl (lv_at hl 1 rfl)) ?_
  refine zb (fun _ _ => lv_if_lt (tgt := 15) hx hb dX4_agrees_1 (by decide)) (fun c_1 => ?_) (fun c_1 => ?_)
  · have hv9 := ag_v ha c_1
    have hs9 := (sl_s hv9).1
    refine zz (fun _ _ => lv_iconst (v := (-1)) hx hb dX4_agrees_15 (by decide)) ?_
    refine zz (fun _ _ => lv_iload_n hx hb dX4_agrees_16 rfl (lv_at hl 1 rfl)) ?_
    refine zz (fun _ _ => lv_isub hx hb dX4_agrees_17) ?_
    refine zval (v' := .int (nI (sl a_))) (congrArg Value.int (sl_s hv9).2) ?_
    refine zs (fun _ _ => lv_istore_n (lv' := [(3, .int (nI (sl a_))), (0, .ref (x + (22 + r9))), (1, .int (a_)), (2, .int (nI q9))]) hx hb dX4_agrees_18 rfl hl (by decide) rfl) (fun ls hl => ?_)
    refine zz (fun _ _ => lv_aload_n hx hb dX4_agrees_19 rfl (lv_at hl 1 rfl)) ?_
    refine zz (fun _ _ => lv_iload_n hx hb dX4_agrees_20 rfl (lv_at hl 0 rfl)) ?_
    refine z_iald (f := av (22 + r9)) C (rd_11 (kp_10 hr5)) (by first | assumption | (apply vp_in_nI <;> omega)) dX4_agrees_21 ?_
    refine zval (v' := .int (σ (sl a_))) (congrArg Value.int (rdI (hV _ (sl_s hv9).1) (by omega))) ?_
    refine zz (fun _ _ => lv_iconst (v := (-1)) hx hb dX4_agrees_22 (by decide)) ?_
    refine zbn (fun _ _ => lv_icmp_ne (tgt := 30) hx hb dX4_agrees_23 (by decide)) (fun c_2 => ?_) (fun c_2 => ?_)
    · refine zz (fun _ _ => lv_aload_n hx hb dX4_agrees_30 rfl (lv_at hl 1 rfl)) ?_
      refine zz (fun _ _ => lv_iload_n hx hb dX4_agrees_31 rfl (lv_at hl 0 rfl)) ?_
      refine z_iald (f := av (22 + r9)) C (rd_11 (kp_10 hr5)) (by first | assumption | (apply vp_in_nI <;> omega)) dX4_agrees_32 ?_
      refine zval (v' := .int (σ (sl a_))) (congrArg Value.int (rdI (hV _ (sl_s hv9).1) (by omega))) ?_
      refine zz (fun _ _ => lv_iload_n hx hb dX4_agrees_33 rfl (lv_at hl 3 rfl)) ?_
      refine zbn (fun _ _ => lv_icmp_ne (tgt := 41) hx hb dX4_agrees_34 (by decide)) (fun c_3 => ?_) (fun c_3 => ?_)
      · refine zz (fun _ _ => lv_iconst (v := 0) hx hb dX4_agrees_41 (by decide)) ?_
        exact z_zret C hr rfl hlk dX4_agrees_42 (zpI_mk (a := iv) (b := av) (ag_ne hv9 c_2 c_3))
      · refine zz (fun _ _ => lv_iconst (v := 1) hx hb dX4_agrees_37 (by decide)) ?_
        refine zz (fun _ _ => lv_goto (tgt := 42) hx hb dX4_agrees_38 (by decide)) ?_
        exact z_zret C hr rfl hlk dX4_agrees_42 (zpI_mk (a := iv) (b := av) (ag_eq hv9 hV c_2 c_3))
    · refine zz (fun _ _ => lv_aload_n hx hb dX4_agrees_26 rfl (lv_at hl 1 rfl)) ?_
      refine zz (fun _ _ => lv_iload_n hx hb dX4_agrees_27 rfl (lv_at hl 0 rfl)) ?_
      refine zz (fun _ _ => lv_iload_n hx hb dX4_agrees_28 rfl (lv_at hl 3 rfl)) ?_
      refine z_iast (f := av (22 + r9)) C (rd_11 (kp_10 hr5)) (by first | assumption | (apply vp_in_nI <;> omega)) dX4_agrees_29 ?_
      refine zeq (wr_11 (kp_10 hr5)) ?_
      refine zz (fun _ _ => lv_aload_n hx hb dX4_agrees_30 rfl (lv_at hl 1 rfl)) ?_
      refine zz (fun _ _ => lv_iload_n hx hb dX4_agrees_31 rfl (lv_at hl 0 rfl)) ?_
      refine z_iald (n := 4) (f := (upd (av (22 + r9)) (Int32.toNatClampNeg (nI (sl a_))) (nI q9))) C ((rd_11 (kp_10 hr5)).trans (by simp [u1])) (by first | assumption | (apply vp_in_nI <;> omega)) dX4_agrees_32 ?_
      refine zval (v' := .int (nI q9)) (congrArg Value.int (by simp [upd])) ?_
      refine zz (fun _ _ => lv_iload_n hx hb dX4_agrees_33 rfl (lv_at hl 3 rfl)) ?_
      refine zbn (fun _ _ => lv_icmp_ne (tgt := 41) hx hb dX4_agrees_34 (by decide)) (fun c_4 => ?_) (fun c_4 => ?_)
      · refine zz (fun _ _ => lv_iconst (v := 0) hx hb dX4_agrees_41 (by decide)) ?_
        exact z_zret C hr rfl hlk dX4_agrees_42 (zpI_mk (a := iv) (b := (u1 av (22 + r9) (upd (av (22 + r9)) (Int32.toNatClampNeg (nI (sl a_))) (nI q9)))) (absurd rfl c_4))
      · refine zz (fun _ _ => lv_iconst (v := 1) hx hb dX4_agrees_37 (by decide)) ?_
        refine zz (fun _ _ => lv_goto (tgt := 42) hx hb dX4_agrees_38 (by decide)) ?_
        exact z_zret C hr rfl hlk dX4_agrees_42 (zpI_mk (a := iv) (b := (u1 av (22 + r9) (upd (av (22 + r9)) (Int32.toNatClampNeg (nI (sl a_))) (nI q9)))) (ag_set hv9 hV c_2))
  · refine zz (fun _ _ => lv_iload_n hx hb dX4_agrees_4 rfl (lv_at hl 1 rfl)) ?_
    refine zz (fun _ _ => lv_iload_n hx hb dX4_agrees_5 rfl (lv_at hl 2 rfl)) ?_
    refine zbn (fun _ _ => lv_icmp_ne (tgt := 13) hx hb dX4_agrees_6 (by decide)) (fun c_5 => ?_) (fun c_5 => ?_)
    · refine zz (fun _ _ => lv_iconst (v := 0) hx hb dX4_agrees_13 (by decide)) ?_
      exact z_zret C hr rfl hlk dX4_agrees_14 (zpI_mk (a := iv) (b := av) (ag_0 ha c_1 c_5))
    · refine zz (fun _ _ => lv_iconst (v := 1) hx hb dX4_agrees_9 (by decide)) ?_
      refine zz (fun _ _ => lv_goto (tgt := 14) hx hb dX4_agrees_10 (by decide)) ?_
      exact z_zret C hr rfl hlk dX4_agrees_14 (zpI_mk (a := iv) (b := av) (ag_1 ha hV c_1 c_5))
set_option maxHeartbeats 2000000 in
set_option maxRecDepth 10000 in
theorem hX4_fits {l : Launch} {D : va_G} {aC : Nat → ClassId} {b0 sz : Nat} {x : Nat} {iv av : Nat → Nat → Int32} {R : ZM} {i r9 c9 : Nat} {ps : List Rw} {rw9 : Rw} {σ : Sg} (hi : i < 12) (hP : PRc iv av i ps) (erw : ps[r9]? = some rw9) (hc : okc c9) (hV : VA av r9 σ) : Ct l D aC b0 yX4_fits cX4_fits 5 (some .boolean) 1 0 0 [.ref (x + 20), .ref (x + ((61 + 6 * i) + 4)), .int (nI r9), .int (nI c9)] (cm aC x iv av R) sz (zpI (fun iv av => cm aC x iv av R) (fcP iv av r9 rw9 σ c9)) := by
  refine Ct.of (by decide) (Nat.le_of_ble_eq_true rfl) ?_
  intro p e s m below meth c ls C hr hlk hnm hl
  have hl : lv_has ls 5 [(0, .ref (x + 20)), (1, .ref (x + ((61 + 6 * i) + 4))), (2, .int (nI r9)), (3, .int (nI c9))] := hl
  obtain ⟨hx, hb, -, -, -⟩ := id C
  have hr9 := (List.getElem?_eq_some_iff.mp erw).1
  have hp4 := hP.2.1
  have hokr := hP.2.2.1 _ (List.mem_of_getElem? erw)
  refine zz (fun _ _ => lv_aload_n hx hb dX4_fits_0 rfl (lv_at hl 0 rfl)) ?_
  refine z_get (v := .ref (x + 21)) C fd_X4_11 (rd_9 (by decide)) rfl dX4_fits_1 ?_
  refine zz (fun _ _ => lv_iload_n hx hb dX4_fits_4 rfl (lv_at hl 2 rfl)) ?_
  refine zz (fun _ _ => lv_iconst (v := 1) hx hb dX4_fits_5 (by decide)) ?_
  refine zz (fun _ _ => lv_iadd hx hb dX4_fits_6) ?_
  refine zval (v' := .int (nI (r9 + 1))) (congrArg Value.int (nI_1 _)) ?_
  refine z_aaldA C (rd_10 (by decide)) (by first | assumption | (apply vp_in_nI <;> omega)) (v := .ref (x + (22 + (r9 + 1)))) (rf_if (f := fun q => x + (22 + q)) (n := 5) rfl (show r9 + 1 < 5 by omega) (by decide)) dX4_fits_7 ?_
  refine zs (fun _ _ => lv_astore (lv' := [(4, .ref (x + (22 + (r9 + 1)))), (0, .ref (x + 20)), (1, .ref (x + ((61 + 6 * i) + 4))), (2, .int (nI r9)), (3, .int (nI c9))]) hx hb dX4_fits_8 hl (by decide) rfl) (fun ls hl => ?_)
  refine zz (fun _ _ => lv_aload_n hx hb dX4_fits_10 rfl (lv_at hl 1 rfl)) ?_
  refine z_get (v := .ref (x + 21)) C fd_X4_11 (rd_9 (by decide)) rfl dX4_fits_11 ?_
  refine zz (fun _ _ => lv_iload_n hx hb dX4_fits_14 rfl (lv_at hl 3 rfl)) ?_
  refine z_aaldA C (rd_10 (by decide)) (by first | assumption | (apply vp_in_nI <;> omega)) (v := .ref (x + (22 + r9))) (rf_if (f := fun q => x + (22 + q)) (n := 5) rfl (show r9 < 5 by omega) (by decide)) dX4_fits_15 ?_
  refine zz (fun _ _ => lv_iconst (v := 0) hx hb dX4_fits_16 (by decide)) ?_
  refine zz (fun _ _ => lv_aload hx hb dX4_fits_17 (lv_at hl 0 rfl)) ?_
  refine zz (fun _ _ => lv_iconst (v := 0) hx hb dX4_fits_19 (by decide)) ?_
  refine zz (fun _ _ => lv_iconst (v := 4) hx hb dX4_fits_20 (by decide)) ?_
  refine z_copy C hl.1 ac_X4_62 (rd_11 (kp_10 (show r9 < 5 by omega))) (rd_11 (kp_10 (show r9 + 1 < 5 by omega))) (by decide) (by decide) (by decide) (by decide) (by decide) (by decide) (by decide) dX4_fits_21 (fun sz => ?_)
  refine zeq (wr_11 (kp_10 (show r9 + 1 < 5 by omega))) ?_
  have hkp9 : kpA (r9 + 1) iv av iv (u1 av (22 + (r9 + 1)) (va_cpy (av (22 + r9)) (av (22 + (r9 + 1))) (Int32.toNatClampNeg (0)) (Int32.toNatClampNeg (0)) (Int32.toNatClampNeg (4)))) := ⟨rfl, fun k hk => u1_k _ _ hk⟩
  have hV9 := VA_cpy hV
  refine zz (fun _ _ => lv_aload hx hb dX4_fits_24 (lv_at hl 0 rfl)) ?_
  refine zz (fun _ _ => lv_aload_n hx hb dX4_fits_26 rfl (lv_at hl 2 rfl)) ?_
  refine zz (fun _ _ => lv_iload_n hx hb dX4_fits_27 rfl (lv_at hl 3 rfl)) ?_
  refine zdV (As := [.int (nI r9)]) (rest := [.ref (x + (22 + (r9 + 1)))]) (st' := [.int ((fX3_subject (u1 av (22 + (r9 + 1)) (va_cpy (av (22 + r9)) (av (22 + (r9 + 1))) (Int32.toNatClampNeg (0)) (Int32.toNatClampNeg (0)) (Int32.toNatClampNeg (4)))) ((61 + 6 * i) + 4) (nI r9))), .ref (x + (22 + (r9 + 1)))]) C hl.1 lk_X4_68 (ctX3_subject (j_0 := 0) (nb_18_4 (ck_s hi)) rfl (by rw [tl_p hi]; omega)) (rd_14 (nb_18_4 (ck_s hi))) rfl rfl rfl (Nat.le_of_ble_eq_true rfl) ⟨by decide, by decide, by decide, by decide⟩ dX4_fits_28 rfl (fun sz => ?_)
  refine zval (v' := .int (rw9.1)) (congrArg Value.int ((row_s (by omega)).1.trans ((congrFun (hkp9.2 _ (by omega)) _).trans (hP.2.2.2 r9 rw9 erw).1))) ?_
  refine zz (fun _ _ => lv_iload_n hx hb dX4_fits_31 rfl (lv_at hl 4 rfl)) ?_
  refine zz (fun _ _ => lv_iconst (v := 0) hx hb dX4_fits_32 (by decide)) ?_
  refine zval (v' := .int (nI 0)) (congrArg Value.int rfl) ?_
  refine zdS (As := [.int (nI c9), .int (nI 0)]) (rest := [.int (rw9.1), .ref (x + (22 + (r9 + 1)))]) (st' := [.int ((fX8_partOf (nI c9) (nI 0))), .int (rw9.1), .ref (x + (22 + (r9 + 1)))]) C hl.1 lk_X4_72 (ctX8_partOf ) rfl rfl (Nat.le_of_ble_eq_true rfl) ⟨by decide, by decide, by decide, by decide⟩ dX4_fits_33 rfl (fun sz => ?_)
  refine zval (v' := .int (nI (pt c9 0))) (congrArg Value.int (partOf_s hc (by decide))) ?_
  refine zqSI (As := [.ref (x + (22 + (r9 + 1))), .int (rw9.1), .int (nI (pt c9 0))]) (rest := []) C hl.1 lk_X4_76 (hX4_agrees (by omega) hokr.1 hV9) rfl rfl (Nat.le_of_ble_eq_true rfl) ⟨by decide, by decide, by decide, by decide⟩ dX4_fits_36 (fun w1 iv1 av1 sz h1 => ?_)
  refine zeq (M' := (cm aC x iv1 av1 R)) rfl ?_
  refine zb (fun _ _ => lv_if_eq (tgt := 82) hx hb dX4_fits_39 (by decide)) (fun c_2 => ?_) (fun c_2 => ?_)
  · refine zz (fun _ _ => lv_iconst (v := 0) hx hb dX4_fits_82 (by decide)) ?_
    exact z_zret C hr rfl hlk dX4_fits_83 (zpI_mk (a := iv1) (b := av1) ⟨(kpA_f hkp9 h1).1, (kpA_f hkp9 h1).2, Or.inl ⟨rfl, mtc_1 (ag_no h1 c_2)⟩⟩)
  · obtain ⟨sx2, ex2, hx2⟩ := ag_ok h1 c_2
    refine zz (fun _ _ => lv_aload hx hb dX4_fits_42 (lv_at hl 0 rfl)) ?_
    refine zz (fun _ _ => lv_aload_n hx hb dX4_fits_44 rfl (lv_at hl 2 rfl)) ?_
    refine zz (fun _ _ => lv_iload_n hx hb dX4_fits_45 rfl (lv_at hl 3 rfl)) ?_
    refine zdV (As := [.int (nI r9)]) (rest := [.ref (x + (22 + (r9 + 1)))]) (st' := [.int ((fX3_property av1 ((61 + 6 * i) + 4) (nI r9))), .ref (x + (22 + (r9 + 1)))]) C hl.1 lk_X4_80 (ctX3_property (j_0 := 0) (nb_18_4 (ck_s hi)) rfl (by rw [tl_p hi]; omega)) (rd_14 (nb_18_4 (ck_s hi))) rfl rfl rfl (Nat.le_of_ble_eq_true rfl) ⟨by decide, by decide, by decide, by decide⟩ dX4_fits_46 rfl (fun sz => ?_)
    refine zval (v' := .int (rw9.2.1)) (congrArg Value.int ((row_s (by omega)).2.1.trans ((congrFun ((kpA_f hkp9 h1).2 _ (by omega)) _).trans (hP.2.2.2 r9 rw9 erw).2.1))) ?_
    refine zz (fun _ _ => lv_iload_n hx hb dX4_fits_49 rfl (lv_at hl 4 rfl)) ?_
    refine zz (fun _ _ => lv_iconst (v := 1) hx hb dX4_fits_50 (by decide)) ?_
    refine zval (v' := .int (nI 1)) (congrArg Value.int rfl) ?_
    refine zdS (As := [.int (nI c9), .int (nI 1)]) (rest := [.int (rw9.2.1), .ref (x + (22 + (r9 + 1)))]) (st' := [.int ((fX8_partOf (nI c9) (nI 1))), .int (rw9.2.1), .ref (x + (22 + (r9 + 1)))]) C hl.1 lk_X4_72 (ctX8_partOf ) rfl rfl (Nat.le_of_ble_eq_true rfl) ⟨by decide, by decide, by decide, by decide⟩ dX4_fits_51 rfl (fun sz => ?_)
    refine zval (v' := .int (nI (pt c9 1))) (congrArg Value.int (partOf_s hc (by decide))) ?_
    refine zqSI (As := [.ref (x + (22 + (r9 + 1))), .int (rw9.2.1), .int (nI (pt c9 1))]) (rest := []) C hl.1 lk_X4_76 (hX4_agrees (by omega) hokr.2.1 hx2) rfl rfl (Nat.le_of_ble_eq_true rfl) ⟨by decide, by decide, by decide, by decide⟩ dX4_fits_54 (fun w3 iv3 av3 sz h3 => ?_)
    refine zeq (M' := (cm aC x iv3 av3 R)) rfl ?_
    refine zb (fun _ _ => lv_if_eq (tgt := 82) hx hb dX4_fits_57 (by decide)) (fun c_4 => ?_) (fun c_4 => ?_)
    · refine zz (fun _ _ => lv_iconst (v := 0) hx hb dX4_fits_82 (by decide)) ?_
      exact z_zret C hr rfl hlk dX4_fits_83 (zpI_mk (a := iv3) (b := av3) ⟨(kpA_f (kpA_f hkp9 h1) h3).1, (kpA_f (kpA_f hkp9 h1) h3).2, Or.inl ⟨rfl, mtc_2 ex2 (ag_no h3 c_4)⟩⟩)
    · obtain ⟨sx3, ex3, hx3⟩ := ag_ok h3 c_4
      refine zz (fun _ _ => lv_aload hx hb dX4_fits_60 (lv_at hl 0 rfl)) ?_
      refine zz (fun _ _ => lv_aload_n hx hb dX4_fits_62 rfl (lv_at hl 2 rfl)) ?_
      refine zz (fun _ _ => lv_iload_n hx hb dX4_fits_63 rfl (lv_at hl 3 rfl)) ?_
      refine zdV (As := [.int (nI r9)]) (rest := [.ref (x + (22 + (r9 + 1)))]) (st' := [.int ((fX3_object av3 ((61 + 6 * i) + 4) (nI r9))), .ref (x + (22 + (r9 + 1)))]) C hl.1 lk_X4_83 (ctX3_object (j_0 := 0) (nb_18_4 (ck_s hi)) rfl (by rw [tl_p hi]; omega)) (rd_14 (nb_18_4 (ck_s hi))) rfl rfl rfl (Nat.le_of_ble_eq_true rfl) ⟨by decide, by decide, by decide, by decide⟩ dX4_fits_64 rfl (fun sz => ?_)
      refine zval (v' := .int (rw9.2.2)) (congrArg Value.int ((row_s (by omega)).2.2.trans ((congrFun ((kpA_f (kpA_f hkp9 h1) h3).2 _ (by omega)) _).trans (hP.2.2.2 r9 rw9 erw).2.2))) ?_
      refine zz (fun _ _ => lv_iload_n hx hb dX4_fits_67 rfl (lv_at hl 4 rfl)) ?_
      refine zz (fun _ _ => lv_iconst (v := 2) hx hb dX4_fits_68 (by decide)) ?_
      refine zval (v' := .int (nI 2)) (congrArg Value.int rfl) ?_
      refine zdS (As := [.int (nI c9), .int (nI 2)]) (rest := [.int (rw9.2.2), .ref (x + (22 + (r9 + 1)))]) (st' := [.int ((fX8_partOf (nI c9) (nI 2))), .int (rw9.2.2), .ref (x + (22 + (r9 + 1)))]) C hl.1 lk_X4_72 (ctX8_partOf ) rfl rfl (Nat.le_of_ble_eq_true rfl) ⟨by decide, by decide, by decide, by decide⟩ dX4_fits_69 rfl (fun sz => ?_)
      refine zval (v' := .int (nI (pt c9 2))) (congrArg Value.int (partOf_s hc (by decide))) ?_
      refine zqSI (As := [.ref (x + (22 + (r9 + 1))), .int (rw9.2.2), .int (nI (pt c9 2))]) (rest := []) C hl.1 lk_X4_76 (hX4_agrees (by omega) hokr.2.2 hx3) rfl rfl (Nat.le_of_ble_eq_true rfl) ⟨by decide, by decide, by decide, by decide⟩ dX4_fits_72 (fun w5 iv5 av5 sz h5 => ?_)
      refine zeq (M' := (cm aC x iv5 av5 R)) rfl ?_
      refine zb (fun _ _ => lv_if_eq (tgt := 82) hx hb dX4_fits_75 (by decide)) (fun c_6 => ?_) (fun c_6 => ?_)
      · refine zz (fun _ _ => lv_iconst (v := 0) hx hb dX4_fits_82 (by decide)) ?_
        exact z_zret C hr rfl hlk dX4_fits_83 (zpI_mk (a := iv5) (b := av5) ⟨(kpA_f (kpA_f (kpA_f hkp9 h1) h3) h5).1, (kpA_f (kpA_f (kpA_f hkp9 h1) h3) h5).2, Or.inl ⟨rfl, (mtc_3 ex2 ex3).trans (ag_no h5 c_6)⟩⟩)
      · refine zz (fun _ _ => lv_iconst (v := 1) hx hb dX4_fits_78 (by decide)) ?_
        refine zz (fun _ _ => lv_goto (tgt := 83) hx hb dX4_fits_79 (by decide)) ?_
        exact z_zret C hr rfl hlk dX4_fits_83 (zpI_mk (a := iv5) (b := av5) (by obtain ⟨sx4, ex4, hx4⟩ := ag_ok h5 c_6; exact ⟨(kpA_f (kpA_f (kpA_f hkp9 h1) h3) h5).1, (kpA_f (kpA_f (kpA_f hkp9 h1) h3) h5).2, Or.inr ⟨sx4, rfl, (mtc_3 ex2 ex3).trans ex4, hx4⟩⟩))
end
section
/-! The search by depth, as the cells hold it. -/
def SE (iv av : Nat → Nat → Int32) (acc : List Sg) (w : Nat) : Prop := iv 20 2 = nI acc.length ∧ acc.length ≤ 100 ∧ iv 20 3 = nI w ∧ w ≤ 5000 ∧ ∀ u σ', acc[u]? = some σ' → ∀ k, k < 4 → av 27 (4 * u + k) = σ' k
def FQc (row : Nat) (iv av iv' av' : Nat → Nat → Int32) : Prop := (∀ k f, k ≠ 20 → iv' k f = iv k f) ∧ ∀ k, k ≤ 22 + row ∨ 27 < k → av' k = av k
theorem FQc.refl {row : Nat} {iv av : Nat → Nat → Int32} : FQc row iv av iv av := ⟨fun _ _ _ => rfl, fun _ _ => rfl⟩
theorem FQc.trans {row : Nat} {iv av iv1 av1 iv2 av2 : Nat → Nat → Int32} (h : FQc row iv av iv1 av1) (h2 : FQc row iv1 av1 iv2 av2) : FQc row iv av iv2 av2 := ⟨fun k f a => (h2.1 k f a).trans (h.1 k f a), fun k a => (h2.2 k a).trans (h.2 k a)⟩
theorem FQc.up {row : Nat} {iv av iv1 av1 : Nat → Nat → Int32} (h : FQc (row + 1) iv av iv1 av1) : FQc row iv av iv1 av1 := ⟨h.1, fun k a => h.2 k (by omega)⟩
theorem FQc.G {row : Nat} {iv av iv1 av1 : Nat → Nat → Int32} {g : Nat} {p : Nat → Bool} {t : Bool} (h : FQc row iv av iv1 av1) (hg : g < 7) (hG : GC iv av (4 + 1 + 2 * g) p t) : GC iv1 av1 (4 + 1 + 2 * g) p t := hG.kept (h.1 _ _ (by omega)) (h.1 _ _ (by omega)) (h.2 _ (by omega))
theorem FQc.P {row : Nat} {iv av iv1 av1 : Nat → Nat → Int32} {i : Nat} {ps : List Rw} (h : FQc row iv av iv1 av1) (hP : PRc iv av i ps) : PRc iv1 av1 i ps := by
  unfold PRc at hP ⊢
  rw [h.1 (61 + 6 * i + 4) 2 (by omega), h.2 (61 + 6 * i + 4 + 1) (by omega)]
  exact hP
theorem FQc.V {row : Nat} {iv av iv1 av1 : Nat → Nat → Int32} {σ : Sg} (h : FQc row iv av iv1 av1) (hV : VA av row σ) : VA av1 row σ := fun k hk => by rw [h.2 (22 + row) (by omega)]; exact hV k hk
def goP (iv av : Nat → Nat → Int32) (row : Nat) (acc : List Sg) (w : Nat) (ss : List Sg) (n : Nat) (res : Int32) (iv' av' : Nat → Nat → Int32) : Prop :=
  FQc row iv av iv' av' ∧ ((res = 1 ∧ SE iv' av' (acc ++ ss) (w + n)) ∨ (res = 0 ∧ ¬ lim (acc.length + ss.length) (w + n)))
theorem goP_b {iv av iv' av' : Nat → Nat → Int32} {row w n : Nat} {acc ss : List Sg} {res : Int32} (h : goP iv av row acc w ss n res iv' av') : res = 0 ∨ res = 1 := by
  rcases h.2 with q | q
  · exact Or.inr q.1
  · exact Or.inl q.1
theorem ke_no {iv av : Nat → Nat → Int32} {row w : Nat} {acc : List Sg} {σ : Sg} {z : Int32} (hS : SE iv av acc w) (h : ¬ nI (acc.length + 1) ≤ nI 100) : goP iv av row acc w [σ] 0 0 (u2 iv 20 2 z) av := by
  have h1 := hS.2.1
  rw [nI_leI (by omega) (by decide)] at h
  exact ⟨⟨fun k f hk => u2_k _ _ _ _ hk, fun _ _ => rfl⟩, Or.inr ⟨rfl, fun q => h q.1⟩⟩
theorem ke_ok {iv av : Nat → Nat → Int32} {row w : Nat} {acc : List Sg} {σ : Sg} (hr : row < 5) (hS : SE iv av acc w) (hV : VA av row σ) (h : nI (acc.length + 1) ≤ nI 100) : goP iv av row acc w [σ] 0 1 (u2 iv 20 2 (nI (acc.length + 1))) (u1 av 27 (va_cpy (av (22 + row)) (av 27) (Int32.toNatClampNeg 0) (Int32.toNatClampNeg (nI (acc.length * 4))) (Int32.toNatClampNeg 4))) := by
  have h1 := hS.2.1
  rw [nI_leI (by omega) (by decide)] at h
  rw [show Int32.toNatClampNeg 0 = 0 by decide, show Int32.toNatClampNeg 4 = 4 by decide, nI_clamp (by omega)]
  refine ⟨⟨fun k f hk => u2_k _ _ _ _ hk, fun k hk => u1_k _ _ (by omega)⟩, Or.inl ⟨rfl, ?_⟩⟩
  refine ⟨by rw [u2_s, List.length_append]; rfl, by rw [List.length_append]; exact h, by rw [u2_f _ _ _ (by decide)]; exact hS.2.2.1, hS.2.2.2.1, fun u σ' hu k hk => ?_⟩
  rw [u1_s]
  unfold va_cpy
  rw [List.getElem?_append] at hu
  split at hu
  · rename_i hlt
    rw [if_neg (by omega)]
    exact hS.2.2.2.2 u σ' hu k hk
  · have hlt := (List.getElem?_eq_some_iff.mp hu).1
    have e : u = acc.length := by simp at hlt; omega
    subst e
    simp at hu
    subst hu
    rw [if_pos (by omega), Nat.zero_add, show 4 * acc.length + k - acc.length * 4 = k by omega]
    exact hV k hk
theorem SE_w {iv av : Nat → Nat → Int32} {acc : List Sg} {w : Nat} (hS : SE iv av acc w) (h : nI (w + 1) ≤ nI 5000) : SE (u2 iv 20 3 (nI (w + 1))) av acc (w + 1) := by
  have h1 := hS.2.2.2.1
  rw [nI_leI (by omega) (by decide)] at h
  exact ⟨by rw [u2_f _ _ _ (by decide)]; exact hS.1, hS.2.1, u2_s _ _ _ _, h, hS.2.2.2.2⟩
theorem FQc_w {row : Nat} {iv av : Nat → Nat → Int32} {z : Int32} : FQc row iv av (u2 iv 20 3 z) av := ⟨fun k f hk => u2_k _ _ _ _ hk, fun _ _ => rfl⟩
theorem SE_av {iv av av' : Nat → Nat → Int32} {acc : List Sg} {w : Nat} (hS : SE iv av acc w) (h : av' 27 = av 27) : SE iv av' acc w := ⟨hS.1, hS.2.1, hS.2.2.1, hS.2.2.2.1, by rw [h]; exact hS.2.2.2.2⟩
theorem ho_5 {iv av : Nat → Nat → Int32} {row w : Nat} {acc : List Sg} {fs : List Nat} {rw' : Rw} {rs : List Rw} {σ : Sg} {c : Nat} {z : Int32} (hS : SE iv av acc w) (h : ¬ nI (w + 1) ≤ nI 5000) : goP iv av row acc w (solP fs rw' rs σ [c]) (wkP fs rw' rs σ [c]) 0 (u2 iv 20 3 z) av := by
  have h1 := hS.2.2.2.1
  rw [nI_leI (by omega) (by decide)] at h
  refine ⟨FQc_w, Or.inr ⟨rfl, fun q => ?_⟩⟩
  have h2 : 1 ≤ wkP fs rw' rs σ [c] := by unfold wkP; simp
  have := q.2
  omega
theorem fc_FQ {iv av iv' av' : Nat → Nat → Int32} {r : Nat} {rw' : Rw} {σ : Sg} {c : Nat} {w : Int32} (hr : r < 4) (h : fcP iv av r rw' σ c w iv' av') : FQc r iv av iv' av' ∧ av' 27 = av 27 := by
  obtain ⟨rfl, h2, _⟩ := h
  exact ⟨⟨fun _ _ _ => rfl, fun k hk => h2 k (by omega)⟩, h2 27 (by omega)⟩
theorem ho_n {iv av iv' av' : Nat → Nat → Int32} {r w : Nat} {acc : List Sg} {fs : List Nat} {rw' : Rw} {rs : List Rw} {σ : Sg} {c : Nat} {z : Int32} (hr : r < 4) (hS : SE iv av acc w) (hw : nI (w + 1) ≤ nI 5000) (h : fcP (u2 iv 20 3 (nI (w + 1))) av r rw' σ c z iv' av') (hz : z = 0) : goP iv av r acc w (solP fs rw' rs σ [c]) (wkP fs rw' rs σ [c]) 1 iv' av' := by
  have hm : mtc rw' σ c = none := by
    rcases h.2.2 with q | ⟨_, q, _⟩
    · exact q.2
    · rw [hz] at q; exact absurd q (by decide)
  have hf := fc_FQ hr h
  refine ⟨FQc_w.trans hf.1, Or.inl ⟨rfl, ?_⟩⟩
  rw [solP_one_n hm, wkP_one_n hm, List.append_nil]
  have := SE_av (SE_w hS hw) hf.2
  rw [← h.1] at this
  exact this
theorem fc_ok {iv av iv' av' : Nat → Nat → Int32} {r : Nat} {rw' : Rw} {σ : Sg} {c : Nat} {w : Int32} (h : fcP iv av r rw' σ c w iv' av') (hw : ¬ w = 0) : ∃ σ', mtc rw' σ c = some σ' ∧ VA av' (r + 1) σ' := by
  rcases h.2.2 with q | ⟨σ', _, q⟩
  · exact absurd q.1 hw
  · exact ⟨σ', q⟩
theorem ho_s {iv av iv1 av1 iv2 av2 : Nat → Nat → Int32} {r w : Nat} {acc : List Sg} {fs : List Nat} {rw' : Rw} {rs : List Rw} {σ σ' : Sg} {c : Nat} {z : Int32} (hf : FQc r iv av iv1 av1) (hm : mtc rw' σ c = some σ') (h : goP iv1 av1 (r + 1) acc (w + 1) (sols fs rs σ') (wk fs rs σ') z iv2 av2) : goP iv av r acc w (solP fs rw' rs σ [c]) (wkP fs rw' rs σ [c]) z iv2 av2 := by
  rw [solP_one_s hm, wkP_one_s hm]
  refine ⟨hf.trans h.1.up, ?_⟩
  rcases h.2 with q | q
  · exact Or.inl ⟨q.1, by rw [← Nat.add_assoc]; exact q.2⟩
  · exact Or.inr ⟨q.1, by rw [← Nat.add_assoc]; exact q.2⟩
/-- the facts held against a row so far -/
def goI (iv av : Nat → Nat → Int32) (row : Nat) (acc : List Sg) (w : Nat) (fs : List Nat) (r : Rw) (rs : List Rw) (σ : Sg) (j : Nat) (res : Int32) (iv' av' : Nat → Nat → Int32) : Prop := goP iv av row acc w (solP fs r rs σ (fs.take j)) (wkP fs r rs σ (fs.take j)) res iv' av'
theorem goI_0 {iv av : Nat → Nat → Int32} {row w : Nat} {acc : List Sg} {fs : List Nat} {r : Rw} {rs : List Rw} {σ : Sg} (hS : SE iv av acc w) : goI iv av row acc w fs r rs σ 0 1 iv av := by
  refine ⟨FQc.refl, Or.inl ⟨rfl, ?_⟩⟩
  rw [List.take_zero, show solP fs r rs σ [] = [] by simp [solP], show wkP fs r rs σ [] = 0 by simp [wkP], List.append_nil]
  exact hS
theorem goI_S {iv av iv1 av1 : Nat → Nat → Int32} {row w j : Nat} {acc : List Sg} {fs : List Nat} {r : Rw} {rs : List Rw} {σ : Sg} {res : Int32} (h : goI iv av row acc w fs r rs σ j res iv1 av1) (hz : ¬ res = 0) : SE iv1 av1 (acc ++ solP fs r rs σ (fs.take j)) (w + wkP fs r rs σ (fs.take j)) := by
  rcases h.2 with q | q
  · exact q.2
  · exact absurd q.1 hz
theorem goI_next {iv av iv1 av1 iv2 av2 : Nat → Nat → Int32} {row w j : Nat} {acc : List Sg} {fs : List Nat} {r : Rw} {rs : List Rw} {σ : Sg} {res z : Int32} (hj : j < fs.length) (h : goI iv av row acc w fs r rs σ j res iv1 av1) (h2 : goP iv1 av1 row (acc ++ solP fs r rs σ (fs.take j)) (w + wkP fs r rs σ (fs.take j)) (solP fs r rs σ [fs.getD j 0]) (wkP fs r rs σ [fs.getD j 0]) z iv2 av2) : goI iv av row acc w fs r rs σ (j + 1) z iv2 av2 := by
  refine ⟨h.1.trans h2.1, ?_⟩
  rw [take_succ_of hj, getD_g hj, solP_append, wkP_append]
  rcases h2.2 with q | q
  · exact Or.inl ⟨q.1, by rw [← List.append_assoc, ← Nat.add_assoc]; exact q.2⟩
  · exact Or.inr ⟨q.1, by rw [List.length_append, ← Nat.add_assoc, ← Nat.add_assoc]; have h9 := q.2; rw [List.length_append] at h9; exact h9⟩
theorem goI_out {iv av iv1 av1 : Nat → Nat → Int32} {row w j : Nat} {acc : List Sg} {fs : List Nat} {r : Rw} {rs : List Rw} {σ : Sg} {res : Int32} (h : goI iv av row acc w fs r rs σ j res iv1 av1) (hz : res = 0) : goP iv av row acc w (sols fs (r :: rs) σ) (wk fs (r :: rs) σ) res iv1 av1 := by
  refine ⟨h.1, ?_⟩
  rcases h.2 with q | q
  · rw [hz] at q; exact absurd q.1 (by decide)
  · refine Or.inr ⟨q.1, fun s => q.2 ?_⟩
    have hl := P_take_le fs r rs σ fs j
    exact lim_mono s (by rw [sols_P]; omega) (by rw [wk_P]; omega)
theorem goI_end {iv av iv1 av1 : Nat → Nat → Int32} {row w : Nat} {acc : List Sg} {fs : List Nat} {r : Rw} {rs : List Rw} {σ : Sg} {res : Int32} (h : goI iv av row acc w fs r rs σ fs.length res iv1 av1) : goP iv av row acc w (sols fs (r :: rs) σ) (wk fs (r :: rs) σ) res iv1 av1 := by
  unfold goI at h
  rw [List.take_length] at h
  exact h
theorem drop_c {ps : List Rw} {j : Nat} {r : Rw} (h : ps[j]? = some r) : ps.drop j = r :: ps.drop (j + 1) := by
  have hl := (List.getElem?_eq_some_iff.mp h)
  rw [List.drop_eq_getElem_cons hl.1, hl.2]
end
section
set_option maxHeartbeats 2000000 in
set_option maxRecDepth 10000 in
theorem hX4_keep {l : Launch} {D : va_G} {aC : Nat → ClassId} {b0 sz : Nat} {x : Nat} {iv av : Nat → Nat → Int32} {R : ZM} {r9 w9 : Nat} {acc : List Sg} {σ : Sg} (hr5 : r9 < 5) (hS : SE iv av acc w9) (hV : VA av r9 σ) : Ct l D aC b0 yX4_keep cX4_keep 2 (some .boolean) 0 0 0 [.ref (x + 20), .ref (x + (22 + r9))] (cm aC x iv av R) sz (zpI (fun iv av => cm aC x iv av R) (goP iv av r9 acc w9 [σ] 0)) := by
  refine Ct.of (by decide) (Nat.le_of_ble_eq_true rfl) ?_
  intro p e s m below meth c ls C hr hlk hnm hl
  have hl : lv_has ls 2 [(0, .ref (x + 20)), (1, .ref (x + (22 + r9)))] := hl
  obtain ⟨hx, hb, -, -, -⟩ := id C
  have hl9 := hS.2.1
  refine zz (fun _ _ => lv_aload_n hx hb dX4_keep_0 rfl (lv_at hl 0 rfl)) ?_
  refine zz (fun _ _ => lv_dup hx hb dX4_keep_1 rfl) ?_
  refine z_get (v := .int (iv 20 2)) C fd_X4_20 (rd_9 (by decide)) rfl dX4_keep_2 ?_
  refine zval (v' := .int (nI acc.length)) (congrArg Value.int hS.1) ?_
  refine zz (fun _ _ => lv_iconst (v := 1) hx hb dX4_keep_5 (by decide)) ?_
  refine zz (fun _ _ => lv_iadd hx hb dX4_keep_6) ?_
  refine zval (v' := .int (nI (acc.length + 1))) (congrArg Value.int (nI_1 _)) ?_
  refine z_put C fp_X4_20 (fun h => by cases h) (rd_9 (by decide)) (Nat.le_of_ble_eq_true rfl) rfl rfl dX4_keep_7 ?_
  refine zeq (wr_9_2 (by decide)) ?_
  refine zz (fun _ _ => lv_aload_n hx hb dX4_keep_10 rfl (lv_at hl 0 rfl)) ?_
  refine z_get (v := .int (nI (acc.length + 1))) C fd_X4_20 (rd_9 (by decide)) (by simp [u2]) dX4_keep_11 ?_
  refine zz (fun _ _ => lv_bipush (v := 100) hx hb dX4_keep_14 (by decide)) ?_
  refine zval (v' := .int (nI 100)) (congrArg Value.int rfl) ?_
  refine zb (fun _ _ => lv_icmp_le (tgt := 21) hx hb dX4_keep_16 (by decide)) (fun c_1 => ?_) (fun c_1 => ?_)
  · refine zz (fun _ _ => lv_aload_n hx hb dX4_keep_21 rfl (lv_at hl 1 rfl)) ?_
    refine zz (fun _ _ => lv_iconst (v := 0) hx hb dX4_keep_22 (by decide)) ?_
    refine zz (fun _ _ => lv_aload_n hx hb dX4_keep_23 rfl (lv_at hl 0 rfl)) ?_
    refine z_get (v := .ref (x + 27)) C fd_X4_16 (rd_9 (by decide)) rfl dX4_keep_24 ?_
    refine zz (fun _ _ => lv_aload_n hx hb dX4_keep_27 rfl (lv_at hl 0 rfl)) ?_
    refine z_get (v := .int (nI (acc.length + 1))) C fd_X4_20 (rd_9 (by decide)) (by simp [u2]) dX4_keep_28 ?_
    refine zz (fun _ _ => lv_iconst (v := 1) hx hb dX4_keep_31 (by decide)) ?_
    refine zz (fun _ _ => lv_isub hx hb dX4_keep_32) ?_
    refine zval (v' := .int (nI acc.length)) (congrArg Value.int (nI_p1 _)) ?_
    refine zz (fun _ _ => lv_iconst (v := 4) hx hb dX4_keep_33 (by decide)) ?_
    refine zz (fun _ _ => lv_imul hx hb dX4_keep_34) ?_
    refine zval (v' := .int (nI (acc.length * 4))) (congrArg Value.int (pk_mul _ 4)) ?_
    refine zz (fun _ _ => lv_iconst (v := 4) hx hb dX4_keep_35 (by decide)) ?_
    refine z_copy C hl.1 ac_X4_62 (rd_11 (kp_10 hr5)) (rd_12 (by decide)) (by decide) (nI_pos (by omega)) (by decide) (by decide) (by rw [nI_clamp (by omega)]; have h9 := (nI_leI (by omega) (by decide)).mp c_1; show acc.length * 4 + 4 ≤ 400; omega) (by decide) (by decide) dX4_keep_36 (fun sz => ?_)
    refine zeq (wr_12 (by decide)) ?_
    refine zz (fun _ _ => lv_iconst (v := 1) hx hb dX4_keep_39 (by decide)) ?_
    exact z_zret C hr rfl hlk dX4_keep_40 (zpI_mk (a := (u2 iv 20 2 (nI (acc.length + 1)))) (b := (u1 av 27 (va_cpy (av (22 + r9)) (av 27) (Int32.toNatClampNeg (0)) (Int32.toNatClampNeg (nI (acc.length * 4))) (Int32.toNatClampNeg (4))))) (ke_ok hr5 hS hV c_1))
  · refine zz (fun _ _ => lv_iconst (v := 0) hx hb dX4_keep_19 (by decide)) ?_
    exact z_zret C hr rfl hlk dX4_keep_20 (zpI_mk (a := (u2 iv 20 2 (nI (acc.length + 1)))) (b := av) (ke_no hS c_1))
set_option maxHeartbeats 2000000 in
set_option maxRecDepth 10000 in
theorem hX4_goOn_0 {l : Launch} {D : va_G} {aC : Nat → ClassId} {b0 sz : Nat} {x : Nat} {iv av : Nat → Nat → Int32} {R : ZM} {i g9 r9 w9 : Nat} {ps : List Rw} {p9 : Nat → Bool} {t9 : Bool} {acc : List Sg} {σ : Sg} (hi : i < 12) (hP : PRc iv av i ps) (hg : g9 < 7) (hG : GC iv av (4 + 1 + 2 * g9) p9 t9) (hop : ∀ c, p9 c = true → okc c) (hlen : (cds p9).length ≤ 120) (hS : SE iv av acc w9) (hV : VA av r9 σ) (hd : r9 + 0 = ps.length) : Ct l D aC b0 yX4_goOn cX4_goOn 6 (some .boolean) 1 0 0 [.ref (x + 20), .ref (x + ((61 + 6 * i) + 4)), .ref (x + (4 + 1 + 2 * g9)), .int (nI r9)] (cm aC x iv av R) sz (zpI (fun iv av => cm aC x iv av R) (goP iv av r9 acc w9 (sols (cds p9) (ps.drop r9) σ) (wk (cds p9) (ps.drop r9) σ))) := by
  refine Ct.of (by decide) (Nat.le_of_ble_eq_true rfl) ?_
  intro p e s m below meth c ls C hr hlk hnm hl
  have hl : lv_has ls 6 [(0, .ref (x + 20)), (1, .ref (x + ((61 + 6 * i) + 4))), (2, .ref (x + (4 + 1 + 2 * g9))), (3, .int (nI r9))] := hl
  obtain ⟨hx, hb, -, -, -⟩ := id C
  have hp4 := hP.2.1
  refine zz (fun _ _ => lv_iload_n hx hb dX4_goOn_0 rfl (lv_at hl 3 rfl)) ?_
  refine zz (fun _ _ => lv_aload_n hx hb dX4_goOn_1 rfl (lv_at hl 1 rfl)) ?_
  refine z_get (v := .int (iv ((61 + 6 * i) + 4) 2)) C fd_X4_37 (rd_14 (nb_18_4 (ck_s hi))) rfl dX4_goOn_2 ?_
  refine zval (v' := .int (nI ps.length)) (congrArg Value.int hP.1) ?_
  refine zb (fun _ _ => lv_icmp_ge (tgt := 13) hx hb dX4_goOn_5 (by decide)) (fun c_1 => ?_) (fun c_1 => ?_)
  · refine zz (fun _ _ => lv_aload_n hx hb dX4_goOn_13 rfl (lv_at hl 0 rfl)) ?_
    refine zz (fun _ _ => lv_aload_n hx hb dX4_goOn_14 rfl (lv_at hl 0 rfl)) ?_
    refine z_get (v := .ref (x + 21)) C fd_X4_11 (rd_9 (by decide)) rfl dX4_goOn_15 ?_
    refine zz (fun _ _ => lv_iload_n hx hb dX4_goOn_18 rfl (lv_at hl 3 rfl)) ?_
    refine z_aaldA C (rd_10 (by decide)) (by first | assumption | (apply vp_in_nI <;> omega)) (v := .ref (x + (22 + r9))) (rf_if (f := fun q => x + (22 + q)) (n := 5) rfl (show r9 < 5 by omega) (by decide)) dX4_goOn_19 ?_
    refine zqVI (As := [.ref (x + (22 + r9))]) (rest := []) C hl.1 lk_X4_42 (hX4_keep (by omega) hS hV) (rd_9 (by decide)) rfl rfl rfl (Nat.le_of_ble_eq_true rfl) ⟨by decide, by decide, by decide, by decide⟩ dX4_goOn_20 (fun w2 iv2 av2 sz h2 => ?_)
    refine zeq (M' := (cm aC x iv2 av2 R)) rfl ?_
    exact z_zret C hr (bz (goP_b h2)) hlk dX4_goOn_23 (zpI_mk (a := iv2) (b := av2) (by rw [List.drop_eq_nil_of_le (by omega)]; exact h2))
  · exact absurd (nI_le (by omega) (by omega)) c_1
set_option maxHeartbeats 2000000 in
set_option maxRecDepth 10000 in
theorem hX4_holdAgainst_1 {l : Launch} {D : va_G} {aC : Nat → ClassId} {b0 sz : Nat} {x : Nat} {iv av : Nat → Nat → Int32} {R : ZM} {i g9 r9 w9 c9 : Nat} {ps : List Rw} {p9 : Nat → Bool} {t9 : Bool} {acc : List Sg} {σ : Sg} (hi : i < 12) (hP : PRc iv av i ps) (hg : g9 < 7) (hG : GC iv av (4 + 1 + 2 * g9) p9 t9) (hop : ∀ c, p9 c = true → okc c) (hlen : (cds p9).length ≤ 120) (hS : SE iv av acc w9) (hV : VA av r9 σ) {rw9 : Rw} (erw : ps[r9]? = some rw9) (hd : r9 + 1 = ps.length) (hc : okc c9) : Ct l D aC b0 yX4_holdAgainst cX4_holdAgainst 5 (some .boolean) 2 0 0 [.ref (x + 20), .ref (x + ((61 + 6 * i) + 4)), .ref (x + (4 + 1 + 2 * g9)), .int (nI r9), .int (nI c9)] (cm aC x iv av R) sz (zpI (fun iv av => cm aC x iv av R) (goP iv av r9 acc w9 (solP (cds p9) rw9 (ps.drop (r9 + 1)) σ [c9]) (wkP (cds p9) rw9 (ps.drop (r9 + 1)) σ [c9]))) := by
  refine Ct.of (by decide) (Nat.le_of_ble_eq_true rfl) ?_
  intro p e s m below meth c ls C hr hlk hnm hl
  have hl : lv_has ls 5 [(0, .ref (x + 20)), (1, .ref (x + ((61 + 6 * i) + 4))), (2, .ref (x + (4 + 1 + 2 * g9))), (3, .int (nI r9)), (4, .int (nI c9))] := hl
  obtain ⟨hx, hb, -, -, -⟩ := id C
  have hp4 := hP.2.1
  refine zz (fun _ _ => lv_aload_n hx hb dX4_holdAgainst_0 rfl (lv_at hl 0 rfl)) ?_
  refine zz (fun _ _ => lv_dup hx hb dX4_holdAgainst_1 rfl) ?_
  refine z_get (v := .int (iv 20 3)) C fd_X4_24 (rd_9 (by decide)) rfl dX4_holdAgainst_2 ?_
  refine zval (v' := .int (nI w9)) (congrArg Value.int hS.2.2.1) ?_
  refine zz (fun _ _ => lv_iconst (v := 1) hx hb dX4_holdAgainst_5 (by decide)) ?_
  refine zz (fun _ _ => lv_iadd hx hb dX4_holdAgainst_6) ?_
  refine zval (v' := .int (nI (w9 + 1))) (congrArg Value.int (nI_1 _)) ?_
  refine z_put C fp_X4_24 (fun h => by cases h) (rd_9 (by decide)) (Nat.le_of_ble_eq_true rfl) rfl rfl dX4_holdAgainst_7 ?_
  refine zeq (wr_9_3 (by decide)) ?_
  refine zz (fun _ _ => lv_aload_n hx hb dX4_holdAgainst_10 rfl (lv_at hl 0 rfl)) ?_
  refine z_get (v := .int (nI (w9 + 1))) C fd_X4_24 (rd_9 (by decide)) (by simp [u2]) dX4_holdAgainst_11 ?_
  refine zz (fun _ _ => lv_sipush (v := 5000) hx hb dX4_holdAgainst_14 (by decide)) ?_
  refine zval (v' := .int (nI 5000)) (congrArg Value.int rfl) ?_
  refine zb (fun _ _ => lv_icmp_le (tgt := 22) hx hb dX4_holdAgainst_17 (by decide)) (fun c_1 => ?_) (fun c_1 => ?_)
  · refine zz (fun _ _ => lv_aload_n hx hb dX4_holdAgainst_22 rfl (lv_at hl 0 rfl)) ?_
    refine zz (fun _ _ => lv_aload_n hx hb dX4_holdAgainst_23 rfl (lv_at hl 1 rfl)) ?_
    refine zz (fun _ _ => lv_iload_n hx hb dX4_holdAgainst_24 rfl (lv_at hl 3 rfl)) ?_
    refine zz (fun _ _ => lv_iload hx hb dX4_holdAgainst_25 (lv_at hl 4 rfl)) ?_
    refine zqVI (As := [.ref (x + ((61 + 6 * i) + 4)), .int (nI r9), .int (nI c9)]) (rest := []) C hl.1 lk_X4_58 (hX4_fits hi (FQc_w.P (row := r9) hP) erw hc hV) (rd_9 (by decide)) rfl rfl rfl (Nat.le_of_ble_eq_true rfl) ⟨by decide, by decide, by decide, by decide⟩ dX4_holdAgainst_27 (fun w2 iv2 av2 sz h2 => ?_)
    refine zeq (M' := (cm aC x iv2 av2 R)) rfl ?_
    refine zb (fun _ _ => lv_if_eq (tgt := 45) hx hb dX4_holdAgainst_30 (by decide)) (fun c_3 => ?_) (fun c_3 => ?_)
    · refine zz (fun _ _ => lv_iconst (v := 1) hx hb dX4_holdAgainst_45 (by decide)) ?_
      refine zz (fun _ _ => lv_goto (tgt := 50) hx hb dX4_holdAgainst_46 (by decide)) ?_
      exact z_zret C hr rfl hlk dX4_holdAgainst_50 (zpI_mk (a := iv2) (b := av2) (ho_n (by omega) hS c_1 h2 c_3))
    · obtain ⟨sx9, ex9, hx9⟩ := fc_ok h2 c_3
      have hq9 := fc_FQ (by omega) h2
      have hfq9 := FQc_w.trans (row := r9) hq9.1
      have hS9 := SE_av (SE_w hS c_1) hq9.2
      rw [← h2.1] at hS9
      refine zz (fun _ _ => lv_aload_n hx hb dX4_holdAgainst_33 rfl (lv_at hl 0 rfl)) ?_
      refine zz (fun _ _ => lv_aload_n hx hb dX4_holdAgainst_34 rfl (lv_at hl 1 rfl)) ?_
      refine zz (fun _ _ => lv_aload_n hx hb dX4_holdAgainst_35 rfl (lv_at hl 2 rfl)) ?_
      refine zz (fun _ _ => lv_iload_n hx hb dX4_holdAgainst_36 rfl (lv_at hl 3 rfl)) ?_
      refine zz (fun _ _ => lv_iconst (v := 1) hx hb dX4_holdAgainst_37 (by decide)) ?_
      refine zz (fun _ _ => lv_iadd hx hb dX4_holdAgainst_38) ?_
      refine zval (v' := .int (nI (r9 + 1))) (congrArg Value.int (nI_1 _)) ?_
      refine zqVI (As := [.ref (x + ((61 + 6 * i) + 4)), .ref (x + (4 + 1 + 2 * g9)), .int (nI (r9 + 1))]) (rest := []) C hl.1 lk_X4_33 (hX4_goOn_0 hi (hfq9.P hP) hg (hfq9.G hg hG) hop hlen hS9 hx9 (by omega)) (rd_9 (by decide)) rfl rfl rfl (Nat.le_of_ble_eq_true rfl) ⟨by decide, by decide, by decide, by decide⟩ dX4_holdAgainst_39 (fun w4 iv4 av4 sz h4 => ?_)
      refine zeq (M' := (cm aC x iv4 av4 R)) rfl ?_
      refine zb (fun _ _ => lv_if_eq (tgt := 49) hx hb dX4_holdAgainst_42 (by decide)) (fun c_5 => ?_) (fun c_5 => ?_)
      · refine zz (fun _ _ => lv_iconst (v := 0) hx hb dX4_holdAgainst_49 (by decide)) ?_
        exact z_zret C hr rfl hlk dX4_holdAgainst_50 (zpI_mk (a := iv4) (b := av4) (by have h9 := ho_s hfq9 ex9 h4; rw [c_5] at h9; exact h9))
      · refine zz (fun _ _ => lv_iconst (v := 1) hx hb dX4_holdAgainst_45 (by decide)) ?_
        refine zz (fun _ _ => lv_goto (tgt := 50) hx hb dX4_holdAgainst_46 (by decide)) ?_
        exact z_zret C hr rfl hlk dX4_holdAgainst_50 (zpI_mk (a := iv4) (b := av4) (by have h9 := ho_s hfq9 ex9 h4; rw [(goP_b h4).resolve_left c_5] at h9; exact h9))
  · refine zz (fun _ _ => lv_iconst (v := 0) hx hb dX4_holdAgainst_20 (by decide)) ?_
    exact z_zret C hr rfl hlk dX4_holdAgainst_21 (zpI_mk (a := (u2 iv 20 3 (nI (w9 + 1)))) (b := av) (ho_5 hS c_1))
set_option maxHeartbeats 2000000 in
set_option maxRecDepth 10000 in
theorem hX4_goOn_1 {l : Launch} {D : va_G} {aC : Nat → ClassId} {b0 sz : Nat} {x : Nat} {iv av : Nat → Nat → Int32} {R : ZM} {i g9 r9 w9 : Nat} {ps : List Rw} {p9 : Nat → Bool} {t9 : Bool} {acc : List Sg} {σ : Sg} (hi : i < 12) (hP : PRc iv av i ps) (hg : g9 < 7) (hG : GC iv av (4 + 1 + 2 * g9) p9 t9) (hop : ∀ c, p9 c = true → okc c) (hlen : (cds p9).length ≤ 120) (hS : SE iv av acc w9) (hV : VA av r9 σ) (hd : r9 + 1 = ps.length) : Ct l D aC b0 yX4_goOn cX4_goOn 6 (some .boolean) 3 0 0 [.ref (x + 20), .ref (x + ((61 + 6 * i) + 4)), .ref (x + (4 + 1 + 2 * g9)), .int (nI r9)] (cm aC x iv av R) sz (zpI (fun iv av => cm aC x iv av R) (goP iv av r9 acc w9 (sols (cds p9) (ps.drop r9) σ) (wk (cds p9) (ps.drop r9) σ))) := by
  refine Ct.of (by decide) (Nat.le_of_ble_eq_true rfl) ?_
  intro p e s m below meth c ls C hr hlk hnm hl
  have hl : lv_has ls 6 [(0, .ref (x + 20)), (1, .ref (x + ((61 + 6 * i) + 4))), (2, .ref (x + (4 + 1 + 2 * g9))), (3, .int (nI r9))] := hl
  obtain ⟨hx, hb, -, -, -⟩ := id C
  have hp4 := hP.2.1
  obtain ⟨rw9, erw9⟩ : ∃ t, ps[r9]? = some t := ⟨_, List.getElem?_eq_getElem (by omega)⟩
  refine zz (fun _ _ => lv_iload_n hx hb dX4_goOn_0 rfl (lv_at hl 3 rfl)) ?_
  refine zz (fun _ _ => lv_aload_n hx hb dX4_goOn_1 rfl (lv_at hl 1 rfl)) ?_
  refine z_get (v := .int (iv ((61 + 6 * i) + 4) 2)) C fd_X4_37 (rd_14 (nb_18_4 (ck_s hi))) rfl dX4_goOn_2 ?_
  refine zval (v' := .int (nI ps.length)) (congrArg Value.int hP.1) ?_
  refine zb (fun _ _ => lv_icmp_ge (tgt := 13) hx hb dX4_goOn_5 (by decide)) (fun c_1 => ?_) (fun c_1 => ?_)
  · exact absurd c_1 (nI_ge (by omega) (by omega))
  · refine zz (fun _ _ => lv_iload_n hx hb dX4_goOn_8 rfl (lv_at hl 3 rfl)) ?_
    refine zz (fun _ _ => lv_iconst (v := 4) hx hb dX4_goOn_9 (by decide)) ?_
    refine zval (v' := .int (nI 4)) (congrArg Value.int rfl) ?_
    refine zb (fun _ _ => lv_icmp_lt (tgt := 24) hx hb dX4_goOn_10 (by decide)) (fun c_2 => ?_) (fun c_2 => ?_)
    · refine zz (fun _ _ => lv_iconst (v := 1) hx hb dX4_goOn_24 (by decide)) ?_
      refine zs (fun _ _ => lv_istore (lv' := [(4, .int (1)), (0, .ref (x + 20)), (1, .ref (x + ((61 + 6 * i) + 4))), (2, .ref (x + (4 + 1 + 2 * g9))), (3, .int (nI r9))]) hx hb dX4_goOn_25 hl (by decide) rfl) (fun ls hl => ?_)
      refine zz (fun _ _ => lv_iconst (v := 0) hx hb dX4_goOn_27 (by decide)) ?_
      refine zs (fun _ _ => lv_istore (lv' := [(5, .int (0)), (4, .int (1)), (0, .ref (x + 20)), (1, .ref (x + ((61 + 6 * i) + 4))), (2, .ref (x + (4 + 1 + 2 * g9))), (3, .int (nI r9))]) hx hb dX4_goOn_28 hl (by decide) rfl) (fun ls hl => ?_)
      have hl0 := lv_sub hl [2, 3, 4, 5, 1, 0] rfl
      refine z_loop (γ := (Nat → Nat → Int32) × (Nat → Nat → Int32) × Int32) (G := fun a => cm aC x a.1 a.2.1 R) (I := fun j a => goI iv av r9 acc w9 (cds p9) rw9 (ps.drop (r9 + 1)) σ j a.2.2 a.1 a.2.1) (lv := fun j a => [(0, .ref (x + 20)), (1, .ref (x + ((61 + 6 * i) + 4))), (2, .ref (x + (4 + 1 + 2 * g9))), (3, .int (nI r9)), (4, .int (a.2.2)), (5, .int (nI (j)))]) ((cds p9).length) ?_ ?_ (iv, av, 1) _ _ (goI_0 hS) hl0
      · intro j3 a3 sz ls hj3 hI3 hl ih3
        obtain ⟨iv3, av3, t3_4⟩ := a3
        dsimp only at hI3 hl ih3
        refine zeq (M' := (cm aC x iv3 av3 R)) rfl ?_
        have hG3 := hI3.1.G hg hG
        have hok8 := hop _ ((cds_mem hop).mp (getD_mem hj3))
        refine zz (fun _ _ => lv_iload hx hb dX4_goOn_30 (lv_at hl 5 rfl)) ?_
        refine zz (fun _ _ => lv_aload_n hx hb dX4_goOn_32 rfl (lv_at hl 2 rfl)) ?_
        refine z_get (v := .int (iv3 (4 + 1 + 2 * g9) 1)) C fd_X4_46 (rd_6 (ck_g hg)) rfl dX4_goOn_33 ?_
        refine zval (v' := .int (nI (cds p9).length)) (congrArg Value.int hG3.1) ?_
        refine zb (fun _ _ => lv_icmp_ge (tgt := 66) hx hb dX4_goOn_36 (by decide)) (fun c_4 => ?_) (fun c_4 => ?_)
        · exact absurd c_4 (nI_ge (by omega) (by omega))
        · refine zz (fun _ _ => lv_iload hx hb dX4_goOn_39 (lv_at hl 4 rfl)) ?_
          refine zb (fun _ _ => lv_if_eq (tgt := 66) hx hb dX4_goOn_41 (by decide)) (fun c_5 => ?_) (fun c_5 => ?_)
          · refine zz (fun _ _ => lv_iload hx hb dX4_goOn_66 (lv_at hl 4 rfl)) ?_
            exact z_zret C hr (bz (goP_b hI3)) hlk dX4_goOn_68 (zpI_mk (a := iv3) (b := av3) (by rw [drop_c erw9]; exact goI_out hI3 c_5))
          · refine zz (fun _ _ => lv_aload_n hx hb dX4_goOn_44 rfl (lv_at hl 0 rfl)) ?_
            refine zz (fun _ _ => lv_aload_n hx hb dX4_goOn_45 rfl (lv_at hl 1 rfl)) ?_
            refine zz (fun _ _ => lv_aload_n hx hb dX4_goOn_46 rfl (lv_at hl 2 rfl)) ?_
            refine zz (fun _ _ => lv_iload_n hx hb dX4_goOn_47 rfl (lv_at hl 3 rfl)) ?_
            refine zz (fun _ _ => lv_aload_n hx hb dX4_goOn_48 rfl (lv_at hl 2 rfl)) ?_
            refine z_get (v := .ref (x + ((4 + 1 + 2 * g9) + 1))) C fd_X4_51 (rd_6 (ck_g hg)) rfl dX4_goOn_49 ?_
            refine zz (fun _ _ => lv_iload hx hb dX4_goOn_52 (lv_at hl 5 rfl)) ?_
            refine z_iald (f := av3 ((4 + 1 + 2 * g9) + 1)) C (rd_7 (nb_6_1 (ck_g hg))) (by first | assumption | (apply vp_in_nI <;> omega)) dX4_goOn_54 ?_
            refine zval (v' := .int (nI ((cds p9).getD j3 0))) (congrArg Value.int (rdI (hG3.2.2 j3 hj3) (by omega))) ?_
            refine zqVI (As := [.ref (x + ((61 + 6 * i) + 4)), .ref (x + (4 + 1 + 2 * g9)), .int (nI r9), .int (nI ((cds p9).getD j3 0))]) (rest := []) C hl.1 lk_X4_54 (hX4_holdAgainst_1 hi (hI3.1.P hP) hg hG3 hop hlen (goI_S hI3 c_5) (hI3.1.V hV) erw9 hd hok8) (rd_9 (by decide)) rfl rfl rfl (Nat.le_of_ble_eq_true rfl) ⟨by decide, by decide, by decide, by decide⟩ dX4_goOn_55 (fun w6 iv6 av6 sz h6 => ?_)
            refine zeq (M' := (cm aC x iv6 av6 R)) rfl ?_
            refine zs (fun _ _ => lv_istore (lv' := [(4, .int (w6)), (0, .ref (x + 20)), (1, .ref (x + ((61 + 6 * i) + 4))), (2, .ref (x + (4 + 1 + 2 * g9))), (3, .int (nI r9)), (5, .int (nI (j3)))]) hx hb dX4_goOn_58 hl (by decide) rfl) (fun ls hl => ?_)
            refine zs (fun _ _ => lv_iinc (v := nI (j3) + 1) (lv' := [(5, .int (nI (j3) + 1)), (4, .int (w6)), (0, .ref (x + 20)), (1, .ref (x + ((61 + 6 * i) + 4))), (2, .ref (x + (4 + 1 + 2 * g9))), (3, .int (nI r9))]) hx hb dX4_goOn_60 hl (k := 5) rfl rfl (by decide) rfl) (fun ls hl => ?_)
            refine zz (fun _ _ => lv_goto (tgt := 30) hx hb dX4_goOn_63 (by decide)) ?_
            have hl := lv_sub hl [2, 3, 4, 5, 1, 0] rfl
            try simp only [nI_1] at hl
            exact ih3 (iv6, av6, w6) _ _ (goI_next hj3 hI3 h6) hl
      · intro a3 sz ls hI3 hl
        obtain ⟨iv3, av3, t3_4⟩ := a3
        dsimp only at hI3 hl
        refine zeq (M' := (cm aC x iv3 av3 R)) rfl ?_
        have hG3 := hI3.1.G hg hG
        refine zz (fun _ _ => lv_iload hx hb dX4_goOn_30 (lv_at hl 5 rfl)) ?_
        refine zz (fun _ _ => lv_aload_n hx hb dX4_goOn_32 rfl (lv_at hl 2 rfl)) ?_
        refine z_get (v := .int (iv3 (4 + 1 + 2 * g9) 1)) C fd_X4_46 (rd_6 (ck_g hg)) rfl dX4_goOn_33 ?_
        refine zval (v' := .int (nI (cds p9).length)) (congrArg Value.int hG3.1) ?_
        refine zb (fun _ _ => lv_icmp_ge (tgt := 66) hx hb dX4_goOn_36 (by decide)) (fun c_7 => ?_) (fun c_7 => ?_)
        · refine zz (fun _ _ => lv_iload hx hb dX4_goOn_66 (lv_at hl 4 rfl)) ?_
          exact z_zret C hr (bz (goP_b hI3)) hlk dX4_goOn_68 (zpI_mk (a := iv3) (b := av3) (by rw [drop_c erw9]; exact goI_end hI3))
        · exact absurd (nI_le (Nat.le_refl _) (by omega)) c_7
    · exact absurd (nI_lt (by omega) (by omega)) c_2
set_option maxHeartbeats 2000000 in
set_option maxRecDepth 10000 in
theorem hX4_holdAgainst_2 {l : Launch} {D : va_G} {aC : Nat → ClassId} {b0 sz : Nat} {x : Nat} {iv av : Nat → Nat → Int32} {R : ZM} {i g9 r9 w9 c9 : Nat} {ps : List Rw} {p9 : Nat → Bool} {t9 : Bool} {acc : List Sg} {σ : Sg} (hi : i < 12) (hP : PRc iv av i ps) (hg : g9 < 7) (hG : GC iv av (4 + 1 + 2 * g9) p9 t9) (hop : ∀ c, p9 c = true → okc c) (hlen : (cds p9).length ≤ 120) (hS : SE iv av acc w9) (hV : VA av r9 σ) {rw9 : Rw} (erw : ps[r9]? = some rw9) (hd : r9 + 2 = ps.length) (hc : okc c9) : Ct l D aC b0 yX4_holdAgainst cX4_holdAgainst 5 (some .boolean) 4 0 0 [.ref (x + 20), .ref (x + ((61 + 6 * i) + 4)), .ref (x + (4 + 1 + 2 * g9)), .int (nI r9), .int (nI c9)] (cm aC x iv av R) sz (zpI (fun iv av => cm aC x iv av R) (goP iv av r9 acc w9 (solP (cds p9) rw9 (ps.drop (r9 + 1)) σ [c9]) (wkP (cds p9) rw9 (ps.drop (r9 + 1)) σ [c9]))) := by
  refine Ct.of (by decide) (Nat.le_of_ble_eq_true rfl) ?_
  intro p e s m below meth c ls C hr hlk hnm hl
  have hl : lv_has ls 5 [(0, .ref (x + 20)), (1, .ref (x + ((61 + 6 * i) + 4))), (2, .ref (x + (4 + 1 + 2 * g9))), (3, .int (nI r9)), (4, .int (nI c9))] := hl
  obtain ⟨hx, hb, -, -, -⟩ := id C
  have hp4 := hP.2.1
  refine zz (fun _ _ => lv_aload_n hx hb dX4_holdAgainst_0 rfl (lv_at hl 0 rfl)) ?_
  refine zz (fun _ _ => lv_dup hx hb dX4_holdAgainst_1 rfl) ?_
  refine z_get (v := .int (iv 20 3)) C fd_X4_24 (rd_9 (by decide)) rfl dX4_holdAgainst_2 ?_
  refine zval (v' := .int (nI w9)) (congrArg Value.int hS.2.2.1) ?_
  refine zz (fun _ _ => lv_iconst (v := 1) hx hb dX4_holdAgainst_5 (by decide)) ?_
  refine zz (fun _ _ => lv_iadd hx hb dX4_holdAgainst_6) ?_
  refine zval (v' := .int (nI (w9 + 1))) (congrArg Value.int (nI_1 _)) ?_
  refine z_put C fp_X4_24 (fun h => by cases h) (rd_9 (by decide)) (Nat.le_of_ble_eq_true rfl) rfl rfl dX4_holdAgainst_7 ?_
  refine zeq (wr_9_3 (by decide)) ?_
  refine zz (fun _ _ => lv_aload_n hx hb dX4_holdAgainst_10 rfl (lv_at hl 0 rfl)) ?_
  refine z_get (v := .int (nI (w9 + 1))) C fd_X4_24 (rd_9 (by decide)) (by simp [u2]) dX4_holdAgainst_11 ?_
  refine zz (fun _ _ => lv_sipush (v := 5000) hx hb dX4_holdAgainst_14 (by decide)) ?_
  refine zval (v' := .int (nI 5000)) (congrArg Value.int rfl) ?_
  refine zb (fun _ _ => lv_icmp_le (tgt := 22) hx hb dX4_holdAgainst_17 (by decide)) (fun c_1 => ?_) (fun c_1 => ?_)
  · refine zz (fun _ _ => lv_aload_n hx hb dX4_holdAgainst_22 rfl (lv_at hl 0 rfl)) ?_
    refine zz (fun _ _ => lv_aload_n hx hb dX4_holdAgainst_23 rfl (lv_at hl 1 rfl)) ?_
    refine zz (fun _ _ => lv_iload_n hx hb dX4_holdAgainst_24 rfl (lv_at hl 3 rfl)) ?_
    refine zz (fun _ _ => lv_iload hx hb dX4_holdAgainst_25 (lv_at hl 4 rfl)) ?_
    refine zqVI (As := [.ref (x + ((61 + 6 * i) + 4)), .int (nI r9), .int (nI c9)]) (rest := []) C hl.1 lk_X4_58 (hX4_fits hi (FQc_w.P (row := r9) hP) erw hc hV) (rd_9 (by decide)) rfl rfl rfl (Nat.le_of_ble_eq_true rfl) ⟨by decide, by decide, by decide, by decide⟩ dX4_holdAgainst_27 (fun w2 iv2 av2 sz h2 => ?_)
    refine zeq (M' := (cm aC x iv2 av2 R)) rfl ?_
    refine zb (fun _ _ => lv_if_eq (tgt := 45) hx hb dX4_holdAgainst_30 (by decide)) (fun c_3 => ?_) (fun c_3 => ?_)
    · refine zz (fun _ _ => lv_iconst (v := 1) hx hb dX4_holdAgainst_45 (by decide)) ?_
      refine zz (fun _ _ => lv_goto (tgt := 50) hx hb dX4_holdAgainst_46 (by decide)) ?_
      exact z_zret C hr rfl hlk dX4_holdAgainst_50 (zpI_mk (a := iv2) (b := av2) (ho_n (by omega) hS c_1 h2 c_3))
    · obtain ⟨sx9, ex9, hx9⟩ := fc_ok h2 c_3
      have hq9 := fc_FQ (by omega) h2
      have hfq9 := FQc_w.trans (row := r9) hq9.1
      have hS9 := SE_av (SE_w hS c_1) hq9.2
      rw [← h2.1] at hS9
      refine zz (fun _ _ => lv_aload_n hx hb dX4_holdAgainst_33 rfl (lv_at hl 0 rfl)) ?_
      refine zz (fun _ _ => lv_aload_n hx hb dX4_holdAgainst_34 rfl (lv_at hl 1 rfl)) ?_
      refine zz (fun _ _ => lv_aload_n hx hb dX4_holdAgainst_35 rfl (lv_at hl 2 rfl)) ?_
      refine zz (fun _ _ => lv_iload_n hx hb dX4_holdAgainst_36 rfl (lv_at hl 3 rfl)) ?_
      refine zz (fun _ _ => lv_iconst (v := 1) hx hb dX4_holdAgainst_37 (by decide)) ?_
      refine zz (fun _ _ => lv_iadd hx hb dX4_holdAgainst_38) ?_
      refine zval (v' := .int (nI (r9 + 1))) (congrArg Value.int (nI_1 _)) ?_
      refine zqVI (As := [.ref (x + ((61 + 6 * i) + 4)), .ref (x + (4 + 1 + 2 * g9)), .int (nI (r9 + 1))]) (rest := []) C hl.1 lk_X4_33 (hX4_goOn_1 hi (hfq9.P hP) hg (hfq9.G hg hG) hop hlen hS9 hx9 (by omega)) (rd_9 (by decide)) rfl rfl rfl (Nat.le_of_ble_eq_true rfl) ⟨by decide, by decide, by decide, by decide⟩ dX4_holdAgainst_39 (fun w4 iv4 av4 sz h4 => ?_)
      refine zeq (M' := (cm aC x iv4 av4 R)) rfl ?_
      refine zb (fun _ _ => lv_if_eq (tgt := 49) hx hb dX4_holdAgainst_42 (by decide)) (fun c_5 => ?_) (fun c_5 => ?_)
      · refine zz (fun _ _ => lv_iconst (v := 0) hx hb dX4_holdAgainst_49 (by decide)) ?_
        exact z_zret C hr rfl hlk dX4_holdAgainst_50 (zpI_mk (a := iv4) (b := av4) (by have h9 := ho_s hfq9 ex9 h4; rw [c_5] at h9; exact h9))
      · refine zz (fun _ _ => lv_iconst (v := 1) hx hb dX4_holdAgainst_45 (by decide)) ?_
        refine zz (fun _ _ => lv_goto (tgt := 50) hx hb dX4_holdAgainst_46 (by decide)) ?_
        exact z_zret C hr rfl hlk dX4_holdAgainst_50 (zpI_mk (a := iv4) (b := av4) (by have h9 := ho_s hfq9 ex9 h4; rw [(goP_b h4).resolve_left c_5] at h9; exact h9))
  · refine zz (fun _ _ => lv_iconst (v := 0) hx hb dX4_holdAgainst_20 (by decide)) ?_
    exact z_zret C hr rfl hlk dX4_holdAgainst_21 (zpI_mk (a := (u2 iv 20 3 (nI (w9 + 1)))) (b := av) (ho_5 hS c_1))
set_option maxHeartbeats 2000000 in
set_option maxRecDepth 10000 in
theorem hX4_goOn_2 {l : Launch} {D : va_G} {aC : Nat → ClassId} {b0 sz : Nat} {x : Nat} {iv av : Nat → Nat → Int32} {R : ZM} {i g9 r9 w9 : Nat} {ps : List Rw} {p9 : Nat → Bool} {t9 : Bool} {acc : List Sg} {σ : Sg} (hi : i < 12) (hP : PRc iv av i ps) (hg : g9 < 7) (hG : GC iv av (4 + 1 + 2 * g9) p9 t9) (hop : ∀ c, p9 c = true → okc c) (hlen : (cds p9).length ≤ 120) (hS : SE iv av acc w9) (hV : VA av r9 σ) (hd : r9 + 2 = ps.length) : Ct l D aC b0 yX4_goOn cX4_goOn 6 (some .boolean) 5 0 0 [.ref (x + 20), .ref (x + ((61 + 6 * i) + 4)), .ref (x + (4 + 1 + 2 * g9)), .int (nI r9)] (cm aC x iv av R) sz (zpI (fun iv av => cm aC x iv av R) (goP iv av r9 acc w9 (sols (cds p9) (ps.drop r9) σ) (wk (cds p9) (ps.drop r9) σ))) := by
  refine Ct.of (by decide) (Nat.le_of_ble_eq_true rfl) ?_
  intro p e s m below meth c ls C hr hlk hnm hl
  have hl : lv_has ls 6 [(0, .ref (x + 20)), (1, .ref (x + ((61 + 6 * i) + 4))), (2, .ref (x + (4 + 1 + 2 * g9))), (3, .int (nI r9))] := hl
  obtain ⟨hx, hb, -, -, -⟩ := id C
  have hp4 := hP.2.1
  obtain ⟨rw9, erw9⟩ : ∃ t, ps[r9]? = some t := ⟨_, List.getElem?_eq_getElem (by omega)⟩
  refine zz (fun _ _ => lv_iload_n hx hb dX4_goOn_0 rfl (lv_at hl 3 rfl)) ?_
  refine zz (fun _ _ => lv_aload_n hx hb dX4_goOn_1 rfl (lv_at hl 1 rfl)) ?_
  refine z_get (v := .int (iv ((61 + 6 * i) + 4) 2)) C fd_X4_37 (rd_14 (nb_18_4 (ck_s hi))) rfl dX4_goOn_2 ?_
  refine zval (v' := .int (nI ps.length)) (congrArg Value.int hP.1) ?_
  refine zb (fun _ _ => lv_icmp_ge (tgt := 13) hx hb dX4_goOn_5 (by decide)) (fun c_1 => ?_) (fun c_1 => ?_)
  · exact absurd c_1 (nI_ge (by omega) (by omega))
  · refine zz (fun _ _ => lv_iload_n hx hb dX4_goOn_8 rfl (lv_at hl 3 rfl)) ?_
    refine zz (fun _ _ => lv_iconst (v := 4) hx hb dX4_goOn_9 (by decide)) ?_
    refine zval (v' := .int (nI 4)) (congrArg Value.int rfl) ?_
    refine zb (fun _ _ => lv_icmp_lt (tgt := 24) hx hb dX4_goOn_10 (by decide)) (fun c_2 => ?_) (fun c_2 => ?_)
    · refine zz (fun _ _ => lv_iconst (v := 1) hx hb dX4_goOn_24 (by decide)) ?_
      refine zs (fun _ _ => lv_istore (lv' := [(4, .int (1)), (0, .ref (x + 20)), (1, .ref (x + ((61 + 6 * i) + 4))), (2, .ref (x + (4 + 1 + 2 * g9))), (3, .int (nI r9))]) hx hb dX4_goOn_25 hl (by decide) rfl) (fun ls hl => ?_)
      refine zz (fun _ _ => lv_iconst (v := 0) hx hb dX4_goOn_27 (by decide)) ?_
      refine zs (fun _ _ => lv_istore (lv' := [(5, .int (0)), (4, .int (1)), (0, .ref (x + 20)), (1, .ref (x + ((61 + 6 * i) + 4))), (2, .ref (x + (4 + 1 + 2 * g9))), (3, .int (nI r9))]) hx hb dX4_goOn_28 hl (by decide) rfl) (fun ls hl => ?_)
      have hl0 := lv_sub hl [2, 3, 4, 5, 1, 0] rfl
      refine z_loop (γ := (Nat → Nat → Int32) × (Nat → Nat → Int32) × Int32) (G := fun a => cm aC x a.1 a.2.1 R) (I := fun j a => goI iv av r9 acc w9 (cds p9) rw9 (ps.drop (r9 + 1)) σ j a.2.2 a.1 a.2.1) (lv := fun j a => [(0, .ref (x + 20)), (1, .ref (x + ((61 + 6 * i) + 4))), (2, .ref (x + (4 + 1 + 2 * g9))), (3, .int (nI r9)), (4, .int (a.2.2)), (5, .int (nI (j)))]) ((cds p9).length) ?_ ?_ (iv, av, 1) _ _ (goI_0 hS) hl0
      · intro j3 a3 sz ls hj3 hI3 hl ih3
        obtain ⟨iv3, av3, t3_4⟩ := a3
        dsimp only at hI3 hl ih3
        refine zeq (M' := (cm aC x iv3 av3 R)) rfl ?_
        have hG3 := hI3.1.G hg hG
        have hok8 := hop _ ((cds_mem hop).mp (getD_mem hj3))
        refine zz (fun _ _ => lv_iload hx hb dX4_goOn_30 (lv_at hl 5 rfl)) ?_
        refine zz (fun _ _ => lv_aload_n hx hb dX4_goOn_32 rfl (lv_at hl 2 rfl)) ?_
        refine z_get (v := .int (iv3 (4 + 1 + 2 * g9) 1)) C fd_X4_46 (rd_6 (ck_g hg)) rfl dX4_goOn_33 ?_
        refine zval (v' := .int (nI (cds p9).length)) (congrArg Value.int hG3.1) ?_
        refine zb (fun _ _ => lv_icmp_ge (tgt := 66) hx hb dX4_goOn_36 (by decide)) (fun c_4 => ?_) (fun c_4 => ?_)
        · exact absurd c_4 (nI_ge (by omega) (by omega))
        · refine zz (fun _ _ => lv_iload hx hb dX4_goOn_39 (lv_at hl 4 rfl)) ?_
          refine zb (fun _ _ => lv_if_eq (tgt := 66) hx hb dX4_goOn_41 (by decide)) (fun c_5 => ?_) (fun c_5 => ?_)
          · refine zz (fun _ _ => lv_iload hx hb dX4_goOn_66 (lv_at hl 4 rfl)) ?_
            exact z_zret C hr (bz (goP_b hI3)) hlk dX4_goOn_68 (zpI_mk (a := iv3) (b := av3) (by rw [drop_c erw9]; exact goI_out hI3 c_5))
          · refine zz (fun _ _ => lv_aload_n hx hb dX4_goOn_44 rfl (lv_at hl 0 rfl)) ?_
            refine zz (fun _ _ => lv_aload_n hx hb dX4_goOn_45 rfl (lv_at hl 1 rfl)) ?_
            refine zz (fun _ _ => lv_aload_n hx hb dX4_goOn_46 rfl (lv_at hl 2 rfl)) ?_
            refine zz (fun _ _ => lv_iload_n hx hb dX4_goOn_47 rfl (lv_at hl 3 rfl)) ?_
            refine zz (fun _ _ => lv_aload_n hx hb dX4_goOn_48 rfl (lv_at hl 2 rfl)) ?_
            refine z_get (v := .ref (x + ((4 + 1 + 2 * g9) + 1))) C fd_X4_51 (rd_6 (ck_g hg)) rfl dX4_goOn_49 ?_
            refine zz (fun _ _ => lv_iload hx hb dX4_goOn_52 (lv_at hl 5 rfl)) ?_
            refine z_iald (f := av3 ((4 + 1 + 2 * g9) + 1)) C (rd_7 (nb_6_1 (ck_g hg))) (by first | assumption | (apply vp_in_nI <;> omega)) dX4_goOn_54 ?_
            refine zval (v' := .int (nI ((cds p9).getD j3 0))) (congrArg Value.int (rdI (hG3.2.2 j3 hj3) (by omega))) ?_
            refine zqVI (As := [.ref (x + ((61 + 6 * i) + 4)), .ref (x + (4 + 1 + 2 * g9)), .int (nI r9), .int (nI ((cds p9).getD j3 0))]) (rest := []) C hl.1 lk_X4_54 (hX4_holdAgainst_2 hi (hI3.1.P hP) hg hG3 hop hlen (goI_S hI3 c_5) (hI3.1.V hV) erw9 hd hok8) (rd_9 (by decide)) rfl rfl rfl (Nat.le_of_ble_eq_true rfl) ⟨by decide, by decide, by decide, by decide⟩ dX4_goOn_55 (fun w6 iv6 av6 sz h6 => ?_)
            refine zeq (M' := (cm aC x iv6 av6 R)) rfl ?_
            refine zs (fun _ _ => lv_istore (lv' := [(4, .int (w6)), (0, .ref (x + 20)), (1, .ref (x + ((61 + 6 * i) + 4))), (2, .ref (x + (4 + 1 + 2 * g9))), (3, .int (nI r9)), (5, .int (nI (j3)))]) hx hb dX4_goOn_58 hl (by decide) rfl) (fun ls hl => ?_)
            refine zs (fun _ _ => lv_iinc (v := nI (j3) + 1) (lv' := [(5, .int (nI (j3) + 1)), (4, .int (w6)), (0, .ref (x + 20)), (1, .ref (x + ((61 + 6 * i) + 4))), (2, .ref (x + (4 + 1 + 2 * g9))), (3, .int (nI r9))]) hx hb dX4_goOn_60 hl (k := 5) rfl rfl (by decide) rfl) (fun ls hl => ?_)
            refine zz (fun _ _ => lv_goto (tgt := 30) hx hb dX4_goOn_63 (by decide)) ?_
            have hl := lv_sub hl [2, 3, 4, 5, 1, 0] rfl
            try simp only [nI_1] at hl
            exact ih3 (iv6, av6, w6) _ _ (goI_next hj3 hI3 h6) hl
      · intro a3 sz ls hI3 hl
        obtain ⟨iv3, av3, t3_4⟩ := a3
        dsimp only at hI3 hl
        refine zeq (M' := (cm aC x iv3 av3 R)) rfl ?_
        have hG3 := hI3.1.G hg hG
        refine zz (fun _ _ => lv_iload hx hb dX4_goOn_30 (lv_at hl 5 rfl)) ?_
        refine zz (fun _ _ => lv_aload_n hx hb dX4_goOn_32 rfl (lv_at hl 2 rfl)) ?_
        refine z_get (v := .int (iv3 (4 + 1 + 2 * g9) 1)) C fd_X4_46 (rd_6 (ck_g hg)) rfl dX4_goOn_33 ?_
        refine zval (v' := .int (nI (cds p9).length)) (congrArg Value.int hG3.1) ?_
        refine zb (fun _ _ => lv_icmp_ge (tgt := 66) hx hb dX4_goOn_36 (by decide)) (fun c_7 => ?_) (fun c_7 => ?_)
        · refine zz (fun _ _ => lv_iload hx hb dX4_goOn_66 (lv_at hl 4 rfl)) ?_
          exact z_zret C hr (bz (goP_b hI3)) hlk dX4_goOn_68 (zpI_mk (a := iv3) (b := av3) (by rw [drop_c erw9]; exact goI_end hI3))
        · exact absurd (nI_le (Nat.le_refl _) (by omega)) c_7
    · exact absurd (nI_lt (by omega) (by omega)) c_2
set_option maxHeartbeats 2000000 in
set_option maxRecDepth 10000 in
theorem hX4_holdAgainst_3 {l : Launch} {D : va_G} {aC : Nat → ClassId} {b0 sz : Nat} {x : Nat} {iv av : Nat → Nat → Int32} {R : ZM} {i g9 r9 w9 c9 : Nat} {ps : List Rw} {p9 : Nat → Bool} {t9 : Bool} {acc : List Sg} {σ : Sg} (hi : i < 12) (hP : PRc iv av i ps) (hg : g9 < 7) (hG : GC iv av (4 + 1 + 2 * g9) p9 t9) (hop : ∀ c, p9 c = true → okc c) (hlen : (cds p9).length ≤ 120) (hS : SE iv av acc w9) (hV : VA av r9 σ) {rw9 : Rw} (erw : ps[r9]? = some rw9) (hd : r9 + 3 = ps.length) (hc : okc c9) : Ct l D aC b0 yX4_holdAgainst cX4_holdAgainst 5 (some .boolean) 6 0 0 [.ref (x + 20), .ref (x + ((61 + 6 * i) + 4)), .ref (x + (4 + 1 + 2 * g9)), .int (nI r9), .int (nI c9)] (cm aC x iv av R) sz (zpI (fun iv av => cm aC x iv av R) (goP iv av r9 acc w9 (solP (cds p9) rw9 (ps.drop (r9 + 1)) σ [c9]) (wkP (cds p9) rw9 (ps.drop (r9 + 1)) σ [c9]))) := by
  refine Ct.of (by decide) (Nat.le_of_ble_eq_true rfl) ?_
  intro p e s m below meth c ls C hr hlk hnm hl
  have hl : lv_has ls 5 [(0, .ref (x + 20)), (1, .ref (x + ((61 + 6 * i) + 4))), (2, .ref (x + (4 + 1 + 2 * g9))), (3, .int (nI r9)), (4, .int (nI c9))] := hl
  obtain ⟨hx, hb, -, -, -⟩ := id C
  have hp4 := hP.2.1
  refine zz (fun _ _ => lv_aload_n hx hb dX4_holdAgainst_0 rfl (lv_at hl 0 rfl)) ?_
  refine zz (fun _ _ => lv_dup hx hb dX4_holdAgainst_1 rfl) ?_
  refine z_get (v := .int (iv 20 3)) C fd_X4_24 (rd_9 (by decide)) rfl dX4_holdAgainst_2 ?_
  refine zval (v' := .int (nI w9)) (congrArg Value.int hS.2.2.1) ?_
  refine zz (fun _ _ => lv_iconst (v := 1) hx hb dX4_holdAgainst_5 (by decide)) ?_
  refine zz (fun _ _ => lv_iadd hx hb dX4_holdAgainst_6) ?_
  refine zval (v' := .int (nI (w9 + 1))) (congrArg Value.int (nI_1 _)) ?_
  refine z_put C fp_X4_24 (fun h => by cases h) (rd_9 (by decide)) (Nat.le_of_ble_eq_true rfl) rfl rfl dX4_holdAgainst_7 ?_
  refine zeq (wr_9_3 (by decide)) ?_
  refine zz (fun _ _ => lv_aload_n hx hb dX4_holdAgainst_10 rfl (lv_at hl 0 rfl)) ?_
  refine z_get (v := .int (nI (w9 + 1))) C fd_X4_24 (rd_9 (by decide)) (by simp [u2]) dX4_holdAgainst_11 ?_
  refine zz (fun _ _ => lv_sipush (v := 5000) hx hb dX4_holdAgainst_14 (by decide)) ?_
  refine zval (v' := .int (nI 5000)) (congrArg Value.int rfl) ?_
  refine zb (fun _ _ => lv_icmp_le (tgt := 22) hx hb dX4_holdAgainst_17 (by decide)) (fun c_1 => ?_) (fun c_1 => ?_)
  · refine zz (fun _ _ => lv_aload_n hx hb dX4_holdAgainst_22 rfl (lv_at hl 0 rfl)) ?_
    refine zz (fun _ _ => lv_aload_n hx hb dX4_holdAgainst_23 rfl (lv_at hl 1 rfl)) ?_
    refine zz (fun _ _ => lv_iload_n hx hb dX4_holdAgainst_24 rfl (lv_at hl 3 rfl)) ?_
    refine zz (fun _ _ => lv_iload hx hb dX4_holdAgainst_25 (lv_at hl 4 rfl)) ?_
    refine zqVI (As := [.ref (x + ((61 + 6 * i) + 4)), .int (nI r9), .int (nI c9)]) (rest := []) C hl.1 lk_X4_58 (hX4_fits hi (FQc_w.P (row := r9) hP) erw hc hV) (rd_9 (by decide)) rfl rfl rfl (Nat.le_of_ble_eq_true rfl) ⟨by decide, by decide, by decide, by decide⟩ dX4_holdAgainst_27 (fun w2 iv2 av2 sz h2 => ?_)
    refine zeq (M' := (cm aC x iv2 av2 R)) rfl ?_
    refine zb (fun _ _ => lv_if_eq (tgt := 45) hx hb dX4_holdAgainst_30 (by decide)) (fun c_3 => ?_) (fun c_3 => ?_)
    · refine zz (fun _ _ => lv_iconst (v := 1) hx hb dX4_holdAgainst_45 (by decide)) ?_
      refine zz (fun _ _ => lv_goto (tgt := 50) hx hb dX4_holdAgainst_46 (by decide)) ?_
      exact z_zret C hr rfl hlk dX4_holdAgainst_50 (zpI_mk (a := iv2) (b := av2) (ho_n (by omega) hS c_1 h2 c_3))
    · obtain ⟨sx9, ex9, hx9⟩ := fc_ok h2 c_3
      have hq9 := fc_FQ (by omega) h2
      have hfq9 := FQc_w.trans (row := r9) hq9.1
      have hS9 := SE_av (SE_w hS c_1) hq9.2
      rw [← h2.1] at hS9
      refine zz (fun _ _ => lv_aload_n hx hb dX4_holdAgainst_33 rfl (lv_at hl 0 rfl)) ?_
      refine zz (fun _ _ => lv_aload_n hx hb dX4_holdAgainst_34 rfl (lv_at hl 1 rfl)) ?_
      refine zz (fun _ _ => lv_aload_n hx hb dX4_holdAgainst_35 rfl (lv_at hl 2 rfl)) ?_
      refine zz (fun _ _ => lv_iload_n hx hb dX4_holdAgainst_36 rfl (lv_at hl 3 rfl)) ?_
      refine zz (fun _ _ => lv_iconst (v := 1) hx hb dX4_holdAgainst_37 (by decide)) ?_
      refine zz (fun _ _ => lv_iadd hx hb dX4_holdAgainst_38) ?_
      refine zval (v' := .int (nI (r9 + 1))) (congrArg Value.int (nI_1 _)) ?_
      refine zqVI (As := [.ref (x + ((61 + 6 * i) + 4)), .ref (x + (4 + 1 + 2 * g9)), .int (nI (r9 + 1))]) (rest := []) C hl.1 lk_X4_33 (hX4_goOn_2 hi (hfq9.P hP) hg (hfq9.G hg hG) hop hlen hS9 hx9 (by omega)) (rd_9 (by decide)) rfl rfl rfl (Nat.le_of_ble_eq_true rfl) ⟨by decide, by decide, by decide, by decide⟩ dX4_holdAgainst_39 (fun w4 iv4 av4 sz h4 => ?_)
      refine zeq (M' := (cm aC x iv4 av4 R)) rfl ?_
      refine zb (fun _ _ => lv_if_eq (tgt := 49) hx hb dX4_holdAgainst_42 (by decide)) (fun c_5 => ?_) (fun c_5 => ?_)
      · refine zz (fun _ _ => lv_iconst (v := 0) hx hb dX4_holdAgainst_49 (by decide)) ?_
        exact z_zret C hr rfl hlk dX4_holdAgainst_50 (zpI_mk (a := iv4) (b := av4) (by have h9 := ho_s hfq9 ex9 h4; rw [c_5] at h9; exact h9))
      · refine zz (fun _ _ => lv_iconst (v := 1) hx hb dX4_holdAgainst_45 (by decide)) ?_
        refine zz (fun _ _ => lv_goto (tgt := 50) hx hb dX4_holdAgainst_46 (by decide)) ?_
        exact z_zret C hr rfl hlk dX4_holdAgainst_50 (zpI_mk (a := iv4) (b := av4) (by have h9 := ho_s hfq9 ex9 h4; rw [(goP_b h4).resolve_left c_5] at h9; exact h9))
  · refine zz (fun _ _ => lv_iconst (v := 0) hx hb dX4_holdAgainst_20 (by decide)) ?_
    exact z_zret C hr rfl hlk dX4_holdAgainst_21 (zpI_mk (a := (u2 iv 20 3 (nI (w9 + 1)))) (b := av) (ho_5 hS c_1))
set_option maxHeartbeats 2000000 in
set_option maxRecDepth 10000 in
theorem hX4_goOn_3 {l : Launch} {D : va_G} {aC : Nat → ClassId} {b0 sz : Nat} {x : Nat} {iv av : Nat → Nat → Int32} {R : ZM} {i g9 r9 w9 : Nat} {ps : List Rw} {p9 : Nat → Bool} {t9 : Bool} {acc : List Sg} {σ : Sg} (hi : i < 12) (hP : PRc iv av i ps) (hg : g9 < 7) (hG : GC iv av (4 + 1 + 2 * g9) p9 t9) (hop : ∀ c, p9 c = true → okc c) (hlen : (cds p9).length ≤ 120) (hS : SE iv av acc w9) (hV : VA av r9 σ) (hd : r9 + 3 = ps.length) : Ct l D aC b0 yX4_goOn cX4_goOn 6 (some .boolean) 7 0 0 [.ref (x + 20), .ref (x + ((61 + 6 * i) + 4)), .ref (x + (4 + 1 + 2 * g9)), .int (nI r9)] (cm aC x iv av R) sz (zpI (fun iv av => cm aC x iv av R) (goP iv av r9 acc w9 (sols (cds p9) (ps.drop r9) σ) (wk (cds p9) (ps.drop r9) σ))) := by
  refine Ct.of (by decide) (Nat.le_of_ble_eq_true rfl) ?_
  intro p e s m below meth c ls C hr hlk hnm hl
  have hl : lv_has ls 6 [(0, .ref (x + 20)), (1, .ref (x + ((61 + 6 * i) + 4))), (2, .ref (x + (4 + 1 + 2 * g9))), (3, .int (nI r9))] := hl
  obtain ⟨hx, hb, -, -, -⟩ := id C
  have hp4 := hP.2.1
  obtain ⟨rw9, erw9⟩ : ∃ t, ps[r9]? = some t := ⟨_, List.getElem?_eq_getElem (by omega)⟩
  refine zz (fun _ _ => lv_iload_n hx hb dX4_goOn_0 rfl (lv_at hl 3 rfl)) ?_
  refine zz (fun _ _ => lv_aload_n hx hb dX4_goOn_1 rfl (lv_at hl 1 rfl)) ?_
  refine z_get (v := .int (iv ((61 + 6 * i) + 4) 2)) C fd_X4_37 (rd_14 (nb_18_4 (ck_s hi))) rfl dX4_goOn_2 ?_
  refine zval (v' := .int (nI ps.length)) (congrArg Value.int hP.1) ?_
  refine zb (fun _ _ => lv_icmp_ge (tgt := 13) hx hb dX4_goOn_5 (by decide)) (fun c_1 => ?_) (fun c_1 => ?_)
  · exact absurd c_1 (nI_ge (by omega) (by omega))
  · refine zz (fun _ _ => lv_iload_n hx hb dX4_goOn_8 rfl (lv_at hl 3 rfl)) ?_
    refine zz (fun _ _ => lv_iconst (v := 4) hx hb dX4_goOn_9 (by decide)) ?_
    refine zval (v' := .int (nI 4)) (congrArg Value.int rfl) ?_
    refine zb (fun _ _ => lv_icmp_lt (tgt := 24) hx hb dX4_goOn_10 (by decide)) (fun c_2 => ?_) (fun c_2 => ?_)
    · refine zz (fun _ _ => lv_iconst (v := 1) hx hb dX4_goOn_24 (by decide)) ?_
      refine zs (fun _ _ => lv_istore (lv' := [(4, .int (1)), (0, .ref (x + 20)), (1, .ref (x + ((61 + 6 * i) + 4))), (2, .ref (x + (4 + 1 + 2 * g9))), (3, .int (nI r9))]) hx hb dX4_goOn_25 hl (by decide) rfl) (fun ls hl => ?_)
      refine zz (fun _ _ => lv_iconst (v := 0) hx hb dX4_goOn_27 (by decide)) ?_
      refine zs (fun _ _ => lv_istore (lv' := [(5, .int (0)), (4, .int (1)), (0, .ref (x + 20)), (1, .ref (x + ((61 + 6 * i) + 4))), (2, .ref (x + (4 + 1 + 2 * g9))), (3, .int (nI r9))]) hx hb dX4_goOn_28 hl (by decide) rfl) (fun ls hl => ?_)
      have hl0 := lv_sub hl [2, 3, 4, 5, 1, 0] rfl
      refine z_loop (γ := (Nat → Nat → Int32) × (Nat → Nat → Int32) × Int32) (G := fun a => cm aC x a.1 a.2.1 R) (I := fun j a => goI iv av r9 acc w9 (cds p9) rw9 (ps.drop (r9 + 1)) σ j a.2.2 a.1 a.2.1) (lv := fun j a => [(0, .ref (x + 20)), (1, .ref (x + ((61 + 6 * i) + 4))), (2, .ref (x + (4 + 1 + 2 * g9))), (3, .int (nI r9)), (4, .int (a.2.2)), (5, .int (nI (j)))]) ((cds p9).length) ?_ ?_ (iv, av, 1) _ _ (goI_0 hS) hl0
      · intro j3 a3 sz ls hj3 hI3 hl ih3
        obtain ⟨iv3, av3, t3_4⟩ := a3
        dsimp only at hI3 hl ih3
        refine zeq (M' := (cm aC x iv3 av3 R)) rfl ?_
        have hG3 := hI3.1.G hg hG
        have hok8 := hop _ ((cds_mem hop).mp (getD_mem hj3))
        refine zz (fun _ _ => lv_iload hx hb dX4_goOn_30 (lv_at hl 5 rfl)) ?_
        refine zz (fun _ _ => lv_aload_n hx hb dX4_goOn_32 rfl (lv_at hl 2 rfl)) ?_
        refine z_get (v := .int (iv3 (4 + 1 + 2 * g9) 1)) C fd_X4_46 (rd_6 (ck_g hg)) rfl dX4_goOn_33 ?_
        refine zval (v' := .int (nI (cds p9).length)) (congrArg Value.int hG3.1) ?_
        refine zb (fun _ _ => lv_icmp_ge (tgt := 66) hx hb dX4_goOn_36 (by decide)) (fun c_4 => ?_) (fun c_4 => ?_)
        · exact absurd c_4 (nI_ge (by omega) (by omega))
        · refine zz (fun _ _ => lv_iload hx hb dX4_goOn_39 (lv_at hl 4 rfl)) ?_
          refine zb (fun _ _ => lv_if_eq (tgt := 66) hx hb dX4_goOn_41 (by decide)) (fun c_5 => ?_) (fun c_5 => ?_)
          · refine zz (fun _ _ => lv_iload hx hb dX4_goOn_66 (lv_at hl 4 rfl)) ?_
            exact z_zret C hr (bz (goP_b hI3)) hlk dX4_goOn_68 (zpI_mk (a := iv3) (b := av3) (by rw [drop_c erw9]; exact goI_out hI3 c_5))
          · refine zz (fun _ _ => lv_aload_n hx hb dX4_goOn_44 rfl (lv_at hl 0 rfl)) ?_
            refine zz (fun _ _ => lv_aload_n hx hb dX4_goOn_45 rfl (lv_at hl 1 rfl)) ?_
            refine zz (fun _ _ => lv_aload_n hx hb dX4_goOn_46 rfl (lv_at hl 2 rfl)) ?_
            refine zz (fun _ _ => lv_iload_n hx hb dX4_goOn_47 rfl (lv_at hl 3 rfl)) ?_
            refine zz (fun _ _ => lv_aload_n hx hb dX4_goOn_48 rfl (lv_at hl 2 rfl)) ?_
            refine z_get (v := .ref (x + ((4 + 1 + 2 * g9) + 1))) C fd_X4_51 (rd_6 (ck_g hg)) rfl dX4_goOn_49 ?_
            refine zz (fun _ _ => lv_iload hx hb dX4_goOn_52 (lv_at hl 5 rfl)) ?_
            refine z_iald (f := av3 ((4 + 1 + 2 * g9) + 1)) C (rd_7 (nb_6_1 (ck_g hg))) (by first | assumption | (apply vp_in_nI <;> omega)) dX4_goOn_54 ?_
            refine zval (v' := .int (nI ((cds p9).getD j3 0))) (congrArg Value.int (rdI (hG3.2.2 j3 hj3) (by omega))) ?_
            refine zqVI (As := [.ref (x + ((61 + 6 * i) + 4)), .ref (x + (4 + 1 + 2 * g9)), .int (nI r9), .int (nI ((cds p9).getD j3 0))]) (rest := []) C hl.1 lk_X4_54 (hX4_holdAgainst_3 hi (hI3.1.P hP) hg hG3 hop hlen (goI_S hI3 c_5) (hI3.1.V hV) erw9 hd hok8) (rd_9 (by decide)) rfl rfl rfl (Nat.le_of_ble_eq_true rfl) ⟨by decide, by decide, by decide, by decide⟩ dX4_goOn_55 (fun w6 iv6 av6 sz h6 => ?_)
            refine zeq (M' := (cm aC x iv6 av6 R)) rfl ?_
            refine zs (fun _ _ => lv_istore (lv' := [(4, .int (w6)), (0, .ref (x + 20)), (1, .ref (x + ((61 + 6 * i) + 4))), (2, .ref (x + (4 + 1 + 2 * g9))), (3, .int (nI r9)), (5, .int (nI (j3)))]) hx hb dX4_goOn_58 hl (by decide) rfl) (fun ls hl => ?_)
            refine zs (fun _ _ => lv_iinc (v := nI (j3) + 1) (lv' := [(5, .int (nI (j3) + 1)), (4, .int (w6)), (0, .ref (x + 20)), (1, .ref (x + ((61 + 6 * i) + 4))), (2, .ref (x + (4 + 1 + 2 * g9))), (3, .int (nI r9))]) hx hb dX4_goOn_60 hl (k := 5) rfl rfl (by decide) rfl) (fun ls hl => ?_)
            refine zz (fun _ _ => lv_goto (tgt := 30) hx hb dX4_goOn_63 (by decide)) ?_
            have hl := lv_sub hl [2, 3, 4, 5, 1, 0] rfl
            try simp only [nI_1] at hl
            exact ih3 (iv6, av6, w6) _ _ (goI_next hj3 hI3 h6) hl
      · intro a3 sz ls hI3 hl
        obtain ⟨iv3, av3, t3_4⟩ := a3
        dsimp only at hI3 hl
        refine zeq (M' := (cm aC x iv3 av3 R)) rfl ?_
        have hG3 := hI3.1.G hg hG
        refine zz (fun _ _ => lv_iload hx hb dX4_goOn_30 (lv_at hl 5 rfl)) ?_
        refine zz (fun _ _ => lv_aload_n hx hb dX4_goOn_32 rfl (lv_at hl 2 rfl)) ?_
        refine z_get (v := .int (iv3 (4 + 1 + 2 * g9) 1)) C fd_X4_46 (rd_6 (ck_g hg)) rfl dX4_goOn_33 ?_
        refine zval (v' := .int (nI (cds p9).length)) (congrArg Value.int hG3.1) ?_
        refine zb (fun _ _ => lv_icmp_ge (tgt := 66) hx hb dX4_goOn_36 (by decide)) (fun c_7 => ?_) (fun c_7 => ?_)
        · refine zz (fun _ _ => lv_iload hx hb dX4_goOn_66 (lv_at hl 4 rfl)) ?_
          exact z_zret C hr (bz (goP_b hI3)) hlk dX4_goOn_68 (zpI_mk (a := iv3) (b := av3) (by rw [drop_c erw9]; exact goI_end hI3))
        · exact absurd (nI_le (Nat.le_refl _) (by omega)) c_7
    · exact absurd (nI_lt (by omega) (by omega)) c_2
set_option maxHeartbeats 2000000 in
set_option maxRecDepth 10000 in
theorem hX4_holdAgainst_4 {l : Launch} {D : va_G} {aC : Nat → ClassId} {b0 sz : Nat} {x : Nat} {iv av : Nat → Nat → Int32} {R : ZM} {i g9 r9 w9 c9 : Nat} {ps : List Rw} {p9 : Nat → Bool} {t9 : Bool} {acc : List Sg} {σ : Sg} (hi : i < 12) (hP : PRc iv av i ps) (hg : g9 < 7) (hG : GC iv av (4 + 1 + 2 * g9) p9 t9) (hop : ∀ c, p9 c = true → okc c) (hlen : (cds p9).length ≤ 120) (hS : SE iv av acc w9) (hV : VA av r9 σ) {rw9 : Rw} (erw : ps[r9]? = some rw9) (hd : r9 + 4 = ps.length) (hc : okc c9) : Ct l D aC b0 yX4_holdAgainst cX4_holdAgainst 5 (some .boolean) 8 0 0 [.ref (x + 20), .ref (x + ((61 + 6 * i) + 4)), .ref (x + (4 + 1 + 2 * g9)), .int (nI r9), .int (nI c9)] (cm aC x iv av R) sz (zpI (fun iv av => cm aC x iv av R) (goP iv av r9 acc w9 (solP (cds p9) rw9 (ps.drop (r9 + 1)) σ [c9]) (wkP (cds p9) rw9 (ps.drop (r9 + 1)) σ [c9]))) := by
  refine Ct.of (by decide) (Nat.le_of_ble_eq_true rfl) ?_
  intro p e s m below meth c ls C hr hlk hnm hl
  have hl : lv_has ls 5 [(0, .ref (x + 20)), (1, .ref (x + ((61 + 6 * i) + 4))), (2, .ref (x + (4 + 1 + 2 * g9))), (3, .int (nI r9)), (4, .int (nI c9))] := hl
  obtain ⟨hx, hb, -, -, -⟩ := id C
  have hp4 := hP.2.1
  refine zz (fun _ _ => lv_aload_n hx hb dX4_holdAgainst_0 rfl (lv_at hl 0 rfl)) ?_
  refine zz (fun _ _ => lv_dup hx hb dX4_holdAgainst_1 rfl) ?_
  refine z_get (v := .int (iv 20 3)) C fd_X4_24 (rd_9 (by decide)) rfl dX4_holdAgainst_2 ?_
  refine zval (v' := .int (nI w9)) (congrArg Value.int hS.2.2.1) ?_
  refine zz (fun _ _ => lv_iconst (v := 1) hx hb dX4_holdAgainst_5 (by decide)) ?_
  refine zz (fun _ _ => lv_iadd hx hb dX4_holdAgainst_6) ?_
  refine zval (v' := .int (nI (w9 + 1))) (congrArg Value.int (nI_1 _)) ?_
  refine z_put C fp_X4_24 (fun h => by cases h) (rd_9 (by decide)) (Nat.le_of_ble_eq_true rfl) rfl rfl dX4_holdAgainst_7 ?_
  refine zeq (wr_9_3 (by decide)) ?_
  refine zz (fun _ _ => lv_aload_n hx hb dX4_holdAgainst_10 rfl (lv_at hl 0 rfl)) ?_
  refine z_get (v := .int (nI (w9 + 1))) C fd_X4_24 (rd_9 (by decide)) (by simp [u2]) dX4_holdAgainst_11 ?_
  refine zz (fun _ _ => lv_sipush (v := 5000) hx hb dX4_holdAgainst_14 (by decide)) ?_
  refine zval (v' := .int (nI 5000)) (congrArg Value.int rfl) ?_
  refine zb (fun _ _ => lv_icmp_le (tgt := 22) hx hb dX4_holdAgainst_17 (by decide)) (fun c_1 => ?_) (fun c_1 => ?_)
  · refine zz (fun _ _ => lv_aload_n hx hb dX4_holdAgainst_22 rfl (lv_at hl 0 rfl)) ?_
    refine zz (fun _ _ => lv_aload_n hx hb dX4_holdAgainst_23 rfl (lv_at hl 1 rfl)) ?_
    refine zz (fun _ _ => lv_iload_n hx hb dX4_holdAgainst_24 rfl (lv_at hl 3 rfl)) ?_
    refine zz (fun _ _ => lv_iload hx hb dX4_holdAgainst_25 (lv_at hl 4 rfl)) ?_
    refine zqVI (As := [.ref (x + ((61 + 6 * i) + 4)), .int (nI r9), .int (nI c9)]) (rest := []) C hl.1 lk_X4_58 (hX4_fits hi (FQc_w.P (row := r9) hP) erw hc hV) (rd_9 (by decide)) rfl rfl rfl (Nat.le_of_ble_eq_true rfl) ⟨by decide, by decide, by decide, by decide⟩ dX4_holdAgainst_27 (fun w2 iv2 av2 sz h2 => ?_)
    refine zeq (M' := (cm aC x iv2 av2 R)) rfl ?_
    refine zb (fun _ _ => lv_if_eq (tgt := 45) hx hb dX4_holdAgainst_30 (by decide)) (fun c_3 => ?_) (fun c_3 => ?_)
    · refine zz (fun _ _ => lv_iconst (v := 1) hx hb dX4_holdAgainst_45 (by decide)) ?_
      refine zz (fun _ _ => lv_goto (tgt := 50) hx hb dX4_holdAgainst_46 (by decide)) ?_
      exact z_zret C hr rfl hlk dX4_holdAgainst_50 (zpI_mk (a := iv2) (b := av2) (ho_n (by omega) hS c_1 h2 c_3))
    · obtain ⟨sx9, ex9, hx9⟩ := fc_ok h2 c_3
      have hq9 := fc_FQ (by omega) h2
      have hfq9 := FQc_w.trans (row := r9) hq9.1
      have hS9 := SE_av (SE_w hS c_1) hq9.2
      rw [← h2.1] at hS9
      refine zz (fun _ _ => lv_aload_n hx hb dX4_holdAgainst_33 rfl (lv_at hl 0 rfl)) ?_
      refine zz (fun _ _ => lv_aload_n hx hb dX4_holdAgainst_34 rfl (lv_at hl 1 rfl)) ?_
      refine zz (fun _ _ => lv_aload_n hx hb dX4_holdAgainst_35 rfl (lv_at hl 2 rfl)) ?_
      refine zz (fun _ _ => lv_iload_n hx hb dX4_holdAgainst_36 rfl (lv_at hl 3 rfl)) ?_
      refine zz (fun _ _ => lv_iconst (v := 1) hx hb dX4_holdAgainst_37 (by decide)) ?_
      refine zz (fun _ _ => lv_iadd hx hb dX4_holdAgainst_38) ?_
      refine zval (v' := .int (nI (r9 + 1))) (congrArg Value.int (nI_1 _)) ?_
      refine zqVI (As := [.ref (x + ((61 + 6 * i) + 4)), .ref (x + (4 + 1 + 2 * g9)), .int (nI (r9 + 1))]) (rest := []) C hl.1 lk_X4_33 (hX4_goOn_3 hi (hfq9.P hP) hg (hfq9.G hg hG) hop hlen hS9 hx9 (by omega)) (rd_9 (by decide)) rfl rfl rfl (Nat.le_of_ble_eq_true rfl) ⟨by decide, by decide, by decide, by decide⟩ dX4_holdAgainst_39 (fun w4 iv4 av4 sz h4 => ?_)
      refine zeq (M' := (cm aC x iv4 av4 R)) rfl ?_
      refine zb (fun _ _ => lv_if_eq (tgt := 49) hx hb dX4_holdAgainst_42 (by decide)) (fun c_5 => ?_) (fun c_5 => ?_)
      · refine zz (fun _ _ => lv_iconst (v := 0) hx hb dX4_holdAgainst_49 (by decide)) ?_
        exact z_zret C hr rfl hlk dX4_holdAgainst_50 (zpI_mk (a := iv4) (b := av4) (by have h9 := ho_s hfq9 ex9 h4; rw [c_5] at h9; exact h9))
      · refine zz (fun _ _ => lv_iconst (v := 1) hx hb dX4_holdAgainst_45 (by decide)) ?_
        refine zz (fun _ _ => lv_goto (tgt := 50) hx hb dX4_holdAgainst_46 (by decide)) ?_
        exact z_zret C hr rfl hlk dX4_holdAgainst_50 (zpI_mk (a := iv4) (b := av4) (by have h9 := ho_s hfq9 ex9 h4; rw [(goP_b h4).resolve_left c_5] at h9; exact h9))
  · refine zz (fun _ _ => lv_iconst (v := 0) hx hb dX4_holdAgainst_20 (by decide)) ?_
    exact z_zret C hr rfl hlk dX4_holdAgainst_21 (zpI_mk (a := (u2 iv 20 3 (nI (w9 + 1)))) (b := av) (ho_5 hS c_1))
set_option maxHeartbeats 2000000 in
set_option maxRecDepth 10000 in
theorem hX4_goOn_4 {l : Launch} {D : va_G} {aC : Nat → ClassId} {b0 sz : Nat} {x : Nat} {iv av : Nat → Nat → Int32} {R : ZM} {i g9 r9 w9 : Nat} {ps : List Rw} {p9 : Nat → Bool} {t9 : Bool} {acc : List Sg} {σ : Sg} (hi : i < 12) (hP : PRc iv av i ps) (hg : g9 < 7) (hG : GC iv av (4 + 1 + 2 * g9) p9 t9) (hop : ∀ c, p9 c = true → okc c) (hlen : (cds p9).length ≤ 120) (hS : SE iv av acc w9) (hV : VA av r9 σ) (hd : r9 + 4 = ps.length) : Ct l D aC b0 yX4_goOn cX4_goOn 6 (some .boolean) 9 0 0 [.ref (x + 20), .ref (x + ((61 + 6 * i) + 4)), .ref (x + (4 + 1 + 2 * g9)), .int (nI r9)] (cm aC x iv av R) sz (zpI (fun iv av => cm aC x iv av R) (goP iv av r9 acc w9 (sols (cds p9) (ps.drop r9) σ) (wk (cds p9) (ps.drop r9) σ))) := by
  refine Ct.of (by decide) (Nat.le_of_ble_eq_true rfl) ?_
  intro p e s m below meth c ls C hr hlk hnm hl
  have hl : lv_has ls 6 [(0, .ref (x + 20)), (1, .ref (x + ((61 + 6 * i) + 4))), (2, .ref (x + (4 + 1 + 2 * g9))), (3, .int (nI r9))] := hl
  obtain ⟨hx, hb, -, -, -⟩ := id C
  have hp4 := hP.2.1
  obtain ⟨rw9, erw9⟩ : ∃ t, ps[r9]? = some t := ⟨_, List.getElem?_eq_getElem (by omega)⟩
  refine zz (fun _ _ => lv_iload_n hx hb dX4_goOn_0 rfl (lv_at hl 3 rfl)) ?_
  refine zz (fun _ _ => lv_aload_n hx hb dX4_goOn_1 rfl (lv_at hl 1 rfl)) ?_
  refine z_get (v := .int (iv ((61 + 6 * i) + 4) 2)) C fd_X4_37 (rd_14 (nb_18_4 (ck_s hi))) rfl dX4_goOn_2 ?_
  refine zval (v' := .int (nI ps.length)) (congrArg Value.int hP.1) ?_
  refine zb (fun _ _ => lv_icmp_ge (tgt := 13) hx hb dX4_goOn_5 (by decide)) (fun c_1 => ?_) (fun c_1 => ?_)
  · exact absurd c_1 (nI_ge (by omega) (by omega))
  · refine zz (fun _ _ => lv_iload_n hx hb dX4_goOn_8 rfl (lv_at hl 3 rfl)) ?_
    refine zz (fun _ _ => lv_iconst (v := 4) hx hb dX4_goOn_9 (by decide)) ?_
    refine zval (v' := .int (nI 4)) (congrArg Value.int rfl) ?_
    refine zb (fun _ _ => lv_icmp_lt (tgt := 24) hx hb dX4_goOn_10 (by decide)) (fun c_2 => ?_) (fun c_2 => ?_)
    · refine zz (fun _ _ => lv_iconst (v := 1) hx hb dX4_goOn_24 (by decide)) ?_
      refine zs (fun _ _ => lv_istore (lv' := [(4, .int (1)), (0, .ref (x + 20)), (1, .ref (x + ((61 + 6 * i) + 4))), (2, .ref (x + (4 + 1 + 2 * g9))), (3, .int (nI r9))]) hx hb dX4_goOn_25 hl (by decide) rfl) (fun ls hl => ?_)
      refine zz (fun _ _ => lv_iconst (v := 0) hx hb dX4_goOn_27 (by decide)) ?_
      refine zs (fun _ _ => lv_istore (lv' := [(5, .int (0)), (4, .int (1)), (0, .ref (x + 20)), (1, .ref (x + ((61 + 6 * i) + 4))), (2, .ref (x + (4 + 1 + 2 * g9))), (3, .int (nI r9))]) hx hb dX4_goOn_28 hl (by decide) rfl) (fun ls hl => ?_)
      have hl0 := lv_sub hl [2, 3, 4, 5, 1, 0] rfl
      refine z_loop (γ := (Nat → Nat → Int32) × (Nat → Nat → Int32) × Int32) (G := fun a => cm aC x a.1 a.2.1 R) (I := fun j a => goI iv av r9 acc w9 (cds p9) rw9 (ps.drop (r9 + 1)) σ j a.2.2 a.1 a.2.1) (lv := fun j a => [(0, .ref (x + 20)), (1, .ref (x + ((61 + 6 * i) + 4))), (2, .ref (x + (4 + 1 + 2 * g9))), (3, .int (nI r9)), (4, .int (a.2.2)), (5, .int (nI (j)))]) ((cds p9).length) ?_ ?_ (iv, av, 1) _ _ (goI_0 hS) hl0
      · intro j3 a3 sz ls hj3 hI3 hl ih3
        obtain ⟨iv3, av3, t3_4⟩ := a3
        dsimp only at hI3 hl ih3
        refine zeq (M' := (cm aC x iv3 av3 R)) rfl ?_
        have hG3 := hI3.1.G hg hG
        have hok8 := hop _ ((cds_mem hop).mp (getD_mem hj3))
        refine zz (fun _ _ => lv_iload hx hb dX4_goOn_30 (lv_at hl 5 rfl)) ?_
        refine zz (fun _ _ => lv_aload_n hx hb dX4_goOn_32 rfl (lv_at hl 2 rfl)) ?_
        refine z_get (v := .int (iv3 (4 + 1 + 2 * g9) 1)) C fd_X4_46 (rd_6 (ck_g hg)) rfl dX4_goOn_33 ?_
        refine zval (v' := .int (nI (cds p9).length)) (congrArg Value.int hG3.1) ?_
        refine zb (fun _ _ => lv_icmp_ge (tgt := 66) hx hb dX4_goOn_36 (by decide)) (fun c_4 => ?_) (fun c_4 => ?_)
        · exact absurd c_4 (nI_ge (by omega) (by omega))
        · refine zz (fun _ _ => lv_iload hx hb dX4_goOn_39 (lv_at hl 4 rfl)) ?_
          refine zb (fun _ _ => lv_if_eq (tgt := 66) hx hb dX4_goOn_41 (by decide)) (fun c_5 => ?_) (fun c_5 => ?_)
          · refine zz (fun _ _ => lv_iload hx hb dX4_goOn_66 (lv_at hl 4 rfl)) ?_
            exact z_zret C hr (bz (goP_b hI3)) hlk dX4_goOn_68 (zpI_mk (a := iv3) (b := av3) (by rw [drop_c erw9]; exact goI_out hI3 c_5))
          · refine zz (fun _ _ => lv_aload_n hx hb dX4_goOn_44 rfl (lv_at hl 0 rfl)) ?_
            refine zz (fun _ _ => lv_aload_n hx hb dX4_goOn_45 rfl (lv_at hl 1 rfl)) ?_
            refine zz (fun _ _ => lv_aload_n hx hb dX4_goOn_46 rfl (lv_at hl 2 rfl)) ?_
            refine zz (fun _ _ => lv_iload_n hx hb dX4_goOn_47 rfl (lv_at hl 3 rfl)) ?_
            refine zz (fun _ _ => lv_aload_n hx hb dX4_goOn_48 rfl (lv_at hl 2 rfl)) ?_
            refine z_get (v := .ref (x + ((4 + 1 + 2 * g9) + 1))) C fd_X4_51 (rd_6 (ck_g hg)) rfl dX4_goOn_49 ?_
            refine zz (fun _ _ => lv_iload hx hb dX4_goOn_52 (lv_at hl 5 rfl)) ?_
            refine z_iald (f := av3 ((4 + 1 + 2 * g9) + 1)) C (rd_7 (nb_6_1 (ck_g hg))) (by first | assumption | (apply vp_in_nI <;> omega)) dX4_goOn_54 ?_
            refine zval (v' := .int (nI ((cds p9).getD j3 0))) (congrArg Value.int (rdI (hG3.2.2 j3 hj3) (by omega))) ?_
            refine zqVI (As := [.ref (x + ((61 + 6 * i) + 4)), .ref (x + (4 + 1 + 2 * g9)), .int (nI r9), .int (nI ((cds p9).getD j3 0))]) (rest := []) C hl.1 lk_X4_54 (hX4_holdAgainst_4 hi (hI3.1.P hP) hg hG3 hop hlen (goI_S hI3 c_5) (hI3.1.V hV) erw9 hd hok8) (rd_9 (by decide)) rfl rfl rfl (Nat.le_of_ble_eq_true rfl) ⟨by decide, by decide, by decide, by decide⟩ dX4_goOn_55 (fun w6 iv6 av6 sz h6 => ?_)
            refine zeq (M' := (cm aC x iv6 av6 R)) rfl ?_
            refine zs (fun _ _ => lv_istore (lv' := [(4, .int (w6)), (0, .ref (x + 20)), (1, .ref (x + ((61 + 6 * i) + 4))), (2, .ref (x + (4 + 1 + 2 * g9))), (3, .int (nI r9)), (5, .int (nI (j3)))]) hx hb dX4_goOn_58 hl (by decide) rfl) (fun ls hl => ?_)
            refine zs (fun _ _ => lv_iinc (v := nI (j3) + 1) (lv' := [(5, .int (nI (j3) + 1)), (4, .int (w6)), (0, .ref (x + 20)), (1, .ref (x + ((61 + 6 * i) + 4))), (2, .ref (x + (4 + 1 + 2 * g9))), (3, .int (nI r9))]) hx hb dX4_goOn_60 hl (k := 5) rfl rfl (by decide) rfl) (fun ls hl => ?_)
            refine zz (fun _ _ => lv_goto (tgt := 30) hx hb dX4_goOn_63 (by decide)) ?_
            have hl := lv_sub hl [2, 3, 4, 5, 1, 0] rfl
            try simp only [nI_1] at hl
            exact ih3 (iv6, av6, w6) _ _ (goI_next hj3 hI3 h6) hl
      · intro a3 sz ls hI3 hl
        obtain ⟨iv3, av3, t3_4⟩ := a3
        dsimp only at hI3 hl
        refine zeq (M' := (cm aC x iv3 av3 R)) rfl ?_
        have hG3 := hI3.1.G hg hG
        refine zz (fun _ _ => lv_iload hx hb dX4_goOn_30 (lv_at hl 5 rfl)) ?_
        refine zz (fun _ _ => lv_aload_n hx hb dX4_goOn_32 rfl (lv_at hl 2 rfl)) ?_
        refine z_get (v := .int (iv3 (4 + 1 + 2 * g9) 1)) C fd_X4_46 (rd_6 (ck_g hg)) rfl dX4_goOn_33 ?_
        refine zval (v' := .int (nI (cds p9).length)) (congrArg Value.int hG3.1) ?_
        refine zb (fun _ _ => lv_icmp_ge (tgt := 66) hx hb dX4_goOn_36 (by decide)) (fun c_7 => ?_) (fun c_7 => ?_)
        · refine zz (fun _ _ => lv_iload hx hb dX4_goOn_66 (lv_at hl 4 rfl)) ?_
          exact z_zret C hr (bz (goP_b hI3)) hlk dX4_goOn_68 (zpI_mk (a := iv3) (b := av3) (by rw [drop_c erw9]; exact goI_end hI3))
        · exact absurd (nI_le (Nat.le_refl _) (by omega)) c_7
    · exact absurd (nI_lt (by omega) (by omega)) c_2
end
