set_option maxHeartbeats 2000000 in
set_option maxRecDepth 10000 in
theorem hX2_insert {l : Launch} {D : va_G} {aC : Nat → ClassId} {b0 sz : Nat} {x : Nat} {iv av : Nat → Nat → Int32} {R : ZM} {k c9 : Nat} {p9 : Nat → Bool} {t9 : Bool} (hk : ck k = 6) (hG : GC iv av k p9 t9) (ho : ∀ c, p9 c = true → okc c) (hn : (cds p9).length < 120) (hc : okc c9) (hp : p9 c9 = false) : Ct l D aC b0 yX2_insert cX2_insert 3 none 1 0 0 [.ref (x + k), .int (nI c9)] (cm aC x iv av R) sz (zpN (fun iv av => cm aC x iv av R) (fun iv' av' => GC iv' av' k (pC p9 c9 true) t9 ∧ GF k iv av iv' av')) := by
  refine Ct.of (by decide) (Nat.le_of_ble_eq_true rfl) ?_
  intro p e s m below meth c ls C hr hlk hnm hl
  have hl : lv_has ls 3 [(0, .ref (x + k)), (1, .int (nI c9))] := hl
  obtain ⟨hx, hb, -, -, -⟩ := id C
  obtain ⟨q9, eq9, hq9, hlo9, hhi9⟩ := place_s hG ho (by omega) (show c9 < 2 ^ 31 by have := okc_lt hc; omega)
  refine zz (fun _ _ => lv_aload_n hx hb dX2_insert_0 rfl (lv_at hl 0 rfl)) ?_
  refine zz (fun _ _ => lv_iload_n hx hb dX2_insert_1 rfl (lv_at hl 1 rfl)) ?_
  refine zdV (As := [.int (nI c9)]) (rest := []) (st' := [.int ((fX2_placeOf iv av k (nI c9)))]) C hl.1 lk_X2_23 (ctX2_placeOf hk hG.1 (by omega)) (rd_6 hk) rfl rfl rfl (Nat.le_of_ble_eq_true rfl) ⟨by decide, by decide, by decide, by decide⟩ dX2_insert_2 rfl (fun sz => ?_)
  refine zval (v' := .int (nI q9)) (congrArg Value.int eq9) ?_
  refine zs (fun _ _ => lv_istore_n (lv' := [(2, .int (nI q9)), (0, .ref (x + k)), (1, .int (nI c9))]) hx hb dX2_insert_5 rfl hl (by decide) rfl) (fun ls hl => ?_)
  refine zz (fun _ _ => lv_aload_n hx hb dX2_insert_6 rfl (lv_at hl 1 rfl)) ?_
  refine z_get (v := .int (iv k 1)) C fd_X2_15 (rd_6 hk) rfl dX2_insert_7 ?_
  refine zval (v' := .int (nI (cds p9).length)) (congrArg Value.int hG.1) ?_
  refine zz (fun _ _ => lv_bipush (v := 120) hx hb dX2_insert_10 (by decide)) ?_
  refine zval (v' := .int (nI 120)) (congrArg Value.int rfl) ?_
  refine zb (fun _ _ => lv_icmp_ge (tgt := 53) hx hb dX2_insert_12 (by decide)) (fun c_1 => ?_) (fun c_1 => ?_)
  · exact absurd c_1 (nI_ge (by omega) (by omega))
  · refine zz (fun _ _ => lv_aload_n hx hb dX2_insert_15 rfl (lv_at hl 1 rfl)) ?_
    refine z_get (v := .ref (x + (k + 1))) C fd_X2_9 (rd_6 hk) rfl dX2_insert_16 ?_
    refine zz (fun _ _ => lv_iload_n hx hb dX2_insert_19 rfl (lv_at hl 0 rfl)) ?_
    refine zz (fun _ _ => lv_aload_n hx hb dX2_insert_20 rfl (lv_at hl 1 rfl)) ?_
    refine z_get (v := .ref (x + (k + 1))) C fd_X2_9 (rd_6 hk) rfl dX2_insert_21 ?_
    refine zz (fun _ _ => lv_iload_n hx hb dX2_insert_24 rfl (lv_at hl 0 rfl)) ?_
    refine zz (fun _ _ => lv_iconst (v := 1) hx hb dX2_insert_25 (by decide)) ?_
    refine zz (fun _ _ => lv_iadd hx hb dX2_insert_26) ?_
    refine zval (v' := .int (nI (q9 + 1))) (congrArg Value.int (nI_1 _)) ?_
    refine zz (fun _ _ => lv_aload_n hx hb dX2_insert_27 rfl (lv_at hl 1 rfl)) ?_
    refine z_get (v := .int (iv k 1)) C fd_X2_15 (rd_6 hk) rfl dX2_insert_28 ?_
    refine zval (v' := .int (nI (cds p9).length)) (congrArg Value.int hG.1) ?_
    refine zz (fun _ _ => lv_iload_n hx hb dX2_insert_31 rfl (lv_at hl 0 rfl)) ?_
    refine zz (fun _ _ => lv_isub hx hb dX2_insert_32) ?_
    refine zval (v' := .int (nI ((cds p9).length - q9))) (congrArg Value.int (pk_sub hq9)) ?_
    refine z_copy C hl.1 ac_X2_27 (rd_7 (nb_6_1 hk)) (rd_7 (nb_6_1 hk)) (nI_pos (by omega)) (nI_pos (by omega)) (nI_pos (by omega)) (by rw [nI_clamp (by omega), nI_clamp (by omega)]; omega) (by rw [nI_clamp (by omega), nI_clamp (by omega)]; omega) (by decide) (by decide) dX2_insert_33 (fun sz => ?_)
    refine zeq (wr_7 (nb_6_1 hk)) ?_
    refine zz (fun _ _ => lv_aload_n hx hb dX2_insert_36 rfl (lv_at hl 1 rfl)) ?_
    refine z_get (v := .ref (x + (k + 1))) C fd_X2_9 (rd_6 hk) rfl dX2_insert_37 ?_
    refine zz (fun _ _ => lv_iload_n hx hb dX2_insert_40 rfl (lv_at hl 0 rfl)) ?_
    refine zz (fun _ _ => lv_iload_n hx hb dX2_insert_41 rfl (lv_at hl 2 rfl)) ?_
    refine z_iast (n := 120) (f := (va_cpy (av (k + 1)) (av (k + 1)) (Int32.toNatClampNeg (nI q9)) (Int32.toNatClampNeg (nI (q9 + 1))) (Int32.toNatClampNeg (nI ((cds p9).length - q9))))) C ((rd_7 (nb_6_1 hk)).trans (by simp [u1])) (by first | assumption | (apply vp_in_nI <;> omega)) dX2_insert_42 ?_
    refine zeq (wr_7 (nb_6_1 hk)) ?_
    refine zz (fun _ _ => lv_aload_n hx hb dX2_insert_43 rfl (lv_at hl 1 rfl)) ?_
    refine zz (fun _ _ => lv_dup hx hb dX2_insert_44 rfl) ?_
    refine z_get (v := .int (iv k 1)) C fd_X2_15 (rd_6 hk) rfl dX2_insert_45 ?_
    refine zval (v' := .int (nI (cds p9).length)) (congrArg Value.int hG.1) ?_
    refine zz (fun _ _ => lv_iconst (v := 1) hx hb dX2_insert_48 (by decide)) ?_
    refine zz (fun _ _ => lv_iadd hx hb dX2_insert_49) ?_
    refine zval (v' := .int (nI ((cds p9).length + 1))) (congrArg Value.int (nI_1 _)) ?_
    refine z_put C fp_X2_15 (fun h => by cases h) (rd_6 hk) (Nat.le_of_ble_eq_true rfl) rfl rfl dX2_insert_50 ?_
    refine zeq (wr_6_1 hk) ?_
    exact z_vret C hr hlk dX2_insert_53 (zpN_mk (a := (u2 iv k 1 (nI ((cds p9).length + 1)))) (b := (u1 (u1 av (k + 1) (va_cpy (av (k + 1)) (av (k + 1)) (Int32.toNatClampNeg (nI q9)) (Int32.toNatClampNeg (nI (q9 + 1))) (Int32.toNatClampNeg (nI ((cds p9).length - q9))))) (k + 1) (upd ((va_cpy (av (k + 1)) (av (k + 1)) (Int32.toNatClampNeg (nI q9)) (Int32.toNatClampNeg (nI (q9 + 1))) (Int32.toNatClampNeg (nI ((cds p9).length - q9))))) (Int32.toNatClampNeg (nI q9)) (nI c9)))) (ins_end hG ho hn hc hp hq9 hlo9 hhi9))
set_option maxHeartbeats 2000000 in
set_option maxRecDepth 10000 in
theorem hX2_remove {l : Launch} {D : va_G} {aC : Nat → ClassId} {b0 sz : Nat} {x : Nat} {iv av : Nat → Nat → Int32} {R : ZM} {k c9 : Nat} {p9 : Nat → Bool} {t9 : Bool} (hk : ck k = 6) (hG : GC iv av k p9 t9) (ho : ∀ c, p9 c = true → okc c) (hn : (cds p9).length ≤ 120) (hc : okc c9) : Ct l D aC b0 yX2_remove cX2_remove 3 none 1 0 0 [.ref (x + k), .int (nI c9)] (cm aC x iv av R) sz (zpN (fun iv av => cm aC x iv av R) (fun iv' av' => GC iv' av' k (pC p9 c9 false) t9 ∧ GF k iv av iv' av')) := by
  refine Ct.of (by decide) (Nat.le_of_ble_eq_true rfl) ?_
  intro p e s m below meth c ls C hr hlk hnm hl
  have hl : lv_has ls 3 [(0, .ref (x + k)), (1, .int (nI c9))] := hl
  obtain ⟨hx, hb, -, -, -⟩ := id C
  have hc9 : c9 < 2 ^ 31 := by have := okc_lt hc; omega
  obtain ⟨q9, eq9, hq9, hlo9, hhi9⟩ := place_s hG ho (by omega) hc9
  have hm9 := (place_mem hq9 hlo9 hhi9).symm.trans (cds_mem ho)
  refine zz (fun _ _ => lv_aload_n hx hb dX2_remove_0 rfl (lv_at hl 0 rfl)) ?_
  refine zz (fun _ _ => lv_iload_n hx hb dX2_remove_1 rfl (lv_at hl 1 rfl)) ?_
  refine zdV (As := [.int (nI c9)]) (rest := []) (st' := [.int ((fX2_placeOf iv av k (nI c9)))]) C hl.1 lk_X2_23 (ctX2_placeOf hk hG.1 (by omega)) (rd_6 hk) rfl rfl rfl (Nat.le_of_ble_eq_true rfl) ⟨by decide, by decide, by decide, by decide⟩ dX2_remove_2 rfl (fun sz => ?_)
  refine zval (v' := .int (nI q9)) (congrArg Value.int eq9) ?_
  refine zs (fun _ _ => lv_istore_n (lv' := [(2, .int (nI q9)), (0, .ref (x + k)), (1, .int (nI c9))]) hx hb dX2_remove_5 rfl hl (by decide) rfl) (fun ls hl => ?_)
  refine zz (fun _ _ => lv_iload_n hx hb dX2_remove_6 rfl (lv_at hl 0 rfl)) ?_
  refine zz (fun _ _ => lv_aload_n hx hb dX2_remove_7 rfl (lv_at hl 1 rfl)) ?_
  refine z_get (v := .int (iv k 1)) C fd_X2_15 (rd_6 hk) rfl dX2_remove_8 ?_
  refine zval (v' := .int (nI (cds p9).length)) (congrArg Value.int hG.1) ?_
  refine zb (fun _ _ => lv_icmp_ge (tgt := 57) hx hb dX2_remove_11 (by decide)) (fun c_1 => ?_) (fun c_1 => ?_)
  · exact z_vret C hr hlk dX2_remove_57 (zpN_mk (a := iv) (b := av) (rem_no hG (Bool.eq_false_iff.mpr (fun r => by have h9 := hm9.mpr r; exact nI_ge h9.1 (by omega) c_1))))
  · have hlt9 : q9 < (cds p9).length := Nat.lt_of_not_le (fun q => c_1 (nI_le q (by omega)))
    have hb9 := cds_lt ho hlt9
    refine zz (fun _ _ => lv_aload_n hx hb dX2_remove_14 rfl (lv_at hl 1 rfl)) ?_
    refine z_get (v := .ref (x + (k + 1))) C fd_X2_9 (rd_6 hk) rfl dX2_remove_15 ?_
    refine zz (fun _ _ => lv_iload_n hx hb dX2_remove_18 rfl (lv_at hl 0 rfl)) ?_
    refine z_iald (f := av (k + 1)) C (rd_7 (nb_6_1 hk)) (by first | assumption | (apply vp_in_nI <;> omega)) dX2_remove_19 ?_
    refine zval (v' := .int (nI ((cds p9).getD q9 0))) (congrArg Value.int (rdI (hG.2.2 q9 hlt9) (by omega))) ?_
    refine zz (fun _ _ => lv_iload_n hx hb dX2_remove_20 rfl (lv_at hl 2 rfl)) ?_
    refine zbn (fun _ _ => lv_icmp_ne (tgt := 57) hx hb dX2_remove_21 (by decide)) (fun c_2 => ?_) (fun c_2 => ?_)
    · exact z_vret C hr hlk dX2_remove_57 (zpN_mk (a := iv) (b := av) (rem_no hG (Bool.eq_false_iff.mpr (fun r => by have h9 := hm9.mpr r; exact c_2 (by rw [h9.2])))))
    · refine zz (fun _ _ => lv_aload_n hx hb dX2_remove_24 rfl (lv_at hl 1 rfl)) ?_
      refine z_get (v := .ref (x + (k + 1))) C fd_X2_9 (rd_6 hk) rfl dX2_remove_25 ?_
      refine zz (fun _ _ => lv_iload_n hx hb dX2_remove_28 rfl (lv_at hl 0 rfl)) ?_
      refine zz (fun _ _ => lv_iconst (v := 1) hx hb dX2_remove_29 (by decide)) ?_
      refine zz (fun _ _ => lv_iadd hx hb dX2_remove_30) ?_
      refine zval (v' := .int (nI (q9 + 1))) (congrArg Value.int (nI_1 _)) ?_
      refine zz (fun _ _ => lv_aload_n hx hb dX2_remove_31 rfl (lv_at hl 1 rfl)) ?_
      refine z_get (v := .ref (x + (k + 1))) C fd_X2_9 (rd_6 hk) rfl dX2_remove_32 ?_
      refine zz (fun _ _ => lv_iload_n hx hb dX2_remove_35 rfl (lv_at hl 0 rfl)) ?_
      refine zz (fun _ _ => lv_aload_n hx hb dX2_remove_36 rfl (lv_at hl 1 rfl)) ?_
      refine z_get (v := .int (iv k 1)) C fd_X2_15 (rd_6 hk) rfl dX2_remove_37 ?_
      refine zval (v' := .int (nI (cds p9).length)) (congrArg Value.int hG.1) ?_
      refine zz (fun _ _ => lv_iload_n hx hb dX2_remove_40 rfl (lv_at hl 0 rfl)) ?_
      refine zz (fun _ _ => lv_isub hx hb dX2_remove_41) ?_
      refine zval (v' := .int (nI ((cds p9).length - q9))) (congrArg Value.int (pk_sub hq9)) ?_
      refine zz (fun _ _ => lv_iconst (v := 1) hx hb dX2_remove_42 (by decide)) ?_
      refine zz (fun _ _ => lv_isub hx hb dX2_remove_43) ?_
      refine zval (v' := .int (nI ((cds p9).length - q9 - 1))) (congrArg Value.int (pk_sub (b := 1) (by omega))) ?_
      refine z_copy C hl.1 ac_X2_27 (rd_7 (nb_6_1 hk)) (rd_7 (nb_6_1 hk)) (nI_pos (by omega)) (nI_pos (by omega)) (nI_pos (by omega)) (by rw [nI_clamp (by omega), nI_clamp (by omega)]; omega) (by rw [nI_clamp (by omega), nI_clamp (by omega)]; omega) (by decide) (by decide) dX2_remove_44 (fun sz => ?_)
      refine zeq (wr_7 (nb_6_1 hk)) ?_
      refine zz (fun _ _ => lv_aload_n hx hb dX2_remove_47 rfl (lv_at hl 1 rfl)) ?_
      refine zz (fun _ _ => lv_dup hx hb dX2_remove_48 rfl) ?_
      refine z_get (v := .int (iv k 1)) C fd_X2_15 (rd_6 hk) rfl dX2_remove_49 ?_
      refine zval (v' := .int (nI (cds p9).length)) (congrArg Value.int hG.1) ?_
      refine zz (fun _ _ => lv_iconst (v := 1) hx hb dX2_remove_52 (by decide)) ?_
      refine zz (fun _ _ => lv_isub hx hb dX2_remove_53) ?_
      refine zval (v' := .int (nI ((cds p9).length - 1))) (congrArg Value.int (pk_sub (b := 1) (by omega))) ?_
      refine z_put C fp_X2_15 (fun h => by cases h) (rd_6 hk) (Nat.le_of_ble_eq_true rfl) rfl rfl dX2_remove_54 ?_
      refine zeq (wr_6_1 hk) ?_
      exact z_vret C hr hlk dX2_remove_57 (zpN_mk (a := (u2 iv k 1 (nI ((cds p9).length - 1)))) (b := (u1 av (k + 1) (va_cpy (av (k + 1)) (av (k + 1)) (Int32.toNatClampNeg (nI (q9 + 1))) (Int32.toNatClampNeg (nI q9)) (Int32.toNatClampNeg (nI ((cds p9).length - q9 - 1)))))) (rem_end hG ho hn hlt9 ((nI_eq (by omega) hc9).mp c_2)))
theorem ck_g {g : Nat} (h : g < 7) : ck (4 + 1 + 2 * g) = 6 := kp_5 (k := 4) (by decide) h
set_option maxHeartbeats 2000000 in
set_option maxRecDepth 10000 in
theorem hX6_put {l : Launch} {D : va_G} {aC : Nat → ClassId} {b0 sz : Nat} {x : Nat} {iv av : Nat → Nat → Int32} {R : ZM} {g c9 : Nat} {S : St} (hg : g < 7) (hS : SC iv av S) (hc : okc c9) : Ct l D aC b0 yX6_put cX6_put 3 (some .boolean) 2 0 0 [.ref (x + 3), .ref (x + (4 + 1 + 2 * g)), .int (nI c9)] (cm aC x iv av R) sz (zpI (fun iv av => cm aC x iv av R) (ptP iv av S g c9)) := by
  refine Ct.of (by decide) (Nat.le_of_ble_eq_true rfl) ?_
  intro p e s m below meth c ls C hr hlk hnm hl
  have hl : lv_has ls 3 [(0, .ref (x + 3)), (1, .ref (x + (4 + 1 + 2 * g))), (2, .int (nI c9))] := hl
  obtain ⟨hx, hb, -, -, -⟩ := id C
  have hc9 : c9 < 2 ^ 31 := by have := okc_lt hc; omega
  have hS9 := SC_there hS hg
  have hG9 := hS9.2.1 g hg
  rw [show (((S.1, tS S.2.1 g true, S.2.2) : St).2.1 g) = true by simp [tS]] at hG9
  refine zz (fun _ _ => lv_aload_n hx hb dX6_put_0 rfl (lv_at hl 1 rfl)) ?_
  refine zz (fun _ _ => lv_iconst (v := 1) hx hb dX6_put_1 (by decide)) ?_
  refine z_put C fp_X6_22 (fun h => by cases h) (rd_6 (ck_g hg)) (Nat.le_of_ble_eq_true rfl) rfl rfl dX6_put_2 ?_
  refine zeq (wr_6_2 (ck_g hg)) ?_
  refine zz (fun _ _ => lv_aload_n hx hb dX6_put_5 rfl (lv_at hl 1 rfl)) ?_
  refine zz (fun _ _ => lv_iload_n hx hb dX6_put_6 rfl (lv_at hl 2 rfl)) ?_
  refine zdV (As := [.int (nI c9)]) (rest := []) (st' := [.int ((fX2_holds (u2 iv (4 + 1 + 2 * g) 2 (1)) av (4 + 1 + 2 * g) (nI c9)))]) C hl.1 lk_X6_29 (ctX2_holds (ck_g hg) (hS9.2.1 g hg).1 (SC_len hS hg)) (rd_6 (ck_g hg)) rfl rfl rfl (Nat.le_of_ble_eq_true rfl) ⟨by decide, by decide, by decide, by decide⟩ dX6_put_7 rfl (fun sz => ?_)
  refine zval (v' := .int (tI (S.1 g c9))) (congrArg Value.int (holds_s (hS9.2.1 g hg) (okP_g hS.1.1 g) (SC_len hS hg) hc9)) ?_
  refine zb (fun _ _ => lv_if_eq (tgt := 15) hx hb dX6_put_10 (by decide)) (fun c_1 => ?_) (fun c_1 => ?_)
  · refine zz (fun _ _ => lv_aload_n hx hb dX6_put_15 rfl (lv_at hl 0 rfl)) ?_
    refine zdV (As := []) (rest := []) (st' := [.int ((fX6_factCount (u2 iv (4 + 1 + 2 * g) 2 (1)) 3))]) C hl.1 lk_X6_33 (ctX6_factCount (by decide)) (rd_4 (by decide)) rfl rfl rfl (Nat.le_of_ble_eq_true rfl) ⟨by decide, by decide, by decide, by decide⟩ dX6_put_16 rfl (fun sz => ?_)
    refine zval (v' := .int (nI (card S.1))) (congrArg Value.int (by have h9 := factCount_s hS9; exact h9)) ?_
    refine zz (fun _ _ => lv_bipush (v := 120) hx hb dX6_put_19 (by decide)) ?_
    refine zval (v' := .int (nI 120)) (congrArg Value.int rfl) ?_
    refine zb (fun _ _ => lv_icmp_lt (tgt := 26) hx hb dX6_put_21 (by decide)) (fun c_2 => ?_) (fun c_2 => ?_)
    · refine zz (fun _ _ => lv_aload_n hx hb dX6_put_26 rfl (lv_at hl 1 rfl)) ?_
      refine zz (fun _ _ => lv_iload_n hx hb dX6_put_27 rfl (lv_at hl 2 rfl)) ?_
      refine zqVN (As := [.int (nI c9)]) (rest := []) C hl.1 lk_X6_37 (hX2_insert (ck_g hg) hG9 (okP_g hS.1.1 g) (Nat.lt_of_le_of_lt (cds_le_card S.1 hg) ((nI_ltI (by have := hS.1.2.1; omega) (by decide)).mp c_2)) hc (tI_0.mp c_1)) (rd_6 (ck_g hg)) rfl rfl rfl (Nat.le_of_ble_eq_true rfl) ⟨by decide, by decide, by decide, by decide⟩ dX6_put_28 (fun iv3 av3 sz h3 => ?_)
      refine zeq (M' := (cm aC x iv3 av3 R)) rfl ?_
      refine zz (fun _ _ => lv_iconst (v := 1) hx hb dX6_put_31 (by decide)) ?_
      exact z_zret C hr rfl hlk dX6_put_32 (zpI_mk (a := iv3) (b := av3) (pt_in hS hg hc c_1 c_2 h3))
    · refine zz (fun _ _ => lv_iconst (v := 0) hx hb dX6_put_24 (by decide)) ?_
      exact z_zret C hr rfl hlk dX6_put_25 (zpI_mk (a := (u2 iv (4 + 1 + 2 * g) 2 (1))) (b := av) (pt_no hS hg c_1 c_2))
  · refine zz (fun _ _ => lv_iconst (v := 1) hx hb dX6_put_13 (by decide)) ?_
    exact z_zret C hr rfl hlk dX6_put_14 (zpI_mk (a := (u2 iv (4 + 1 + 2 * g) 2 (1))) (b := av) (pt_has hS hg c_1))
