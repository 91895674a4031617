set_option maxHeartbeats 2000000 in
set_option maxRecDepth 10000 in
theorem hX7_bringGraph {l : Launch} {D : va_G} {aC : Nat → ClassId} {b0 sz : Nat} {x : Nat} {iv av : Nat → Nat → Int32} {R : ZM} {i k f t : Nat} {S : St} (hi : i < 12) (hk6 : 6 ≤ k) (hk8 : k ≤ 8) (hf7 : f < 7) (ht : t < 7) (hkd : iv (61 + 6 * i) 3 = nI k) (hfrom : iv (61 + 6 * i) 4 = nI f) (hto : iv (61 + 6 * i) 5 = nI t) (hS : SC iv av S) : Ct l D aC b0 yX7_bringGraph cX7_bringGraph 4 (some .int) 4 0 0 [.ref (x + 2), .ref (x + (61 + 6 * i))] (cm aC x iv av R) sz (zpI (fun iv av => cm aC x iv av R) (fun w' iv' av' => AC iv av (aBring k f t S) w' iv' av')) := by
  refine Ct.of (by decide) (Nat.le_of_ble_eq_true rfl) ?_
  intro p e s m below meth c ls C hr hlk hnm hl
  have hl : lv_has ls 4 [(0, .ref (x + 2)), (1, .ref (x + (61 + 6 * i)))] := hl
  obtain ⟨hx, hb, -, -, -⟩ := id C
  have hlen := SC_len hS hf7
  refine zz (fun _ _ => lv_aload_n hx hb dX7_bringGraph_0 rfl (lv_at hl 0 rfl)) ?_
  refine z_get (v := .ref (x + 3)) C fd_X7_12 (rd_3 (by decide)) rfl dX7_bringGraph_1 ?_
  refine z_get (v := .ref (x + 4)) C fd_X7_68 (rd_4 (by decide)) rfl dX7_bringGraph_4 ?_
  refine zz (fun _ _ => lv_aload_n hx hb dX7_bringGraph_7 rfl (lv_at hl 1 rfl)) ?_
  refine z_get (v := .int (iv (61 + 6 * i) 4)) C fd_X7_85 (rd_18 (ck_s hi)) rfl dX7_bringGraph_8 ?_
  refine zval (v' := .int (nI f)) (congrArg Value.int (hfrom)) ?_
  refine z_aald C 3 rfl (rd_5 (by decide)) (by first | assumption | (apply vp_in_nI <;> omega)) (v := .ref (x + (4 + 1 + 2 * f))) (rf_if (f := fun q => x + (4 + 1 + 2 * q)) (n := 7) rfl hf7 (by decide)) dX7_bringGraph_11 ?_
  refine zs (fun _ _ => lv_astore_n (lv' := [(2, .ref (x + (4 + 1 + 2 * f))), (0, .ref (x + 2)), (1, .ref (x + (61 + 6 * i)))]) hx hb dX7_bringGraph_12 rfl hl (by decide) rfl) (fun ls hl => ?_)
  refine zz (fun _ _ => lv_aload_n hx hb dX7_bringGraph_13 rfl (lv_at hl 1 rfl)) ?_
  refine z_get (v := .ref (x + 3)) C fd_X7_12 (rd_3 (by decide)) rfl dX7_bringGraph_14 ?_
  refine z_get (v := .ref (x + 4)) C fd_X7_68 (rd_4 (by decide)) rfl dX7_bringGraph_17 ?_
  refine zz (fun _ _ => lv_aload_n hx hb dX7_bringGraph_20 rfl (lv_at hl 2 rfl)) ?_
  refine z_get (v := .int (iv (61 + 6 * i) 5)) C fd_X7_61 (rd_18 (ck_s hi)) rfl dX7_bringGraph_21 ?_
  refine zval (v' := .int (nI t)) (congrArg Value.int (hto)) ?_
  refine z_aald C 3 rfl (rd_5 (by decide)) (by first | assumption | (apply vp_in_nI <;> omega)) (v := .ref (x + (4 + 1 + 2 * t))) (rf_if (f := fun q => x + (4 + 1 + 2 * q)) (n := 7) rfl ht (by decide)) dX7_bringGraph_24 ?_
  refine zs (fun _ _ => lv_astore_n (lv' := [(3, .ref (x + (4 + 1 + 2 * t))), (2, .ref (x + (4 + 1 + 2 * f))), (0, .ref (x + 2)), (1, .ref (x + (61 + 6 * i)))]) hx hb dX7_bringGraph_25 rfl hl (by decide) rfl) (fun ls hl => ?_)
  refine zz (fun _ _ => lv_aload_n hx hb dX7_bringGraph_26 rfl (lv_at hl 1 rfl)) ?_
  refine z_get (v := .int (iv (4 + 1 + 2 * f) 2)) C fd_X7_72 (rd_6 (kp_5 (by decide) hf7)) rfl dX7_bringGraph_27 ?_
  refine zval (v' := .int (tI (S.2.1 f))) (congrArg Value.int (hS.2.1 f hf7).2.1) ?_
  refine zbn (fun _ _ => lv_if_ne (tgt := 35) hx hb dX7_bringGraph_30 (by decide)) (fun c_1 => ?_) (fun c_1 => ?_)
  · refine zz (fun _ _ => lv_aload_n hx hb dX7_bringGraph_35 rfl (lv_at hl 3 rfl)) ?_
    refine z_get (v := .int (iv (61 + 6 * i) 4)) C fd_X7_85 (rd_18 (ck_s hi)) rfl dX7_bringGraph_36 ?_
    refine zval (v' := .int (nI f)) (congrArg Value.int (hfrom)) ?_
    refine zz (fun _ _ => lv_aload_n hx hb dX7_bringGraph_39 rfl (lv_at hl 3 rfl)) ?_
    refine z_get (v := .int (iv (61 + 6 * i) 5)) C fd_X7_61 (rd_18 (ck_s hi)) rfl dX7_bringGraph_40 ?_
    refine zval (v' := .int (nI t)) (congrArg Value.int (hto)) ?_
    refine zbn (fun _ _ => lv_icmp_ne (tgt := 48) hx hb dX7_bringGraph_43 (by decide)) (fun c_2 => ?_) (fun c_2 => ?_)
    · refine zz (fun _ _ => lv_aload_n hx hb dX7_bringGraph_48 rfl (lv_at hl 3 rfl)) ?_
      refine z_get (v := .int (iv (61 + 6 * i) 3)) C fd_X7_40 (rd_18 (ck_s hi)) rfl dX7_bringGraph_49 ?_
      refine zval (v' := .int (nI k)) (congrArg Value.int (hkd)) ?_
      refine zz (fun _ _ => lv_bipush (v := 8) hx hb dX7_bringGraph_52 (by decide)) ?_
      refine zval (v' := .int (nI 8)) (congrArg Value.int rfl) ?_
      refine zbn (fun _ _ => lv_icmp_ne (tgt := 64) hx hb dX7_bringGraph_54 (by decide)) (fun c_3 => ?_) (fun c_3 => ?_)
      · refine zz (fun _ _ => lv_aload_n hx hb dX7_bringGraph_64 rfl (lv_at hl 0 rfl)) ?_
        refine zz (fun _ _ => lv_iconst (v := 0) hx hb dX7_bringGraph_65 (by decide)) ?_
        refine z_put C fp_X7_82 (fun h => by cases h) (rd_6 (kp_5 (by decide) ht)) (Nat.le_of_ble_eq_true rfl) rfl rfl dX7_bringGraph_66 ?_
        refine zeq (wr_6_1 (kp_5 (by decide) ht)) ?_
        have hft9 : ¬ f = t := fun q => c_2 (by rw [q])
        have hG9 := SG_clr hS.2 ht
        have hfc9 : FC iv av (u2 iv (4 + 1 + 2 * t) 1 (0)) av := GF_u2.C ht
        have hGf9 : (u2 iv (4 + 1 + 2 * t) 1 (0)) (4 + 1 + 2 * f) 1 = nI (cds (S.1 f)).length := by rw [u2_k _ _ _ _ (by omega)]; exact (hS.2.1 f hf7).1
        have hGt9 : (u2 iv (4 + 1 + 2 * t) 1 (0)) (4 + 1 + 2 * f) 2 = tI (S.2.1 f) := by rw [u2_k _ _ _ _ (by omega)]; exact (hS.2.1 f hf7).2.1
        have hfe9 : pG S.1 t (fun _ => false) f = S.1 f := pG_k _ _ hft9
        have hcl9 : card (pG S.1 t (fun _ => false)) ≤ 120 := (okS_clr hS.1 t).2.1
        have hbc9 := become_s hG9 (by show (cds (pG S.1 t (fun _ => false) f)).length ≤ 120; rw [hfe9]; exact hlen) hf7 ht
        refine zz (fun _ _ => lv_aload_n hx hb dX7_bringGraph_69 rfl (lv_at hl 3 rfl)) ?_
        refine z_get (v := .int (iv (61 + 6 * i) 3)) C fd_X7_40 (rd_18 (ck_s hi)) (by simp [u2]) dX7_bringGraph_70 ?_
        refine zval (v' := .int (nI k)) (congrArg Value.int (hkd)) ?_
        refine zz (fun _ _ => lv_bipush (v := 6) hx hb dX7_bringGraph_73 (by decide)) ?_
        refine zval (v' := .int (nI 6)) (congrArg Value.int rfl) ?_
        refine zbn (fun _ _ => lv_icmp_ne (tgt := 97) hx hb dX7_bringGraph_75 (by decide)) (fun c_4 => ?_) (fun c_4 => ?_)
        · refine zz (fun _ _ => lv_aload_n hx hb dX7_bringGraph_97 rfl (lv_at hl 0 rfl)) ?_
          refine zz (fun _ _ => lv_aload_n hx hb dX7_bringGraph_98 rfl (lv_at hl 1 rfl)) ?_
          refine zdV (As := [.ref (x + (4 + 1 + 2 * f))]) (rest := []) (st' := []) C hl.1 lk_X7_96 (ctX2_become (ck_g ht) (ck_g hf7) hGf9 hlen (by rw [hGt9]; exact tI_b _)) (rd_6 (kp_5 (by decide) ht)) rfl rfl rfl (Nat.le_of_ble_eq_true rfl) ⟨by decide, by decide, by decide, by decide⟩ dX7_bringGraph_99 rfl (fun sz => ?_)
          refine zz (fun _ _ => lv_aload_n hx hb dX7_bringGraph_102 rfl (lv_at hl 3 rfl)) ?_
          refine z_get (v := .int ((fX2_become (u2 iv (4 + 1 + 2 * t) 1 (0)) av (4 + 1 + 2 * t) (4 + 1 + 2 * f)).1 (61 + 6 * i) 3)) C fd_X7_40 (rd_18 (ck_s hi)) rfl dX7_bringGraph_103 ?_
          refine zval (v' := .int (nI k)) (congrArg Value.int (((hfc9.trans hbc9.2).1 (61 + 6 * i) 3 (by omega)).trans hkd)) ?_
          refine zz (fun _ _ => lv_bipush (v := 7) hx hb dX7_bringGraph_106 (by decide)) ?_
          refine zval (v' := .int (nI 7)) (congrArg Value.int rfl) ?_
          refine zbn (fun _ _ => lv_icmp_ne (tgt := 122) hx hb dX7_bringGraph_108 (by decide)) (fun c_5 => ?_) (fun c_5 => ?_)
          · refine zz (fun _ _ => lv_iconst (v := 0) hx hb dX7_bringGraph_122 (by decide)) ?_
            exact z_iret C hr hlk dX7_bringGraph_123 (zpI_mk (a := (fX2_become (u2 iv (4 + 1 + 2 * t) 1 (0)) av (4 + 1 + 2 * t) (4 + 1 + 2 * f)).1) (b := (fX2_become (u2 iv (4 + 1 + 2 * t) 1 (0)) av (4 + 1 + 2 * t) (4 + 1 + 2 * f)).2) (by exfalso; have h9 : k ≠ 8 := fun q => c_3 (by rw [q]); have h8 : k ≠ 6 := fun q => c_4 (by rw [q]); have h7 : k ≠ 7 := fun q => c_5 (by rw [q]); omega))
          · refine zz (fun _ _ => lv_aload_n hx hb dX7_bringGraph_111 rfl (lv_at hl 2 rfl)) ?_
            refine z_get (v := .ref (x + 3)) C fd_X7_12 (rd_3 (by decide)) rfl dX7_bringGraph_112 ?_
            refine zz (fun _ _ => lv_aload_n hx hb dX7_bringGraph_115 rfl (lv_at hl 3 rfl)) ?_
            refine z_get (v := .int ((fX2_become (u2 iv (4 + 1 + 2 * t) 1 (0)) av (4 + 1 + 2 * t) (4 + 1 + 2 * f)).1 (61 + 6 * i) 4)) C fd_X7_85 (rd_18 (ck_s hi)) rfl dX7_bringGraph_116 ?_
            refine zval (v' := .int (nI f)) (congrArg Value.int (((hfc9.trans hbc9.2).1 (61 + 6 * i) 4 (by omega)).trans hfrom)) ?_
            refine zdV (As := [.int (nI f)]) (rest := []) (st' := []) C hl.1 lk_X7_78 (ctX6_drop (by decide) rfl hf7) (rd_4 (by decide)) rfl rfl rfl (Nat.le_of_ble_eq_true rfl) ⟨by decide, by decide, by decide, by decide⟩ dX7_bringGraph_119 rfl (fun sz => ?_)
            refine zz (fun _ _ => lv_iconst (v := 0) hx hb dX7_bringGraph_122 (by decide)) ?_
            exact z_iret C hr hlk dX7_bringGraph_123 (zpI_mk (a := (fX6_drop ((fX2_become (u2 iv (4 + 1 + 2 * t) 1 (0)) av (4 + 1 + 2 * t) (4 + 1 + 2 * f)).1) ((fX2_become (u2 iv (4 + 1 + 2 * t) 1 (0)) av (4 + 1 + 2 * t) (4 + 1 + 2 * f)).2) 3 f (nI f)).1) (b := (fX6_drop ((fX2_become (u2 iv (4 + 1 + 2 * t) 1 (0)) av (4 + 1 + 2 * t) (4 + 1 + 2 * f)).1) ((fX2_become (u2 iv (4 + 1 + 2 * t) 1 (0)) av (4 + 1 + 2 * t) (4 + 1 + 2 * f)).2) 3 f (nI f)).2) (by rw [show k = 7 from ((nI_eq (by omega) (by omega)).mp c_5)]; exact brc_7 hS.1 hf7 ht c_1 hft9 (hfc9.trans (hbc9.2.trans (drop_s hbc9.1 hf7).2)) (by have h9 := (drop_s hbc9.1 hf7).1; dsimp only at h9; rw [hfe9, pG_2] at h9; exact h9)))
        · refine zz (fun _ _ => lv_aload_n hx hb dX7_bringGraph_78 rfl (lv_at hl 2 rfl)) ?_
          refine z_get (v := .ref (x + 3)) C fd_X7_12 (rd_3 (by decide)) rfl dX7_bringGraph_79 ?_
          refine zdV (As := []) (rest := []) (st' := [.int ((fX6_factCount (u2 iv (4 + 1 + 2 * t) 1 (0)) 3))]) C hl.1 lk_X7_92 (ctX6_factCount (by decide)) (rd_4 (by decide)) rfl rfl rfl (Nat.le_of_ble_eq_true rfl) ⟨by decide, by decide, by decide, by decide⟩ dX7_bringGraph_82 rfl (fun sz => ?_)
          refine zval (v' := .int (nI (card (pG S.1 t (fun _ => false))))) (congrArg Value.int (by have h9 := factCount_g hG9; exact h9)) ?_
          refine zz (fun _ _ => lv_aload_n hx hb dX7_bringGraph_85 rfl (lv_at hl 1 rfl)) ?_
          refine z_get (v := .int ((u2 iv (4 + 1 + 2 * t) 1 (0)) (4 + 1 + 2 * f) 1)) C fd_X7_82 (rd_6 (kp_5 (by decide) hf7)) (by simp [u2]) dX7_bringGraph_86 ?_
          refine zval (v' := .int (nI (cds (S.1 f)).length)) (congrArg Value.int hGf9) ?_
          refine zz (fun _ _ => lv_iadd hx hb dX7_bringGraph_89) ?_
          refine zval (v' := .int (nI (card (pG S.1 t (fun _ => false)) + (cds (S.1 f)).length))) (congrArg Value.int (nI_add _ _)) ?_
          refine zz (fun _ _ => lv_bipush (v := 120) hx hb dX7_bringGraph_90 (by decide)) ?_
          refine zval (v' := .int (nI 120)) (congrArg Value.int rfl) ?_
          refine zb (fun _ _ => lv_icmp_le (tgt := 97) hx hb dX7_bringGraph_92 (by decide)) (fun c_6 => ?_) (fun c_6 => ?_)
          · refine zz (fun _ _ => lv_aload_n hx hb dX7_bringGraph_97 rfl (lv_at hl 0 rfl)) ?_
            refine zz (fun _ _ => lv_aload_n hx hb dX7_bringGraph_98 rfl (lv_at hl 1 rfl)) ?_
            refine zdV (As := [.ref (x + (4 + 1 + 2 * f))]) (rest := []) (st' := []) C hl.1 lk_X7_96 (ctX2_become (ck_g ht) (ck_g hf7) hGf9 hlen (by rw [hGt9]; exact tI_b _)) (rd_6 (kp_5 (by decide) ht)) rfl rfl rfl (Nat.le_of_ble_eq_true rfl) ⟨by decide, by decide, by decide, by decide⟩ dX7_bringGraph_99 rfl (fun sz => ?_)
            refine zz (fun _ _ => lv_aload_n hx hb dX7_bringGraph_102 rfl (lv_at hl 3 rfl)) ?_
            refine z_get (v := .int ((fX2_become (u2 iv (4 + 1 + 2 * t) 1 (0)) av (4 + 1 + 2 * t) (4 + 1 + 2 * f)).1 (61 + 6 * i) 3)) C fd_X7_40 (rd_18 (ck_s hi)) rfl dX7_bringGraph_103 ?_
            refine zval (v' := .int (nI k)) (congrArg Value.int (((hfc9.trans hbc9.2).1 (61 + 6 * i) 3 (by omega)).trans hkd)) ?_
            refine zz (fun _ _ => lv_bipush (v := 7) hx hb dX7_bringGraph_106 (by decide)) ?_
            refine zval (v' := .int (nI 7)) (congrArg Value.int rfl) ?_
            refine zbn (fun _ _ => lv_icmp_ne (tgt := 122) hx hb dX7_bringGraph_108 (by decide)) (fun c_7 => ?_) (fun c_7 => ?_)
            · refine zz (fun _ _ => lv_iconst (v := 0) hx hb dX7_bringGraph_122 (by decide)) ?_
              exact z_iret C hr hlk dX7_bringGraph_123 (zpI_mk (a := (fX2_become (u2 iv (4 + 1 + 2 * t) 1 (0)) av (4 + 1 + 2 * t) (4 + 1 + 2 * f)).1) (b := (fX2_become (u2 iv (4 + 1 + 2 * t) 1 (0)) av (4 + 1 + 2 * t) (4 + 1 + 2 * f)).2) (by rw [show k = 6 from ((nI_eq (by omega) (by omega)).mp c_4)]; exact brc_6 hS.1 ht c_1 hft9 (by omega) c_6 (hfc9.trans hbc9.2) (by have h9 := hbc9.1; dsimp only at h9; rw [hfe9, pG_2] at h9; exact h9)))
            · exact absurd (c_4.symm.trans c_7) (by decide)
          · refine zz (fun _ _ => lv_iconst (v := 4) hx hb dX7_bringGraph_95 (by decide)) ?_
            exact z_iret C hr hlk dX7_bringGraph_96 (zpI_mk (a := (u2 iv (4 + 1 + 2 * t) 1 (0))) (b := av) (by rw [show k = 6 from ((nI_eq (by omega) (by omega)).mp c_4)]; exact brc_4 ht c_1 hft9 (by omega) c_6 hfc9))
      · refine zz (fun _ _ => lv_aload_n hx hb dX7_bringGraph_57 rfl (lv_at hl 2 rfl)) ?_
        refine zz (fun _ _ => lv_aload_n hx hb dX7_bringGraph_58 rfl (lv_at hl 1 rfl)) ?_
        refine zz (fun _ _ => lv_aload_n hx hb dX7_bringGraph_59 rfl (lv_at hl 0 rfl)) ?_
        refine zqVI (As := [.ref (x + (4 + 1 + 2 * f)), .ref (x + (4 + 1 + 2 * t))]) (rest := []) C hl.1 lk_X7_88 (hX7_addGraph hf7 ht (fun q => c_2 (by rw [q])) hS) (rd_3 (by decide)) rfl rfl rfl (Nat.le_of_ble_eq_true rfl) ⟨by decide, by decide, by decide, by decide⟩ dX7_bringGraph_60 (fun w8 iv8 av8 sz h8 => ?_)
        refine zeq (M' := (cm aC x iv8 av8 R)) rfl ?_
        exact z_iret C hr hlk dX7_bringGraph_63 (zpI_mk (a := iv8) (b := av8) (by rw [show k = 8 from ((nI_eq (by omega) (by omega)).mp c_3)]; exact brc_8 c_1 (fun q => c_2 (by rw [q])) h8))
    · refine zz (fun _ _ => lv_iconst (v := 0) hx hb dX7_bringGraph_46 (by decide)) ?_
      exact z_iret C hr hlk dX7_bringGraph_47 (zpI_mk (a := iv) (b := av) (brc_s hS c_1 ((nI_eq (by omega) (by omega)).mp c_2)))
  · refine zz (fun _ _ => lv_iconst (v := 2) hx hb dX7_bringGraph_33 (by decide)) ?_
    exact z_iret C hr hlk dX7_bringGraph_34 (zpI_mk (a := iv) (b := av) (brc_2 hS c_1))
