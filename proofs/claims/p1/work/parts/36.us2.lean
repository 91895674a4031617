theorem tl_T {j : Nat} (h : j < 12) : tl (61 + 6 * j + 1) = 18 := by
  revert h; revert j; decide +kernel
theorem tl_P {j : Nat} (h : j < 12) : tl (61 + 6 * j + 4) = 12 := by
  revert h; revert j; decide +kernel
theorem tl_F {j : Nat} (h : j < 4) : tl (29 + 3 * j + 1) = 30 := by
  revert h; revert j; decide +kernel
theorem st_lt {a : Int32} {n : Nat} (hs : a = nI n) (hn : n ≤ 12) (h : a < 12) : n < 12 := by
  rw [hs] at h
  exact (nI_ltI (by omega) (by decide)).mp (show nI n < nI 12 from h)
def fX8_step (iv : Nat → Nat → Int32) (av : Nat → Nat → Int32) (a_ : Int32) (b_ : Int32) (c_ : Int32) : Nat × Int32 × (Nat → Nat → Int32) × (Nat → Nat → Int32) := if a_ < 0 then (1, 0, iv, av) else if 9 < a_ then (1, 0, iv, av) else if (fX8_fromMayBe a_ b_) = 0 then (1, 0, iv, av) else if (fX8_toMayBe a_ c_) = 0 then (1, 0, iv, av) else if iv 0 5 < 12 then if (fX8_fromCounts a_) = 0 then (0, (((fX5_begin iv av (61 + 6 * (Int32.toNatClampNeg (iv 0 5))) a_ 0 c_).1 0 5) + (1)) - (1), (u2 (fX5_begin iv av (61 + 6 * (Int32.toNatClampNeg (iv 0 5))) a_ 0 c_).1 0 5 (((fX5_begin iv av (61 + 6 * (Int32.toNatClampNeg (iv 0 5))) a_ 0 c_).1 0 5) + (1))), (fX5_begin iv av (61 + 6 * (Int32.toNatClampNeg (iv 0 5))) a_ 0 c_).2) else (0, (((fX5_begin iv av (61 + 6 * (Int32.toNatClampNeg (iv 0 5))) a_ b_ c_).1 0 5) + (1)) - (1), (u2 (fX5_begin iv av (61 + 6 * (Int32.toNatClampNeg (iv 0 5))) a_ b_ c_).1 0 5 (((fX5_begin iv av (61 + 6 * (Int32.toNatClampNeg (iv 0 5))) a_ b_ c_).1 0 5) + (1))), (fX5_begin iv av (61 + 6 * (Int32.toNatClampNeg (iv 0 5))) a_ b_ c_).2) else (2, 0, iv, av)
set_option maxHeartbeats 1000000 in
set_option maxRecDepth 10000 in
theorem ctX8_step {l : Launch} {D : va_G} {aC : Nat → ClassId} {b0 sz : Nat} {x : Nat} {iv av : Nat → Nat → Int32} {R : ZM} {a_ : Int32} {b_ : Int32} {c_ : Int32} {n_ : Nat} (hs : iv 0 5 = nI n_) (hn : n_ ≤ 12) : CtX l D aC b0 yX8_step cX8_step 4 (some .int) 2 1 6 [.ref (x + 0), .int (a_), .int (b_), .int (c_)] (cm aC x iv av R) sz (zdx (fX8_step iv av a_ b_ c_).1 (some (.int (fX8_step iv av a_ b_ c_).2.1)) (cm aC x (fX8_step iv av a_ b_ c_).2.2.1 (fX8_step iv av a_ b_ c_).2.2.2 R)) (zxx (fX8_step iv av a_ b_ c_).1 (cm aC x (fX8_step iv av a_ b_ c_).2.2.1 (fX8_step iv av a_ b_ c_).2.2.2 R)) := by
  refine CtX.of (by decide) (Nat.le_of_ble_eq_true rfl) ?_
  intro p e s m below meth c ls C hr hlk hnt hl
  have hl : lv_has ls 4 [(0, .ref (x + 0)), (1, .int (a_)), (2, .int (b_)), (3, .int (c_))] := hl
  obtain ⟨hx, hb, -, -, -⟩ := id C
  refine zz (fun _ _ => lv_iload_n hx hb dX8_step_0 rfl (lv_at hl 1 rfl)) ?_
  refine zb (fun _ _ => lv_if_lt (tgt := 26) hx hb dX8_step_1 (by decide)) (fun c_1 => ?_) (fun c_1 => ?_)
  · exact z_throw C hl.1 th_X8_60 hnt hlk dX8_step_26 dX8_step_29 dX8_step_30 dX8_step_32 dX8_step_35 ⟨by decide, by decide, by decide, by decide, by decide, by decide⟩ ⟨by simp only [fX8_step, if_pos c_1]; decide, by simp only [fX8_step, if_pos c_1]; rfl, by simp only [fX8_step, if_pos c_1]⟩
  · refine zz (fun _ _ => lv_iload_n hx hb dX8_step_4 rfl (lv_at hl 1 rfl)) ?_
    refine zz (fun _ _ => lv_bipush (v := 9) hx hb dX8_step_5 (by decide)) ?_
    refine zb (fun _ _ => lv_icmp_gt (tgt := 26) hx hb dX8_step_7 (by decide)) (fun c_2 => ?_) (fun c_2 => ?_)
    · exact z_throw C hl.1 th_X8_60 hnt hlk dX8_step_26 dX8_step_29 dX8_step_30 dX8_step_32 dX8_step_35 ⟨by decide, by decide, by decide, by decide, by decide, by decide⟩ ⟨by simp only [fX8_step, if_neg c_1, if_pos c_2]; decide, by simp only [fX8_step, if_neg c_1, if_pos c_2]; rfl, by simp only [fX8_step, if_neg c_1, if_pos c_2]⟩
    · refine zz (fun _ _ => lv_iload_n hx hb dX8_step_10 rfl (lv_at hl 1 rfl)) ?_
      refine zz (fun _ _ => lv_iload_n hx hb dX8_step_11 rfl (lv_at hl 2 rfl)) ?_
      refine zdS (As := [.int (a_), .int (b_)]) (rest := []) (st' := [.int ((fX8_fromMayBe a_ b_))]) C hl.1 lk_X8_51 (ctX8_fromMayBe ) rfl rfl (Nat.le_of_ble_eq_true rfl) ⟨by decide, by decide, by decide, by decide⟩ dX8_step_12 rfl (fun sz => ?_)
      refine zb (fun _ _ => lv_if_eq (tgt := 26) hx hb dX8_step_15 (by decide)) (fun c_3 => ?_) (fun c_3 => ?_)
      · exact z_throw C hl.1 th_X8_60 hnt hlk dX8_step_26 dX8_step_29 dX8_step_30 dX8_step_32 dX8_step_35 ⟨by decide, by decide, by decide, by decide, by decide, by decide⟩ ⟨by simp only [fX8_step, if_neg c_1, if_neg c_2, if_pos c_3]; decide, by simp only [fX8_step, if_neg c_1, if_neg c_2, if_pos c_3]; rfl, by simp only [fX8_step, if_neg c_1, if_neg c_2, if_pos c_3]⟩
      · refine zz (fun _ _ => lv_iload_n hx hb dX8_step_18 rfl (lv_at hl 1 rfl)) ?_
        refine zz (fun _ _ => lv_iload_n hx hb dX8_step_19 rfl (lv_at hl 3 rfl)) ?_
        refine zdS (As := [.int (a_), .int (c_)]) (rest := []) (st' := [.int ((fX8_toMayBe a_ c_))]) C hl.1 lk_X8_55 (ctX8_toMayBe ) rfl rfl (Nat.le_of_ble_eq_true rfl) ⟨by decide, by decide, by decide, by decide⟩ dX8_step_20 rfl (fun sz => ?_)
        refine zbn (fun _ _ => lv_if_ne (tgt := 36) hx hb dX8_step_23 (by decide)) (fun c_4 => ?_) (fun c_4 => ?_)
        · refine zz (fun _ _ => lv_aload_n hx hb dX8_step_36 rfl (lv_at hl 0 rfl)) ?_
          refine z_get (v := .int (iv 0 5)) C fd_X8_40 (rd_1 (by decide)) rfl dX8_step_37 ?_
          refine zz (fun _ _ => lv_bipush (v := 12) hx hb dX8_step_40 (by decide)) ?_
          refine zb (fun _ _ => lv_icmp_lt (tgt := 55) hx hb dX8_step_42 (by decide)) (fun c_5 => ?_) (fun c_5 => ?_)
          · refine zz (fun _ _ => lv_aload_n hx hb dX8_step_55 rfl (lv_at hl 0 rfl)) ?_
            refine z_get (v := .ref (x + 1)) C fd_X8_11 (rd_1 (by decide)) rfl dX8_step_56 ?_
            refine zz (fun _ _ => lv_aload_n hx hb dX8_step_59 rfl (lv_at hl 0 rfl)) ?_
            refine z_get (v := .int (iv 0 5)) C fd_X8_40 (rd_1 (by decide)) rfl dX8_step_60 ?_
            refine z_aald C 4 rfl (rd_2 (by decide)) (in_nI hs (st_lt hs hn c_5) (by decide)) (v := .ref (x + (61 + 6 * (Int32.toNatClampNeg (iv 0 5))))) (rf_if2 (f := fun q => x + (61 + 6 * q)) (vin_lt (in_nI hs (st_lt hs hn c_5) (by decide)))) dX8_step_63 ?_
            refine zz (fun _ _ => lv_iload_n hx hb dX8_step_64 rfl (lv_at hl 1 rfl)) ?_
            refine zz (fun _ _ => lv_iload_n hx hb dX8_step_65 rfl (lv_at hl 1 rfl)) ?_
            refine zdS (As := [.int (a_)]) (rest := [.int (a_), .ref (x + (61 + 6 * (Int32.toNatClampNeg (iv 0 5))))]) (st' := [.int ((fX8_fromCounts a_)), .int (a_), .ref (x + (61 + 6 * (Int32.toNatClampNeg (iv 0 5))))]) C hl.1 lk_X8_70 (ctX8_fromCounts ) rfl rfl (Nat.le_of_ble_eq_true rfl) ⟨by decide, by decide, by decide, by decide⟩ dX8_step_66 rfl (fun sz => ?_)
            refine zb (fun _ _ => lv_if_eq (tgt := 76) hx hb dX8_step_69 (by decide)) (fun c_6 => ?_) (fun c_6 => ?_)
            · refine zz (fun _ _ => lv_iconst (v := 0) hx hb dX8_step_76 (by decide)) ?_
              refine zz (fun _ _ => lv_iload_n hx hb dX8_step_77 rfl (lv_at hl 3 rfl)) ?_
              refine zdV (As := [.int (a_), .int (0), .int (c_)]) (rest := []) (st' := []) C hl.1 lk_X8_74 (ctX5_begin (kp_2 (vin_lt (in_nI hs (st_lt hs hn c_5) (by decide))))) (rd_18 (kp_2 (vin_lt (in_nI hs (st_lt hs hn c_5) (by decide))))) rfl rfl rfl (Nat.le_of_ble_eq_true rfl) ⟨by decide, by decide, by decide, by decide⟩ dX8_step_78 rfl (fun sz => ?_)
              refine zz (fun _ _ => lv_aload_n hx hb dX8_step_81 rfl (lv_at hl 0 rfl)) ?_
              refine zz (fun _ _ => lv_dup hx hb dX8_step_82 rfl) ?_
              refine z_get (v := .int ((fX5_begin iv av (61 + 6 * (Int32.toNatClampNeg (iv 0 5))) a_ 0 c_).1 0 5)) C fd_X8_40 (rd_1 (by decide)) rfl dX8_step_83 ?_
              refine zz (fun _ _ => lv_iconst (v := 1) hx hb dX8_step_86 (by decide)) ?_
              refine zz (fun _ _ => lv_iadd hx hb dX8_step_87) ?_
              refine z_put C fp_X8_40 (fun h => by cases h) (rd_1 (by decide)) (Nat.le_of_ble_eq_true rfl) rfl rfl dX8_step_88 ?_
              refine zeq (wr_1_5 (by decide)) ?_
              refine zz (fun _ _ => lv_aload_n hx hb dX8_step_91 rfl (lv_at hl 0 rfl)) ?_
              refine z_get (v := .int (((fX5_begin iv av (61 + 6 * (Int32.toNatClampNeg (iv 0 5))) a_ 0 c_).1 0 5) + (1))) C fd_X8_40 (rd_1 (by decide)) (by simp [u2]) dX8_step_92 ?_
              refine zz (fun _ _ => lv_iconst (v := 1) hx hb dX8_step_95 (by decide)) ?_
              refine zz (fun _ _ => lv_isub hx hb dX8_step_96) ?_
              exact z_ret (by decide) (by decide) (z_iret C hr hlk dX8_step_97 ⟨by simp only [fX8_step, if_neg c_1, if_neg c_2, if_neg c_3, if_neg c_4, if_pos c_5, if_pos c_6], by simp only [fX8_step, if_neg c_1, if_neg c_2, if_neg c_3, if_neg c_4, if_pos c_5, if_pos c_6], by simp only [fX8_step, if_neg c_1, if_neg c_2, if_neg c_3, if_neg c_4, if_pos c_5, if_pos c_6]⟩)
            · refine zz (fun _ _ => lv_iload_n hx hb dX8_step_72 rfl (lv_at hl 2 rfl)) ?_
              refine zz (fun _ _ => lv_goto (tgt := 77) hx hb dX8_step_73 (by decide)) ?_
              refine zz (fun _ _ => lv_iload_n hx hb dX8_step_77 rfl (lv_at hl 3 rfl)) ?_
              refine zdV (As := [.int (a_), .int (b_), .int (c_)]) (rest := []) (st' := []) C hl.1 lk_X8_74 (ctX5_begin (kp_2 (vin_lt (in_nI hs (st_lt hs hn c_5) (by decide))))) (rd_18 (kp_2 (vin_lt (in_nI hs (st_lt hs hn c_5) (by decide))))) rfl rfl rfl (Nat.le_of_ble_eq_true rfl) ⟨by decide, by decide, by decide, by decide⟩ dX8_step_78 rfl (fun sz => ?_)
              refine zz (fun _ _ => lv_aload_n hx hb dX8_step_81 rfl (lv_at hl 0 rfl)) ?_
              refine zz (fun _ _ => lv_dup hx hb dX8_step_82 rfl) ?_
              refine z_get (v := .int ((fX5_begin iv av (61 + 6 * (Int32.toNatClampNeg (iv 0 5))) a_ b_ c_).1 0 5)) C fd_X8_40 (rd_1 (by decide)) rfl dX8_step_83 ?_
              refine zz (fun _ _ => lv_iconst (v := 1) hx hb dX8_step_86 (by decide)) ?_
              refine zz (fun _ _ => lv_iadd hx hb dX8_step_87) ?_
              refine z_put C fp_X8_40 (fun h => by cases h) (rd_1 (by decide)) (Nat.le_of_ble_eq_true rfl) rfl rfl dX8_step_88 ?_
              refine zeq (wr_1_5 (by decide)) ?_
              refine zz (fun _ _ => lv_aload_n hx hb dX8_step_91 rfl (lv_at hl 0 rfl)) ?_
              refine z_get (v := .int (((fX5_begin iv av (61 + 6 * (Int32.toNatClampNeg (iv 0 5))) a_ b_ c_).1 0 5) + (1))) C fd_X8_40 (rd_1 (by decide)) (by simp [u2]) dX8_step_92 ?_
              refine zz (fun _ _ => lv_iconst (v := 1) hx hb dX8_step_95 (by decide)) ?_
              refine zz (fun _ _ => lv_isub hx hb dX8_step_96) ?_
              exact z_ret (by decide) (by decide) (z_iret C hr hlk dX8_step_97 ⟨by simp only [fX8_step, if_neg c_1, if_neg c_2, if_neg c_3, if_neg c_4, if_pos c_5, if_neg c_6], by simp only [fX8_step, if_neg c_1, if_neg c_2, if_neg c_3, if_neg c_4, if_pos c_5, if_neg c_6], by simp only [fX8_step, if_neg c_1, if_neg c_2, if_neg c_3, if_neg c_4, if_pos c_5, if_neg c_6]⟩)
          · exact z_throw C hl.1 th_X8_67 hnt hlk dX8_step_45 dX8_step_48 dX8_step_49 dX8_step_51 dX8_step_54 ⟨by decide, by decide, by decide, by decide, by decide, by decide⟩ ⟨by simp only [fX8_step, if_neg c_1, if_neg c_2, if_neg c_3, if_neg c_4, if_neg c_5]; decide, by simp only [fX8_step, if_neg c_1, if_neg c_2, if_neg c_3, if_neg c_4, if_neg c_5]; rfl, by simp only [fX8_step, if_neg c_1, if_neg c_2, if_neg c_3, if_neg c_4, if_neg c_5]⟩
        · exact z_throw C hl.1 th_X8_60 hnt hlk dX8_step_26 dX8_step_29 dX8_step_30 dX8_step_32 dX8_step_35 ⟨by decide, by decide, by decide, by decide, by decide, by decide⟩ ⟨by simp only [fX8_step, if_neg c_1, if_neg c_2, if_neg c_3, if_pos c_4]; decide, by simp only [fX8_step, if_neg c_1, if_neg c_2, if_neg c_3, if_pos c_4]; rfl, by simp only [fX8_step, if_neg c_1, if_neg c_2, if_neg c_3, if_pos c_4]⟩
def fX8_template (iv : Nat → Nat → Int32) (av : Nat → Nat → Int32) (a_ : Int32) (b_ : Int32) (c_ : Int32) (d_ : Int32) (e_ : Int32) : Nat × Int32 × (Nat → Nat → Int32) × (Nat → Nat → Int32) := if (fX8_stepNumbered iv a_) = 0 then if (fX8_templateMayBe (iv (61 + 6 * (Int32.toNatClampNeg (a_))) 3) e_) = 0 then (1, 0, iv, av) else if (fX8_templateTermMayBe (iv (61 + 6 * (Int32.toNatClampNeg (a_))) 3) e_ b_) = 0 then (1, 0, iv, av) else if (fX8_isNewBlank c_) = 0 then if (fX8_templateTermMayBe (iv (61 + 6 * (Int32.toNatClampNeg (a_))) 3) e_ c_) = 0 then (1, 0, iv, av) else if (fX8_templateTermMayBe (iv (61 + 6 * (Int32.toNatClampNeg (a_))) 3) e_ d_) = 0 then (1, 0, iv, av) else if (fX3_isFull iv ((61 + 6 * (Int32.toNatClampNeg (a_))) + 1)) = 0 then (0, (fX5_addTemplate iv av (61 + 6 * (Int32.toNatClampNeg (a_))) b_ c_ d_ e_).1, (fX5_addTemplate iv av (61 + 6 * (Int32.toNatClampNeg (a_))) b_ c_ d_ e_).2.1, (fX5_addTemplate iv av (61 + 6 * (Int32.toNatClampNeg (a_))) b_ c_ d_ e_).2.2) else (2, 0, iv, av) else (1, 0, iv, av) else ((fX8_stepNumbered iv a_), 0, iv, av)
set_option maxHeartbeats 1000000 in
set_option maxRecDepth 10000 in
theorem ctX8_template {l : Launch} {D : va_G} {aC : Nat → ClassId} {b0 sz : Nat} {x : Nat} {iv av : Nat → Nat → Int32} {R : ZM} {a_ : Int32} {b_ : Int32} {c_ : Int32} {d_ : Int32} {e_ : Int32} {n_ : Nat} (hs : iv 0 5 = nI n_) (hn : n_ ≤ 12) (hbb : e_ = 0 ∨ e_ = 1) (hT : ∀ j, j < 12 → ∃ c, c ≤ 6 ∧ iv (61 + 6 * j + 1) 2 = nI c ∧ iv (61 + 6 * j + 1) 1 = nI 6) : CtX l D aC b0 yX8_template cX8_template 8 (some .int) 3 2 12 [.ref (x + 0), .int (a_), .int (b_), .int (c_), .int (d_), .int (e_)] (cm aC x iv av R) sz (zdx (fX8_template iv av a_ b_ c_ d_ e_).1 (some (.int (fX8_template iv av a_ b_ c_ d_ e_).2.1)) (cm aC x (fX8_template iv av a_ b_ c_ d_ e_).2.2.1 (fX8_template iv av a_ b_ c_ d_ e_).2.2.2 R)) (zxx (fX8_template iv av a_ b_ c_ d_ e_).1 (cm aC x (fX8_template iv av a_ b_ c_ d_ e_).2.2.1 (fX8_template iv av a_ b_ c_ d_ e_).2.2.2 R)) := by
  refine CtX.of (by decide) (Nat.le_of_ble_eq_true rfl) ?_
  intro p e s m below meth c ls C hr hlk hnt hl
  have hl : lv_has ls 8 [(0, .ref (x + 0)), (1, .int (a_)), (2, .int (b_)), (3, .int (c_)), (4, .int (d_)), (5, .int (e_))] := hl
  obtain ⟨hx, hb, -, -, -⟩ := id C
  refine zz (fun _ _ => lv_aload_n hx hb dX8_template_0 rfl (lv_at hl 0 rfl)) ?_
  refine zz (fun _ _ => lv_iload_n hx hb dX8_template_1 rfl (lv_at hl 1 rfl)) ?_
  refine z_callVX (As := [.int (a_)]) (rest := []) C hl.1 lk_X8_78 ml_X8_78 (ctX8_stepNumbered hs hn) (rd_1 (by decide)) rfl rfl rfl (Nat.le_of_ble_eq_true rfl) ⟨by decide, by decide, by decide, by decide⟩ dX8_template_2 (fun E9 M9 hp9 _ _ _ _ a1 a2 a3 a4 a5 => ?_) (fun r9 M9 sz hp9 => ?_)
  · obtain ⟨h9, rfl, rfl⟩ := hp9
    exact z_out hnt hlk (by decide) (by decide) ⟨by simp only [fX8_template, if_neg h9]; exact h9, by simp only [fX8_template, if_neg h9], by simp only [fX8_template, if_neg h9]⟩ a1 a2 a3 a4 a5
  obtain ⟨c_1, rfl, rfl⟩ := hp9
  refine zst (st' := [.ref (x + (61 + 6 * (Int32.toNatClampNeg (a_))))]) rfl ?_
  refine zs (fun _ _ => lv_astore (lv' := [(6, .ref (x + (61 + 6 * (Int32.toNatClampNeg (a_))))), (0, .ref (x + 0)), (1, .int (a_)), (2, .int (b_)), (3, .int (c_)), (4, .int (d_)), (5, .int (e_))]) hx hb dX8_template_5 hl (by decide) rfl) (fun ls hl => ?_)
  refine zz (fun _ _ => lv_aload hx hb dX8_template_7 (lv_at hl 0 rfl)) ?_
  refine z_get (v := .int (iv (61 + 6 * (Int32.toNatClampNeg (a_))) 3)) C fd_X8_86 (rd_18 (kp_2 (sn_lt c_1 hs hn))) rfl dX8_template_9 ?_
  refine zs (fun _ _ => lv_istore (lv' := [(7, .int (iv (61 + 6 * (Int32.toNatClampNeg (a_))) 3)), (6, .ref (x + (61 + 6 * (Int32.toNatClampNeg (a_))))), (0, .ref (x + 0)), (1, .int (a_)), (2, .int (b_)), (3, .int (c_)), (4, .int (d_)), (5, .int (e_))]) hx hb dX8_template_12 hl (by decide) rfl) (fun ls hl => ?_)
  refine zz (fun _ _ => lv_iload hx hb dX8_template_14 (lv_at hl 0 rfl)) ?_
  refine zz (fun _ _ => lv_iload hx hb dX8_template_16 (lv_at hl 7 rfl)) ?_
  refine zdS (As := [.int (iv (61 + 6 * (Int32.toNatClampNeg (a_))) 3), .int (e_)]) (rest := []) (st' := [.int ((fX8_templateMayBe (iv (61 + 6 * (Int32.toNatClampNeg (a_))) 3) e_))]) C hl.1 lk_X8_89 (ctX8_templateMayBe ) rfl rfl (Nat.le_of_ble_eq_true rfl) ⟨by decide, by decide, by decide, by decide⟩ dX8_template_18 rfl (fun sz => ?_)
  refine zb (fun _ _ => lv_if_eq (tgt := 65) hx hb dX8_template_21 (by decide)) (fun c_2 => ?_) (fun c_2 => ?_)
  · exact z_throw C hl.1 th_X8_100 hnt hlk dX8_template_65 dX8_template_68 dX8_template_69 dX8_template_71 dX8_template_74 ⟨by decide, by decide, by decide, by decide, by decide, by decide⟩ ⟨by simp only [fX8_template, if_pos c_1, if_pos c_2]; decide, by simp only [fX8_template, if_pos c_1, if_pos c_2]; rfl, by simp only [fX8_template, if_pos c_1, if_pos c_2]⟩
  · refine zz (fun _ _ => lv_iload hx hb dX8_template_24 (lv_at hl 0 rfl)) ?_
    refine zz (fun _ _ => lv_iload hx hb dX8_template_26 (lv_at hl 7 rfl)) ?_
    refine zz (fun _ _ => lv_iload_n hx hb dX8_template_28 rfl (lv_at hl 4 rfl)) ?_
    refine zdS (As := [.int (iv (61 + 6 * (Int32.toNatClampNeg (a_))) 3), .int (e_), .int (b_)]) (rest := []) (st' := [.int ((fX8_templateTermMayBe (iv (61 + 6 * (Int32.toNatClampNeg (a_))) 3) e_ b_))]) C hl.1 lk_X8_93 (ctX8_templateTermMayBe ) rfl rfl (Nat.le_of_ble_eq_true rfl) ⟨by decide, by decide, by decide, by decide⟩ dX8_template_29 rfl (fun sz => ?_)
    refine zb (fun _ _ => lv_if_eq (tgt := 65) hx hb dX8_template_32 (by decide)) (fun c_3 => ?_) (fun c_3 => ?_)
    · exact z_throw C hl.1 th_X8_100 hnt hlk dX8_template_65 dX8_template_68 dX8_template_69 dX8_template_71 dX8_template_74 ⟨by decide, by decide, by decide, by decide, by decide, by decide⟩ ⟨by simp only [fX8_template, if_pos c_1, if_neg c_2, if_pos c_3]; decide, by simp only [fX8_template, if_pos c_1, if_neg c_2, if_pos c_3]; rfl, by simp only [fX8_template, if_pos c_1, if_neg c_2, if_pos c_3]⟩
    · refine zz (fun _ _ => lv_iload_n hx hb dX8_template_35 rfl (lv_at hl 5 rfl)) ?_
      refine zdS (As := [.int (c_)]) (rest := []) (st' := [.int ((fX8_isNewBlank c_))]) C hl.1 lk_X8_97 (ctX8_isNewBlank ) rfl rfl (Nat.le_of_ble_eq_true rfl) ⟨by decide, by decide, by decide, by decide⟩ dX8_template_36 rfl (fun sz => ?_)
      refine zbn (fun _ _ => lv_if_ne (tgt := 65) hx hb dX8_template_39 (by decide)) (fun c_4 => ?_) (fun c_4 => ?_)
      · exact z_throw C hl.1 th_X8_100 hnt hlk dX8_template_65 dX8_template_68 dX8_template_69 dX8_template_71 dX8_template_74 ⟨by decide, by decide, by decide, by decide, by decide, by decide⟩ ⟨by simp only [fX8_template, if_pos c_1, if_neg c_2, if_neg c_3, if_neg c_4]; decide, by simp only [fX8_template, if_pos c_1, if_neg c_2, if_neg c_3, if_neg c_4]; rfl, by simp only [fX8_template, if_pos c_1, if_neg c_2, if_neg c_3, if_neg c_4]⟩
      · refine zz (fun _ _ => lv_iload hx hb dX8_template_42 (lv_at hl 0 rfl)) ?_
        refine zz (fun _ _ => lv_iload hx hb dX8_template_44 (lv_at hl 7 rfl)) ?_
        refine zz (fun _ _ => lv_iload_n hx hb dX8_template_46 rfl (lv_at hl 5 rfl)) ?_
        refine zdS (As := [.int (iv (61 + 6 * (Int32.toNatClampNeg (a_))) 3), .int (e_), .int (c_)]) (rest := []) (st' := [.int ((fX8_templateTermMayBe (iv (61 + 6 * (Int32.toNatClampNeg (a_))) 3) e_ c_))]) C hl.1 lk_X8_93 (ctX8_templateTermMayBe ) rfl rfl (Nat.le_of_ble_eq_true rfl) ⟨by decide, by decide, by decide, by decide⟩ dX8_template_47 rfl (fun sz => ?_)
        refine zb (fun _ _ => lv_if_eq (tgt := 65) hx hb dX8_template_50 (by decide)) (fun c_5 => ?_) (fun c_5 => ?_)
        · exact z_throw C hl.1 th_X8_100 hnt hlk dX8_template_65 dX8_template_68 dX8_template_69 dX8_template_71 dX8_template_74 ⟨by decide, by decide, by decide, by decide, by decide, by decide⟩ ⟨by simp only [fX8_template, if_pos c_1, if_neg c_2, if_neg c_3, if_pos c_4, if_pos c_5]; decide, by simp only [fX8_template, if_pos c_1, if_neg c_2, if_neg c_3, if_pos c_4, if_pos c_5]; rfl, by simp only [fX8_template, if_pos c_1, if_neg c_2, if_neg c_3, if_pos c_4, if_pos c_5]⟩
        · refine zz (fun _ _ => lv_iload hx hb dX8_template_53 (lv_at hl 0 rfl)) ?_
          refine zz (fun _ _ => lv_iload hx hb dX8_template_55 (lv_at hl 7 rfl)) ?_
          refine zz (fun _ _ => lv_iload hx hb dX8_template_57 (lv_at hl 6 rfl)) ?_
          refine zdS (As := [.int (iv (61 + 6 * (Int32.toNatClampNeg (a_))) 3), .int (e_), .int (d_)]) (rest := []) (st' := [.int ((fX8_templateTermMayBe (iv (61 + 6 * (Int32.toNatClampNeg (a_))) 3) e_ d_))]) C hl.1 lk_X8_93 (ctX8_templateTermMayBe ) rfl rfl (Nat.le_of_ble_eq_true rfl) ⟨by decide, by decide, by decide, by decide⟩ dX8_template_59 rfl (fun sz => ?_)
          refine zbn (fun _ _ => lv_if_ne (tgt := 75) hx hb dX8_template_62 (by decide)) (fun c_6 => ?_) (fun c_6 => ?_)
          · refine zz (fun _ _ => lv_aload hx hb dX8_template_75 (lv_at hl 1 rfl)) ?_
            refine z_get (v := .ref (x + ((61 + 6 * (Int32.toNatClampNeg (a_))) + 1))) C fd_X8_102 (rd_18 (kp_2 (sn_lt c_1 hs hn))) rfl dX8_template_77 ?_
            refine zdV (As := []) (rest := []) (st' := [.int ((fX3_isFull iv ((61 + 6 * (Int32.toNatClampNeg (a_))) + 1)))]) C hl.1 lk_X8_106 (ctX3_isFull (nb_18_1 (kp_2 (sn_lt c_1 hs hn)))) (rd_14 (nb_18_1 (kp_2 (sn_lt c_1 hs hn)))) rfl rfl rfl (Nat.le_of_ble_eq_true rfl) ⟨by decide, by decide, by decide, by decide⟩ dX8_template_80 rfl (fun sz => ?_)
            refine zb (fun _ _ => lv_if_eq (tgt := 96) hx hb dX8_template_83 (by decide)) (fun c_7 => ?_) (fun c_7 => ?_)
            · refine zz (fun _ _ => lv_aload hx hb dX8_template_96 (lv_at hl 1 rfl)) ?_
              refine zz (fun _ _ => lv_iload_n hx hb dX8_template_98 rfl (lv_at hl 4 rfl)) ?_
              refine zz (fun _ _ => lv_iload_n hx hb dX8_template_99 rfl (lv_at hl 5 rfl)) ?_
              refine zz (fun _ _ => lv_iload hx hb dX8_template_100 (lv_at hl 6 rfl)) ?_
              refine zz (fun _ _ => lv_iload hx hb dX8_template_102 (lv_at hl 7 rfl)) ?_
              have hj9 := (sn_lt c_1 hs hn)
              obtain ⟨c0, hc0, hc1, hm1⟩ := hT _ hj9
              refine zdV (As := [.int (b_), .int (c_), .int (d_), .int (e_)]) (rest := []) (st' := [.int ((fX5_addTemplate iv av (61 + 6 * (Int32.toNatClampNeg (a_))) b_ c_ d_ e_).1)]) C hl.1 lk_X8_114 (ctX5_addTemplate (kp_2 (sn_lt c_1 hs hn)) hc1 hm1 hc0 (by rw [tl_T hj9]; decide) (by decide) hbb) (rd_18 (kp_2 (sn_lt c_1 hs hn))) rfl rfl rfl (Nat.le_of_ble_eq_true rfl) ⟨by decide, by decide, by decide, by decide⟩ dX8_template_104 rfl (fun sz => ?_)
              exact z_ret (by decide) (by decide) (z_iret C hr hlk dX8_template_107 ⟨by simp only [fX8_template, if_pos c_1, if_neg c_2, if_neg c_3, if_pos c_4, if_neg c_5, if_neg c_6, if_pos c_7], by simp only [fX8_template, if_pos c_1, if_neg c_2, if_neg c_3, if_pos c_4, if_neg c_5, if_neg c_6, if_pos c_7], by simp only [fX8_template, if_pos c_1, if_neg c_2, if_neg c_3, if_pos c_4, if_neg c_5, if_neg c_6, if_pos c_7]⟩)
            · exact z_throw C hl.1 th_X8_112 hnt hlk dX8_template_86 dX8_template_89 dX8_template_90 dX8_template_92 dX8_template_95 ⟨by decide, by decide, by decide, by decide, by decide, by decide⟩ ⟨by simp only [fX8_template, if_pos c_1, if_neg c_2, if_neg c_3, if_pos c_4, if_neg c_5, if_neg c_6, if_neg c_7]; decide, by simp only [fX8_template, if_pos c_1, if_neg c_2, if_neg c_3, if_pos c_4, if_neg c_5, if_neg c_6, if_neg c_7]; rfl, by simp only [fX8_template, if_pos c_1, if_neg c_2, if_neg c_3, if_pos c_4, if_neg c_5, if_neg c_6, if_neg c_7]⟩
          · exact z_throw C hl.1 th_X8_100 hnt hlk dX8_template_65 dX8_template_68 dX8_template_69 dX8_template_71 dX8_template_74 ⟨by decide, by decide, by decide, by decide, by decide, by decide⟩ ⟨by simp only [fX8_template, if_pos c_1, if_neg c_2, if_neg c_3, if_pos c_4, if_neg c_5, if_pos c_6]; decide, by simp only [fX8_template, if_pos c_1, if_neg c_2, if_neg c_3, if_pos c_4, if_neg c_5, if_pos c_6]; rfl, by simp only [fX8_template, if_pos c_1, if_neg c_2, if_neg c_3, if_pos c_4, if_neg c_5, if_pos c_6]⟩
def fX8_pattern (iv : Nat → Nat → Int32) (av : Nat → Nat → Int32) (a_ : Int32) (b_ : Int32) (c_ : Int32) (d_ : Int32) : Nat × Int32 × (Nat → Nat → Int32) × (Nat → Nat → Int32) := if (fX8_stepNumbered iv a_) = 0 then if iv (61 + 6 * (Int32.toNatClampNeg (a_))) 3 = 2 then if (fX8_patternTermMayBe b_) = 0 then (1, 0, iv, av) else if (fX8_patternTermMayBe c_) = 0 then (1, 0, iv, av) else if (fX8_patternTermMayBe d_) = 0 then (1, 0, iv, av) else if (fX3_isFull iv ((61 + 6 * (Int32.toNatClampNeg (a_))) + 4)) = 0 then (0, (fX3_append iv av ((61 + 6 * (Int32.toNatClampNeg (a_))) + 4) b_ c_ d_).1, (fX3_append iv av ((61 + 6 * (Int32.toNatClampNeg (a_))) + 4) b_ c_ d_).2.1, (fX3_append iv av ((61 + 6 * (Int32.toNatClampNeg (a_))) + 4) b_ c_ d_).2.2) else (2, 0, iv, av) else (1, 0, iv, av) else ((fX8_stepNumbered iv a_), 0, iv, av)
set_option maxHeartbeats 1000000 in
set_option maxRecDepth 10000 in
theorem ctX8_pattern {l : Launch} {D : va_G} {aC : Nat → ClassId} {b0 sz : Nat} {x : Nat} {iv av : Nat → Nat → Int32} {R : ZM} {a_ : Int32} {b_ : Int32} {c_ : Int32} {d_ : Int32} {n_ : Nat} (hs : iv 0 5 = nI n_) (hn : n_ ≤ 12) (hT : ∀ j, j < 12 → ∃ c, c ≤ 4 ∧ iv (61 + 6 * j + 4) 2 = nI c ∧ iv (61 + 6 * j + 4) 1 = nI 4) : CtX l D aC b0 yX8_pattern cX8_pattern 6 (some .int) 2 2 12 [.ref (x + 0), .int (a_), .int (b_), .int (c_), .int (d_)] (cm aC x iv av R) sz (zdx (fX8_pattern iv av a_ b_ c_ d_).1 (some (.int (fX8_pattern iv av a_ b_ c_ d_).2.1)) (cm aC x (fX8_pattern iv av a_ b_ c_ d_).2.2.1 (fX8_pattern iv av a_ b_ c_ d_).2.2.2 R)) (zxx (fX8_pattern iv av a_ b_ c_ d_).1 (cm aC x (fX8_pattern iv av a_ b_ c_ d_).2.2.1 (fX8_pattern iv av a_ b_ c_ d_).2.2.2 R)) := by
  refine CtX.of (by decide) (Nat.le_of_ble_eq_true rfl) ?_
  intro p e s m below meth c ls C hr hlk hnt hl
  have hl : lv_has ls 6 [(0, .ref (x + 0)), (1, .int (a_)), (2, .int (b_)), (3, .int (c_)), (4, .int (d_))] := hl
  obtain ⟨hx, hb, -, -, -⟩ := id C
  refine zz (fun _ _ => lv_aload_n hx hb dX8_pattern_0 rfl (lv_at hl 0 rfl)) ?_
  refine zz (fun _ _ => lv_iload_n hx hb dX8_pattern_1 rfl (lv_at hl 1 rfl)) ?_
  refine z_callVX (As := [.int (a_)]) (rest := []) C hl.1 lk_X8_78 ml_X8_78 (ctX8_stepNumbered hs hn) (rd_1 (by decide)) rfl rfl rfl (Nat.le_of_ble_eq_true rfl) ⟨by decide, by decide, by decide, by decide⟩ dX8_pattern_2 (fun E9 M9 hp9 _ _ _ _ a1 a2 a3 a4 a5 => ?_) (fun r9 M9 sz hp9 => ?_)
  · obtain ⟨h9, rfl, rfl⟩ := hp9
    exact z_out hnt hlk (by decide) (by decide) ⟨by simp only [fX8_pattern, if_neg h9]; exact h9, by simp only [fX8_pattern, if_neg h9], by simp only [fX8_pattern, if_neg h9]⟩ a1 a2 a3 a4 a5
  obtain ⟨c_1, rfl, rfl⟩ := hp9
  refine zst (st' := [.ref (x + (61 + 6 * (Int32.toNatClampNeg (a_))))]) rfl ?_
  refine zs (fun _ _ => lv_astore (lv' := [(5, .ref (x + (61 + 6 * (Int32.toNatClampNeg (a_))))), (0, .ref (x + 0)), (1, .int (a_)), (2, .int (b_)), (3, .int (c_)), (4, .int (d_))]) hx hb dX8_pattern_5 hl (by decide) rfl) (fun ls hl => ?_)
  refine zz (fun _ _ => lv_aload hx hb dX8_pattern_7 (lv_at hl 0 rfl)) ?_
  refine z_get (v := .int (iv (61 + 6 * (Int32.toNatClampNeg (a_))) 3)) C fd_X8_86 (rd_18 (kp_2 (sn_lt c_1 hs hn))) rfl dX8_pattern_9 ?_
  refine zz (fun _ _ => lv_iconst (v := 2) hx hb dX8_pattern_12 (by decide)) ?_
  refine zbn (fun _ _ => lv_icmp_ne (tgt := 38) hx hb dX8_pattern_13 (by decide)) (fun c_2 => ?_) (fun c_2 => ?_)
  · exact z_throw C hl.1 th_X8_121 hnt hlk dX8_pattern_38 dX8_pattern_41 dX8_pattern_42 dX8_pattern_44 dX8_pattern_47 ⟨by decide, by decide, by decide, by decide, by decide, by decide⟩ ⟨by simp only [fX8_pattern, if_pos c_1, if_neg c_2]; decide, by simp only [fX8_pattern, if_pos c_1, if_neg c_2]; rfl, by simp only [fX8_pattern, if_pos c_1, if_neg c_2]⟩
  · refine zz (fun _ _ => lv_iload_n hx hb dX8_pattern_16 rfl (lv_at hl 3 rfl)) ?_
    refine zdS (As := [.int (b_)]) (rest := []) (st' := [.int ((fX8_patternTermMayBe b_))]) C hl.1 lk_X8_118 (ctX8_patternTermMayBe ) rfl rfl (Nat.le_of_ble_eq_true rfl) ⟨by decide, by decide, by decide, by decide⟩ dX8_pattern_17 rfl (fun sz => ?_)
    refine zb (fun _ _ => lv_if_eq (tgt := 38) hx hb dX8_pattern_20 (by decide)) (fun c_3 => ?_) (fun c_3 => ?_)
    · exact z_throw C hl.1 th_X8_121 hnt hlk dX8_pattern_38 dX8_pattern_41 dX8_pattern_42 dX8_pattern_44 dX8_pattern_47 ⟨by decide, by decide, by decide, by decide, by decide, by decide⟩ ⟨by simp only [fX8_pattern, if_pos c_1, if_pos c_2, if_pos c_3]; decide, by simp only [fX8_pattern, if_pos c_1, if_pos c_2, if_pos c_3]; rfl, by simp only [fX8_pattern, if_pos c_1, if_pos c_2, if_pos c_3]⟩
    · refine zz (fun _ _ => lv_iload_n hx hb dX8_pattern_23 rfl (lv_at hl 4 rfl)) ?_
      refine zdS (As := [.int (c_)]) (rest := []) (st' := [.int ((fX8_patternTermMayBe c_))]) C hl.1 lk_X8_118 (ctX8_patternTermMayBe ) rfl rfl (Nat.le_of_ble_eq_true rfl) ⟨by decide, by decide, by decide, by decide⟩ dX8_pattern_24 rfl (fun sz => ?_)
      refine zb (fun _ _ => lv_if_eq (tgt := 38) hx hb dX8_pattern_27 (by decide)) (fun c_4 => ?_) (fun c_4 => ?_)
      · exact z_throw C hl.1 th_X8_121 hnt hlk dX8_pattern_38 dX8_pattern_41 dX8_pattern_42 dX8_pattern_44 dX8_pattern_47 ⟨by decide, by decide, by decide, by decide, by decide, by decide⟩ ⟨by simp only [fX8_pattern, if_pos c_1, if_pos c_2, if_neg c_3, if_pos c_4]; decide, by simp only [fX8_pattern, if_pos c_1, if_pos c_2, if_neg c_3, if_pos c_4]; rfl, by simp only [fX8_pattern, if_pos c_1, if_pos c_2, if_neg c_3, if_pos c_4]⟩
      · refine zz (fun _ _ => lv_iload hx hb dX8_pattern_30 (lv_at hl 5 rfl)) ?_
        refine zdS (As := [.int (d_)]) (rest := []) (st' := [.int ((fX8_patternTermMayBe d_))]) C hl.1 lk_X8_118 (ctX8_patternTermMayBe ) rfl rfl (Nat.le_of_ble_eq_true rfl) ⟨by decide, by decide, by decide, by decide⟩ dX8_pattern_32 rfl (fun sz => ?_)
        refine zbn (fun _ _ => lv_if_ne (tgt := 48) hx hb dX8_pattern_35 (by decide)) (fun c_5 => ?_) (fun c_5 => ?_)
        · refine zz (fun _ _ => lv_aload hx hb dX8_pattern_48 (lv_at hl 0 rfl)) ?_
          refine z_get (v := .ref (x + ((61 + 6 * (Int32.toNatClampNeg (a_))) + 4))) C fd_X8_123 (rd_18 (kp_2 (sn_lt c_1 hs hn))) rfl dX8_pattern_50 ?_
          refine zdV (As := []) (rest := []) (st' := [.int ((fX3_isFull iv ((61 + 6 * (Int32.toNatClampNeg (a_))) + 4)))]) C hl.1 lk_X8_106 (ctX3_isFull (nb_18_4 (kp_2 (sn_lt c_1 hs hn)))) (rd_14 (nb_18_4 (kp_2 (sn_lt c_1 hs hn)))) rfl rfl rfl (Nat.le_of_ble_eq_true rfl) ⟨by decide, by decide, by decide, by decide⟩ dX8_pattern_53 rfl (fun sz => ?_)
          refine zb (fun _ _ => lv_if_eq (tgt := 69) hx hb dX8_pattern_56 (by decide)) (fun c_6 => ?_) (fun c_6 => ?_)
          · refine zz (fun _ _ => lv_aload hx hb dX8_pattern_69 (lv_at hl 0 rfl)) ?_
            refine z_get (v := .ref (x + ((61 + 6 * (Int32.toNatClampNeg (a_))) + 4))) C fd_X8_123 (rd_18 (kp_2 (sn_lt c_1 hs hn))) rfl dX8_pattern_71 ?_
            refine zz (fun _ _ => lv_iload_n hx hb dX8_pattern_74 rfl (lv_at hl 3 rfl)) ?_
            refine zz (fun _ _ => lv_iload_n hx hb dX8_pattern_75 rfl (lv_at hl 4 rfl)) ?_
            refine zz (fun _ _ => lv_iload hx hb dX8_pattern_76 (lv_at hl 5 rfl)) ?_
            have hj9 := (sn_lt c_1 hs hn)
            obtain ⟨c0, hc0, hc1, hm1⟩ := hT _ hj9
            refine zdV (As := [.int (b_), .int (c_), .int (d_)]) (rest := []) (st' := [.int ((fX3_append iv av ((61 + 6 * (Int32.toNatClampNeg (a_))) + 4) b_ c_ d_).1)]) C hl.1 lk_X8_128 (ctX3_append (nb_18_4 (kp_2 (sn_lt c_1 hs hn))) hc1 hm1 hc0 (by rw [tl_P hj9]; decide)) (rd_14 (nb_18_4 (kp_2 (sn_lt c_1 hs hn)))) rfl rfl rfl (Nat.le_of_ble_eq_true rfl) ⟨by decide, by decide, by decide, by decide⟩ dX8_pattern_78 rfl (fun sz => ?_)
            exact z_ret (by decide) (by decide) (z_iret C hr hlk dX8_pattern_81 ⟨by simp only [fX8_pattern, if_pos c_1, if_pos c_2, if_neg c_3, if_neg c_4, if_neg c_5, if_pos c_6], by simp only [fX8_pattern, if_pos c_1, if_pos c_2, if_neg c_3, if_neg c_4, if_neg c_5, if_pos c_6], by simp only [fX8_pattern, if_pos c_1, if_pos c_2, if_neg c_3, if_neg c_4, if_neg c_5, if_pos c_6]⟩)
          · exact z_throw C hl.1 th_X8_126 hnt hlk dX8_pattern_59 dX8_pattern_62 dX8_pattern_63 dX8_pattern_65 dX8_pattern_68 ⟨by decide, by decide, by decide, by decide, by decide, by decide⟩ ⟨by simp only [fX8_pattern, if_pos c_1, if_pos c_2, if_neg c_3, if_neg c_4, if_neg c_5, if_neg c_6]; decide, by simp only [fX8_pattern, if_pos c_1, if_pos c_2, if_neg c_3, if_neg c_4, if_neg c_5, if_neg c_6]; rfl, by simp only [fX8_pattern, if_pos c_1, if_pos c_2, if_neg c_3, if_neg c_4, if_neg c_5, if_neg c_6]⟩
        · exact z_throw C hl.1 th_X8_121 hnt hlk dX8_pattern_38 dX8_pattern_41 dX8_pattern_42 dX8_pattern_44 dX8_pattern_47 ⟨by decide, by decide, by decide, by decide, by decide, by decide⟩ ⟨by simp only [fX8_pattern, if_pos c_1, if_pos c_2, if_neg c_3, if_neg c_4, if_pos c_5]; decide, by simp only [fX8_pattern, if_pos c_1, if_pos c_2, if_neg c_3, if_neg c_4, if_pos c_5]; rfl, by simp only [fX8_pattern, if_pos c_1, if_pos c_2, if_neg c_3, if_neg c_4, if_pos c_5]⟩
def fX8_file (iv : Nat → Nat → Int32) (av : Nat → Nat → Int32) (a_ : Int32) (b_ : Int32) (c_ : Int32) (d_ : Int32) : Nat × Int32 × (Nat → Nat → Int32) × (Nat → Nat → Int32) := if (fX8_fileNumbered a_) = 0 then if (fX8_isName b_) = 0 then (1, 0, iv, av) else if (fX8_isName c_) = 0 then (1, 0, iv, av) else if (fX8_isName d_) = 0 then (1, 0, iv, av) else if (fX3_isFull iv ((29 + 3 * (Int32.toNatClampNeg (a_))) + 1)) = 0 then (0, (fX3_append iv av ((29 + 3 * (Int32.toNatClampNeg (a_))) + 1) b_ c_ d_).1, (fX3_append iv av ((29 + 3 * (Int32.toNatClampNeg (a_))) + 1) b_ c_ d_).2.1, (fX3_append iv av ((29 + 3 * (Int32.toNatClampNeg (a_))) + 1) b_ c_ d_).2.2) else (2, 0, iv, av) else ((fX8_fileNumbered a_), 0, iv, av)
set_option maxHeartbeats 1000000 in
set_option maxRecDepth 10000 in
theorem ctX8_file {l : Launch} {D : va_G} {aC : Nat → ClassId} {b0 sz : Nat} {x : Nat} {iv av : Nat → Nat → Int32} {R : ZM} {a_ : Int32} {b_ : Int32} {c_ : Int32} {d_ : Int32} (hT : ∀ j, j < 4 → ∃ c, c ≤ 10 ∧ iv (29 + 3 * j + 1) 2 = nI c ∧ iv (29 + 3 * j + 1) 1 = nI 10) : CtX l D aC b0 yX8_file cX8_file 6 (some .int) 2 2 12 [.ref (x + 0), .int (a_), .int (b_), .int (c_), .int (d_)] (cm aC x iv av R) sz (zdx (fX8_file iv av a_ b_ c_ d_).1 (some (.int (fX8_file iv av a_ b_ c_ d_).2.1)) (cm aC x (fX8_file iv av a_ b_ c_ d_).2.2.1 (fX8_file iv av a_ b_ c_ d_).2.2.2 R)) (zxx (fX8_file iv av a_ b_ c_ d_).1 (cm aC x (fX8_file iv av a_ b_ c_ d_).2.2.1 (fX8_file iv av a_ b_ c_ d_).2.2.2 R)) := by
  refine CtX.of (by decide) (Nat.le_of_ble_eq_true rfl) ?_
  intro p e s m below meth c ls C hr hlk hnt hl
  have hl : lv_has ls 6 [(0, .ref (x + 0)), (1, .int (a_)), (2, .int (b_)), (3, .int (c_)), (4, .int (d_))] := hl
  obtain ⟨hx, hb, -, -, -⟩ := id C
  refine zz (fun _ _ => lv_aload_n hx hb dX8_file_0 rfl (lv_at hl 0 rfl)) ?_
  refine zz (fun _ _ => lv_iload_n hx hb dX8_file_1 rfl (lv_at hl 1 rfl)) ?_
  refine z_callVX (As := [.int (a_)]) (rest := []) C hl.1 lk_X8_132 ml_X8_132 (ctX8_fileNumbered ) (rd_1 (by decide)) rfl rfl rfl (Nat.le_of_ble_eq_true rfl) ⟨by decide, by decide, by decide, by decide⟩ dX8_file_2 (fun E9 M9 hp9 _ _ _ _ a1 a2 a3 a4 a5 => ?_) (fun r9 M9 sz hp9 => ?_)
  · obtain ⟨h9, rfl, rfl⟩ := hp9
    exact z_out hnt hlk (by decide) (by decide) ⟨by simp only [fX8_file, if_neg h9]; exact h9, by simp only [fX8_file, if_neg h9], by simp only [fX8_file, if_neg h9]⟩ a1 a2 a3 a4 a5
  obtain ⟨c_1, rfl, rfl⟩ := hp9
  refine zst (st' := [.ref (x + (29 + 3 * (Int32.toNatClampNeg (a_))))]) rfl ?_
  refine zs (fun _ _ => lv_astore (lv' := [(5, .ref (x + (29 + 3 * (Int32.toNatClampNeg (a_))))), (0, .ref (x + 0)), (1, .int (a_)), (2, .int (b_)), (3, .int (c_)), (4, .int (d_))]) hx hb dX8_file_5 hl (by decide) rfl) (fun ls hl => ?_)
  refine zz (fun _ _ => lv_iload_n hx hb dX8_file_7 rfl (lv_at hl 3 rfl)) ?_
  refine zdS (As := [.int (b_)]) (rest := []) (st' := [.int ((fX8_isName b_))]) C hl.1 lk_X8_136 (ctX8_isName ) rfl rfl (Nat.le_of_ble_eq_true rfl) ⟨by decide, by decide, by decide, by decide⟩ dX8_file_8 rfl (fun sz => ?_)
  refine zb (fun _ _ => lv_if_eq (tgt := 29) hx hb dX8_file_11 (by decide)) (fun c_2 => ?_) (fun c_2 => ?_)
  · exact z_throw C hl.1 th_X8_139 hnt hlk dX8_file_29 dX8_file_32 dX8_file_33 dX8_file_35 dX8_file_38 ⟨by decide, by decide, by decide, by decide, by decide, by decide⟩ ⟨by simp only [fX8_file, if_pos c_1, if_pos c_2]; decide, by simp only [fX8_file, if_pos c_1, if_pos c_2]; rfl, by simp only [fX8_file, if_pos c_1, if_pos c_2]⟩
  · refine zz (fun _ _ => lv_iload_n hx hb dX8_file_14 rfl (lv_at hl 4 rfl)) ?_
    refine zdS (As := [.int (c_)]) (rest := []) (st' := [.int ((fX8_isName c_))]) C hl.1 lk_X8_136 (ctX8_isName ) rfl rfl (Nat.le_of_ble_eq_true rfl) ⟨by decide, by decide, by decide, by decide⟩ dX8_file_15 rfl (fun sz => ?_)
    refine zb (fun _ _ => lv_if_eq (tgt := 29) hx hb dX8_file_18 (by decide)) (fun c_3 => ?_) (fun c_3 => ?_)
    · exact z_throw C hl.1 th_X8_139 hnt hlk dX8_file_29 dX8_file_32 dX8_file_33 dX8_file_35 dX8_file_38 ⟨by decide, by decide, by decide, by decide, by decide, by decide⟩ ⟨by simp only [fX8_file, if_pos c_1, if_neg c_2, if_pos c_3]; decide, by simp only [fX8_file, if_pos c_1, if_neg c_2, if_pos c_3]; rfl, by simp only [fX8_file, if_pos c_1, if_neg c_2, if_pos c_3]⟩
    · refine zz (fun _ _ => lv_iload hx hb dX8_file_21 (lv_at hl 5 rfl)) ?_
      refine zdS (As := [.int (d_)]) (rest := []) (st' := [.int ((fX8_isName d_))]) C hl.1 lk_X8_136 (ctX8_isName ) rfl rfl (Nat.le_of_ble_eq_true rfl) ⟨by decide, by decide, by decide, by decide⟩ dX8_file_23 rfl (fun sz => ?_)
      refine zbn (fun _ _ => lv_if_ne (tgt := 39) hx hb dX8_file_26 (by decide)) (fun c_4 => ?_) (fun c_4 => ?_)
      · refine zz (fun _ _ => lv_aload hx hb dX8_file_39 (lv_at hl 0 rfl)) ?_
        refine z_get (v := .ref (x + ((29 + 3 * (Int32.toNatClampNeg (a_))) + 1))) C fd_X8_141 (rd_13 (kp_8 (fn_lt c_1))) rfl dX8_file_41 ?_
        refine zdV (As := []) (rest := []) (st' := [.int ((fX3_isFull iv ((29 + 3 * (Int32.toNatClampNeg (a_))) + 1)))]) C hl.1 lk_X8_106 (ctX3_isFull (nb_13_1 (kp_8 (fn_lt c_1)))) (rd_14 (nb_13_1 (kp_8 (fn_lt c_1)))) rfl rfl rfl (Nat.le_of_ble_eq_true rfl) ⟨by decide, by decide, by decide, by decide⟩ dX8_file_44 rfl (fun sz => ?_)
        refine zb (fun _ _ => lv_if_eq (tgt := 60) hx hb dX8_file_47 (by decide)) (fun c_5 => ?_) (fun c_5 => ?_)
        · refine zz (fun _ _ => lv_aload hx hb dX8_file_60 (lv_at hl 0 rfl)) ?_
          refine z_get (v := .ref (x + ((29 + 3 * (Int32.toNatClampNeg (a_))) + 1))) C fd_X8_141 (rd_13 (kp_8 (fn_lt c_1))) rfl dX8_file_62 ?_
          refine zz (fun _ _ => lv_iload_n hx hb dX8_file_65 rfl (lv_at hl 3 rfl)) ?_
          refine zz (fun _ _ => lv_iload_n hx hb dX8_file_66 rfl (lv_at hl 4 rfl)) ?_
          refine zz (fun _ _ => lv_iload hx hb dX8_file_67 (lv_at hl 5 rfl)) ?_
          have hj9 := (fn_lt c_1)
          obtain ⟨c0, hc0, hc1, hm1⟩ := hT _ hj9
          refine zdV (As := [.int (b_), .int (c_), .int (d_)]) (rest := []) (st' := [.int ((fX3_append iv av ((29 + 3 * (Int32.toNatClampNeg (a_))) + 1) b_ c_ d_).1)]) C hl.1 lk_X8_128 (ctX3_append (nb_13_1 (kp_8 (fn_lt c_1))) hc1 hm1 hc0 (by rw [tl_F hj9]; decide)) (rd_14 (nb_13_1 (kp_8 (fn_lt c_1)))) rfl rfl rfl (Nat.le_of_ble_eq_true rfl) ⟨by decide, by decide, by decide, by decide⟩ dX8_file_69 rfl (fun sz => ?_)
          exact z_ret (by decide) (by decide) (z_iret C hr hlk dX8_file_72 ⟨by simp only [fX8_file, if_pos c_1, if_neg c_2, if_neg c_3, if_neg c_4, if_pos c_5], by simp only [fX8_file, if_pos c_1, if_neg c_2, if_neg c_3, if_neg c_4, if_pos c_5], by simp only [fX8_file, if_pos c_1, if_neg c_2, if_neg c_3, if_neg c_4, if_pos c_5]⟩)
        · exact z_throw C hl.1 th_X8_146 hnt hlk dX8_file_50 dX8_file_53 dX8_file_54 dX8_file_56 dX8_file_59 ⟨by decide, by decide, by decide, by decide, by decide, by decide⟩ ⟨by simp only [fX8_file, if_pos c_1, if_neg c_2, if_neg c_3, if_neg c_4, if_neg c_5]; decide, by simp only [fX8_file, if_pos c_1, if_neg c_2, if_neg c_3, if_neg c_4, if_neg c_5]; rfl, by simp only [fX8_file, if_pos c_1, if_neg c_2, if_neg c_3, if_neg c_4, if_neg c_5]⟩
      · exact z_throw C hl.1 th_X8_139 hnt hlk dX8_file_29 dX8_file_32 dX8_file_33 dX8_file_35 dX8_file_38 ⟨by decide, by decide, by decide, by decide, by decide, by decide⟩ ⟨by simp only [fX8_file, if_pos c_1, if_neg c_2, if_neg c_3, if_pos c_4]; decide, by simp only [fX8_file, if_pos c_1, if_neg c_2, if_neg c_3, if_pos c_4]; rfl, by simp only [fX8_file, if_pos c_1, if_neg c_2, if_neg c_3, if_pos c_4]⟩
