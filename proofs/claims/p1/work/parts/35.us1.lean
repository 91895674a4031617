def fX8_stepNumbered (iv : Nat → Nat → Int32) (a_ : Int32) : Nat := if a_ < 0 then (3) else if a_ < iv 0 5 then (0) else (3)
set_option maxHeartbeats 1000000 in
set_option maxRecDepth 10000 in
theorem ctX8_stepNumbered {l : Launch} {D : va_G} {aC : Nat → ClassId} {b0 sz : Nat} {x : Nat} {iv av : Nat → Nat → Int32} {R : ZM} {a_ : Int32} {n_ : Nat} (hs : iv 0 5 = nI n_) (hn : n_ ≤ 12) : CtX l D aC b0 yX8_stepNumbered cX8_stepNumbered 2 (some (.object "UpdateSteps$Step")) 0 1 6 [.ref (x + 0), .int (a_)] (cm aC x iv av R) sz (zdx (fX8_stepNumbered iv a_) (some (.ref (x + (61 + 6 * (Int32.toNatClampNeg (a_)))))) (cm aC x iv av R)) (zxx (fX8_stepNumbered iv a_) (cm aC x iv av R)) := by
  refine CtX.of (by decide) (Nat.le_of_ble_eq_true rfl) ?_
  intro p e s m below meth c ls C hr hlk hnt hl
  have hl : lv_has ls 2 [(0, .ref (x + 0)), (1, .int (a_))] := hl
  obtain ⟨hx, hb, -, -, -⟩ := id C
  refine zz (fun _ _ => lv_iload_n hx hb dX8_stepNumbered_0 rfl (lv_at hl 1 rfl)) ?_
  refine zb (fun _ _ => lv_if_lt (tgt := 12) hx hb dX8_stepNumbered_1 (by decide)) (fun c_1 => ?_) (fun c_1 => ?_)
  · exact z_throw C hl.1 th_X8_234 hnt hlk dX8_stepNumbered_12 dX8_stepNumbered_15 dX8_stepNumbered_16 dX8_stepNumbered_18 dX8_stepNumbered_21 ⟨by decide, by decide, by decide, by decide, by decide, by decide⟩ ⟨by simp only [fX8_stepNumbered, if_pos c_1]; decide, by simp only [fX8_stepNumbered, if_pos c_1]; rfl, by simp only [fX8_stepNumbered, if_pos c_1]⟩
  · refine zz (fun _ _ => lv_iload_n hx hb dX8_stepNumbered_4 rfl (lv_at hl 1 rfl)) ?_
    refine zz (fun _ _ => lv_aload_n hx hb dX8_stepNumbered_5 rfl (lv_at hl 0 rfl)) ?_
    refine z_get (v := .int (iv 0 5)) C fd_X8_40 (rd_1 (by decide)) rfl dX8_stepNumbered_6 ?_
    refine zb (fun _ _ => lv_icmp_lt (tgt := 22) hx hb dX8_stepNumbered_9 (by decide)) (fun c_2 => ?_) (fun c_2 => ?_)
    · refine zz (fun _ _ => lv_aload_n hx hb dX8_stepNumbered_22 rfl (lv_at hl 0 rfl)) ?_
      refine z_get (v := .ref (x + 1)) C fd_X8_11 (rd_1 (by decide)) rfl dX8_stepNumbered_23 ?_
      refine zz (fun _ _ => lv_iload_n hx hb dX8_stepNumbered_26 rfl (lv_at hl 1 rfl)) ?_
      refine z_aald C 4 rfl (rd_2 (by decide)) (ix_lt2 c_1 c_2 hs hn (by decide)) (v := .ref (x + (61 + 6 * (Int32.toNatClampNeg (a_))))) (rf_if2 (f := fun q => x + (61 + 6 * q)) (vin_lt (ix_lt2 c_1 c_2 hs hn (by decide)))) dX8_stepNumbered_27 ?_
      exact z_ret (by decide) (by decide) (z_aret C hr hlk dX8_stepNumbered_28 ⟨by simp only [fX8_stepNumbered, if_neg c_1, if_pos c_2], by simp only [fX8_stepNumbered, if_neg c_1, if_pos c_2], by simp only [fX8_stepNumbered, if_neg c_1, if_pos c_2]⟩)
    · exact z_throw C hl.1 th_X8_234 hnt hlk dX8_stepNumbered_12 dX8_stepNumbered_15 dX8_stepNumbered_16 dX8_stepNumbered_18 dX8_stepNumbered_21 ⟨by decide, by decide, by decide, by decide, by decide, by decide⟩ ⟨by simp only [fX8_stepNumbered, if_neg c_1, if_neg c_2]; decide, by simp only [fX8_stepNumbered, if_neg c_1, if_neg c_2]; rfl, by simp only [fX8_stepNumbered, if_neg c_1, if_neg c_2]⟩
