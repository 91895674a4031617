def fX8_stepNumbered (iv : Nat → Nat → Int32) (a_ : Int32) : Nat := if a_ < 0 then (3) else if a_ < iv 0 5 then (0) else (3)
set_option maxHeartbeats 1000000 in
set_option maxRecDepth 10000 in
theorem ctX8_stepNumbered {l : Launch} {D : va_G} {aC : Nat → ClassId} {b0 sz : Nat} {x : Nat} {iv av : Nat → Nat → Int32} {R : ZM} {a_ : Int32} {n_ : Nat} (hs : iv 0 5 = nI n_) (hn : n_ ≤ 12) : CtX l D aC b0 yX8_stepNumbered cX8_stepNumbered 2 (some (.object "UpdateSteps$Step")) 0 1 6 [.ref (x + 0), .int (a_)] (cm aC x iv av R) sz (zdx (fX8_stepNumbered iv a_) (some (.ref (x + (61 + 6 * (Int32.toNatClampNeg (a_)))))) (cm aC x iv av R)) (zxx (fX8_stepNumbered iv a_) (cm aC x iv av R)) := by
  refine CtX.of (by decide) (Nat.le_of_ble_eq_true rfl) ?_
  intro p e s m below meth c ls C hr hlk hnt hl
  have hl : lv_has ls 2 [(0, .ref (x + 0)), (1, .int (a_))] := hl
  obtain ⟨hx, hb, -, -, -⟩ := id C
  refine zz (fun _ _ => lv_iload_n hx hb dX8_stepNumbered_0 rfl (lv_at hl 1 rfl)) ?_
  refine zb (fun _ _ => lv_if_lt (tgt := 12) hx hb dX8_stepNumbered_1 (by decide)) (fun c_1 => ?_) (fun c_1 => ?_)
  · exact z_throw C hl.1 th_X8_234 hnt hlk dX8_stepNumbered_12 dX8_stepNumbered_15 dX8_stepNumbered_16 dX8_stepNumbered_18 dX8_stepNumbered_21 ⟨by decide, by decide, by decide, by decide, by decide, by decide⟩ ⟨by simp only [fX8_stepNumbered, if_pos c_1]; decide, by simp only [fX8_stepNumbered, if_pos c_1]; rfl, by simp only [fX8_stepNumbered, if_pos c_1]⟩
  · refine zz (fun _ _ => lv_iload_n hx hb dX8_stepNumbered_4 rfl (lv_at hl 1 rfl)) ?_
    refine zz (fun _ _ => lv_aload_n hx hb dX8_stepNumbered_5 rfl (lv_at hl 0 rfl)) ?_
    refine z_get (v := .int (iv 0 5)) C fd_X8_40 (rd_1 (by decide)) rfl dX8_stepNumbered_6 ?_
    refine zb (fun _ _ => lv_icmp_lt (tgt := 22) hx hb dX8_stepNumbered_9 (by decide)) (fun c_2 => ?_) (fun c_2 => ?_)
    · refine zz (fun _ _ => lv_aload_n hx hb dX8_stepNumbered_22 rfl (lv_at hl 0 rfl)) ?_
      refine z_get (v := .ref (x + 1)) C fd_X8_11 (rd_1 (by decide)) rfl dX8_stepNumbered_23 ?_
      refine zz (fun _ _ => lv_iload_n hx hb dX8_stepNumbered_26 rfl (lv_at hl 1 rfl)) ?_
      refine z_aald C 4 rfl (rd_2 (by decide)) (ix_lt2 c_1 c_2 hs hn (by decide)) (v := .ref (x + (61 + 6 * (Int32.toNatClampNeg (a_))))) (rf_if2 (f := fun q => x + (61 + 6 * q)) (vin_lt (ix_lt2 c_1 c_2 hs hn (by decide)))) dX8_stepNumbered_27 ?_
      exact z_ret (by decide) (by decide) (z_aret C hr hlk dX8_stepNumbered_28 ⟨by simp only [fX8_stepNumbered, if_neg c_1, if_pos c_2], by simp only [fX8_stepNumbered, if_neg c_1, if_pos c_2], by simp only [fX8_stepNumbered, if_neg c_1, if_pos c_2]⟩)
    · exact z_throw C hl.1 th_X8_234 hnt hlk dX8_stepNumbered_12 dX8_stepNumbered_15 dX8_stepNumbered_16 dX8_stepNumbered_18 dX8_stepNumbered_21 ⟨by decide, by decide, by decide, by decide, by decide, by decide⟩ ⟨by simp only [fX8_stepNumbered, if_neg c_1, if_neg c_2]; decide, by simp only [fX8_stepNumbered, if_neg c_1, if_neg c_2]; rfl, by simp only [fX8_stepNumbered, if_neg c_1, if_neg c_2]⟩
theorem sn_lt {iv : Nat → Nat → Int32} {a : Int32} {n : Nat} (h : fX8_stepNumbered iv a = 0) (hs : iv 0 5 = nI n) (hn : n ≤ 12) : a.toNatClampNeg < 12 := by
  unfold fX8_stepNumbered at h
  split at h
  · exact absurd h (by decide)
  · split at h
    · rename_i h1 h2
      exact vin_lt (ix_lt2 h1 h2 hs hn (by decide))
    · exact absurd h (by decide)
theorem isGraph_in {a : Int32} (h : ¬ fX8_isGraph a = 0) : vp_in a 7 := by
  unfold fX8_isGraph at h
  split at h
  · exact absurd rfl h
  · split at h
    · exact absurd rfl h
    · rename_i h1 h2
      exact ix_lt (n := 7) h1 h2 rfl (by decide) (by decide)
def fX8_fileNumbered (a_ : Int32) : Nat := if a_ < 0 then (3) else if a_ < 4 then (0) else (3)
set_option maxHeartbeats 1000000 in
set_option maxRecDepth 10000 in
theorem ctX8_fileNumbered {l : Launch} {D : va_G} {aC : Nat → ClassId} {b0 sz : Nat} {x : Nat} {iv av : Nat → Nat → Int32} {R : ZM} {a_ : Int32} : CtX l D aC b0 yX8_fileNumbered cX8_fileNumbered 2 (some (.object "UpdateSteps$FileRows")) 0 1 6 [.ref (x + 0), .int (a_)] (cm aC x iv av R) sz (zdx (fX8_fileNumbered a_) (some (.ref (x + (29 + 3 * (Int32.toNatClampNeg (a_)))))) (cm aC x iv av R)) (zxx (fX8_fileNumbered a_) (cm aC x iv av R)) := by
  refine CtX.of (by decide) (Nat.le_of_ble_eq_true rfl) ?_
  intro p e s m below meth c ls C hr hlk hnt hl
  have hl : lv_has ls 2 [(0, .ref (x + 0)), (1, .int (a_))] := hl
  obtain ⟨hx, hb, -, -, -⟩ := id C
  refine zz (fun _ _ => lv_iload_n hx hb dX8_fileNumbered_0 rfl (lv_at hl 1 rfl)) ?_
  refine zb (fun _ _ => lv_if_lt (tgt := 9) hx hb dX8_fileNumbered_1 (by decide)) (fun c_1 => ?_) (fun c_1 => ?_)
  · exact z_throw C hl.1 th_X8_236 hnt hlk dX8_fileNumbered_9 dX8_fileNumbered_12 dX8_fileNumbered_13 dX8_fileNumbered_15 dX8_fileNumbered_18 ⟨by decide, by decide, by decide, by decide, by decide, by decide⟩ ⟨by simp only [fX8_fileNumbered, if_pos c_1]; decide, by simp only [fX8_fileNumbered, if_pos c_1]; rfl, by simp only [fX8_fileNumbered, if_pos c_1]⟩
  · refine zz (fun _ _ => lv_iload_n hx hb dX8_fileNumbered_4 rfl (lv_at hl 1 rfl)) ?_
    refine zz (fun _ _ => lv_iconst (v := 4) hx hb dX8_fileNumbered_5 (by decide)) ?_
    refine zb (fun _ _ => lv_icmp_lt (tgt := 19) hx hb dX8_fileNumbered_6 (by decide)) (fun c_2 => ?_) (fun c_2 => ?_)
    · refine zz (fun _ _ => lv_aload_n hx hb dX8_fileNumbered_19 rfl (lv_at hl 0 rfl)) ?_
      refine z_get (v := .ref (x + 2)) C fd_X8_18 (rd_1 (by decide)) rfl dX8_fileNumbered_20 ?_
      refine z_get (v := .ref (x + 19)) C fd_X8_238 (rd_3 (by decide)) rfl dX8_fileNumbered_23 ?_
      refine zz (fun _ _ => lv_iload_n hx hb dX8_fileNumbered_26 rfl (lv_at hl 1 rfl)) ?_
      refine z_aald C 2 rfl (rd_8 (by decide)) (ix_lt2 (n := 4) c_1 c_2 rfl (by decide) (by decide)) (v := .ref (x + (29 + 3 * (Int32.toNatClampNeg (a_))))) (rf_if2 (f := fun q => x + (29 + 3 * q)) (vin_lt (ix_lt2 (n := 4) c_1 c_2 rfl (by decide) (by decide)))) dX8_fileNumbered_27 ?_
      exact z_ret (by decide) (by decide) (z_aret C hr hlk dX8_fileNumbered_28 ⟨by simp only [fX8_fileNumbered, if_neg c_1, if_pos c_2], by simp only [fX8_fileNumbered, if_neg c_1, if_pos c_2], by simp only [fX8_fileNumbered, if_neg c_1, if_pos c_2]⟩)
    · exact z_throw C hl.1 th_X8_236 hnt hlk dX8_fileNumbered_9 dX8_fileNumbered_12 dX8_fileNumbered_13 dX8_fileNumbered_15 dX8_fileNumbered_18 ⟨by decide, by decide, by decide, by decide, by decide, by decide⟩ ⟨by simp only [fX8_fileNumbered, if_neg c_1, if_neg c_2]; decide, by simp only [fX8_fileNumbered, if_neg c_1, if_neg c_2]; rfl, by simp only [fX8_fileNumbered, if_neg c_1, if_neg c_2]⟩
theorem fn_lt {a : Int32} (h : fX8_fileNumbered a = 0) : a.toNatClampNeg < 4 := by
  unfold fX8_fileNumbered at h
  split at h
  · exact absurd h (by decide)
  · split at h
    · rename_i h1 h2
      exact vin_lt (ix_lt2 (n := 4) h1 h2 rfl (by decide) (by decide))
    · exact absurd h (by decide)
def fX8_graphNumbered (a_ : Int32) : Nat := if (fX8_isGraph a_) = 0 then (3) else (0)
set_option maxHeartbeats 1000000 in
set_option maxRecDepth 10000 in
theorem ctX8_graphNumbered {l : Launch} {D : va_G} {aC : Nat → ClassId} {b0 sz : Nat} {x : Nat} {iv av : Nat → Nat → Int32} {R : ZM} {a_ : Int32} : CtX l D aC b0 yX8_graphNumbered cX8_graphNumbered 2 (some (.object "UpdateSteps$Graph")) 1 1 6 [.ref (x + 0), .int (a_)] (cm aC x iv av R) sz (zdx (fX8_graphNumbered a_) (some (.ref (x + (4 + 1 + 2 * (Int32.toNatClampNeg (a_)))))) (cm aC x iv av R)) (zxx (fX8_graphNumbered a_) (cm aC x iv av R)) := by
  refine CtX.of (by decide) (Nat.le_of_ble_eq_true rfl) ?_
  intro p e s m below meth c ls C hr hlk hnt hl
  have hl : lv_has ls 2 [(0, .ref (x + 0)), (1, .int (a_))] := hl
  obtain ⟨hx, hb, -, -, -⟩ := id C
  refine zz (fun _ _ => lv_iload_n hx hb dX8_graphNumbered_0 rfl (lv_at hl 1 rfl)) ?_
  refine zdS (As := [.int (a_)]) (rest := []) (st' := [.int ((fX8_isGraph a_))]) C hl.1 lk_X8_242 (ctX8_isGraph) rfl rfl (Nat.le_of_ble_eq_true rfl) ⟨by decide, by decide, by decide, by decide⟩ dX8_graphNumbered_1 rfl (fun sz => ?_)
  refine zbn (fun _ _ => lv_if_ne (tgt := 17) hx hb dX8_graphNumbered_4 (by decide)) (fun c_1 => ?_) (fun c_1 => ?_)
  · refine zz (fun _ _ => lv_aload_n hx hb dX8_graphNumbered_17 rfl (lv_at hl 0 rfl)) ?_
    refine z_get (v := .ref (x + 3)) C fd_X8_26 (rd_1 (by decide)) rfl dX8_graphNumbered_18 ?_
    refine z_get (v := .ref (x + 4)) C fd_X8_247 (rd_4 (by decide)) rfl dX8_graphNumbered_21 ?_
    refine zz (fun _ _ => lv_iload_n hx hb dX8_graphNumbered_24 rfl (lv_at hl 1 rfl)) ?_
    refine z_aald C 3 rfl (rd_5 (by decide)) (isGraph_in c_1) (v := .ref (x + (4 + 1 + 2 * (Int32.toNatClampNeg (a_))))) (rf_if2 (f := fun q => x + (4 + 1 + 2 * q)) (vin_lt (isGraph_in c_1))) dX8_graphNumbered_25 ?_
    exact z_ret (by decide) (by decide) (z_aret C hr hlk dX8_graphNumbered_26 ⟨by simp only [fX8_graphNumbered, if_neg c_1], by simp only [fX8_graphNumbered, if_neg c_1], by simp only [fX8_graphNumbered, if_neg c_1]⟩)
  · exact z_throw C hl.1 th_X8_245 hnt hlk dX8_graphNumbered_7 dX8_graphNumbered_10 dX8_graphNumbered_11 dX8_graphNumbered_13 dX8_graphNumbered_16 ⟨by decide, by decide, by decide, by decide, by decide, by decide⟩ ⟨by simp only [fX8_graphNumbered, if_pos c_1]; decide, by simp only [fX8_graphNumbered, if_pos c_1]; rfl, by simp only [fX8_graphNumbered, if_pos c_1]⟩
theorem gn_lt {a : Int32} (h : fX8_graphNumbered a = 0) : a.toNatClampNeg < 7 := by
  unfold fX8_graphNumbered at h
  split at h
  · exact absurd h (by decide)
  · rename_i h1
    exact vin_lt (isGraph_in h1)
def fX8_silent (iv : Nat → Nat → Int32) (av : Nat → Nat → Int32) (a_ : Int32) (b_ : Int32) : Nat × Int32 × (Nat → Nat → Int32) × (Nat → Nat → Int32) := if (fX8_stepNumbered iv a_) = 0 then (0, iv (61 + 6 * (Int32.toNatClampNeg (a_))) 6, (u2 iv (61 + 6 * (Int32.toNatClampNeg (a_))) 6 (b_)), av) else ((fX8_stepNumbered iv a_), 0, iv, av)
set_option maxHeartbeats 1000000 in
set_option maxRecDepth 10000 in
theorem ctX8_silent {l : Launch} {D : va_G} {aC : Nat → ClassId} {b0 sz : Nat} {x : Nat} {iv av : Nat → Nat → Int32} {R : ZM} {a_ : Int32} {b_ : Int32} {n_ : Nat} (hs : iv 0 5 = nI n_) (hn : n_ ≤ 12) (hbb : b_ = 0 ∨ b_ = 1) (hz : ∀ j, j < 12 → iv (61 + 6 * j) 6 = 0 ∨ iv (61 + 6 * j) 6 = 1) : CtX l D aC b0 yX8_silent cX8_silent 5 (some .boolean) 1 1 6 [.ref (x + 0), .int (a_), .int (b_)] (cm aC x iv av R) sz (zdx (fX8_silent iv av a_ b_).1 (some (.int (fX8_silent iv av a_ b_).2.1)) (cm aC x (fX8_silent iv av a_ b_).2.2.1 (fX8_silent iv av a_ b_).2.2.2 R)) (zxx (fX8_silent iv av a_ b_).1 (cm aC x (fX8_silent iv av a_ b_).2.2.1 (fX8_silent iv av a_ b_).2.2.2 R)) := by
  refine CtX.of (by decide) (Nat.le_of_ble_eq_true rfl) ?_
  intro p e s m below meth c ls C hr hlk hnt hl
  have hl : lv_has ls 5 [(0, .ref (x + 0)), (1, .int (a_)), (2, .int (b_))] := hl
  obtain ⟨hx, hb, -, -, -⟩ := id C
  refine zz (fun _ _ => lv_aload_n hx hb dX8_silent_0 rfl (lv_at hl 0 rfl)) ?_
  refine zz (fun _ _ => lv_iload_n hx hb dX8_silent_1 rfl (lv_at hl 1 rfl)) ?_
  refine z_callVX (As := [.int (a_)]) (rest := []) C hl.1 lk_X8_78 ml_X8_78 (ctX8_stepNumbered hs hn) (rd_1 (by decide)) rfl rfl rfl (Nat.le_of_ble_eq_true rfl) ⟨by decide, by decide, by decide, by decide⟩ dX8_silent_2 (fun E9 M9 hp9 _ _ _ _ a1 a2 a3 a4 a5 => ?_) (fun r9 M9 sz hp9 => ?_)
  · obtain ⟨h9, rfl, rfl⟩ := hp9
    exact z_out hnt hlk (by decide) (by decide) ⟨by simp only [fX8_silent, if_neg h9]; exact h9, by simp only [fX8_silent, if_neg h9], by simp only [fX8_silent, if_neg h9]⟩ a1 a2 a3 a4 a5
  obtain ⟨c_1, rfl, rfl⟩ := hp9
  refine zst (st' := [.ref (x + (61 + 6 * (Int32.toNatClampNeg (a_))))]) rfl ?_
  refine zs (fun _ _ => lv_astore_n (lv' := [(3, .ref (x + (61 + 6 * (Int32.toNatClampNeg (a_))))), (0, .ref (x + 0)), (1, .int (a_)), (2, .int (b_))]) hx hb dX8_silent_5 rfl hl (by decide) rfl) (fun ls hl => ?_)
  refine zz (fun _ _ => lv_aload_n hx hb dX8_silent_6 rfl (lv_at hl 0 rfl)) ?_
  refine z_get (v := .int (iv (61 + 6 * (Int32.toNatClampNeg (a_))) 6)) C fd_X8_82 (rd_18 (kp_2 (sn_lt c_1 hs hn))) rfl dX8_silent_7 ?_
  refine zs (fun _ _ => lv_istore (lv' := [(4, .int (iv (61 + 6 * (Int32.toNatClampNeg (a_))) 6)), (3, .ref (x + (61 + 6 * (Int32.toNatClampNeg (a_))))), (0, .ref (x + 0)), (1, .int (a_)), (2, .int (b_))]) hx hb dX8_silent_10 hl (by decide) rfl) (fun ls hl => ?_)
  refine zz (fun _ _ => lv_aload_n hx hb dX8_silent_12 rfl (lv_at hl 1 rfl)) ?_
  refine zz (fun _ _ => lv_iload_n hx hb dX8_silent_13 rfl (lv_at hl 4 rfl)) ?_
  refine z_put C fp_X8_82 (fun h => by cases h) (rd_18 (kp_2 (sn_lt c_1 hs hn))) (Nat.le_of_ble_eq_true rfl) (bz hbb) (bf hbb) dX8_silent_14 ?_
  refine zeq (wr_18_6 (kp_2 (sn_lt c_1 hs hn))) ?_
  refine zz (fun _ _ => lv_iload hx hb dX8_silent_17 (lv_at hl 0 rfl)) ?_
  exact z_ret (by decide) (by decide) (z_zret C hr (bz (hz _ (sn_lt c_1 hs hn))) hlk dX8_silent_19 ⟨by simp only [fX8_silent, if_pos c_1], by simp only [fX8_silent, if_pos c_1], by simp only [fX8_silent, if_pos c_1]⟩)
def fX8_torn (iv : Nat → Nat → Int32) (av : Nat → Nat → Int32) (a_ : Int32) (b_ : Int32) : Nat × Int32 × (Nat → Nat → Int32) × (Nat → Nat → Int32) := if (fX8_fileNumbered a_) = 0 then (0, iv (29 + 3 * (Int32.toNatClampNeg (a_))) 1, (u2 iv (29 + 3 * (Int32.toNatClampNeg (a_))) 1 (b_)), av) else ((fX8_fileNumbered a_), 0, iv, av)
set_option maxHeartbeats 1000000 in
set_option maxRecDepth 10000 in
theorem ctX8_torn {l : Launch} {D : va_G} {aC : Nat → ClassId} {b0 sz : Nat} {x : Nat} {iv av : Nat → Nat → Int32} {R : ZM} {a_ : Int32} {b_ : Int32} (hbb : b_ = 0 ∨ b_ = 1) (hz : ∀ j, j < 4 → iv (29 + 3 * j) 1 = 0 ∨ iv (29 + 3 * j) 1 = 1) : CtX l D aC b0 yX8_torn cX8_torn 5 (some .boolean) 1 1 6 [.ref (x + 0), .int (a_), .int (b_)] (cm aC x iv av R) sz (zdx (fX8_torn iv av a_ b_).1 (some (.int (fX8_torn iv av a_ b_).2.1)) (cm aC x (fX8_torn iv av a_ b_).2.2.1 (fX8_torn iv av a_ b_).2.2.2 R)) (zxx (fX8_torn iv av a_ b_).1 (cm aC x (fX8_torn iv av a_ b_).2.2.1 (fX8_torn iv av a_ b_).2.2.2 R)) := by
  refine CtX.of (by decide) (Nat.le_of_ble_eq_true rfl) ?_
  intro p e s m below meth c ls C hr hlk hnt hl
  have hl : lv_has ls 5 [(0, .ref (x + 0)), (1, .int (a_)), (2, .int (b_))] := hl
  obtain ⟨hx, hb, -, -, -⟩ := id C
  refine zz (fun _ _ => lv_aload_n hx hb dX8_torn_0 rfl (lv_at hl 0 rfl)) ?_
  refine zz (fun _ _ => lv_iload_n hx hb dX8_torn_1 rfl (lv_at hl 1 rfl)) ?_
  refine z_callVX (As := [.int (a_)]) (rest := []) C hl.1 lk_X8_132 ml_X8_132 (ctX8_fileNumbered ) (rd_1 (by decide)) rfl rfl rfl (Nat.le_of_ble_eq_true rfl) ⟨by decide, by decide, by decide, by decide⟩ dX8_torn_2 (fun E9 M9 hp9 _ _ _ _ a1 a2 a3 a4 a5 => ?_) (fun r9 M9 sz hp9 => ?_)
  · obtain ⟨h9, rfl, rfl⟩ := hp9
    exact z_out hnt hlk (by decide) (by decide) ⟨by simp only [fX8_torn, if_neg h9]; exact h9, by simp only [fX8_torn, if_neg h9], by simp only [fX8_torn, if_neg h9]⟩ a1 a2 a3 a4 a5
  obtain ⟨c_1, rfl, rfl⟩ := hp9
  refine zst (st' := [.ref (x + (29 + 3 * (Int32.toNatClampNeg (a_))))]) rfl ?_
  refine zs (fun _ _ => lv_astore_n (lv' := [(3, .ref (x + (29 + 3 * (Int32.toNatClampNeg (a_))))), (0, .ref (x + 0)), (1, .int (a_)), (2, .int (b_))]) hx hb dX8_torn_5 rfl hl (by decide) rfl) (fun ls hl => ?_)
  refine zz (fun _ _ => lv_aload_n hx hb dX8_torn_6 rfl (lv_at hl 0 rfl)) ?_
  refine z_get (v := .int (iv (29 + 3 * (Int32.toNatClampNeg (a_))) 1)) C fd_X8_148 (rd_13 (kp_8 (fn_lt c_1))) rfl dX8_torn_7 ?_
  refine zs (fun _ _ => lv_istore (lv' := [(4, .int (iv (29 + 3 * (Int32.toNatClampNeg (a_))) 1)), (3, .ref (x + (29 + 3 * (Int32.toNatClampNeg (a_))))), (0, .ref (x + 0)), (1, .int (a_)), (2, .int (b_))]) hx hb dX8_torn_10 hl (by decide) rfl) (fun ls hl => ?_)
  refine zz (fun _ _ => lv_aload_n hx hb dX8_torn_12 rfl (lv_at hl 1 rfl)) ?_
  refine zz (fun _ _ => lv_iload_n hx hb dX8_torn_13 rfl (lv_at hl 4 rfl)) ?_
  refine z_put C fp_X8_148 (fun h => by cases h) (rd_13 (kp_8 (fn_lt c_1))) (Nat.le_of_ble_eq_true rfl) (bz hbb) (bf hbb) dX8_torn_14 ?_
  refine zeq (wr_13_1 (kp_8 (fn_lt c_1))) ?_
  refine zz (fun _ _ => lv_iload hx hb dX8_torn_17 (lv_at hl 0 rfl)) ?_
  exact z_ret (by decide) (by decide) (z_zret C hr (bz (hz _ (fn_lt c_1))) hlk dX8_torn_19 ⟨by simp only [fX8_torn, if_pos c_1], by simp only [fX8_torn, if_pos c_1], by simp only [fX8_torn, if_pos c_1]⟩)
def fX8_solutions (iv : Nat → Nat → Int32) (a_ : Int32) : Nat × Int32 := if (fX8_stepNumbered iv a_) = 0 then (0, iv (61 + 6 * (Int32.toNatClampNeg (a_))) 7) else ((fX8_stepNumbered iv a_), 0)
set_option maxHeartbeats 1000000 in
set_option maxRecDepth 10000 in
theorem ctX8_solutions {l : Launch} {D : va_G} {aC : Nat → ClassId} {b0 sz : Nat} {x : Nat} {iv av : Nat → Nat → Int32} {R : ZM} {a_ : Int32} {n_ : Nat} (hs : iv 0 5 = nI n_) (hn : n_ ≤ 12) : CtX l D aC b0 yX8_solutions cX8_solutions 2 (some .int) 1 1 6 [.ref (x + 0), .int (a_)] (cm aC x iv av R) sz (zdx (fX8_solutions iv a_).1 (some (.int (fX8_solutions iv a_).2)) (cm aC x iv av R)) (zxx (fX8_solutions iv a_).1 (cm aC x iv av R)) := by
  refine CtX.of (by decide) (Nat.le_of_ble_eq_true rfl) ?_
  intro p e s m below meth c ls C hr hlk hnt hl
  have hl : lv_has ls 2 [(0, .ref (x + 0)), (1, .int (a_))] := hl
  obtain ⟨hx, hb, -, -, -⟩ := id C
  refine zz (fun _ _ => lv_aload_n hx hb dX8_solutions_0 rfl (lv_at hl 0 rfl)) ?_
  refine zz (fun _ _ => lv_iload_n hx hb dX8_solutions_1 rfl (lv_at hl 1 rfl)) ?_
  refine z_callVX (As := [.int (a_)]) (rest := []) C hl.1 lk_X8_78 ml_X8_78 (ctX8_stepNumbered hs hn) (rd_1 (by decide)) rfl rfl rfl (Nat.le_of_ble_eq_true rfl) ⟨by decide, by decide, by decide, by decide⟩ dX8_solutions_2 (fun E9 M9 hp9 _ _ _ _ a1 a2 a3 a4 a5 => ?_) (fun r9 M9 sz hp9 => ?_)
  · obtain ⟨h9, rfl, rfl⟩ := hp9
    exact z_out hnt hlk (by decide) (by decide) ⟨by simp only [fX8_solutions, if_neg h9]; exact h9, by simp only [fX8_solutions, if_neg h9], by simp only [fX8_solutions, if_neg h9]⟩ a1 a2 a3 a4 a5
  obtain ⟨c_1, rfl, rfl⟩ := hp9
  refine zst (st' := [.ref (x + (61 + 6 * (Int32.toNatClampNeg (a_))))]) rfl ?_
  refine z_get (v := .int (iv (61 + 6 * (Int32.toNatClampNeg (a_))) 7)) C fd_X8_158 (rd_18 (kp_2 (sn_lt c_1 hs hn))) rfl dX8_solutions_5 ?_
  exact z_ret (by decide) (by decide) (z_iret C hr hlk dX8_solutions_8 ⟨by simp only [fX8_solutions, if_pos c_1], by simp only [fX8_solutions, if_pos c_1], by simp only [fX8_solutions, if_pos c_1]⟩)
def fX8_fails (iv : Nat → Nat → Int32) : Int32 := (iv 0 6)
set_option maxHeartbeats 1000000 in
set_option maxRecDepth 10000 in
theorem ctX8_fails {l : Launch} {D : va_G} {aC : Nat → ClassId} {b0 sz : Nat} {x : Nat} {iv av : Nat → Nat → Int32} {R : ZM} : Ct l D aC b0 yX8_fails cX8_fails 1 (some .int) 0 0 0 [.ref (x + 0)] (cm aC x iv av R) sz (zd (some (.int (fX8_fails iv))) (cm aC x iv av R)) := by
  refine Ct.of (by decide) (Nat.le_of_ble_eq_true rfl) ?_
  intro p e s m below meth c ls C hr hlk hnm hl
  have hl : lv_has ls 1 [(0, .ref (x + 0))] := hl
  obtain ⟨hx, hb, -, -, -⟩ := id C
  refine zz (fun _ _ => lv_aload_n hx hb dX8_fails_0 rfl (lv_at hl 0 rfl)) ?_
  refine z_get (v := .int (iv 0 6)) C fd_X8_44 (rd_1 (by decide)) rfl dX8_fails_1 ?_
  exact z_iret C hr hlk dX8_fails_4 (by simp only [zd, fX8_fails, and_self])
def fX8_clear (iv : Nat → Nat → Int32) (av : Nat → Nat → Int32) : Int32 × (Nat → Nat → Int32) × (Nat → Nat → Int32) := (iv 0 5, (u2 iv 0 5 (0)), av)
set_option maxHeartbeats 1000000 in
set_option maxRecDepth 10000 in
theorem ctX8_clear {l : Launch} {D : va_G} {aC : Nat → ClassId} {b0 sz : Nat} {x : Nat} {iv av : Nat → Nat → Int32} {R : ZM} : Ct l D aC b0 yX8_clear cX8_clear 2 (some .int) 0 0 0 [.ref (x + 0)] (cm aC x iv av R) sz (zd (some (.int (fX8_clear iv av).1)) (cm aC x (fX8_clear iv av).2.1 (fX8_clear iv av).2.2 R)) := by
  refine Ct.of (by decide) (Nat.le_of_ble_eq_true rfl) ?_
  intro p e s m below meth c ls C hr hlk hnm hl
  have hl : lv_has ls 2 [(0, .ref (x + 0))] := hl
  obtain ⟨hx, hb, -, -, -⟩ := id C
  refine zz (fun _ _ => lv_aload_n hx hb dX8_clear_0 rfl (lv_at hl 0 rfl)) ?_
  refine z_get (v := .int (iv 0 5)) C fd_X8_40 (rd_1 (by decide)) rfl dX8_clear_1 ?_
  refine zs (fun _ _ => lv_istore_n (lv' := [(1, .int (iv 0 5)), (0, .ref (x + 0))]) hx hb dX8_clear_4 rfl hl (by decide) rfl) (fun ls hl => ?_)
  refine zz (fun _ _ => lv_aload_n hx hb dX8_clear_5 rfl (lv_at hl 1 rfl)) ?_
  refine zz (fun _ _ => lv_iconst (v := 0) hx hb dX8_clear_6 (by decide)) ?_
  refine z_put C fp_X8_40 (fun h => by cases h) (rd_1 (by decide)) (Nat.le_of_ble_eq_true rfl) rfl rfl dX8_clear_7 ?_
  refine zeq (wr_1_5 (by decide)) ?_
  refine zz (fun _ _ => lv_iload_n hx hb dX8_clear_10 rfl (lv_at hl 0 rfl)) ?_
  exact z_iret C hr hlk dX8_clear_11 (by simp only [zd, fX8_clear, and_self])
def fX8_many (iv : Nat → Nat → Int32) (a_ : Int32) : Nat × Int32 := if (fX8_graphNumbered a_) = 0 then if iv (4 + 1 + 2 * (Int32.toNatClampNeg (a_))) 2 = 0 then (0, (-1)) else (0, iv (4 + 1 + 2 * (Int32.toNatClampNeg (a_))) 1) else ((fX8_graphNumbered a_), 0)
set_option maxHeartbeats 1000000 in
set_option maxRecDepth 10000 in
theorem ctX8_many {l : Launch} {D : va_G} {aC : Nat → ClassId} {b0 sz : Nat} {x : Nat} {iv av : Nat → Nat → Int32} {R : ZM} {a_ : Int32} : CtX l D aC b0 yX8_many cX8_many 3 (some .int) 2 1 6 [.ref (x + 0), .int (a_)] (cm aC x iv av R) sz (zdx (fX8_many iv a_).1 (some (.int (fX8_many iv a_).2)) (cm aC x iv av R)) (zxx (fX8_many iv a_).1 (cm aC x iv av R)) := by
  refine CtX.of (by decide) (Nat.le_of_ble_eq_true rfl) ?_
  intro p e s m below meth c ls C hr hlk hnt hl
  have hl : lv_has ls 3 [(0, .ref (x + 0)), (1, .int (a_))] := hl
  obtain ⟨hx, hb, -, -, -⟩ := id C
  refine zz (fun _ _ => lv_aload_n hx hb dX8_many_0 rfl (lv_at hl 0 rfl)) ?_
  refine zz (fun _ _ => lv_iload_n hx hb dX8_many_1 rfl (lv_at hl 1 rfl)) ?_
  refine z_callVX (As := [.int (a_)]) (rest := []) C hl.1 lk_X8_176 ml_X8_176 (ctX8_graphNumbered ) (rd_1 (by decide)) rfl rfl rfl (Nat.le_of_ble_eq_true rfl) ⟨by decide, by decide, by decide, by decide⟩ dX8_many_2 (fun E9 M9 hp9 _ _ _ _ a1 a2 a3 a4 a5 => ?_) (fun r9 M9 sz hp9 => ?_)
  · obtain ⟨h9, rfl, rfl⟩ := hp9
    exact z_out hnt hlk (by decide) (by decide) ⟨by simp only [fX8_many, if_neg h9]; exact h9, by simp only [fX8_many, if_neg h9], by simp only [fX8_many, if_neg h9]⟩ a1 a2 a3 a4 a5
  obtain ⟨c_1, rfl, rfl⟩ := hp9
  refine zst (st' := [.ref (x + (4 + 1 + 2 * (Int32.toNatClampNeg (a_))))]) rfl ?_
  refine zs (fun _ _ => lv_astore_n (lv' := [(2, .ref (x + (4 + 1 + 2 * (Int32.toNatClampNeg (a_))))), (0, .ref (x + 0)), (1, .int (a_))]) hx hb dX8_many_5 rfl hl (by decide) rfl) (fun ls hl => ?_)
  refine zz (fun _ _ => lv_aload_n hx hb dX8_many_6 rfl (lv_at hl 0 rfl)) ?_
  refine z_get (v := .int (iv (4 + 1 + 2 * (Int32.toNatClampNeg (a_))) 2)) C fd_X8_180 (rd_6 (kp_5 (k := 4) (by decide) (gn_lt c_1))) rfl dX8_many_7 ?_
  refine zb (fun _ _ => lv_if_eq (tgt := 20) hx hb dX8_many_10 (by decide)) (fun c_2 => ?_) (fun c_2 => ?_)
  · refine zz (fun _ _ => lv_iconst (v := (-1)) hx hb dX8_many_20 (by decide)) ?_
    exact z_ret (by decide) (by decide) (z_iret C hr hlk dX8_many_21 ⟨by simp only [fX8_many, if_pos c_1, if_pos c_2], by simp only [fX8_many, if_pos c_1, if_pos c_2], by simp only [fX8_many, if_pos c_1, if_pos c_2]⟩)
  · refine zz (fun _ _ => lv_aload_n hx hb dX8_many_13 rfl (lv_at hl 0 rfl)) ?_
    refine z_get (v := .int (iv (4 + 1 + 2 * (Int32.toNatClampNeg (a_))) 1)) C fd_X8_185 (rd_6 (kp_5 (k := 4) (by decide) (gn_lt c_1))) rfl dX8_many_14 ?_
    refine zz (fun _ _ => lv_goto (tgt := 21) hx hb dX8_many_17 (by decide)) ?_
    exact z_ret (by decide) (by decide) (z_iret C hr hlk dX8_many_21 ⟨by simp only [fX8_many, if_pos c_1, if_neg c_2], by simp only [fX8_many, if_pos c_1, if_neg c_2], by simp only [fX8_many, if_pos c_1, if_neg c_2]⟩)
theorem ix_sz {a b : Int32} {N : Nat} (h1 : ¬ a < 0) (h2 : a < b) (hb : ∃ n, n ≤ N ∧ b = nI n) (hN : N < 2 ^ 31) : vp_in a N := by
  obtain ⟨n, hn, e⟩ := hb
  exact ix_lt2 h1 h2 e hn hN
def fX8_at (iv : Nat → Nat → Int32) (av : Nat → Nat → Int32) (a_ : Int32) (b_ : Int32) (c_ : Int32) : Nat × Int32 := if (fX8_graphNumbered a_) = 0 then if b_ < 0 then (3, 0) else if b_ < iv (4 + 1 + 2 * (Int32.toNatClampNeg (a_))) 1 then if c_ < 0 then (1, 0) else if c_ ≤ 2 then (0, (fX8_partOf (av ((4 + 1 + 2 * (Int32.toNatClampNeg (a_))) + 1) (Int32.toNatClampNeg (b_))) c_)) else (1, 0) else (3, 0) else ((fX8_graphNumbered a_), 0)
set_option maxHeartbeats 1000000 in
set_option maxRecDepth 10000 in
theorem ctX8_at {l : Launch} {D : va_G} {aC : Nat → ClassId} {b0 sz : Nat} {x : Nat} {iv av : Nat → Nat → Int32} {R : ZM} {a_ : Int32} {b_ : Int32} {c_ : Int32} (hsz : ∀ j, j < 7 → ∃ n, n ≤ 120 ∧ iv (4 + 1 + 2 * j) 1 = nI n) : CtX l D aC b0 yX8_at cX8_at 5 (some .int) 2 2 12 [.ref (x + 0), .int (a_), .int (b_), .int (c_)] (cm aC x iv av R) sz (zdx (fX8_at iv av a_ b_ c_).1 (some (.int (fX8_at iv av a_ b_ c_).2)) (cm aC x iv av R)) (zxx (fX8_at iv av a_ b_ c_).1 (cm aC x iv av R)) := by
  refine CtX.of (by decide) (Nat.le_of_ble_eq_true rfl) ?_
  intro p e s m below meth c ls C hr hlk hnt hl
  have hl : lv_has ls 5 [(0, .ref (x + 0)), (1, .int (a_)), (2, .int (b_)), (3, .int (c_))] := hl
  obtain ⟨hx, hb, -, -, -⟩ := id C
  refine zz (fun _ _ => lv_aload_n hx hb dX8_at_0 rfl (lv_at hl 0 rfl)) ?_
  refine zz (fun _ _ => lv_iload_n hx hb dX8_at_1 rfl (lv_at hl 1 rfl)) ?_
  refine z_callVX (As := [.int (a_)]) (rest := []) C hl.1 lk_X8_176 ml_X8_176 (ctX8_graphNumbered ) (rd_1 (by decide)) rfl rfl rfl (Nat.le_of_ble_eq_true rfl) ⟨by decide, by decide, by decide, by decide⟩ dX8_at_2 (fun E9 M9 hp9 _ _ _ _ a1 a2 a3 a4 a5 => ?_) (fun r9 M9 sz hp9 => ?_)
  · obtain ⟨h9, rfl, rfl⟩ := hp9
    exact z_out hnt hlk (by decide) (by decide) ⟨by simp only [fX8_at, if_neg h9]; exact h9, by simp only [fX8_at, if_neg h9], by simp only [fX8_at, if_neg h9]⟩ a1 a2 a3 a4 a5
  obtain ⟨c_1, rfl, rfl⟩ := hp9
  refine zst (st' := [.ref (x + (4 + 1 + 2 * (Int32.toNatClampNeg (a_))))]) rfl ?_
  refine zs (fun _ _ => lv_astore (lv' := [(4, .ref (x + (4 + 1 + 2 * (Int32.toNatClampNeg (a_))))), (0, .ref (x + 0)), (1, .int (a_)), (2, .int (b_)), (3, .int (c_))]) hx hb dX8_at_5 hl (by decide) rfl) (fun ls hl => ?_)
  refine zz (fun _ _ => lv_iload_n hx hb dX8_at_7 rfl (lv_at hl 3 rfl)) ?_
  refine zb (fun _ _ => lv_if_lt (tgt := 20) hx hb dX8_at_8 (by decide)) (fun c_2 => ?_) (fun c_2 => ?_)
  · exact z_throw C hl.1 th_X8_190 hnt hlk dX8_at_20 dX8_at_23 dX8_at_24 dX8_at_26 dX8_at_29 ⟨by decide, by decide, by decide, by decide, by decide, by decide⟩ ⟨by simp only [fX8_at, if_pos c_1, if_pos c_2]; decide, by simp only [fX8_at, if_pos c_1, if_pos c_2]; rfl, by simp only [fX8_at, if_pos c_1, if_pos c_2]⟩
  · refine zz (fun _ _ => lv_iload_n hx hb dX8_at_11 rfl (lv_at hl 3 rfl)) ?_
    refine zz (fun _ _ => lv_aload hx hb dX8_at_12 (lv_at hl 0 rfl)) ?_
    refine z_get (v := .int (iv (4 + 1 + 2 * (Int32.toNatClampNeg (a_))) 1)) C fd_X8_185 (rd_6 (kp_5 (k := 4) (by decide) (gn_lt c_1))) rfl dX8_at_14 ?_
    refine zb (fun _ _ => lv_icmp_lt (tgt := 30) hx hb dX8_at_17 (by decide)) (fun c_3 => ?_) (fun c_3 => ?_)
    · refine zz (fun _ _ => lv_iload_n hx hb dX8_at_30 rfl (lv_at hl 4 rfl)) ?_
      refine zb (fun _ _ => lv_if_lt (tgt := 39) hx hb dX8_at_31 (by decide)) (fun c_4 => ?_) (fun c_4 => ?_)
      · exact z_throw C hl.1 th_X8_193 hnt hlk dX8_at_39 dX8_at_42 dX8_at_43 dX8_at_45 dX8_at_48 ⟨by decide, by decide, by decide, by decide, by decide, by decide⟩ ⟨by simp only [fX8_at, if_pos c_1, if_neg c_2, if_pos c_3, if_pos c_4]; decide, by simp only [fX8_at, if_pos c_1, if_neg c_2, if_pos c_3, if_pos c_4]; rfl, by simp only [fX8_at, if_pos c_1, if_neg c_2, if_pos c_3, if_pos c_4]⟩
      · refine zz (fun _ _ => lv_iload_n hx hb dX8_at_34 rfl (lv_at hl 4 rfl)) ?_
        refine zz (fun _ _ => lv_iconst (v := 2) hx hb dX8_at_35 (by decide)) ?_
        refine zb (fun _ _ => lv_icmp_le (tgt := 49) hx hb dX8_at_36 (by decide)) (fun c_5 => ?_) (fun c_5 => ?_)
        · refine zz (fun _ _ => lv_aload hx hb dX8_at_49 (lv_at hl 0 rfl)) ?_
          refine z_get (v := .ref (x + ((4 + 1 + 2 * (Int32.toNatClampNeg (a_))) + 1))) C fd_X8_195 (rd_6 (kp_5 (k := 4) (by decide) (gn_lt c_1))) rfl dX8_at_51 ?_
          refine zz (fun _ _ => lv_iload_n hx hb dX8_at_54 rfl (lv_at hl 3 rfl)) ?_
          refine z_iald (f := av ((4 + 1 + 2 * (Int32.toNatClampNeg (a_))) + 1)) C (rd_7 (nb_6_1 (kp_5 (k := 4) (by decide) (gn_lt c_1)))) (ix_sz c_2 c_3 (hsz _ (gn_lt c_1)) (by decide)) dX8_at_55 ?_
          refine zz (fun _ _ => lv_iload_n hx hb dX8_at_56 rfl (lv_at hl 4 rfl)) ?_
          refine zdS (As := [.int (av ((4 + 1 + 2 * (Int32.toNatClampNeg (a_))) + 1) (Int32.toNatClampNeg (b_))), .int (c_)]) (rest := []) (st' := [.int ((fX8_partOf (av ((4 + 1 + 2 * (Int32.toNatClampNeg (a_))) + 1) (Int32.toNatClampNeg (b_))) c_))]) C hl.1 lk_X8_199 (ctX8_partOf ) rfl rfl (Nat.le_of_ble_eq_true rfl) ⟨by decide, by decide, by decide, by decide⟩ dX8_at_57 rfl (fun sz => ?_)
          exact z_ret (by decide) (by decide) (z_iret C hr hlk dX8_at_60 ⟨by simp only [fX8_at, if_pos c_1, if_neg c_2, if_pos c_3, if_neg c_4, if_pos c_5], by simp only [fX8_at, if_pos c_1, if_neg c_2, if_pos c_3, if_neg c_4, if_pos c_5], by simp only [fX8_at, if_pos c_1, if_neg c_2, if_pos c_3, if_neg c_4, if_pos c_5]⟩)
        · exact z_throw C hl.1 th_X8_193 hnt hlk dX8_at_39 dX8_at_42 dX8_at_43 dX8_at_45 dX8_at_48 ⟨by decide, by decide, by decide, by decide, by decide, by decide⟩ ⟨by simp only [fX8_at, if_pos c_1, if_neg c_2, if_pos c_3, if_neg c_4, if_neg c_5]; decide, by simp only [fX8_at, if_pos c_1, if_neg c_2, if_pos c_3, if_neg c_4, if_neg c_5]; rfl, by simp only [fX8_at, if_pos c_1, if_neg c_2, if_pos c_3, if_neg c_4, if_neg c_5]⟩
    · exact z_throw C hl.1 th_X8_190 hnt hlk dX8_at_20 dX8_at_23 dX8_at_24 dX8_at_26 dX8_at_29 ⟨by decide, by decide, by decide, by decide, by decide, by decide⟩ ⟨by simp only [fX8_at, if_pos c_1, if_neg c_2, if_neg c_3]; decide, by simp only [fX8_at, if_pos c_1, if_neg c_2, if_neg c_3]; rfl, by simp only [fX8_at, if_pos c_1, if_neg c_2, if_neg c_3]⟩
def fX8_changed (iv : Nat → Nat → Int32) (av : Nat → Nat → Int32) (a_ : Int32) (b_ : Int32) : Nat × Int32 := if a_ < 0 then (3, 0) else if a_ < iv 57 3 then if b_ < 0 then (1, 0) else if b_ ≤ 4 then if b_ = 0 then (0, av 58 (Int32.toNatClampNeg (a_))) else if b_ = 4 then (0, av 60 (Int32.toNatClampNeg (a_))) else (0, (fX8_partOf (av 59 (Int32.toNatClampNeg (a_))) ((b_) - (1)))) else (1, 0) else (3, 0)
set_option maxHeartbeats 1000000 in
set_option maxRecDepth 10000 in
theorem ctX8_changed {l : Launch} {D : va_G} {aC : Nat → ClassId} {b0 sz : Nat} {x : Nat} {iv av : Nat → Nat → Int32} {R : ZM} {a_ : Int32} {b_ : Int32} {n_ : Nat} (hs : iv 57 3 = nI n_) (hn : n_ ≤ 240) : CtX l D aC b0 yX8_changed cX8_changed 3 (some .int) 1 1 6 [.ref (x + 0), .int (a_), .int (b_)] (cm aC x iv av R) sz (zdx (fX8_changed iv av a_ b_).1 (some (.int (fX8_changed iv av a_ b_).2)) (cm aC x iv av R)) (zxx (fX8_changed iv av a_ b_).1 (cm aC x iv av R)) := by
  refine CtX.of (by decide) (Nat.le_of_ble_eq_true rfl) ?_
  intro p e s m below meth c ls C hr hlk hnt hl
  have hl : lv_has ls 3 [(0, .ref (x + 0)), (1, .int (a_)), (2, .int (b_))] := hl
  obtain ⟨hx, hb, -, -, -⟩ := id C
  refine zz (fun _ _ => lv_iload_n hx hb dX8_changed_0 rfl (lv_at hl 1 rfl)) ?_
  refine zb (fun _ _ => lv_if_lt (tgt := 15) hx hb dX8_changed_1 (by decide)) (fun c_1 => ?_) (fun c_1 => ?_)
  · exact z_throw C hl.1 th_X8_212 hnt hlk dX8_changed_15 dX8_changed_18 dX8_changed_19 dX8_changed_21 dX8_changed_24 ⟨by decide, by decide, by decide, by decide, by decide, by decide⟩ ⟨by simp only [fX8_changed, if_pos c_1]; decide, by simp only [fX8_changed, if_pos c_1]; rfl, by simp only [fX8_changed, if_pos c_1]⟩
  · refine zz (fun _ _ => lv_iload_n hx hb dX8_changed_4 rfl (lv_at hl 1 rfl)) ?_
    refine zz (fun _ _ => lv_aload_n hx hb dX8_changed_5 rfl (lv_at hl 0 rfl)) ?_
    refine z_get (v := .ref (x + 57)) C fd_X8_36 (rd_1 (by decide)) rfl dX8_changed_6 ?_
    refine z_get (v := .int (iv 57 3)) C fd_X8_173 (rd_16 (by decide)) rfl dX8_changed_9 ?_
    refine zb (fun _ _ => lv_icmp_lt (tgt := 25) hx hb dX8_changed_12 (by decide)) (fun c_2 => ?_) (fun c_2 => ?_)
    · refine zz (fun _ _ => lv_iload_n hx hb dX8_changed_25 rfl (lv_at hl 2 rfl)) ?_
      refine zb (fun _ _ => lv_if_lt (tgt := 34) hx hb dX8_changed_26 (by decide)) (fun c_3 => ?_) (fun c_3 => ?_)
      · exact z_throw C hl.1 th_X8_214 hnt hlk dX8_changed_34 dX8_changed_37 dX8_changed_38 dX8_changed_40 dX8_changed_43 ⟨by decide, by decide, by decide, by decide, by decide, by decide⟩ ⟨by simp only [fX8_changed, if_neg c_1, if_pos c_2, if_pos c_3]; decide, by simp only [fX8_changed, if_neg c_1, if_pos c_2, if_pos c_3]; rfl, by simp only [fX8_changed, if_neg c_1, if_pos c_2, if_pos c_3]⟩
      · refine zz (fun _ _ => lv_iload_n hx hb dX8_changed_29 rfl (lv_at hl 2 rfl)) ?_
        refine zz (fun _ _ => lv_iconst (v := 4) hx hb dX8_changed_30 (by decide)) ?_
        refine zb (fun _ _ => lv_icmp_le (tgt := 44) hx hb dX8_changed_31 (by decide)) (fun c_4 => ?_) (fun c_4 => ?_)
        · refine zz (fun _ _ => lv_iload_n hx hb dX8_changed_44 rfl (lv_at hl 2 rfl)) ?_
          refine zbn (fun _ _ => lv_if_ne (tgt := 58) hx hb dX8_changed_45 (by decide)) (fun c_5 => ?_) (fun c_5 => ?_)
          · refine zz (fun _ _ => lv_iload_n hx hb dX8_changed_58 rfl (lv_at hl 2 rfl)) ?_
            refine zz (fun _ _ => lv_iconst (v := 4) hx hb dX8_changed_59 (by decide)) ?_
            refine zbn (fun _ _ => lv_icmp_ne (tgt := 75) hx hb dX8_changed_60 (by decide)) (fun c_6 => ?_) (fun c_6 => ?_)
            · refine zz (fun _ _ => lv_aload_n hx hb dX8_changed_75 rfl (lv_at hl 0 rfl)) ?_
              refine z_get (v := .ref (x + 57)) C fd_X8_36 (rd_1 (by decide)) rfl dX8_changed_76 ?_
              refine z_get (v := .ref (x + 59)) C fd_X8_222 (rd_16 (by decide)) rfl dX8_changed_79 ?_
              refine zz (fun _ _ => lv_iload_n hx hb dX8_changed_82 rfl (lv_at hl 1 rfl)) ?_
              refine z_iald (f := av 59) C (rd_17 (by decide)) (ix_lt2 c_1 c_2 hs hn (by decide)) dX8_changed_83 ?_
              refine zz (fun _ _ => lv_iload_n hx hb dX8_changed_84 rfl (lv_at hl 2 rfl)) ?_
              refine zz (fun _ _ => lv_iconst (v := 1) hx hb dX8_changed_85 (by decide)) ?_
              refine zz (fun _ _ => lv_isub hx hb dX8_changed_86) ?_
              refine zdS (As := [.int (av 59 (Int32.toNatClampNeg (a_))), .int ((b_) - (1))]) (rest := []) (st' := [.int ((fX8_partOf (av 59 (Int32.toNatClampNeg (a_))) ((b_) - (1))))]) C hl.1 lk_X8_199 (ctX8_partOf) rfl rfl (Nat.le_of_ble_eq_true rfl) ⟨by decide, by decide, by decide, by decide⟩ dX8_changed_87 rfl (fun sz => ?_)
              exact z_ret (by decide) (by decide) (z_iret C hr hlk dX8_changed_90 ⟨by simp only [fX8_changed, if_neg c_1, if_pos c_2, if_neg c_3, if_pos c_4, if_neg c_5, if_neg c_6], by simp only [fX8_changed, if_neg c_1, if_pos c_2, if_neg c_3, if_pos c_4, if_neg c_5, if_neg c_6], by simp only [fX8_changed, if_neg c_1, if_pos c_2, if_neg c_3, if_pos c_4, if_neg c_5, if_neg c_6]⟩)
            · refine zz (fun _ _ => lv_aload_n hx hb dX8_changed_63 rfl (lv_at hl 0 rfl)) ?_
              refine z_get (v := .ref (x + 57)) C fd_X8_36 (rd_1 (by decide)) rfl dX8_changed_64 ?_
              refine z_get (v := .ref (x + 60)) C fd_X8_219 (rd_16 (by decide)) rfl dX8_changed_67 ?_
              refine zz (fun _ _ => lv_iload_n hx hb dX8_changed_70 rfl (lv_at hl 1 rfl)) ?_
              refine z_iald (f := av 60) C (rd_17 (by decide)) (ix_lt2 c_1 c_2 hs hn (by decide)) dX8_changed_71 ?_
              refine zz (fun _ _ => lv_goto (tgt := 90) hx hb dX8_changed_72 (by decide)) ?_
              exact z_ret (by decide) (by decide) (z_iret C hr hlk dX8_changed_90 ⟨by simp only [fX8_changed, if_neg c_1, if_pos c_2, if_neg c_3, if_pos c_4, if_neg c_5, if_pos c_6], by simp only [fX8_changed, if_neg c_1, if_pos c_2, if_neg c_3, if_pos c_4, if_neg c_5, if_pos c_6], by simp only [fX8_changed, if_neg c_1, if_pos c_2, if_neg c_3, if_pos c_4, if_neg c_5, if_pos c_6]⟩)
          · refine zz (fun _ _ => lv_aload_n hx hb dX8_changed_48 rfl (lv_at hl 0 rfl)) ?_
            refine z_get (v := .ref (x + 57)) C fd_X8_36 (rd_1 (by decide)) rfl dX8_changed_49 ?_
            refine z_get (v := .ref (x + 58)) C fd_X8_216 (rd_16 (by decide)) rfl dX8_changed_52 ?_
            refine zz (fun _ _ => lv_iload_n hx hb dX8_changed_55 rfl (lv_at hl 1 rfl)) ?_
            refine z_iald (f := av 58) C (rd_17 (by decide)) (ix_lt2 c_1 c_2 hs hn (by decide)) dX8_changed_56 ?_
            exact z_ret (by decide) (by decide) (z_iret C hr hlk dX8_changed_57 ⟨by simp only [fX8_changed, if_neg c_1, if_pos c_2, if_neg c_3, if_pos c_4, if_pos c_5], by simp only [fX8_changed, if_neg c_1, if_pos c_2, if_neg c_3, if_pos c_4, if_pos c_5], by simp only [fX8_changed, if_neg c_1, if_pos c_2, if_neg c_3, if_pos c_4, if_pos c_5]⟩)
        · exact z_throw C hl.1 th_X8_214 hnt hlk dX8_changed_34 dX8_changed_37 dX8_changed_38 dX8_changed_40 dX8_changed_43 ⟨by decide, by decide, by decide, by decide, by decide, by decide⟩ ⟨by simp only [fX8_changed, if_neg c_1, if_pos c_2, if_neg c_3, if_neg c_4]; decide, by simp only [fX8_changed, if_neg c_1, if_pos c_2, if_neg c_3, if_neg c_4]; rfl, by simp only [fX8_changed, if_neg c_1, if_pos c_2, if_neg c_3, if_neg c_4]⟩
    · exact z_throw C hl.1 th_X8_212 hnt hlk dX8_changed_15 dX8_changed_18 dX8_changed_19 dX8_changed_21 dX8_changed_24 ⟨by decide, by decide, by decide, by decide, by decide, by decide⟩ ⟨by simp only [fX8_changed, if_neg c_1, if_neg c_2]; decide, by simp only [fX8_changed, if_neg c_1, if_neg c_2]; rfl, by simp only [fX8_changed, if_neg c_1, if_neg c_2]⟩
