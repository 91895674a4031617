section
def fX8_stepNumbered (iv : Nat → Nat → Int32) (a_ : Int32) : Nat := if a_ < 0 then (3) else if a_ < iv 0 5 then (0) else (3)
set_option maxHeartbeats 1000000 in
set_option maxRecDepth 10000 in
theorem ctX8_stepNumbered {l : Launch} {D : va_G} {aC : Nat → ClassId} {b0 sz : Nat} {x : Nat} {iv av : Nat → Nat → Int32} {R : ZM} {a_ : Int32} {n_ : Nat} (hs : iv 0 5 = nI n_) (hn : n_ ≤ 12) : CtX l D aC b0 yX8_stepNumbered cX8_stepNumbered 2 (some (.object "UpdateSteps$Step")) 0 1 6 [.ref (x + 0), .int (a_)] (cm aC x iv av R) sz (zdx (fX8_stepNumbered iv a_) (some (.ref (x + (61 + 6 * (Int32.toNatClampNeg (a_)))))) (cm aC x iv av R)) (zxx (fX8_stepNumbered iv a_) (cm aC x iv av R)) := by
  refine CtX.of (by decide) (Nat.le_of_ble_eq_true rfl) ?_
  intro p e s m below meth c ls C hr hlk hnt hl
  have hl : lv_has ls 2 [(0, .ref (x + 0)), (1, .int (a_))] := hl
  obtain ⟨hx, hb, -, -, -⟩ := id C
  refine zz (fun _ _ => lv_iload_n hx hb dX8_stepNumbered_0 rfl (lv_at hl 1 rfl)) ?_
  refine zb (fun _ _ => lv_if_lt (tgt := 12) hx hb dX8_stepNumbered_1 (by decide)) (fun c_1 => ?_) (fun c_1 => ?_)
  · exact z_throw C hl.1 th_X8_234 hnt hlk dX8_stepNumbered_12 dX8_stepNumbered_15 dX8_stepNumbered_16 dX8_stepNumbered_18 dX8_stepNumbered_21 ⟨by decide, by decide, by decide, by decide, by decide, by decide⟩ ⟨by simp only [fX8_stepNumbered, if_pos c_1]; decide, by simp only [fX8_stepNumbered, if_pos c_1]; rfl, by simp only [fX8_stepNumbered, if_pos c_1]⟩
  · refine zz (fun _ _ => lv_iload_n hx hb dX8_stepNumbered_4 rfl (lv_at hl 1 rfl)) ?_
    refine zz (fun _ _ => lv_aload_n hx hb dX8_stepNumbered_5 rfl (lv_at hl 0 rfl)) ?_
    refine z_get (v := .int (iv 0 5)) C fd_X8_40 (rd_1 (by decide)) rfl dX8_stepNumbered_6 ?_
    refine zb (fun _ _ => lv_icmp_lt (tgt := 22) hx hb dX8_stepNumbered_9 (by decide)) (fun c_2 => ?_) (fun c_2 => ?_)
    · refine zz (fun _ _ => lv_aload_n hx hb dX8_stepNumbered_22 rfl (lv_at hl 0 rfl)) ?_
      refine z_get (v := .ref (x + 1)) C fd_X8_11 (rd_1 (by decide)) rfl dX8_stepNumbered_23 ?_
      refine zz (fun _ _ => lv_iload_n hx hb dX8_stepNumbered_26 rfl (lv_at hl 1 rfl)) ?_
      refine z_aald C 4 rfl (rd_2 (by decide)) (ix_lt2 c_1 c_2 hs hn (by decide)) (v := .ref (x + (61 + 6 * (Int32.toNatClampNeg (a_))))) (rf_if2 (f := fun q => x + (61 + 6 * q)) (vin_lt (ix_lt2 c_1 c_2 hs hn (by decide)))) dX8_stepNumbered_27 ?_
      exact z_ret (by decide) (by decide) (z_aret C hr hlk dX8_stepNumbered_28 ⟨by simp only [fX8_stepNumbered, if_neg c_1, if_pos c_2], by simp only [fX8_stepNumbered, if_neg c_1, if_pos c_2], by simp only [fX8_stepNumbered, if_neg c_1, if_pos c_2]⟩)
    · exact z_throw C hl.1 th_X8_234 hnt hlk dX8_stepNumbered_12 dX8_stepNumbered_15 dX8_stepNumbered_16 dX8_stepNumbered_18 dX8_stepNumbered_21 ⟨by decide, by decide, by decide, by decide, by decide, by decide⟩ ⟨by simp only [fX8_stepNumbered, if_neg c_1, if_neg c_2]; decide, by simp only [fX8_stepNumbered, if_neg c_1, if_neg c_2]; rfl, by simp only [fX8_stepNumbered, if_neg c_1, if_neg c_2]⟩
theorem sn_lt {iv : Nat → Nat → Int32} {a : Int32} {n : Nat} (h : fX8_stepNumbered iv a = 0) (hs : iv 0 5 = nI n) (hn : n ≤ 12) : a.toNatClampNeg < 12 := by
  unfold fX8_stepNumbered at h
  split at h
  · exact absurd h (by decide)
  · split at h
    · rename_i h1 h2
      exact vin_lt (ix_lt2 h1 h2 hs hn (by decide))
    · exact absurd h (by decide)
theorem isGraph_in {a : Int32} (h : ¬ fX8_isGraph a = 0) : vp_in a 7 := by
  unfold fX8_isGraph at h
  split at h
  · exact absurd rfl h
  · split at h
    · exact absurd rfl h
    · rename_i h1 h2
      exact ix_lt (n := 7) h1 h2 rfl (by decide) (by decide)
def fX8_fileNumbered (a_ : Int32) : Nat := if a_ < 0 then (3) else if a_ < 4 then (0) else (3)
set_option maxHeartbeats 1000000 in
set_option maxRecDepth 10000 in
theorem ctX8_fileNumbered {l : Launch} {D : va_G} {aC : Nat → ClassId} {b0 sz : Nat} {x : Nat} {iv av : Nat → Nat → Int32} {R : ZM} {a_ : Int32} : CtX l D aC b0 yX8_fileNumbered cX8_fileNumbered 2 (some (.object "UpdateSteps$FileRows")) 0 1 6 [.ref (x + 0), .int (a_)] (cm aC x iv av R) sz (zdx (fX8_fileNumbered a_) (some (.ref (x + (29 + 3 * (Int32.toNatClampNeg (a_)))))) (cm aC x iv av R)) (zxx (fX8_fileNumbered a_) (cm aC x iv av R)) := by
  refine CtX.of (by decide) (Nat.le_of_ble_eq_true rfl) ?_
  intro p e s m below meth c ls C hr hlk hnt hl
  have hl : lv_has ls 2 [(0, .ref (x + 0)), (1, .int (a_))] := hl
  obtain ⟨hx, hb, -, -, -⟩ := id C
  refine zz (fun _ _ => lv_iload_n hx hb dX8_fileNumbered_0 rfl (lv_at hl 1 rfl)) ?_
  refine zb (fun _ _ => lv_if_lt (tgt := 9) hx hb dX8_fileNumbered_1 (by decide)) (fun c_1 => ?_) (fun c_1 => ?_)
  · exact z_throw C hl.1 th_X8_236 hnt hlk dX8_fileNumbered_9 dX8_fileNumbered_12 dX8_fileNumbered_13 dX8_fileNumbered_15 dX8_fileNumbered_18 ⟨by decide, by decide, by decide, by decide, by decide, by decide⟩ ⟨by simp only [fX8_fileNumbered, if_pos c_1]; decide, by simp only [fX8_fileNumbered, if_pos c_1]; rfl, by simp only [fX8_fileNumbered, if_pos c_1]⟩
  · refine zz (fun _ _ => lv_iload_n hx hb dX8_fileNumbered_4 rfl (lv_at hl 1 rfl)) ?_
    refine zz (fun _ _ => lv_iconst (v := 4) hx hb dX8_fileNumbered_5 (by decide)) ?_
    refine zb (fun _ _ => lv_icmp_lt (tgt := 19) hx hb dX8_fileNumbered_6 (by decide)) (fun c_2 => ?_) (fun c_2 => ?_)
    · refine zz (fun _ _ => lv_aload_n hx hb dX8_fileNumbered_19 rfl (lv_at hl 0 rfl)) ?_
      refine z_get (v := .ref (x + 2)) C fd_X8_18 (rd_1 (by decide)) rfl dX8_fileNumbered_20 ?_
      refine z_get (v := .ref (x + 19)) C fd_X8_238 (rd_3 (by decide)) rfl dX8_fileNumbered_23 ?_
      refine zz (fun _ _ => lv_iload_n hx hb dX8_fileNumbered_26 rfl (lv_at hl 1 rfl)) ?_
      refine z_aald C 2 rfl (rd_8 (by decide)) (ix_lt2 (n := 4) c_1 c_2 rfl (by decide) (by decide)) (v := .ref (x + (29 + 3 * (Int32.toNatClampNeg (a_))))) (rf_if2 (f := fun q => x + (29 + 3 * q)) (vin_lt (ix_lt2 (n := 4) c_1 c_2 rfl (by decide) (by decide)))) dX8_fileNumbered_27 ?_
      exact z_ret (by decide) (by decide) (z_aret C hr hlk dX8_fileNumbered_28 ⟨by simp only [fX8_fileNumbered, if_neg c_1, if_pos c_2], by simp only [fX8_fileNumbered, if_neg c_1, if_pos c_2], by simp only [fX8_fileNumbered, if_neg c_1, if_pos c_2]⟩)
    · exact z_throw C hl.1 th_X8_236 hnt hlk dX8_fileNumbered_9 dX8_fileNumbered_12 dX8_fileNumbered_13 dX8_fileNumbered_15 dX8_fileNumbered_18 ⟨by decide, by decide, by decide, by decide, by decide, by decide⟩ ⟨by simp only [fX8_fileNumbered, if_neg c_1, if_neg c_2]; decide, by simp only [fX8_fileNumbered, if_neg c_1, if_neg c_2]; rfl, by simp only [fX8_fileNumbered, if_neg c_1, if_neg c_2]⟩
theorem fn_lt {a : Int32} (h : fX8_fileNumbered a = 0) : a.toNatClampNeg < 4 := by
  unfold fX8_fileNumbered at h
  split at h
  · exact absurd h (by decide)
  · split at h
    · rename_i h1 h2
      exact vin_lt (ix_lt2 (n := 4) h1 h2 rfl (by decide) (by decide))
    · exact absurd h (by decide)
def fX8_graphNumbered (a_ : Int32) : Nat := if (fX8_isGraph a_) = 0 then (3) else (0)
set_option maxHeartbeats 1000000 in
set_option maxRecDepth 10000 in
theorem ctX8_graphNumbered {l : Launch} {D : va_G} {aC : Nat → ClassId} {b0 sz : Nat} {x : Nat} {iv av : Nat → Nat → Int32} {R : ZM} {a_ : Int32} : CtX l D aC b0 yX8_graphNumbered cX8_graphNumbered 2 (some (.object "UpdateSteps$Graph")) 1 1 6 [.ref (x + 0), .int (a_)] (cm aC x iv av R) sz (zdx (fX8_graphNumbered a_) (some (.ref (x + (4 + 1 + 2 * (Int32.toNatClampNeg (a_)))))) (cm aC x iv av R)) (zxx (fX8_graphNumbered a_) (cm aC x iv av R)) := by
  refine CtX.of (by decide) (Nat.le_of_ble_eq_true rfl) ?_
  intro p e s m below meth c ls C hr hlk hnt hl
  have hl : lv_has ls 2 [(0, .ref (x + 0)), (1, .int (a_))] := hl
  obtain ⟨hx, hb, -, -, -⟩ := id C
  refine zz (fun _ _ => lv_iload_n hx hb dX8_graphNumbered_0 rfl (lv_at hl 1 rfl)) ?_
  refine zdS (As := [.int (a_)]) (rest := []) (st' := [.int ((fX8_isGraph a_))]) C hl.1 lk_X8_242 (ctX8_isGraph) rfl rfl (Nat.le_of_ble_eq_true rfl) ⟨by decide, by decide, by decide, by decide⟩ dX8_graphNumbered_1 rfl (fun sz => ?_)
  refine zbn (fun _ _ => lv_if_ne (tgt := 17) hx hb dX8_graphNumbered_4 (by decide)) (fun c_1 => ?_) (fun c_1 => ?_)
  · refine zz (fun _ _ => lv_aload_n hx hb dX8_graphNumbered_17 rfl (lv_at hl 0 rfl)) ?_
    refine z_get (v := .ref (x + 3)) C fd_X8_26 (rd_1 (by decide)) rfl dX8_graphNumbered_18 ?_
    refine z_get (v := .ref (x + 4)) C fd_X8_247 (rd_4 (by decide)) rfl dX8_graphNumbered_21 ?_
    refine zz (fun _ _ => lv_iload_n hx hb dX8_graphNumbered_24 rfl (lv_at hl 1 rfl)) ?_
    refine z_aald C 3 rfl (rd_5 (by decide)) (isGraph_in c_1) (v := .ref (x + (4 + 1 + 2 * (Int32.toNatClampNeg (a_))))) (rf_if2 (f := fun q => x + (4 + 1 + 2 * q)) (vin_lt (isGraph_in c_1))) dX8_graphNumbered_25 ?_
    exact z_ret (by decide) (by decide) (z_aret C hr hlk dX8_graphNumbered_26 ⟨by simp only [fX8_graphNumbered, if_neg c_1], by simp only [fX8_graphNumbered, if_neg c_1], by simp only [fX8_graphNumbered, if_neg c_1]⟩)
  · exact z_throw C hl.1 th_X8_245 hnt hlk dX8_graphNumbered_7 dX8_graphNumbered_10 dX8_graphNumbered_11 dX8_graphNumbered_13 dX8_graphNumbered_16 ⟨by decide, by decide, by decide, by decide, by decide, by decide⟩ ⟨by simp only [fX8_graphNumbered, if_pos c_1]; decide, by simp only [fX8_graphNumbered, if_pos c_1]; rfl, by simp only [fX8_graphNumbered, if_pos c_1]⟩
theorem gn_lt {a : Int32} (h : fX8_graphNumbered a = 0) : a.toNatClampNeg < 7 := by
  unfold fX8_graphNumbered at h
  split at h
  · exact absurd h (by decide)
  · rename_i h1
    exact vin_lt (isGraph_in h1)
def fX8_silent (iv : Nat → Nat → Int32) (av : Nat → Nat → Int32) (a_ : Int32) (b_ : Int32) : Nat × Int32 × (Nat → Nat → Int32) × (Nat → Nat → Int32) := if (fX8_stepNumbered iv a_) = 0 then (0, iv (61 + 6 * (Int32.toNatClampNeg (a_))) 6, (u2 iv (61 + 6 * (Int32.toNatClampNeg (a_))) 6 (b_)), av) else ((fX8_stepNumbered iv a_), 0, iv, av)
set_option maxHeartbeats 1000000 in
set_option maxRecDepth 10000 in
theorem ctX8_silent {l : Launch} {D : va_G} {aC : Nat → ClassId} {b0 sz : Nat} {x : Nat} {iv av : Nat → Nat → Int32} {R : ZM} {a_ : Int32} {b_ : Int32} {n_ : Nat} (hs : iv 0 5 = nI n_) (hn : n_ ≤ 12) (hbb : b_ = 0 ∨ b_ = 1) (hz : ∀ j, j < 12 → iv (61 + 6 * j) 6 = 0 ∨ iv (61 + 6 * j) 6 = 1) : CtX l D aC b0 yX8_silent cX8_silent 5 (some .boolean) 1 1 6 [.ref (x + 0), .int (a_), .int (b_)] (cm aC x iv av R) sz (zdx (fX8_silent iv av a_ b_).1 (some (.int (fX8_silent iv av a_ b_).2.1)) (cm aC x (fX8_silent iv av a_ b_).2.2.1 (fX8_silent iv av a_ b_).2.2.2 R)) (zxx (fX8_silent iv av a_ b_).1 (cm aC x (fX8_silent iv av a_ b_).2.2.1 (fX8_silent iv av a_ b_).2.2.2 R)) := by
  refine CtX.of (by decide) (Nat.le_of_ble_eq_true rfl) ?_
  intro p e s m below meth c ls C hr hlk hnt hl
  have hl : lv_has ls 5 [(0, .ref (x + 0)), (1, .int (a_)), (2, .int (b_))] := hl
  obtain ⟨hx, hb, -, -, -⟩ := id C
  refine zz (fun _ _ => lv_aload_n hx hb dX8_silent_0 rfl (lv_at hl 0 rfl)) ?_
  refine zz (fun _ _ => lv_iload_n hx hb dX8_silent_1 rfl (lv_at hl 1 rfl)) ?_
  refine z_callVX (As := [.int (a_)]) (rest := []) C hl.1 lk_X8_78 ml_X8_78 (ctX8_stepNumbered hs hn) (rd_1 (by decide)) rfl rfl rfl (Nat.le_of_ble_eq_true rfl) ⟨by decide, by decide, by decide, by decide⟩ dX8_silent_2 (fun E9 M9 hp9 _ _ _ _ a1 a2 a3 a4 a5 => ?_) (fun r9 M9 sz hp9 => ?_)
  · obtain ⟨h9, rfl, rfl⟩ := hp9
    exact z_out hnt hlk (by decide) (by decide) ⟨by simp only [fX8_silent, if_neg h9]; exact h9, by simp only [fX8_silent, if_neg h9], by simp only [fX8_silent, if_neg h9]⟩ a1 a2 a3 a4 a5
  obtain ⟨c_1, rfl, rfl⟩ := hp9
  refine zst (st' := [.ref (x + (61 + 6 * (Int32.toNatClampNeg (a_))))]) rfl ?_
  refine zs (fun _ _ => lv_astore_n (lv' := [(3, .ref (x + (61 + 6 * (Int32.toNatClampNeg (a_))))), (0, .ref (x + 0)), (1, .int (a_)), (2, .int (b_))]) hx hb dX8_silent_5 rfl hl (by decide) rfl) (fun ls hl => ?_)
  refine zz (fun _ _ => lv_aload_n hx hb dX8_silent_6 rfl (lv_at hl 0 rfl)) ?_
  refine z_get (v := .int (iv (61 + 6 * (Int32.toNatClampNeg (a_))) 6)) C fd_X8_82 (rd_18 (kp_2 (sn_lt c_1 hs hn))) rfl dX8_silent_7 ?_
  refine zs (fun _ _ => lv_istore (lv' := [(4, .int (iv (61 + 6 * (Int32.toNatClampNeg (a_))) 6)), (3, .ref (x + (61 + 6 * (Int32.toNatClampNeg (a_))))), (0, .ref (x + 0)), (1, .int (a_)), (2, .int (b_))]) hx hb dX8_silent_10 hl (by decide) rfl) (fun ls hl => ?_)
  refine zz (fun _ _ => lv_aload_n hx hb dX8_silent_12 rfl (lv_at hl 1 rfl)) ?_
  refine zz (fun _ _ => lv_iload_n hx hb dX8_silent_13 rfl (lv_at hl 4 rfl)) ?_
  refine z_put C fp_X8_82 (fun h => by cases h) (rd_18 (kp_2 (sn_lt c_1 hs hn))) (Nat.le_of_ble_eq_true rfl) (bz hbb) (bf hbb) dX8_silent_14 ?_
  refine zeq (wr_18_6 (kp_2 (sn_lt c_1 hs hn))) ?_
  refine zz (fun _ _ => lv_iload hx hb dX8_silent_17 (lv_at hl 0 rfl)) ?_
  exact z_ret (by decide) (by decide) (z_zret C hr (bz (hz _ (sn_lt c_1 hs hn))) hlk dX8_silent_19 ⟨by simp only [fX8_silent, if_pos c_1], by simp only [fX8_silent, if_pos c_1], by simp only [fX8_silent, if_pos c_1]⟩)
def fX8_torn (iv : Nat → Nat → Int32) (av : Nat → Nat → Int32) (a_ : Int32) (b_ : Int32) : Nat × Int32 × (Nat → Nat → Int32) × (Nat → Nat → Int32) := if (fX8_fileNumbered a_) = 0 then (0, iv (29 + 3 * (Int32.toNatClampNeg (a_))) 1, (u2 iv (29 + 3 * (Int32.toNatClampNeg (a_))) 1 (b_)), av) else ((fX8_fileNumbered a_), 0, iv, av)
set_option maxHeartbeats 1000000 in
set_option maxRecDepth 10000 in
theorem ctX8_torn {l : Launch} {D : va_G} {aC : Nat → ClassId} {b0 sz : Nat} {x : Nat} {iv av : Nat → Nat → Int32} {R : ZM} {a_ : Int32} {b_ : Int32} (hbb : b_ = 0 ∨ b_ = 1) (hz : ∀ j, j < 4 → iv (29 + 3 * j) 1 = 0 ∨ iv (29 + 3 * j) 1 = 1) : CtX l D aC b0 yX8_torn cX8_torn 5 (some .boolean) 1 1 6 [.ref (x + 0), .int (a_), .int (b_)] (cm aC x iv av R) sz (zdx (fX8_torn iv av a_ b_).1 (some (.int (fX8_torn iv av a_ b_).2.1)) (cm aC x (fX8_torn iv av a_ b_).2.2.1 (fX8_torn iv av a_ b_).2.2.2 R)) (zxx (fX8_torn iv av a_ b_).1 (cm aC x (fX8_torn iv av a_ b_).2.2.1 (fX8_torn iv av a_ b_).2.2.2 R)) := by
  refine CtX.of (by decide) (Nat.le_of_ble_eq_true rfl) ?_
  intro p e s m below meth c ls C hr hlk hnt hl
  have hl : lv_has ls 5 [(0, .ref (x + 0)), (1, .int (a_)), (2, .int (b_))] := hl
  obtain ⟨hx, hb, -, -, -⟩ := id C
  refine zz (fun _ _ => lv_aload_n hx hb dX8_torn_0 rfl (lv_at hl 0 rfl)) ?_
  refine zz (fun _ _ => lv_iload_n hx hb dX8_torn_1 rfl (lv_at hl 1 rfl)) ?_
  refine z_callVX (As := [.int (a_)]) (rest := []) C hl.1 lk_X8_132 ml_X8_132 (ctX8_fileNumbered ) (rd_1 (by decide)) rfl rfl rfl (Nat.le_of_ble_eq_true rfl) ⟨by decide, by decide, by decide, by decide⟩ dX8_torn_2 (fun E9 M9 hp9 _ _ _ _ a1 a2 a3 a4 a5 => ?_) (fun r9 M9 sz hp9 => ?_)
  · obtain ⟨h9, rfl, rfl⟩ := hp9
    exact z_out hnt hlk (by decide) (by decide) ⟨by simp only [fX8_torn, if_neg h9]; exact h9, by simp only [fX8_torn, if_neg h9], by simp only [fX8_torn, if_neg h9]⟩ a1 a2 a3 a4 a5
  obtain ⟨c_1, rfl, rfl⟩ := hp9
  refine zst (st' := [.ref (x + (29 + 3 * (Int32.toNatClampNeg (a_))))]) rfl ?_
  refine zs (fun _ _ => lv_astore_n (lv' := [(3, .ref (x + (29 + 3 * (Int32.toNatClampNeg (a_))))), (0, .ref (x + 0)), (1, .int (a_)), (2, .int (b_))]) hx hb dX8_torn_5 rfl hl (by decide) rfl) (fun ls hl => ?_)
  refine zz (fun _ _ => lv_aload_n hx hb dX8_torn_6 rfl (lv_at hl 0 rfl)) ?_
  refine z_get (v := .int (iv (29 + 3 * (Int32.toNatClampNeg (a_))) 1)) C fd_X8_148 (rd_13 (kp_8 (fn_lt c_1))) rfl dX8_torn_7 ?_
  refine zs (fun _ _ => lv_istore (lv' := [(4, .int (iv (29 + 3 * (Int32.toNatClampNeg (a_))) 1)), (3, .ref (x + (29 + 3 * (Int32.toNatClampNeg (a_))))), (0, .ref (x + 0)), (1, .int (a_)), (2, .int (b_))]) hx hb dX8_torn_10 hl (by decide) rfl) (fun ls hl => ?_)
  refine zz (fun _ _ => lv_aload_n hx hb dX8_torn_12 rfl (lv_at hl 1 rfl)) ?_
  refine zz (fun _ _ => lv_iload_n hx hb dX8_torn_13 rfl (lv_at hl 4 rfl)) ?_
  refine z_put C fp_X8_148 (fun h => by cases h) (rd_13 (kp_8 (fn_lt c_1))) (Nat.le_of_ble_eq_true rfl) (bz hbb) (bf hbb) dX8_torn_14 ?_
  refine zeq (wr_13_1 (kp_8 (fn_lt c_1))) ?_
  refine zz (fun _ _ => lv_iload hx hb dX8_torn_17 (lv_at hl 0 rfl)) ?_
  exact z_ret (by decide) (by decide) (z_zret C hr (bz (hz _ (fn_lt c_1))) hlk dX8_torn_19 ⟨by simp only [fX8_torn, if_pos c_1], by simp only [fX8_torn, if_pos c_1], by simp only [fX8_torn, if_pos c_1]⟩)
def fX8_solutions (iv : Nat → Nat → Int32) (a_ : Int32) : Nat × Int32 := if (fX8_stepNumbered iv a_) = 0 then (0, iv (61 + 6 * (Int32.toNatClampNeg (a_))) 7) else ((fX8_stepNumbered iv a_), 0)
set_option maxHeartbeats 1000000 in
set_option maxRecDepth 10000 in
theorem ctX8_solutions {l : Launch} {D : va_G} {aC : Nat → ClassId} {b0 sz : Nat} {x : Nat} {iv av : Nat → Nat → Int32} {R : ZM} {a_ : Int32} {n_ : Nat} (hs : iv 0 5 = nI n_) (hn : n_ ≤ 12) : CtX l D aC b0 yX8_solutions cX8_solutions 2 (some .int) 1 1 6 [.ref (x + 0), .int (a_)] (cm aC x iv av R) sz (zdx (fX8_solutions iv a_).1 (some (.int (fX8_solutions iv a_).2)) (cm aC x iv av R)) (zxx (fX8_solutions iv a_).1 (cm aC x iv av R)) := by
  refine CtX.of (by decide) (Nat.le_of_ble_eq_true rfl) ?_
  intro p e s m below meth c ls C hr hlk hnt hl
  have hl : lv_has ls 2 [(0, .ref (x + 0)), (1, .int (a_))] := hl
  obtain ⟨hx, hb, -, -, -⟩ := id C
  refine zz (fun _ _ => lv_aload_n hx hb dX8_solutions_0 rfl (lv_at hl 0 rfl)) ?_
  refine zz (fun _ _ => lv_iload_n hx hb dX8_solutions_1 rfl (lv_at hl 1 rfl)) ?_
  refine z_callVX (As := [.int (a_)]) (rest := []) C hl.1 lk_X8_78 ml_X8_78 (ctX8_stepNumbered hs hn) (rd_1 (by decide)) rfl rfl rfl (Nat.le_of_ble_eq_true rfl) ⟨by decide, by decide, by decide, by decide⟩ dX8_solutions_2 (fun E9 M9 hp9 _ _ _ _ a1 a2 a3 a4 a5 => ?_) (fun r9 M9 sz hp9 => ?_)
  · obtain ⟨h9, rfl, rfl⟩ := hp9
    exact z_out hnt hlk (by decide) (by decide) ⟨by simp only [fX8_solutions, if_neg h9]; exact h9, by simp only [fX8_solutions, if_neg h9], by simp only [fX8_solutions, if_neg h9]⟩ a1 a2 a3 a4 a5
  obtain ⟨c_1, rfl, rfl⟩ := hp9
  refine zst (st' := [.ref (x + (61 + 6 * (Int32.toNatClampNeg (a_))))]) rfl ?_
  refine z_get (v := .int (iv (61 + 6 * (Int32.toNatClampNeg (a_))) 7)) C fd_X8_158 (rd_18 (kp_2 (sn_lt c_1 hs hn))) rfl dX8_solutions_5 ?_
  exact z_ret (by decide) (by decide) (z_iret C hr hlk dX8_solutions_8 ⟨by simp only [fX8_solutions, if_pos c_1], by simp only [fX8_solutions, if_pos c_1], by simp only [fX8_solutions, if_pos c_1]⟩)
def fX8_fails (iv : Nat → Nat → Int32) : Int32 := (iv 0 6)
set_option maxHeartbeats 1000000 in
set_option maxRecDepth 10000 in
theorem ctX8_fails {l : Launch} {D : va_G} {aC : Nat → ClassId} {b0 sz : Nat} {x : Nat} {iv av : Nat → Nat → Int32} {R : ZM} : Ct l D aC b0 yX8_fails cX8_fails 1 (some .int) 0 0 0 [.ref (x + 0)] (cm aC x iv av R) sz (zd (some (.int (fX8_fails iv))) (cm aC x iv av R)) := by
  refine Ct.of (by decide) (Nat.le_of_ble_eq_true rfl) ?_
  intro p e s m below meth c ls C hr hlk hnm hl
  have hl : lv_has ls 1 [(0, .ref (x + 0))] := hl
  obtain ⟨hx, hb, -, -, -⟩ := id C
  refine zz (fun _ _ => lv_aload_n hx hb dX8_fails_0 rfl (lv_at hl 0 rfl)) ?_
  refine z_get (v := .int (iv 0 6)) C fd_X8_44 (rd_1 (by decide)) rfl dX8_fails_1 ?_
  exact z_iret C hr hlk dX8_fails_4 (by simp only [zd, fX8_fails, and_self])
def fX8_clear (iv : Nat → Nat → Int32) (av : Nat → Nat → Int32) : Int32 × (Nat → Nat → Int32) × (Nat → Nat → Int32) := (iv 0 5, (u2 iv 0 5 (0)), av)
set_option maxHeartbeats 1000000 in
set_option maxRecDepth 10000 in
theorem ctX8_clear {l : Launch} {D : va_G} {aC : Nat → ClassId} {b0 sz : Nat} {x : Nat} {iv av : Nat → Nat → Int32} {R : ZM} : Ct l D aC b0 yX8_clear cX8_clear 2 (some .int) 0 0 0 [.ref (x + 0)] (cm aC x iv av R) sz (zd (some (.int (fX8_clear iv av).1)) (cm aC x (fX8_clear iv av).2.1 (fX8_clear iv av).2.2 R)) := by
  refine Ct.of (by decide) (Nat.le_of_ble_eq_true rfl) ?_
  intro p e s m below meth c ls C hr hlk hnm hl
  have hl : lv_has ls 2 [(0, .ref (x + 0))] := hl
  obtain ⟨hx, hb, -, -, -⟩ := id C
  refine zz (fun _ _ => lv_aload_n hx hb dX8_clear_0 rfl (lv_at hl 0 rfl)) ?_
  refine z_get (v := .int (iv 0 5)) C fd_X8_40 (rd_1 (by decide)) rfl dX8_clear_1 ?_
  refine zs (fun _ _ => lv_istore_n (lv' := [(1, .int (iv 0 5)), (0, .ref (x + 0))]) hx hb dX8_clear_4 rfl hl (by decide) rfl) (fun ls hl => ?_)
  refine zz (fun _ _ => lv_aload_n hx hb dX8_clear_5 rfl (lv_at hl 1 rfl)) ?_
  refine zz (fun _ _ => lv_iconst (v := 0) hx hb dX8_clear_6 (by decide)) ?_
  refine z_put C fp_X8_40 (fun h => by cases h) (rd_1 (by decide)) (Nat.le_of_ble_eq_true rfl) rfl rfl dX8_clear_7 ?_
  refine zeq (wr_1_5 (by decide)) ?_
  refine zz (fun _ _ => lv_iload_n hx hb dX8_clear_10 rfl (lv_at hl 0 rfl)) ?_
  exact z_iret C hr hlk dX8_clear_11 (by simp only [zd, fX8_clear, and_self])
def fX8_many (iv : Nat → Nat → Int32) (a_ : Int32) : Nat × Int32 := if (fX8_graphNumbered a_) = 0 then if iv (4 + 1 + 2 * (Int32.toNatClampNeg (a_))) 2 = 0 then (0, (-1)) else (0, iv (4 + 1 + 2 * (Int32.toNatClampNeg (a_))) 1) else ((fX8_graphNumbered a_), 0)
set_option maxHeartbeats 1000000 in
set_option maxRecDepth 10000 in
theorem ctX8_many {l : Launch} {D : va_G} {aC : Nat → ClassId} {b0 sz : Nat} {x : Nat} {iv av : Nat → Nat → Int32} {R : ZM} {a_ : Int32} : CtX l D aC b0 yX8_many cX8_many 3 (some .int) 2 1 6 [.ref (x + 0), .int (a_)] (cm aC x iv av R) sz (zdx (fX8_many iv a_).1 (some (.int (fX8_many iv a_).2)) (cm aC x iv av R)) (zxx (fX8_many iv a_).1 (cm aC x iv av R)) := by
  refine CtX.of (by decide) (Nat.le_of_ble_eq_true rfl) ?_
  intro p e s m below meth c ls C hr hlk hnt hl
  have hl : lv_has ls 3 [(0, .ref (x + 0)), (1, .int (a_))] := hl
  obtain ⟨hx, hb, -, -, -⟩ := id C
  refine zz (fun _ _ => lv_aload_n hx hb dX8_many_0 rfl (lv_at hl 0 rfl)) ?_
  refine zz (fun _ _ => lv_iload_n hx hb dX8_many_1 rfl (lv_at hl 1 rfl)) ?_
  refine z_callVX (As := [.int (a_)]) (rest := []) C hl.1 lk_X8_176 ml_X8_176 (ctX8_graphNumbered ) (rd_1 (by decide)) rfl rfl rfl (Nat.le_of_ble_eq_true rfl) ⟨by decide, by decide, by decide, by decide⟩ dX8_many_2 (fun E9 M9 hp9 _ _ _ _ a1 a2 a3 a4 a5 => ?_) (fun r9 M9 sz hp9 => ?_)
  · obtain ⟨h9, rfl, rfl⟩ := hp9
    exact z_out hnt hlk (by decide) (by decide) ⟨by simp only [fX8_many, if_neg h9]; exact h9, by simp only [fX8_many, if_neg h9], by simp only [fX8_many, if_neg h9]⟩ a1 a2 a3 a4 a5
  obtain ⟨c_1, rfl, rfl⟩ := hp9
  refine zst (st' := [.ref (x + (4 + 1 + 2 * (Int32.toNatClampNeg (a_))))]) rfl ?_
  refine zs (fun _ _ => lv_astore_n (lv' := [(2, .ref (x + (4 + 1 + 2 * (Int32.toNatClampNeg (a_))))), (0, .ref (x + 0)), (1, .int (a_))]) hx hb dX8_many_5 rfl hl (by decide) rfl) (fun ls hl => ?_)
  refine zz (fun _ _ => lv_aload_n hx hb dX8_many_6 rfl (lv_at hl 0 rfl)) ?_
  refine z_get (v := .int (iv (4 + 1 + 2 * (Int32.toNatClampNeg (a_))) 2)) C fd_X8_180 (rd_6 (kp_5 (k := 4) (by decide) (gn_lt c_1))) rfl dX8_many_7 ?_
  refine zb (fun _ _ => lv_if_eq (tgt := 20) hx hb dX8_many_10 (by decide)) (fun c_2 => ?_) (fun c_2 => ?_)
  · refine zz (fun _ _ => lv_iconst (v := (-1)) hx hb dX8_many_20 (by decide)) ?_
    exact z_ret (by decide) (by decide) (z_iret C hr hlk dX8_many_21 ⟨by simp only [fX8_many, if_pos c_1, if_pos c_2], by simp only [fX8_many, if_pos c_1, if_pos c_2], by simp only [fX8_many, if_pos c_1, if_pos c_2]⟩)
  · refine zz (fun _ _ => lv_aload_n hx hb dX8_many_13 rfl (lv_at hl 0 rfl)) ?_
    refine z_get (v := .int (iv (4 + 1 + 2 * (Int32.toNatClampNeg (a_))) 1)) C fd_X8_185 (rd_6 (kp_5 (k := 4) (by decide) (gn_lt c_1))) rfl dX8_many_14 ?_
    refine zz (fun _ _ => lv_goto (tgt := 21) hx hb dX8_many_17 (by decide)) ?_
    exact z_ret (by decide) (by decide) (z_iret C hr hlk dX8_many_21 ⟨by simp only [fX8_many, if_pos c_1, if_neg c_2], by simp only [fX8_many, if_pos c_1, if_neg c_2], by simp only [fX8_many, if_pos c_1, if_neg c_2]⟩)
theorem ix_sz {a b : Int32} {N : Nat} (h1 : ¬ a < 0) (h2 : a < b) (hb : ∃ n, n ≤ N ∧ b = nI n) (hN : N < 2 ^ 31) : vp_in a N := by
  obtain ⟨n, hn, e⟩ := hb
  exact ix_lt2 h1 h2 e hn hN
def fX8_at (iv : Nat → Nat → Int32) (av : Nat → Nat → Int32) (a_ : Int32) (b_ : Int32) (c_ : Int32) : Nat × Int32 := if (fX8_graphNumbered a_) = 0 then if b_ < 0 then (3, 0) else if b_ < iv (4 + 1 + 2 * (Int32.toNatClampNeg (a_))) 1 then if c_ < 0 then (1, 0) else if c_ ≤ 2 then (0, (fX8_partOf (av ((4 + 1 + 2 * (Int32.toNatClampNeg (a_))) + 1) (Int32.toNatClampNeg (b_))) c_)) else (1, 0) else (3, 0) else ((fX8_graphNumbered a_), 0)
set_option maxHeartbeats 1000000 in
set_option maxRecDepth 10000 in
theorem ctX8_at {l : Launch} {D : va_G} {aC : Nat → ClassId} {b0 sz : Nat} {x : Nat} {iv av : Nat → Nat → Int32} {R : ZM} {a_ : Int32} {b_ : Int32} {c_ : Int32} (hsz : ∀ j, j < 7 → ∃ n, n ≤ 120 ∧ iv (4 + 1 + 2 * j) 1 = nI n) : CtX l D aC b0 yX8_at cX8_at 5 (some .int) 2 2 12 [.ref (x + 0), .int (a_), .int (b_), .int (c_)] (cm aC x iv av R) sz (zdx (fX8_at iv av a_ b_ c_).1 (some (.int (fX8_at iv av a_ b_ c_).2)) (cm aC x iv av R)) (zxx (fX8_at iv av a_ b_ c_).1 (cm aC x iv av R)) := by
  refine CtX.of (by decide) (Nat.le_of_ble_eq_true rfl) ?_
  intro p e s m below meth c ls C hr hlk hnt hl
  have hl : lv_has ls 5 [(0, .ref (x + 0)), (1, .int (a_)), (2, .int (b_)), (3, .int (c_))] := hl
  obtain ⟨hx, hb, -, -, -⟩ := id C
  refine zz (fun _ _ => lv_aload_n hx hb dX8_at_0 rfl (lv_at hl 0 rfl)) ?_
  refine zz (fun _ _ => lv_iload_n hx hb dX8_at_1 rfl (lv_at hl 1 rfl)) ?_
  refine z_callVX (As := [.int (a_)]) (rest := []) C hl.1 lk_X8_176 ml_X8_176 (ctX8_graphNumbered ) (rd_1 (by decide)) rfl rfl rfl (Nat.le_of_ble_eq_true rfl) ⟨by decide, by decide, by decide, by decide⟩ dX8_at_2 (fun E9 M9 hp9 _ _ _ _ a1 a2 a3 a4 a5 => ?_) (fun r9 M9 sz hp9 => ?_)
  · obtain ⟨h9, rfl, rfl⟩ := hp9
    exact z_out hnt hlk (by decide) (by decide) ⟨by simp only [fX8_at, if_neg h9]; exact h9, by simp only [fX8_at, if_neg h9], by simp only [fX8_at, if_neg h9]⟩ a1 a2 a3 a4 a5
  obtain ⟨c_1, rfl, rfl⟩ := hp9
  refine zst (st' := [.ref (x + (4 + 1 + 2 * (Int32.toNatClampNeg (a_))))]) rfl ?_
  refine zs (fun _ _ => lv_astore (lv' := [(4, .ref (x + (4 + 1 + 2 * (Int32.toNatClampNeg (a_))))), (0, .ref (x + 0)), (1, .int (a_)), (2, .int (b_)), (3, .int (c_))]) hx hb dX8_at_5 hl (by decide) rfl) (fun ls hl => ?_)
  refine zz (fun _ _ => lv_iload_n hx hb dX8_at_7 rfl (lv_at hl 3 rfl)) ?_
  refine zb (fun _ _ => lv_if_lt (tgt := 20) hx hb dX8_at_8 (by decide)) (fun c_2 => ?_) (fun c_2 => ?_)
  · exact z_throw C hl.1 th_X8_190 hnt hlk dX8_at_20 dX8_at_23 dX8_at_24 dX8_at_26 dX8_at_29 ⟨by decide, by decide, by decide, by decide, by decide, by decide⟩ ⟨by simp only [fX8_at, if_pos c_1, if_pos c_2]; decide, by simp only [fX8_at, if_pos c_1, if_pos c_2]; rfl, by simp only [fX8_at, if_pos c_1, if_pos c_2]⟩
  · refine zz (fun _ _ => lv_iload_n hx hb dX8_at_11 rfl (lv_at hl 3 rfl)) ?_
    refine zz (fun _ _ => lv_aload hx hb dX8_at_12 (lv_at hl 0 rfl)) ?_
    refine z_get (v := .int (iv (4 + 1 + 2 * (Int32.toNatClampNeg (a_))) 1)) C fd_X8_185 (rd_6 (kp_5 (k := 4) (by decide) (gn_lt c_1))) rfl dX8_at_14 ?_
    refine zb (fun _ _ => lv_icmp_lt (tgt := 30) hx hb dX8_at_17 (by decide)) (fun c_3 => ?_) (fun c_3 => ?_)
    · refine zz (fun _ _ => lv_iload_n hx hb dX8_at_30 rfl (lv_at hl 4 rfl)) ?_
      refine zb (fun _ _ => lv_if_lt (tgt := 39) hx hb dX8_at_31 (by decide)) (fun c_4 => ?_) (fun c_4 => ?_)
      · exact z_throw C hl.1 th_X8_193 hnt hlk dX8_at_39 dX8_at_42 dX8_at_43 dX8_at_45 dX8_at_48 ⟨by decide, by decide, by decide, by decide, by decide, by decide⟩ ⟨by simp only [fX8_at, if_pos c_1, if_neg c_2, if_pos c_3, if_pos c_4]; decide, by simp only [fX8_at, if_pos c_1, if_neg c_2, if_pos c_3, if_pos c_4]; rfl, by simp only [fX8_at, if_pos c_1, if_neg c_2, if_pos c_3, if_pos c_4]⟩
      · refine zz (fun _ _ => lv_iload_n hx hb dX8_at_34 rfl (lv_at hl 4 rfl)) ?_
        refine zz (fun _ _ => lv_iconst (v := 2) hx hb dX8_at_35 (by decide)) ?_
        refine zb (fun _ _ => lv_icmp_le (tgt := 49) hx hb dX8_at_36 (by decide)) (fun c_5 => ?_) (fun c_5 => ?_)
        · refine zz (fun _ _ => lv_aload hx hb dX8_at_49 (lv_at hl 0 rfl)) ?_
          refine z_get (v := .ref (x + ((4 + 1 + 2 * (Int32.toNatClampNeg (a_))) + 1))) C fd_X8_195 (rd_6 (kp_5 (k := 4) (by decide) (gn_lt c_1))) rfl dX8_at_51 ?_
          refine zz (fun _ _ => lv_iload_n hx hb dX8_at_54 rfl (lv_at hl 3 rfl)) ?_
          refine z_iald (f := av ((4 + 1 + 2 * (Int32.toNatClampNeg (a_))) + 1)) C (rd_7 (nb_6_1 (kp_5 (k := 4) (by decide) (gn_lt c_1)))) (ix_sz c_2 c_3 (hsz _ (gn_lt c_1)) (by decide)) dX8_at_55 ?_
          refine zz (fun _ _ => lv_iload_n hx hb dX8_at_56 rfl (lv_at hl 4 rfl)) ?_
          refine zdS (As := [.int (av ((4 + 1 + 2 * (Int32.toNatClampNeg (a_))) + 1) (Int32.toNatClampNeg (b_))), .int (c_)]) (rest := []) (st' := [.int ((fX8_partOf (av ((4 + 1 + 2 * (Int32.toNatClampNeg (a_))) + 1) (Int32.toNatClampNeg (b_))) c_))]) C hl.1 lk_X8_199 (ctX8_partOf ) rfl rfl (Nat.le_of_ble_eq_true rfl) ⟨by decide, by decide, by decide, by decide⟩ dX8_at_57 rfl (fun sz => ?_)
          exact z_ret (by decide) (by decide) (z_iret C hr hlk dX8_at_60 ⟨by simp only [fX8_at, if_pos c_1, if_neg c_2, if_pos c_3, if_neg c_4, if_pos c_5], by simp only [fX8_at, if_pos c_1, if_neg c_2, if_pos c_3, if_neg c_4, if_pos c_5], by simp only [fX8_at, if_pos c_1, if_neg c_2, if_pos c_3, if_neg c_4, if_pos c_5]⟩)
        · exact z_throw C hl.1 th_X8_193 hnt hlk dX8_at_39 dX8_at_42 dX8_at_43 dX8_at_45 dX8_at_48 ⟨by decide, by decide, by decide, by decide, by decide, by decide⟩ ⟨by simp only [fX8_at, if_pos c_1, if_neg c_2, if_pos c_3, if_neg c_4, if_neg c_5]; decide, by simp only [fX8_at, if_pos c_1, if_neg c_2, if_pos c_3, if_neg c_4, if_neg c_5]; rfl, by simp only [fX8_at, if_pos c_1, if_neg c_2, if_pos c_3, if_neg c_4, if_neg c_5]⟩
    · exact z_throw C hl.1 th_X8_190 hnt hlk dX8_at_20 dX8_at_23 dX8_at_24 dX8_at_26 dX8_at_29 ⟨by decide, by decide, by decide, by decide, by decide, by decide⟩ ⟨by simp only [fX8_at, if_pos c_1, if_neg c_2, if_neg c_3]; decide, by simp only [fX8_at, if_pos c_1, if_neg c_2, if_neg c_3]; rfl, by simp only [fX8_at, if_pos c_1, if_neg c_2, if_neg c_3]⟩
def fX8_changed (iv : Nat → Nat → Int32) (av : Nat → Nat → Int32) (a_ : Int32) (b_ : Int32) : Nat × Int32 := if a_ < 0 then (3, 0) else if a_ < iv 57 3 then if b_ < 0 then (1, 0) else if b_ ≤ 4 then if b_ = 0 then (0, av 58 (Int32.toNatClampNeg (a_))) else if b_ = 4 then (0, av 60 (Int32.toNatClampNeg (a_))) else (0, (fX8_partOf (av 59 (Int32.toNatClampNeg (a_))) ((b_) - (1)))) else (1, 0) else (3, 0)
set_option maxHeartbeats 1000000 in
set_option maxRecDepth 10000 in
theorem ctX8_changed {l : Launch} {D : va_G} {aC : Nat → ClassId} {b0 sz : Nat} {x : Nat} {iv av : Nat → Nat → Int32} {R : ZM} {a_ : Int32} {b_ : Int32} {n_ : Nat} (hs : iv 57 3 = nI n_) (hn : n_ ≤ 240) : CtX l D aC b0 yX8_changed cX8_changed 3 (some .int) 1 1 6 [.ref (x + 0), .int (a_), .int (b_)] (cm aC x iv av R) sz (zdx (fX8_changed iv av a_ b_).1 (some (.int (fX8_changed iv av a_ b_).2)) (cm aC x iv av R)) (zxx (fX8_changed iv av a_ b_).1 (cm aC x iv av R)) := by
  refine CtX.of (by decide) (Nat.le_of_ble_eq_true rfl) ?_
  intro p e s m below meth c ls C hr hlk hnt hl
  have hl : lv_has ls 3 [(0, .ref (x + 0)), (1, .int (a_)), (2, .int (b_))] := hl
  obtain ⟨hx, hb, -, -, -⟩ := id C
  refine zz (fun _ _ => lv_iload_n hx hb dX8_changed_0 rfl (lv_at hl 1 rfl)) ?_
  refine zb (fun _ _ => lv_if_lt (tgt := 15) hx hb dX8_changed_1 (by decide)) (fun c_1 => ?_) (fun c_1 => ?_)
  · exact z_throw C hl.1 th_X8_212 hnt hlk dX8_changed_15 dX8_changed_18 dX8_changed_19 dX8_changed_21 dX8_changed_24 ⟨by decide, by decide, by decide, by decide, by decide, by decide⟩ ⟨by simp only [fX8_changed, if_pos c_1]; decide, by simp only [fX8_changed, if_pos c_1]; rfl, by simp only [fX8_changed, if_pos c_1]⟩
  · refine zz (fun _ _ => lv_iload_n hx hb dX8_changed_4 rfl (lv_at hl 1 rfl)) ?_
    refine zz (fun _ _ => lv_aload_n hx hb dX8_changed_5 rfl (lv_at hl 0 rfl)) ?_
    refine z_get (v := .ref (x + 57)) C fd_X8_36 (rd_1 (by decide)) rfl dX8_changed_6 ?_
    refine z_get (v := .int (iv 57 3)) C fd_X8_173 (rd_16 (by decide)) rfl dX8_changed_9 ?_
    refine zb (fun _ _ => lv_icmp_lt (tgt := 25) hx hb dX8_changed_12 (by decide)) (fun c_2 => ?_) (fun c_2 => ?_)
    · refine zz (fun _ _ => lv_iload_n hx hb dX8_changed_25 rfl (lv_at hl 2 rfl)) ?_
      refine zb (fun _ _ => lv_if_lt (tgt := 34) hx hb dX8_changed_26 (by decide)) (fun c_3 => ?_) (fun c_3 => ?_)
      · exact z_throw C hl.1 th_X8_214 hnt hlk dX8_changed_34 dX8_changed_37 dX8_changed_38 dX8_changed_40 dX8_changed_43 ⟨by decide, by decide, by decide, by decide, by decide, by decide⟩ ⟨by simp only [fX8_changed, if_neg c_1, if_pos c_2, if_pos c_3]; decide, by simp only [fX8_changed, if_neg c_1, if_pos c_2, if_pos c_3]; rfl, by simp only [fX8_changed, if_neg c_1, if_pos c_2, if_pos c_3]⟩
      · refine zz (fun _ _ => lv_iload_n hx hb dX8_changed_29 rfl (lv_at hl 2 rfl)) ?_
        refine zz (fun _ _ => lv_iconst (v := 4) hx hb dX8_changed_30 (by decide)) ?_
        refine zb (fun _ _ => lv_icmp_le (tgt := 44) hx hb dX8_changed_31 (by decide)) (fun c_4 => ?_) (fun c_4 => ?_)
        · refine zz (fun _ _ => lv_iload_n hx hb dX8_changed_44 rfl (lv_at hl 2 rfl)) ?_
          refine zbn (fun _ _ => lv_if_ne (tgt := 58) hx hb dX8_changed_45 (by decide)) (fun c_5 => ?_) (fun c_5 => ?_)
          · refine zz (fun _ _ => lv_iload_n hx hb dX8_changed_58 rfl (lv_at hl 2 rfl)) ?_
            refine zz (fun _ _ => lv_iconst (v := 4) hx hb dX8_changed_59 (by decide)) ?_
            refine zbn (fun _ _ => lv_icmp_ne (tgt := 75) hx hb dX8_changed_60 (by decide)) (fun c_6 => ?_) (fun c_6 => ?_)
            · refine zz (fun _ _ => lv_aload_n hx hb dX8_changed_75 rfl (lv_at hl 0 rfl)) ?_
              refine z_get (v := .ref (x + 57)) C fd_X8_36 (rd_1 (by decide)) rfl dX8_changed_76 ?_
              refine z_get (v := .ref (x + 59)) C fd_X8_222 (rd_16 (by decide)) rfl dX8_changed_79 ?_
              refine zz (fun _ _ => lv_iload_n hx hb dX8_changed_82 rfl (lv_at hl 1 rfl)) ?_
              refine z_iald (f := av 59) C (rd_17 (by decide)) (ix_lt2 c_1 c_2 hs hn (by decide)) dX8_changed_83 ?_
              refine zz (fun _ _ => lv_iload_n hx hb dX8_changed_84 rfl (lv_at hl 2 rfl)) ?_
              refine zz (fun _ _ => lv_iconst (v := 1) hx hb dX8_changed_85 (by decide)) ?_
              refine zz (fun _ _ => lv_isub hx hb dX8_changed_86) ?_
              refine zdS (As := [.int (av 59 (Int32.toNatClampNeg (a_))), .int ((b_) - (1))]) (rest := []) (st' := [.int ((fX8_partOf (av 59 (Int32.toNatClampNeg (a_))) ((b_) - (1))))]) C hl.1 lk_X8_199 (ctX8_partOf) rfl rfl (Nat.le_of_ble_eq_true rfl) ⟨by decide, by decide, by decide, by decide⟩ dX8_changed_87 rfl (fun sz => ?_)
              exact z_ret (by decide) (by decide) (z_iret C hr hlk dX8_changed_90 ⟨by simp only [fX8_changed, if_neg c_1, if_pos c_2, if_neg c_3, if_pos c_4, if_neg c_5, if_neg c_6], by simp only [fX8_changed, if_neg c_1, if_pos c_2, if_neg c_3, if_pos c_4, if_neg c_5, if_neg c_6], by simp only [fX8_changed, if_neg c_1, if_pos c_2, if_neg c_3, if_pos c_4, if_neg c_5, if_neg c_6]⟩)
            · refine zz (fun _ _ => lv_aload_n hx hb dX8_changed_63 rfl (lv_at hl 0 rfl)) ?_
              refine z_get (v := .ref (x + 57)) C fd_X8_36 (rd_1 (by decide)) rfl dX8_changed_64 ?_
              refine z_get (v := .ref (x + 60)) C fd_X8_219 (rd_16 (by decide)) rfl dX8_changed_67 ?_
              refine zz (fun _ _ => lv_iload_n hx hb dX8_changed_70 rfl (lv_at hl 1 rfl)) ?_
              refine z_iald (f := av 60) C (rd_17 (by decide)) (ix_lt2 c_1 c_2 hs hn (by decide)) dX8_changed_71 ?_
              refine zz (fun _ _ => lv_goto (tgt := 90) hx hb dX8_changed_72 (by decide)) ?_
              exact z_ret (by decide) (by decide) (z_iret C hr hlk dX8_changed_90 ⟨by simp only [fX8_changed, if_neg c_1, if_pos c_2, if_neg c_3, if_pos c_4, if_neg c_5, if_pos c_6], by simp only [fX8_changed, if_neg c_1, if_pos c_2, if_neg c_3, if_pos c_4, if_neg c_5, if_pos c_6], by simp only [fX8_changed, if_neg c_1, if_pos c_2, if_neg c_3, if_pos c_4, if_neg c_5, if_pos c_6]⟩)
          · refine zz (fun _ _ => lv_aload_n hx hb dX8_changed_48 rfl (lv_at hl 0 rfl)) ?_
            refine z_get (v := .ref (x + 57)) C fd_X8_36 (rd_1 (by decide)) rfl dX8_changed_49 ?_
            refine z_get (v := .ref (x + 58)) C fd_X8_216 (rd_16 (by decide)) rfl dX8_changed_52 ?_
            refine zz (fun _ _ => lv_iload_n hx hb dX8_changed_55 rfl (lv_at hl 1 rfl)) ?_
            refine z_iald (f := av 58) C (rd_17 (by decide)) (ix_lt2 c_1 c_2 hs hn (by decide)) dX8_changed_56 ?_
            exact z_ret (by decide) (by decide) (z_iret C hr hlk dX8_changed_57 ⟨by simp only [fX8_changed, if_neg c_1, if_pos c_2, if_neg c_3, if_pos c_4, if_pos c_5], by simp only [fX8_changed, if_neg c_1, if_pos c_2, if_neg c_3, if_pos c_4, if_pos c_5], by simp only [fX8_changed, if_neg c_1, if_pos c_2, if_neg c_3, if_pos c_4, if_pos c_5]⟩)
        · exact z_throw C hl.1 th_X8_214 hnt hlk dX8_changed_34 dX8_changed_37 dX8_changed_38 dX8_changed_40 dX8_changed_43 ⟨by decide, by decide, by decide, by decide, by decide, by decide⟩ ⟨by simp only [fX8_changed, if_neg c_1, if_pos c_2, if_neg c_3, if_neg c_4]; decide, by simp only [fX8_changed, if_neg c_1, if_pos c_2, if_neg c_3, if_neg c_4]; rfl, by simp only [fX8_changed, if_neg c_1, if_pos c_2, if_neg c_3, if_neg c_4]⟩
    · exact z_throw C hl.1 th_X8_212 hnt hlk dX8_changed_15 dX8_changed_18 dX8_changed_19 dX8_changed_21 dX8_changed_24 ⟨by decide, by decide, by decide, by decide, by decide, by decide⟩ ⟨by simp only [fX8_changed, if_neg c_1, if_neg c_2]; decide, by simp only [fX8_changed, if_neg c_1, if_neg c_2]; rfl, by simp only [fX8_changed, if_neg c_1, if_neg c_2]⟩
end
section
theorem tl_T {j : Nat} (h : j < 12) : tl (61 + 6 * j + 1) = 18 := by
  revert h; revert j; decide +kernel
theorem tl_P {j : Nat} (h : j < 12) : tl (61 + 6 * j + 4) = 12 := by
  revert h; revert j; decide +kernel
theorem tl_F {j : Nat} (h : j < 4) : tl (29 + 3 * j + 1) = 30 := by
  revert h; revert j; decide +kernel
theorem st_lt {a : Int32} {n : Nat} (hs : a = nI n) (hn : n ≤ 12) (h : a < 12) : n < 12 := by
  rw [hs] at h
  exact (nI_ltI (by omega) (by decide)).mp (show nI n < nI 12 from h)
def fX8_step (iv : Nat → Nat → Int32) (av : Nat → Nat → Int32) (a_ : Int32) (b_ : Int32) (c_ : Int32) : Nat × Int32 × (Nat → Nat → Int32) × (Nat → Nat → Int32) := if a_ < 0 then (1, 0, iv, av) else if 9 < a_ then (1, 0, iv, av) else if (fX8_fromMayBe a_ b_) = 0 then (1, 0, iv, av) else if (fX8_toMayBe a_ c_) = 0 then (1, 0, iv, av) else if iv 0 5 < 12 then if (fX8_fromCounts a_) = 0 then (0, (((fX5_begin iv av (61 + 6 * (Int32.toNatClampNeg (iv 0 5))) a_ 0 c_).1 0 5) + (1)) - (1), (u2 (fX5_begin iv av (61 + 6 * (Int32.toNatClampNeg (iv 0 5))) a_ 0 c_).1 0 5 (((fX5_begin iv av (61 + 6 * (Int32.toNatClampNeg (iv 0 5))) a_ 0 c_).1 0 5) + (1))), (fX5_begin iv av (61 + 6 * (Int32.toNatClampNeg (iv 0 5))) a_ 0 c_).2) else (0, (((fX5_begin iv av (61 + 6 * (Int32.toNatClampNeg (iv 0 5))) a_ b_ c_).1 0 5) + (1)) - (1), (u2 (fX5_begin iv av (61 + 6 * (Int32.toNatClampNeg (iv 0 5))) a_ b_ c_).1 0 5 (((fX5_begin iv av (61 + 6 * (Int32.toNatClampNeg (iv 0 5))) a_ b_ c_).1 0 5) + (1))), (fX5_begin iv av (61 + 6 * (Int32.toNatClampNeg (iv 0 5))) a_ b_ c_).2) else (2, 0, iv, av)
set_option maxHeartbeats 1000000 in
set_option maxRecDepth 10000 in
theorem ctX8_step {l : Launch} {D : va_G} {aC : Nat → ClassId} {b0 sz : Nat} {x : Nat} {iv av : Nat → Nat → Int32} {R : ZM} {a_ : Int32} {b_ : Int32} {c_ : Int32} {n_ : Nat} (hs : iv 0 5 = nI n_) (hn : n_ ≤ 12) : CtX l D aC b0 yX8_step cX8_step 4 (some .int) 2 1 6 [.ref (x + 0), .int (a_), .int (b_), .int (c_)] (cm aC x iv av R) sz (zdx (fX8_step iv av a_ b_ c_).1 (some (.int (fX8_step iv av a_ b_ c_).2.1)) (cm aC x (fX8_step iv av a_ b_ c_).2.2.1 (fX8_step iv av a_ b_ c_).2.2.2 R)) (zxx (fX8_step iv av a_ b_ c_).1 (cm aC x (fX8_step iv av a_ b_ c_).2.2.1 (fX8_step iv av a_ b_ c_).2.2.2 R)) := by
  refine CtX.of (by decide) (Nat.le_of_ble_eq_true rfl) ?_
  intro p e s m below meth c ls C hr hlk hnt hl
  have hl : lv_has ls 4 [(0, .ref (x + 0)), (1, .int (a_)), (2, .int (b_)), (3, .int (c_))] := hl
  obtain ⟨hx, hb, -, -, -⟩ := id C
  refine zz (fun _ _ => lv_iload_n hx hb dX8_step_0 rfl (lv_at hl 1 rfl)) ?_
  refine zb (fun _ _ => lv_if_lt (tgt := 26) hx hb dX8_step_1 (by decide)) (fun c_1 => ?_) (fun c_1 => ?_)
  · exact z_throw C hl.1 th_X8_60 hnt hlk dX8_step_26 dX8_step_29 dX8_step_30 dX8_step_32 dX8_step_35 ⟨by decide, by decide, by decide, by decide, by decide, by decide⟩ ⟨by simp only [fX8_step, if_pos c_1]; decide, by simp only [fX8_step, if_pos c_1]; rfl, by simp only [fX8_step, if_pos c_1]⟩
  · refine zz (fun _ _ => lv_iload_n hx hb dX8_step_4 rfl (lv_at hl 1 rfl)) ?_
    refine zz (fun _ _ => lv_bipush (v := 9) hx hb dX8_step_5 (by decide)) ?_
    refine zb (fun _ _ => lv_icmp_gt (tgt := 26) hx hb dX8_step_7 (by decide)) (fun c_2 => ?_) (fun c_2 => ?_)
    · exact z_throw C hl.1 th_X8_60 hnt hlk dX8_step_26 dX8_step_29 dX8_step_30 dX8_step_32 dX8_step_35 ⟨by decide, by decide, by decide, by decide, by decide, by decide⟩ ⟨by simp only [fX8_step, if_neg c_1, if_pos c_2]; decide, by simp only [fX8_step, if_neg c_1, if_pos c_2]; rfl, by simp only [fX8_step, if_neg c_1, if_pos c_2]⟩
    · refine zz (fun _ _ => lv_iload_n hx hb dX8_step_10 rfl (lv_at hl 1 rfl)) ?_
      refine zz (fun _ _ => lv_iload_n hx hb dX8_step_11 rfl (lv_at hl 2 rfl)) ?_
      refine zdS (As := [.int (a_), .int (b_)]) (rest := []) (st' := [.int ((fX8_fromMayBe a_ b_))]) C hl.1 lk_X8_51 (ctX8_fromMayBe ) rfl rfl (Nat.le_of_ble_eq_true rfl) ⟨by decide, by decide, by decide, by decide⟩ dX8_step_12 rfl (fun sz => ?_)
      refine zb (fun _ _ => lv_if_eq (tgt := 26) hx hb dX8_step_15 (by decide)) (fun c_3 => ?_) (fun c_3 => ?_)
      · exact z_throw C hl.1 th_X8_60 hnt hlk dX8_step_26 dX8_step_29 dX8_step_30 dX8_step_32 dX8_step_35 ⟨by decide, by decide, by decide, by decide, by decide, by decide⟩ ⟨by simp only [fX8_step, if_neg c_1, if_neg c_2, if_pos c_3]; decide, by simp only [fX8_step, if_neg c_1, if_neg c_2, if_pos c_3]; rfl, by simp only [fX8_step, if_neg c_1, if_neg c_2, if_pos c_3]⟩
      · refine zz (fun _ _ => lv_iload_n hx hb dX8_step_18 rfl (lv_at hl 1 rfl)) ?_
        refine zz (fun _ _ => lv_iload_n hx hb dX8_step_19 rfl (lv_at hl 3 rfl)) ?_
        refine zdS (As := [.int (a_), .int (c_)]) (rest := []) (st' := [.int ((fX8_toMayBe a_ c_))]) C hl.1 lk_X8_55 (ctX8_toMayBe ) rfl rfl (Nat.le_of_ble_eq_true rfl) ⟨by decide, by decide, by decide, by decide⟩ dX8_step_20 rfl (fun sz => ?_)
        refine zbn (fun _ _ => lv_if_ne (tgt := 36) hx hb dX8_step_23 (by decide)) (fun c_4 => ?_) (fun c_4 => ?_)
        · refine zz (fun _ _ => lv_aload_n hx hb dX8_step_36 rfl (lv_at hl 0 rfl)) ?_
          refine z_get (v := .int (iv 0 5)) C fd_X8_40 (rd_1 (by decide)) rfl dX8_step_37 ?_
          refine zz (fun _ _ => lv_bipush (v := 12) hx hb dX8_step_40 (by decide)) ?_
          refine zb (fun _ _ => lv_icmp_lt (tgt := 55) hx hb dX8_step_42 (by decide)) (fun c_5 => ?_) (fun c_5 => ?_)
          · refine zz (fun _ _ => lv_aload_n hx hb dX8_step_55 rfl (lv_at hl 0 rfl)) ?_
            refine z_get (v := .ref (x + 1)) C fd_X8_11 (rd_1 (by decide)) rfl dX8_step_56 ?_
            refine zz (fun _ _ => lv_aload_n hx hb dX8_step_59 rfl (lv_at hl 0 rfl)) ?_
            refine z_get (v := .int (iv 0 5)) C fd_X8_40 (rd_1 (by decide)) rfl dX8_step_60 ?_
            refine z_aald C 4 rfl (rd_2 (by decide)) (in_nI hs (st_lt hs hn c_5) (by decide)) (v := .ref (x + (61 + 6 * (Int32.toNatClampNeg (iv 0 5))))) (rf_if2 (f := fun q => x + (61 + 6 * q)) (vin_lt (in_nI hs (st_lt hs hn c_5) (by decide)))) dX8_step_63 ?_
            refine zz (fun _ _ => lv_iload_n hx hb dX8_step_64 rfl (lv_at hl 1 rfl)) ?_
            refine zz (fun _ _ => lv_iload_n hx hb dX8_step_65 rfl (lv_at hl 1 rfl)) ?_
            refine zdS (As := [.int (a_)]) (rest := [.int (a_), .ref (x + (61 + 6 * (Int32.toNatClampNeg (iv 0 5))))]) (st' := [.int ((fX8_fromCounts a_)), .int (a_), .ref (x + (61 + 6 * (Int32.toNatClampNeg (iv 0 5))))]) C hl.1 lk_X8_70 (ctX8_fromCounts ) rfl rfl (Nat.le_of_ble_eq_true rfl) ⟨by decide, by decide, by decide, by decide⟩ dX8_step_66 rfl (fun sz => ?_)
            refine zb (fun _ _ => lv_if_eq (tgt := 76) hx hb dX8_step_69 (by decide)) (fun c_6 => ?_) (fun c_6 => ?_)
            · refine zz (fun _ _ => lv_iconst (v := 0) hx hb dX8_step_76 (by decide)) ?_
              refine zz (fun _ _ => lv_iload_n hx hb dX8_step_77 rfl (lv_at hl 3 rfl)) ?_
              refine zdV (As := [.int (a_), .int (0), .int (c_)]) (rest := []) (st' := []) C hl.1 lk_X8_74 (ctX5_begin (kp_2 (vin_lt (in_nI hs (st_lt hs hn c_5) (by decide))))) (rd_18 (kp_2 (vin_lt (in_nI hs (st_lt hs hn c_5) (by decide))))) rfl rfl rfl (Nat.le_of_ble_eq_true rfl) ⟨by decide, by decide, by decide, by decide⟩ dX8_step_78 rfl (fun sz => ?_)
              refine zz (fun _ _ => lv_aload_n hx hb dX8_step_81 rfl (lv_at hl 0 rfl)) ?_
              refine zz (fun _ _ => lv_dup hx hb dX8_step_82 rfl) ?_
              refine z_get (v := .int ((fX5_begin iv av (61 + 6 * (Int32.toNatClampNeg (iv 0 5))) a_ 0 c_).1 0 5)) C fd_X8_40 (rd_1 (by decide)) rfl dX8_step_83 ?_
              refine zz (fun _ _ => lv_iconst (v := 1) hx hb dX8_step_86 (by decide)) ?_
              refine zz (fun _ _ => lv_iadd hx hb dX8_step_87) ?_
              refine z_put C fp_X8_40 (fun h => by cases h) (rd_1 (by decide)) (Nat.le_of_ble_eq_true rfl) rfl rfl dX8_step_88 ?_
              refine zeq (wr_1_5 (by decide)) ?_
              refine zz (fun _ _ => lv_aload_n hx hb dX8_step_91 rfl (lv_at hl 0 rfl)) ?_
              refine z_get (v := .int (((fX5_begin iv av (61 + 6 * (Int32.toNatClampNeg (iv 0 5))) a_ 0 c_).1 0 5) + (1))) C fd_X8_40 (rd_1 (by decide)) (by simp [u2]) dX8_step_92 ?_
              refine zz (fun _ _ => lv_iconst (v := 1) hx hb dX8_step_95 (by decide)) ?_
              refine zz (fun _ _ => lv_isub hx hb dX8_step_96) ?_
              exact z_ret (by decide) (by decide) (z_iret C hr hlk dX8_step_97 ⟨by simp only [fX8_step, if_neg c_1, if_neg c_2, if_neg c_3, if_neg c_4, if_pos c_5, if_pos c_6], by simp only [fX8_step, if_neg c_1, if_neg c_2, if_neg c_3, if_neg c_4, if_pos c_5, if_pos c_6], by simp only [fX8_step, if_neg c_1, if_neg c_2, if_neg c_3, if_neg c_4, if_pos c_5, if_pos c_6]⟩)
            · refine zz (fun _ _ => lv_iload_n hx hb dX8_step_72 rfl (lv_at hl 2 rfl)) ?_
              refine zz (fun _ _ => lv_goto (tgt := 77) hx hb dX8_step_73 (by decide)) ?_
              refine zz (fun _ _ => lv_iload_n hx hb dX8_step_77 rfl (lv_at hl 3 rfl)) ?_
              refine zdV (As := [.int (a_), .int (b_), .int (c_)]) (rest := []) (st' := []) C hl.1 lk_X8_74 (ctX5_begin (kp_2 (vin_lt (in_nI hs (st_lt hs hn c_5) (by decide))))) (rd_18 (kp_2 (vin_lt (in_nI hs (st_lt hs hn c_5) (by decide))))) rfl rfl rfl (Nat.le_of_ble_eq_true rfl) ⟨by decide, by decide, by decide, by decide⟩ dX8_step_78 rfl (fun sz => ?_)
              refine zz (fun _ _ => lv_aload_n hx hb dX8_step_81 rfl (lv_at hl 0 rfl)) ?_
              refine zz (fun _ _ => lv_dup hx hb dX8_step_82 rfl) ?_
              refine z_get (v := .int ((fX5_begin iv av (61 + 6 * (Int32.toNatClampNeg (iv 0 5))) a_ b_ c_).1 0 5)) C fd_X8_40 (rd_1 (by decide)) rfl dX8_step_83 ?_
              refine zz (fun _ _ => lv_iconst (v := 1) hx hb dX8_step_86 (by decide)) ?_
              refine zz (fun _ _ => lv_iadd hx hb dX8_step_87) ?_
              refine z_put C fp_X8_40 (fun h => by cases h) (rd_1 (by decide)) (Nat.le_of_ble_eq_true rfl) rfl rfl dX8_step_88 ?_
              refine zeq (wr_1_5 (by decide)) ?_
              refine zz (fun _ _ => lv_aload_n hx hb dX8_step_91 rfl (lv_at hl 0 rfl)) ?_
              refine z_get (v := .int (((fX5_begin iv av (61 + 6 * (Int32.toNatClampNeg (iv 0 5))) a_ b_ c_).1 0 5) + (1))) C fd_X8_40 (rd_1 (by decide)) (by simp [u2]) dX8_step_92 ?_
              refine zz (fun _ _ => lv_iconst (v := 1) hx hb dX8_step_95 (by decide)) ?_
              refine zz (fun _ _ => lv_isub hx hb dX8_step_96) ?_
              exact z_ret (by decide) (by decide) (z_iret C hr hlk dX8_step_97 ⟨by simp only [fX8_step, if_neg c_1, if_neg c_2, if_neg c_3, if_neg c_4, if_pos c_5, if_neg c_6], by simp only [fX8_step, if_neg c_1, if_neg c_2, if_neg c_3, if_neg c_4, if_pos c_5, if_neg c_6], by simp only [fX8_step, if_neg c_1, if_neg c_2, if_neg c_3, if_neg c_4, if_pos c_5, if_neg c_6]⟩)
          · exact z_throw C hl.1 th_X8_67 hnt hlk dX8_step_45 dX8_step_48 dX8_step_49 dX8_step_51 dX8_step_54 ⟨by decide, by decide, by decide, by decide, by decide, by decide⟩ ⟨by simp only [fX8_step, if_neg c_1, if_neg c_2, if_neg c_3, if_neg c_4, if_neg c_5]; decide, by simp only [fX8_step, if_neg c_1, if_neg c_2, if_neg c_3, if_neg c_4, if_neg c_5]; rfl, by simp only [fX8_step, if_neg c_1, if_neg c_2, if_neg c_3, if_neg c_4, if_neg c_5]⟩
        · exact z_throw C hl.1 th_X8_60 hnt hlk dX8_step_26 dX8_step_29 dX8_step_30 dX8_step_32 dX8_step_35 ⟨by decide, by decide, by decide, by decide, by decide, by decide⟩ ⟨by simp only [fX8_step, if_neg c_1, if_neg c_2, if_neg c_3, if_pos c_4]; decide, by simp only [fX8_step, if_neg c_1, if_neg c_2, if_neg c_3, if_pos c_4]; rfl, by simp only [fX8_step, if_neg c_1, if_neg c_2, if_neg c_3, if_pos c_4]⟩
def fX8_template (iv : Nat → Nat → Int32) (av : Nat → Nat → Int32) (a_ : Int32) (b_ : Int32) (c_ : Int32) (d_ : Int32) (e_ : Int32) : Nat × Int32 × (Nat → Nat → Int32) × (Nat → Nat → Int32) := if (fX8_stepNumbered iv a_) = 0 then if (fX8_templateMayBe (iv (61 + 6 * (Int32.toNatClampNeg (a_))) 3) e_) = 0 then (1, 0, iv, av) else if (fX8_templateTermMayBe (iv (61 + 6 * (Int32.toNatClampNeg (a_))) 3) e_ b_) = 0 then (1, 0, iv, av) else if (fX8_isNewBlank c_) = 0 then if (fX8_templateTermMayBe (iv (61 + 6 * (Int32.toNatClampNeg (a_))) 3) e_ c_) = 0 then (1, 0, iv, av) else if (fX8_templateTermMayBe (iv (61 + 6 * (Int32.toNatClampNeg (a_))) 3) e_ d_) = 0 then (1, 0, iv, av) else if (fX3_isFull iv ((61 + 6 * (Int32.toNatClampNeg (a_))) + 1)) = 0 then (0, (fX5_addTemplate iv av (61 + 6 * (Int32.toNatClampNeg (a_))) b_ c_ d_ e_).1, (fX5_addTemplate iv av (61 + 6 * (Int32.toNatClampNeg (a_))) b_ c_ d_ e_).2.1, (fX5_addTemplate iv av (61 + 6 * (Int32.toNatClampNeg (a_))) b_ c_ d_ e_).2.2) else (2, 0, iv, av) else (1, 0, iv, av) else ((fX8_stepNumbered iv a_), 0, iv, av)
set_option maxHeartbeats 1000000 in
set_option maxRecDepth 10000 in
theorem ctX8_template {l : Launch} {D : va_G} {aC : Nat → ClassId} {b0 sz : Nat} {x : Nat} {iv av : Nat → Nat → Int32} {R : ZM} {a_ : Int32} {b_ : Int32} {c_ : Int32} {d_ : Int32} {e_ : Int32} {n_ : Nat} (hs : iv 0 5 = nI n_) (hn : n_ ≤ 12) (hbb : e_ = 0 ∨ e_ = 1) (hT : ∀ j, j < 12 → ∃ c, c ≤ 6 ∧ iv (61 + 6 * j + 1) 2 = nI c ∧ iv (61 + 6 * j + 1) 1 = nI 6) : CtX l D aC b0 yX8_template cX8_template 8 (some .int) 3 2 12 [.ref (x + 0), .int (a_), .int (b_), .int (c_), .int (d_), .int (e_)] (cm aC x iv av R) sz (zdx (fX8_template iv av a_ b_ c_ d_ e_).1 (some (.int (fX8_template iv av a_ b_ c_ d_ e_).2.1)) (cm aC x (fX8_template iv av a_ b_ c_ d_ e_).2.2.1 (fX8_template iv av a_ b_ c_ d_ e_).2.2.2 R)) (zxx (fX8_template iv av a_ b_ c_ d_ e_).1 (cm aC x (fX8_template iv av a_ b_ c_ d_ e_).2.2.1 (fX8_template iv av a_ b_ c_ d_ e_).2.2.2 R)) := by
  refine CtX.of (by decide) (Nat.le_of_ble_eq_true rfl) ?_
  intro p e s m below meth c ls C hr hlk hnt hl
  have hl : lv_has ls 8 [(0, .ref (x + 0)), (1, .int (a_)), (2, .int (b_)), (3, .int (c_)), (4, .int (d_)), (5, .int (e_))] := hl
  obtain ⟨hx, hb, -, -, -⟩ := id C
  refine zz (fun _ _ => lv_aload_n hx hb dX8_template_0 rfl (lv_at hl 0 rfl)) ?_
  refine zz (fun _ _ => lv_iload_n hx hb dX8_template_1 rfl (lv_at hl 1 rfl)) ?_
  refine z_callVX (As := [.int (a_)]) (rest := []) C hl.1 lk_X8_78 ml_X8_78 (ctX8_stepNumbered hs hn) (rd_1 (by decide)) rfl rfl rfl (Nat.le_of_ble_eq_true rfl) ⟨by decide, by decide, by decide, by decide⟩ dX8_template_2 (fun E9 M9 hp9 _ _ _ _ a1 a2 a3 a4 a5 => ?_) (fun r9 M9 sz hp9 => ?_)
  · obtain ⟨h9, rfl, rfl⟩ := hp9
    exact z_out hnt hlk (by decide) (by decide) ⟨by simp only [fX8_template, if_neg h9]; exact h9, by simp only [fX8_template, if_neg h9], by simp only [fX8_template, if_neg h9]⟩ a1 a2 a3 a4 a5
  obtain ⟨c_1, rfl, rfl⟩ := hp9
  refine zst (st' := [.ref (x + (61 + 6 * (Int32.toNatClampNeg (a_))))]) rfl ?_
  refine zs (fun _ _ => lv_astore (lv' := [(6, .ref (x + (61 + 6 * (Int32.toNatClampNeg (a_))))), (0, .ref (x + 0)), (1, .int (a_)), (2, .int (b_)), (3, .int (c_)), (4, .int (d_)), (5, .int (e_))]) hx hb dX8_template_5 hl (by decide) rfl) (fun ls hl => ?_)
  refine zz (fun _ _ => lv_aload hx hb dX8_template_7 (lv_at hl 0 rfl)) ?_
  refine z_get (v := .int (iv (61 + 6 * (Int32.toNatClampNeg (a_))) 3)) C fd_X8_86 (rd_18 (kp_2 (sn_lt c_1 hs hn))) rfl dX8_template_9 ?_
  refine zs (fun _ _ => lv_istore (lv' := [(7, .int (iv (61 + 6 * (Int32.toNatClampNeg (a_))) 3)), (6, .ref (x + (61 + 6 * (Int32.toNatClampNeg (a_))))), (0, .ref (x + 0)), (1, .int (a_)), (2, .int (b_)), (3, .int (c_)), (4, .int (d_)), (5, .int (e_))]) hx hb dX8_template_12 hl (by decide) rfl) (fun ls hl => ?_)
  refine zz (fun _ _ => lv_iload hx hb dX8_template_14 (lv_at hl 0 rfl)) ?_
  refine zz (fun _ _ => lv_iload hx hb dX8_template_16 (lv_at hl 7 rfl)) ?_
  refine zdS (As := [.int (iv (61 + 6 * (Int32.toNatClampNeg (a_))) 3), .int (e_)]) (rest := []) (st' := [.int ((fX8_templateMayBe (iv (61 + 6 * (Int32.toNatClampNeg (a_))) 3) e_))]) C hl.1 lk_X8_89 (ctX8_templateMayBe ) rfl rfl (Nat.le_of_ble_eq_true rfl) ⟨by decide, by decide, by decide, by decide⟩ dX8_template_18 rfl (fun sz => ?_)
  refine zb (fun _ _ => lv_if_eq (tgt := 65) hx hb dX8_template_21 (by decide)) (fun c_2 => ?_) (fun c_2 => ?_)
  · exact z_throw C hl.1 th_X8_100 hnt hlk dX8_template_65 dX8_template_68 dX8_template_69 dX8_template_71 dX8_template_74 ⟨by decide, by decide, by decide, by decide, by decide, by decide⟩ ⟨by simp only [fX8_template, if_pos c_1, if_pos c_2]; decide, by simp only [fX8_template, if_pos c_1, if_pos c_2]; rfl, by simp only [fX8_template, if_pos c_1, if_pos c_2]⟩
  · refine zz (fun _ _ => lv_iload hx hb dX8_template_24 (lv_at hl 0 rfl)) ?_
    refine zz (fun _ _ => lv_iload hx hb dX8_template_26 (lv_at hl 7 rfl)) ?_
    refine zz (fun _ _ => lv_iload_n hx hb dX8_template_28 rfl (lv_at hl 4 rfl)) ?_
    refine zdS (As := [.int (iv (61 + 6 * (Int32.toNatClampNeg (a_))) 3), .int (e_), .int (b_)]) (rest := []) (st' := [.int ((fX8_templateTermMayBe (iv (61 + 6 * (Int32.toNatClampNeg (a_))) 3) e_ b_))]) C hl.1 lk_X8_93 (ctX8_templateTermMayBe ) rfl rfl (Nat.le_of_ble_eq_true rfl) ⟨by decide, by decide, by decide, by decide⟩ dX8_template_29 rfl (fun sz => ?_)
    refine zb (fun _ _ => lv_if_eq (tgt := 65) hx hb dX8_template_32 (by decide)) (fun c_3 => ?_) (fun c_3 => ?_)
    · exact z_throw C hl.1 th_X8_100 hnt hlk dX8_template_65 dX8_template_68 dX8_template_69 dX8_template_71 dX8_template_74 ⟨by decide, by decide, by decide, by decide, by decide, by decide⟩ ⟨by simp only [fX8_template, if_pos c_1, if_neg c_2, if_pos c_3]; decide, by simp only [fX8_template, if_pos c_1, if_neg c_2, if_pos c_3]; rfl, by simp only [fX8_template, if_pos c_1, if_neg c_2, if_pos c_3]⟩
    · refine zz (fun _ _ => lv_iload_n hx hb dX8_template_35 rfl (lv_at hl 5 rfl)) ?_
      refine zdS (As := [.int (c_)]) (rest := []) (st' := [.int ((fX8_isNewBlank c_))]) C hl.1 lk_X8_97 (ctX8_isNewBlank ) rfl rfl (Nat.le_of_ble_eq_true rfl) ⟨by decide, by decide, by decide, by decide⟩ dX8_template_36 rfl (fun sz => ?_)
      refine zbn (fun _ _ => lv_if_ne (tgt := 65) hx hb dX8_template_39 (by decide)) (fun c_4 => ?_) (fun c_4 => ?_)
      · exact z_throw C hl.1 th_X8_100 hnt hlk dX8_template_65 dX8_template_68 dX8_template_69 dX8_template_71 dX8_template_74 ⟨by decide, by decide, by decide, by decide, by decide, by decide⟩ ⟨by simp only [fX8_template, if_pos c_1, if_neg c_2, if_neg c_3, if_neg c_4]; decide, by simp only [fX8_template, if_pos c_1, if_neg c_2, if_neg c_3, if_neg c_4]; rfl, by simp only [fX8_template, if_pos c_1, if_neg c_2, if_neg c_3, if_neg c_4]⟩
      · refine zz (fun _ _ => lv_iload hx hb dX8_template_42 (lv_at hl 0 rfl)) ?_
        refine zz (fun _ _ => lv_iload hx hb dX8_template_44 (lv_at hl 7 rfl)) ?_
        refine zz (fun _ _ => lv_iload_n hx hb dX8_template_46 rfl (lv_at hl 5 rfl)) ?_
        refine zdS (As := [.int (iv (61 + 6 * (Int32.toNatClampNeg (a_))) 3), .int (e_), .int (c_)]) (rest := []) (st' := [.int ((fX8_templateTermMayBe (iv (61 + 6 * (Int32.toNatClampNeg (a_))) 3) e_ c_))]) C hl.1 lk_X8_93 (ctX8_templateTermMayBe ) rfl rfl (Nat.le_of_ble_eq_true rfl) ⟨by decide, by decide, by decide, by decide⟩ dX8_template_47 rfl (fun sz => ?_)
        refine zb (fun _ _ => lv_if_eq (tgt := 65) hx hb dX8_template_50 (by decide)) (fun c_5 => ?_) (fun c_5 => ?_)
        · exact z_throw C hl.1 th_X8_100 hnt hlk dX8_template_65 dX8_template_68 dX8_template_69 dX8_template_71 dX8_template_74 ⟨by decide, by decide, by decide, by decide, by decide, by decide⟩ ⟨by simp only [fX8_template, if_pos c_1, if_neg c_2, if_neg c_3, if_pos c_4, if_pos c_5]; decide, by simp only [fX8_template, if_pos c_1, if_neg c_2, if_neg c_3, if_pos c_4, if_pos c_5]; rfl, by simp only [fX8_template, if_pos c_1, if_neg c_2, if_neg c_3, if_pos c_4, if_pos c_5]⟩
        · refine zz (fun _ _ => lv_iload hx hb dX8_template_53 (lv_at hl 0 rfl)) ?_
          refine zz (fun _ _ => lv_iload hx hb dX8_template_55 (lv_at hl 7 rfl)) ?_
          refine zz (fun _ _ => lv_iload hx hb dX8_template_57 (lv_at hl 6 rfl)) ?_
          refine zdS (As := [.int (iv (61 + 6 * (Int32.toNatClampNeg (a_))) 3), .int (e_), .int (d_)]) (rest := []) (st' := [.int ((fX8_templateTermMayBe (iv (61 + 6 * (Int32.toNatClampNeg (a_))) 3) e_ d_))]) C hl.1 lk_X8_93 (ctX8_templateTermMayBe ) rfl rfl (Nat.le_of_ble_eq_true rfl) ⟨by decide, by decide, by decide, by decide⟩ dX8_template_59 rfl (fun sz => ?_)
          refine zbn (fun _ _ => lv_if_ne (tgt := 75) hx hb dX8_template_62 (by decide)) (fun c_6 => ?_) (fun c_6 => ?_)
          · refine zz (fun _ _ => lv_aload hx hb dX8_template_75 (lv_at hl 1 rfl)) ?_
            refine z_get (v := .ref (x + ((61 + 6 * (Int32.toNatClampNeg (a_))) + 1))) C fd_X8_102 (rd_18 (kp_2 (sn_lt c_1 hs hn))) rfl dX8_template_77 ?_
            refine zdV (As := []) (rest := []) (st' := [.int ((fX3_isFull iv ((61 + 6 * (Int32.toNatClampNeg (a_))) + 1)))]) C hl.1 lk_X8_106 (ctX3_isFull (nb_18_1 (kp_2 (sn_lt c_1 hs hn)))) (rd_14 (nb_18_1 (kp_2 (sn_lt c_1 hs hn)))) rfl rfl rfl (Nat.le_of_ble_eq_true rfl) ⟨by decide, by decide, by decide, by decide⟩ dX8_template_80 rfl (fun sz => ?_)
            refine zb (fun _ _ => lv_if_eq (tgt := 96) hx hb dX8_template_83 (by decide)) (fun c_7 => ?_) (fun c_7 => ?_)
            · refine zz (fun _ _ => lv_aload hx hb dX8_template_96 (lv_at hl 1 rfl)) ?_
              refine zz (fun _ _ => lv_iload_n hx hb dX8_template_98 rfl (lv_at hl 4 rfl)) ?_
              refine zz (fun _ _ => lv_iload_n hx hb dX8_template_99 rfl (lv_at hl 5 rfl)) ?_
              refine zz (fun _ _ => lv_iload hx hb dX8_template_100 (lv_at hl 6 rfl)) ?_
              refine zz (fun _ _ => lv_iload hx hb dX8_template_102 (lv_at hl 7 rfl)) ?_
              have hj9 := (sn_lt c_1 hs hn)
              obtain ⟨c0, hc0, hc1, hm1⟩ := hT _ hj9
              refine zdV (As := [.int (b_), .int (c_), .int (d_), .int (e_)]) (rest := []) (st' := [.int ((fX5_addTemplate iv av (61 + 6 * (Int32.toNatClampNeg (a_))) b_ c_ d_ e_).1)]) C hl.1 lk_X8_114 (ctX5_addTemplate (kp_2 (sn_lt c_1 hs hn)) hc1 hm1 hc0 (by rw [tl_T hj9]; decide) (by decide) hbb) (rd_18 (kp_2 (sn_lt c_1 hs hn))) rfl rfl rfl (Nat.le_of_ble_eq_true rfl) ⟨by decide, by decide, by decide, by decide⟩ dX8_template_104 rfl (fun sz => ?_)
              exact z_ret (by decide) (by decide) (z_iret C hr hlk dX8_template_107 ⟨by simp only [fX8_template, if_pos c_1, if_neg c_2, if_neg c_3, if_pos c_4, if_neg c_5, if_neg c_6, if_pos c_7], by simp only [fX8_template, if_pos c_1, if_neg c_2, if_neg c_3, if_pos c_4, if_neg c_5, if_neg c_6, if_pos c_7], by simp only [fX8_template, if_pos c_1, if_neg c_2, if_neg c_3, if_pos c_4, if_neg c_5, if_neg c_6, if_pos c_7]⟩)
            · exact z_throw C hl.1 th_X8_112 hnt hlk dX8_template_86 dX8_template_89 dX8_template_90 dX8_template_92 dX8_template_95 ⟨by decide, by decide, by decide, by decide, by decide, by decide⟩ ⟨by simp only [fX8_template, if_pos c_1, if_neg c_2, if_neg c_3, if_pos c_4, if_neg c_5, if_neg c_6, if_neg c_7]; decide, by simp only [fX8_template, if_pos c_1, if_neg c_2, if_neg c_3, if_pos c_4, if_neg c_5, if_neg c_6, if_neg c_7]; rfl, by simp only [fX8_template, if_pos c_1, if_neg c_2, if_neg c_3, if_pos c_4, if_neg c_5, if_neg c_6, if_neg c_7]⟩
          · exact z_throw C hl.1 th_X8_100 hnt hlk dX8_template_65 dX8_template_68 dX8_template_69 dX8_template_71 dX8_template_74 ⟨by decide, by decide, by decide, by decide, by decide, by decide⟩ ⟨by simp only [fX8_template, if_pos c_1, if_neg c_2, if_neg c_3, if_pos c_4, if_neg c_5, if_pos c_6]; decide, by simp only [fX8_template, if_pos c_1, if_neg c_2, if_neg c_3, if_pos c_4, if_neg c_5, if_pos c_6]; rfl, by simp only [fX8_template, if_pos c_1, if_neg c_2, if_neg c_3, if_pos c_4, if_neg c_5, if_pos c_6]⟩
def fX8_pattern (iv : Nat → Nat → Int32) (av : Nat → Nat → Int32) (a_ : Int32) (b_ : Int32) (c_ : Int32) (d_ : Int32) : Nat × Int32 × (Nat → Nat → Int32) × (Nat → Nat → Int32) := if (fX8_stepNumbered iv a_) = 0 then if iv (61 + 6 * (Int32.toNatClampNeg (a_))) 3 = 2 then if (fX8_patternTermMayBe b_) = 0 then (1, 0, iv, av) else if (fX8_patternTermMayBe c_) = 0 then (1, 0, iv, av) else if (fX8_patternTermMayBe d_) = 0 then (1, 0, iv, av) else if (fX3_isFull iv ((61 + 6 * (Int32.toNatClampNeg (a_))) + 4)) = 0 then (0, (fX3_append iv av ((61 + 6 * (Int32.toNatClampNeg (a_))) + 4) b_ c_ d_).1, (fX3_append iv av ((61 + 6 * (Int32.toNatClampNeg (a_))) + 4) b_ c_ d_).2.1, (fX3_append iv av ((61 + 6 * (Int32.toNatClampNeg (a_))) + 4) b_ c_ d_).2.2) else (2, 0, iv, av) else (1, 0, iv, av) else ((fX8_stepNumbered iv a_), 0, iv, av)
set_option maxHeartbeats 1000000 in
set_option maxRecDepth 10000 in
theorem ctX8_pattern {l : Launch} {D : va_G} {aC : Nat → ClassId} {b0 sz : Nat} {x : Nat} {iv av : Nat → Nat → Int32} {R : ZM} {a_ : Int32} {b_ : Int32} {c_ : Int32} {d_ : Int32} {n_ : Nat} (hs : iv 0 5 = nI n_) (hn : n_ ≤ 12) (hT : ∀ j, j < 12 → ∃ c, c ≤ 4 ∧ iv (61 + 6 * j + 4) 2 = nI c ∧ iv (61 + 6 * j + 4) 1 = nI 4) : CtX l D aC b0 yX8_pattern cX8_pattern 6 (some .int) 2 2 12 [.ref (x + 0), .int (a_), .int (b_), .int (c_), .int (d_)] (cm aC x iv av R) sz (zdx (fX8_pattern iv av a_ b_ c_ d_).1 (some (.int (fX8_pattern iv av a_ b_ c_ d_).2.1)) (cm aC x (fX8_pattern iv av a_ b_ c_ d_).2.2.1 (fX8_pattern iv av a_ b_ c_ d_).2.2.2 R)) (zxx (fX8_pattern iv av a_ b_ c_ d_).1 (cm aC x (fX8_pattern iv av a_ b_ c_ d_).2.2.1 (fX8_pattern iv av a_ b_ c_ d_).2.2.2 R)) := by
  refine CtX.of (by decide) (Nat.le_of_ble_eq_true rfl) ?_
  intro p e s m below meth c ls C hr hlk hnt hl
  have hl : lv_has ls 6 [(0, .ref (x + 0)), (1, .int (a_)), (2, .int (b_)), (3, .int (c_)), (4, .int (d_))] := hl
  obtain ⟨hx, hb, -, -, -⟩ := id C
  refine zz (fun _ _ => lv_aload_n hx hb dX8_pattern_0 rfl (lv_at hl 0 rfl)) ?_
  refine zz (fun _ _ => lv_iload_n hx hb dX8_pattern_1 rfl (lv_at hl 1 rfl)) ?_
  refine z_callVX (As := [.int (a_)]) (rest := []) C hl.1 lk_X8_78 ml_X8_78 (ctX8_stepNumbered hs hn) (rd_1 (by decide)) rfl rfl rfl (Nat.le_of_ble_eq_true rfl) ⟨by decide, by decide, by decide, by decide⟩ dX8_pattern_2 (fun E9 M9 hp9 _ _ _ _ a1 a2 a3 a4 a5 => ?_) (fun r9 M9 sz hp9 => ?_)
  · obtain ⟨h9, rfl, rfl⟩ := hp9
    exact z_out hnt hlk (by decide) (by decide) ⟨by simp only [fX8_pattern, if_neg h9]; exact h9, by simp only [fX8_pattern, if_neg h9], by simp only [fX8_pattern, if_neg h9]⟩ a1 a2 a3 a4 a5
  obtain ⟨c_1, rfl, rfl⟩ := hp9
  refine zst (st' := [.ref (x + (61 + 6 * (Int32.toNatClampNeg (a_))))]) rfl ?_
  refine zs (fun _ _ => lv_astore (lv' := [(5, .ref (x + (61 + 6 * (Int32.toNatClampNeg (a_))))), (0, .ref (x + 0)), (1, .int (a_)), (2, .int (b_)), (3, .int (c_)), (4, .int (d_))]) hx hb dX8_pattern_5 hl (by decide) rfl) (fun ls hl => ?_)
  refine zz (fun _ _ => lv_aload hx hb dX8_pattern_7 (lv_at hl 0 rfl)) ?_
  refine z_get (v := .int (iv (61 + 6 * (Int32.toNatClampNeg (a_))) 3)) C fd_X8_86 (rd_18 (kp_2 (sn_lt c_1 hs hn))) rfl dX8_pattern_9 ?_
  refine zz (fun _ _ => lv_iconst (v := 2) hx hb dX8_pattern_12 (by decide)) ?_
  refine zbn (fun _ _ => lv_icmp_ne (tgt := 38) hx hb dX8_pattern_13 (by decide)) (fun c_2 => ?_) (fun c_2 => ?_)
  · exact z_throw C hl.1 th_X8_121 hnt hlk dX8_pattern_38 dX8_pattern_41 dX8_pattern_42 dX8_pattern_44 dX8_pattern_47 ⟨by decide, by decide, by decide, by decide, by decide, by decide⟩ ⟨by simp only [fX8_pattern, if_pos c_1, if_neg c_2]; decide, by simp only [fX8_pattern, if_pos c_1, if_neg c_2]; rfl, by simp only [fX8_pattern, if_pos c_1, if_neg c_2]⟩
  · refine zz (fun _ _ => lv_iload_n hx hb dX8_pattern_16 rfl (lv_at hl 3 rfl)) ?_
    refine zdS (As := [.int (b_)]) (rest := []) (st' := [.int ((fX8_patternTermMayBe b_))]) C hl.1 lk_X8_118 (ctX8_patternTermMayBe ) rfl rfl (Nat.le_of_ble_eq_true rfl) ⟨by decide, by decide, by decide, by decide⟩ dX8_pattern_17 rfl (fun sz => ?_)
    refine zb (fun _ _ => lv_if_eq (tgt := 38) hx hb dX8_pattern_20 (by decide)) (fun c_3 => ?_) (fun c_3 => ?_)
    · exact z_throw C hl.1 th_X8_121 hnt hlk dX8_pattern_38 dX8_pattern_41 dX8_pattern_42 dX8_pattern_44 dX8_pattern_47 ⟨by decide, by decide, by decide, by decide, by decide, by decide⟩ ⟨by simp only [fX8_pattern, if_pos c_1, if_pos c_2, if_pos c_3]; decide, by simp only [fX8_pattern, if_pos c_1, if_pos c_2, if_pos c_3]; rfl, by simp only [fX8_pattern, if_pos c_1, if_pos c_2, if_pos c_3]⟩
    · refine zz (fun _ _ => lv_iload_n hx hb dX8_pattern_23 rfl (lv_at hl 4 rfl)) ?_
      refine zdS (As := [.int (c_)]) (rest := []) (st' := [.int ((fX8_patternTermMayBe c_))]) C hl.1 lk_X8_118 (ctX8_patternTermMayBe ) rfl rfl (Nat.le_of_ble_eq_true rfl) ⟨by decide, by decide, by decide, by decide⟩ dX8_pattern_24 rfl (fun sz => ?_)
      refine zb (fun _ _ => lv_if_eq (tgt := 38) hx hb dX8_pattern_27 (by decide)) (fun c_4 => ?_) (fun c_4 => ?_)
      · exact z_throw C hl.1 th_X8_121 hnt hlk dX8_pattern_38 dX8_pattern_41 dX8_pattern_42 dX8_pattern_44 dX8_pattern_47 ⟨by decide, by decide, by decide, by decide, by decide, by decide⟩ ⟨by simp only [fX8_pattern, if_pos c_1, if_pos c_2, if_neg c_3, if_pos c_4]; decide, by simp only [fX8_pattern, if_pos c_1, if_pos c_2, if_neg c_3, if_pos c_4]; rfl, by simp only [fX8_pattern, if_pos c_1, if_pos c_2, if_neg c_3, if_pos c_4]⟩
      · refine zz (fun _ _ => lv_iload hx hb dX8_pattern_30 (lv_at hl 5 rfl)) ?_
        refine zdS (As := [.int (d_)]) (rest := []) (st' := [.int ((fX8_patternTermMayBe d_))]) C hl.1 lk_X8_118 (ctX8_patternTermMayBe ) rfl rfl (Nat.le_of_ble_eq_true rfl) ⟨by decide, by decide, by decide, by decide⟩ dX8_pattern_32 rfl (fun sz => ?_)
        refine zbn (fun _ _ => lv_if_ne (tgt := 48) hx hb dX8_pattern_35 (by decide)) (fun c_5 => ?_) (fun c_5 => ?_)
        · refine zz (fun _ _ => lv_aload hx hb dX8_pattern_48 (lv_at hl 0 rfl)) ?_
          refine z_get (v := .ref (x + ((61 + 6 * (Int32.toNatClampNeg (a_))) + 4))) C fd_X8_123 (rd_18 (kp_2 (sn_lt c_1 hs hn))) rfl dX8_pattern_50 ?_
          refine zdV (As := []) (rest := []) (st' := [.int ((fX3_isFull iv ((61 + 6 * (Int32.toNatClampNeg (a_))) + 4)))]) C hl.1 lk_X8_106 (ctX3_isFull (nb_18_4 (kp_2 (sn_lt c_1 hs hn)))) (rd_14 (nb_18_4 (kp_2 (sn_lt c_1 hs hn)))) rfl rfl rfl (Nat.le_of_ble_eq_true rfl) ⟨by decide, by decide, by decide, by decide⟩ dX8_pattern_53 rfl (fun sz => ?_)
          refine zb (fun _ _ => lv_if_eq (tgt := 69) hx hb dX8_pattern_56 (by decide)) (fun c_6 => ?_) (fun c_6 => ?_)
          · refine zz (fun _ _ => lv_aload hx hb dX8_pattern_69 (lv_at hl 0 rfl)) ?_
            refine z_get (v := .ref (x + ((61 + 6 * (Int32.toNatClampNeg (a_))) + 4))) C fd_X8_123 (rd_18 (kp_2 (sn_lt c_1 hs hn))) rfl dX8_pattern_71 ?_
            refine zz (fun _ _ => lv_iload_n hx hb dX8_pattern_74 rfl (lv_at hl 3 rfl)) ?_
            refine zz (fun _ _ => lv_iload_n hx hb dX8_pattern_75 rfl (lv_at hl 4 rfl)) ?_
            refine zz (fun _ _ => lv_iload hx hb dX8_pattern_76 (lv_at hl 5 rfl)) ?_
            have hj9 := (sn_lt c_1 hs hn)
            obtain ⟨c0, hc0, hc1, hm1⟩ := hT _ hj9
            refine zdV (As := [.int (b_), .int (c_), .int (d_)]) (rest := []) (st' := [.int ((fX3_append iv av ((61 + 6 * (Int32.toNatClampNeg (a_))) + 4) b_ c_ d_).1)]) C hl.1 lk_X8_128 (ctX3_append (nb_18_4 (kp_2 (sn_lt c_1 hs hn))) hc1 hm1 hc0 (by rw [tl_P hj9]; decide)) (rd_14 (nb_18_4 (kp_2 (sn_lt c_1 hs hn)))) rfl rfl rfl (Nat.le_of_ble_eq_true rfl) ⟨by decide, by decide, by decide, by decide⟩ dX8_pattern_78 rfl (fun sz => ?_)
            exact z_ret (by decide) (by decide) (z_iret C hr hlk dX8_pattern_81 ⟨by simp only [fX8_pattern, if_pos c_1, if_pos c_2, if_neg c_3, if_neg c_4, if_neg c_5, if_pos c_6], by simp only [fX8_pattern, if_pos c_1, if_pos c_2, if_neg c_3, if_neg c_4, if_neg c_5, if_pos c_6], by simp only [fX8_pattern, if_pos c_1, if_pos c_2, if_neg c_3, if_neg c_4, if_neg c_5, if_pos c_6]⟩)
          · exact z_throw C hl.1 th_X8_126 hnt hlk dX8_pattern_59 dX8_pattern_62 dX8_pattern_63 dX8_pattern_65 dX8_pattern_68 ⟨by decide, by decide, by decide, by decide, by decide, by decide⟩ ⟨by simp only [fX8_pattern, if_pos c_1, if_pos c_2, if_neg c_3, if_neg c_4, if_neg c_5, if_neg c_6]; decide, by simp only [fX8_pattern, if_pos c_1, if_pos c_2, if_neg c_3, if_neg c_4, if_neg c_5, if_neg c_6]; rfl, by simp only [fX8_pattern, if_pos c_1, if_pos c_2, if_neg c_3, if_neg c_4, if_neg c_5, if_neg c_6]⟩
        · exact z_throw C hl.1 th_X8_121 hnt hlk dX8_pattern_38 dX8_pattern_41 dX8_pattern_42 dX8_pattern_44 dX8_pattern_47 ⟨by decide, by decide, by decide, by decide, by decide, by decide⟩ ⟨by simp only [fX8_pattern, if_pos c_1, if_pos c_2, if_neg c_3, if_neg c_4, if_pos c_5]; decide, by simp only [fX8_pattern, if_pos c_1, if_pos c_2, if_neg c_3, if_neg c_4, if_pos c_5]; rfl, by simp only [fX8_pattern, if_pos c_1, if_pos c_2, if_neg c_3, if_neg c_4, if_pos c_5]⟩
def fX8_file (iv : Nat → Nat → Int32) (av : Nat → Nat → Int32) (a_ : Int32) (b_ : Int32) (c_ : Int32) (d_ : Int32) : Nat × Int32 × (Nat → Nat → Int32) × (Nat → Nat → Int32) := if (fX8_fileNumbered a_) = 0 then if (fX8_isName b_) = 0 then (1, 0, iv, av) else if (fX8_isName c_) = 0 then (1, 0, iv, av) else if (fX8_isName d_) = 0 then (1, 0, iv, av) else if (fX3_isFull iv ((29 + 3 * (Int32.toNatClampNeg (a_))) + 1)) = 0 then (0, (fX3_append iv av ((29 + 3 * (Int32.toNatClampNeg (a_))) + 1) b_ c_ d_).1, (fX3_append iv av ((29 + 3 * (Int32.toNatClampNeg (a_))) + 1) b_ c_ d_).2.1, (fX3_append iv av ((29 + 3 * (Int32.toNatClampNeg (a_))) + 1) b_ c_ d_).2.2) else (2, 0, iv, av) else ((fX8_fileNumbered a_), 0, iv, av)
set_option maxHeartbeats 1000000 in
set_option maxRecDepth 10000 in
theorem ctX8_file {l : Launch} {D : va_G} {aC : Nat → ClassId} {b0 sz : Nat} {x : Nat} {iv av : Nat → Nat → Int32} {R : ZM} {a_ : Int32} {b_ : Int32} {c_ : Int32} {d_ : Int32} (hT : ∀ j, j < 4 → ∃ c, c ≤ 10 ∧ iv (29 + 3 * j + 1) 2 = nI c ∧ iv (29 + 3 * j + 1) 1 = nI 10) : CtX l D aC b0 yX8_file cX8_file 6 (some .int) 2 2 12 [.ref (x + 0), .int (a_), .int (b_), .int (c_), .int (d_)] (cm aC x iv av R) sz (zdx (fX8_file iv av a_ b_ c_ d_).1 (some (.int (fX8_file iv av a_ b_ c_ d_).2.1)) (cm aC x (fX8_file iv av a_ b_ c_ d_).2.2.1 (fX8_file iv av a_ b_ c_ d_).2.2.2 R)) (zxx (fX8_file iv av a_ b_ c_ d_).1 (cm aC x (fX8_file iv av a_ b_ c_ d_).2.2.1 (fX8_file iv av a_ b_ c_ d_).2.2.2 R)) := by
  refine CtX.of (by decide) (Nat.le_of_ble_eq_true rfl) ?_
  intro p e s m below meth c ls C hr hlk hnt hl
  have hl : lv_has ls 6 [(0, .ref (x + 0)), (1, .int (a_)), (2, .int (b_)), (3, .int (c_)), (4, .int (d_))] := hl
  obtain ⟨hx, hb, -, -, -⟩ := id C
  refine zz (fun _ _ => lv_aload_n hx hb dX8_file_0 rfl (lv_at hl 0 rfl)) ?_
  refine zz (fun _ _ => lv_iload_n hx hb dX8_file_1 rfl (lv_at hl 1 rfl)) ?_
  refine z_callVX (As := [.int (a_)]) (rest := []) C hl.1 lk_X8_132 ml_X8_132 (ctX8_fileNumbered ) (rd_1 (by decide)) rfl rfl rfl (Nat.le_of_ble_eq_true rfl) ⟨by decide, by decide, by decide, by decide⟩ dX8_file_2 (fun E9 M9 hp9 _ _ _ _ a1 a2 a3 a4 a5 => ?_) (fun r9 M9 sz hp9 => ?_)
  · obtain ⟨h9, rfl, rfl⟩ := hp9
    exact z_out hnt hlk (by decide) (by decide) ⟨by simp only [fX8_file, if_neg h9]; exact h9, by simp only [fX8_file, if_neg h9], by simp only [fX8_file, if_neg h9]⟩ a1 a2 a3 a4 a5
  obtain ⟨c_1, rfl, rfl⟩ := hp9
  refine zst (st' := [.ref (x + (29 + 3 * (Int32.toNatClampNeg (a_))))]) rfl ?_
  refine zs (fun _ _ => lv_astore (lv' := [(5, .ref (x + (29 + 3 * (Int32.toNatClampNeg (a_))))), (0, .ref (x + 0)), (1, .int (a_)), (2, .int (b_)), (3, .int (c_)), (4, .int (d_))]) hx hb dX8_file_5 hl (by decide) rfl) (fun ls hl => ?_)
  refine zz (fun _ _ => lv_iload_n hx hb dX8_file_7 rfl (lv_at hl 3 rfl)) ?_
  refine zdS (As := [.int (b_)]) (rest := []) (st' := [.int ((fX8_isName b_))]) C hl.1 lk_X8_136 (ctX8_isName ) rfl rfl (Nat.le_of_ble_eq_true rfl) ⟨by decide, by decide, by decide, by decide⟩ dX8_file_8 rfl (fun sz => ?_)
  refine zb (fun _ _ => lv_if_eq (tgt := 29) hx hb dX8_file_11 (by decide)) (fun c_2 => ?_) (fun c_2 => ?_)
  · exact z_throw C hl.1 th_X8_139 hnt hlk dX8_file_29 dX8_file_32 dX8_file_33 dX8_file_35 dX8_file_38 ⟨by decide, by decide, by decide, by decide, by decide, by decide⟩ ⟨by simp only [fX8_file, if_pos c_1, if_pos c_2]; decide, by simp only [fX8_file, if_pos c_1, if_pos c_2]; rfl, by simp only [fX8_file, if_pos c_1, if_pos c_2]⟩
  · refine zz (fun _ _ => lv_iload_n hx hb dX8_file_14 rfl (lv_at hl 4 rfl)) ?_
    refine zdS (As := [.int (c_)]) (rest := []) (st' := [.int ((fX8_isName c_))]) C hl.1 lk_X8_136 (ctX8_isName ) rfl rfl (Nat.le_of_ble_eq_true rfl) ⟨by decide, by decide, by decide, by decide⟩ dX8_file_15 rfl (fun sz => ?_)
    refine zb (fun _ _ => lv_if_eq (tgt := 29) hx hb dX8_file_18 (by decide)) (fun c_3 => ?_) (fun c_3 => ?_)
    · exact z_throw C hl.1 th_X8_139 hnt hlk dX8_file_29 dX8_file_32 dX8_file_33 dX8_file_35 dX8_file_38 ⟨by decide, by decide, by decide, by decide, by decide, by decide⟩ ⟨by simp only [fX8_file, if_pos c_1, if_neg c_2, if_pos c_3]; decide, by simp only [fX8_file, if_pos c_1, if_neg c_2, if_pos c_3]; rfl, by simp only [fX8_file, if_pos c_1, if_neg c_2, if_pos c_3]⟩
    · refine zz (fun _ _ => lv_iload hx hb dX8_file_21 (lv_at hl 5 rfl)) ?_
      refine zdS (As := [.int (d_)]) (rest := []) (st' := [.int ((fX8_isName d_))]) C hl.1 lk_X8_136 (ctX8_isName ) rfl rfl (Nat.le_of_ble_eq_true rfl) ⟨by decide, by decide, by decide, by decide⟩ dX8_file_23 rfl (fun sz => ?_)
      refine zbn (fun _ _ => lv_if_ne (tgt := 39) hx hb dX8_file_26 (by decide)) (fun c_4 => ?_) (fun c_4 => ?_)
      · refine zz (fun _ _ => lv_aload hx hb dX8_file_39 (lv_at hl 0 rfl)) ?_
        refine z_get (v := .ref (x + ((29 + 3 * (Int32.toNatClampNeg (a_))) + 1))) C fd_X8_141 (rd_13 (kp_8 (fn_lt c_1))) rfl dX8_file_41 ?_
        refine zdV (As := []) (rest := []) (st' := [.int ((fX3_isFull iv ((29 + 3 * (Int32.toNatClampNeg (a_))) + 1)))]) C hl.1 lk_X8_106 (ctX3_isFull (nb_13_1 (kp_8 (fn_lt c_1)))) (rd_14 (nb_13_1 (kp_8 (fn_lt c_1)))) rfl rfl rfl (Nat.le_of_ble_eq_true rfl) ⟨by decide, by decide, by decide, by decide⟩ dX8_file_44 rfl (fun sz => ?_)
        refine zb (fun _ _ => lv_if_eq (tgt := 60) hx hb dX8_file_47 (by decide)) (fun c_5 => ?_) (fun c_5 => ?_)
        · refine zz (fun _ _ => lv_aload hx hb dX8_file_60 (lv_at hl 0 rfl)) ?_
          refine z_get (v := .ref (x + ((29 + 3 * (Int32.toNatClampNeg (a_))) + 1))) C fd_X8_141 (rd_13 (kp_8 (fn_lt c_1))) rfl dX8_file_62 ?_
          refine zz (fun _ _ => lv_iload_n hx hb dX8_file_65 rfl (lv_at hl 3 rfl)) ?_
          refine zz (fun _ _ => lv_iload_n hx hb dX8_file_66 rfl (lv_at hl 4 rfl)) ?_
          refine zz (fun _ _ => lv_iload hx hb dX8_file_67 (lv_at hl 5 rfl)) ?_
          have hj9 := (fn_lt c_1)
          obtain ⟨c0, hc0, hc1, hm1⟩ := hT _ hj9
          refine zdV (As := [.int (b_), .int (c_), .int (d_)]) (rest := []) (st' := [.int ((fX3_append iv av ((29 + 3 * (Int32.toNatClampNeg (a_))) + 1) b_ c_ d_).1)]) C hl.1 lk_X8_128 (ctX3_append (nb_13_1 (kp_8 (fn_lt c_1))) hc1 hm1 hc0 (by rw [tl_F hj9]; decide)) (rd_14 (nb_13_1 (kp_8 (fn_lt c_1)))) rfl rfl rfl (Nat.le_of_ble_eq_true rfl) ⟨by decide, by decide, by decide, by decide⟩ dX8_file_69 rfl (fun sz => ?_)
          exact z_ret (by decide) (by decide) (z_iret C hr hlk dX8_file_72 ⟨by simp only [fX8_file, if_pos c_1, if_neg c_2, if_neg c_3, if_neg c_4, if_pos c_5], by simp only [fX8_file, if_pos c_1, if_neg c_2, if_neg c_3, if_neg c_4, if_pos c_5], by simp only [fX8_file, if_pos c_1, if_neg c_2, if_neg c_3, if_neg c_4, if_pos c_5]⟩)
        · exact z_throw C hl.1 th_X8_146 hnt hlk dX8_file_50 dX8_file_53 dX8_file_54 dX8_file_56 dX8_file_59 ⟨by decide, by decide, by decide, by decide, by decide, by decide⟩ ⟨by simp only [fX8_file, if_pos c_1, if_neg c_2, if_neg c_3, if_neg c_4, if_neg c_5]; decide, by simp only [fX8_file, if_pos c_1, if_neg c_2, if_neg c_3, if_neg c_4, if_neg c_5]; rfl, by simp only [fX8_file, if_pos c_1, if_neg c_2, if_neg c_3, if_neg c_4, if_neg c_5]⟩
      · exact z_throw C hl.1 th_X8_139 hnt hlk dX8_file_29 dX8_file_32 dX8_file_33 dX8_file_35 dX8_file_38 ⟨by decide, by decide, by decide, by decide, by decide, by decide⟩ ⟨by simp only [fX8_file, if_pos c_1, if_neg c_2, if_neg c_3, if_pos c_4]; decide, by simp only [fX8_file, if_pos c_1, if_neg c_2, if_neg c_3, if_pos c_4]; rfl, by simp only [fX8_file, if_pos c_1, if_neg c_2, if_neg c_3, if_pos c_4]⟩
end
section
def stX9_find_6 (A : Nat → Nat → Int32) (a_ : Int32) (b_ : Int32) (c_ : Int32) (d_ : Int32) (i1_ : Int32) : Nat → Int32
  | 0 => (i1_)
  | j + 1 => if A 19 (Int32.toNatClampNeg (nI j)) = a_ then if A 20 (Int32.toNatClampNeg (nI j)) = b_ then if A 21 (Int32.toNatClampNeg (nI j)) = c_ then if A 22 (Int32.toNatClampNeg (nI j)) = d_ then (nI j) else ((stX9_find_6 A a_ b_ c_ d_ i1_ j)) else ((stX9_find_6 A a_ b_ c_ d_ i1_ j)) else ((stX9_find_6 A a_ b_ c_ d_ i1_ j)) else ((stX9_find_6 A a_ b_ c_ d_ i1_ j))
set_option maxHeartbeats 2000000 in
set_option maxRecDepth 10000 in
theorem lpX9_find_6 {p : Program} {l : Launch} {e : Env} {Rm : Room} {s : State} {m : MethodId} {args : Array Value} {below : List Frame} {meth : Method} {c : Code} {D : va_G} {aC : Nat → ClassId} {b0 cells slots : Nat} {Q : State → Prop} {r : Nat} {v : Nat → Int32} {A : Nat → Nat → Int32} {R : ZM} {a_ : Int32} {b_ : Int32} {c_ : Int32} {d_ : Int32} {i1_ : Int32} {N_ : Nat} (C : zC p l s m c D aC b0 RX9 cX9_find 7) (hNb : v 20 = nI N_) (hN2 : N_ ≤ 120) (hNl : N_ < 2 ^ 31) :
    ∀ (d j : Nat), j + d = N_ → ∀ (sz : Nat) (ls : Array Slot), lv_has ls 7 [(0, .ref (r)), (1, .int (a_)), (2, .int (b_)), (3, .int (c_)), (4, .int (d_)), (5, .int ((stX9_find_6 A a_ b_ c_ d_ i1_ j))), (6, .int (nI j))] → (∀ (sz : Nat) (ls : Array Slot), lv_has ls 7 [(0, .ref (r)), (1, .int (a_)), (2, .int (b_)), (3, .int (c_)), (4, .int (d_)), (5, .int ((stX9_find_6 A a_ b_ c_ d_ i1_ N_))), (6, .int (nI N_))] → Z p l e Rm s m args below meth c D b0 (mm aC r v A R) sz cells slots Q (F0 m 75 ls [])) → Z p l e Rm s m args below meth c D b0 (mm aC r v A R) sz cells slots Q (F0 m 6 ls []) := by
  obtain ⟨hx, hb, -, -, -⟩ := id C
  intro d
  induction d with
  | zero =>
    intro j hj0 sz ls hl K
    refine zz (fun _ _ => lv_iload hx hb dX9_find_6 (lv_at hl 6 rfl)) ?_
    refine zz (fun _ _ => lv_aload_n hx hb dX9_find_8 rfl (lv_at hl 0 rfl)) ?_
    refine z_get (v := .int (v 20)) C fd_X9_160 rm_0 rfl dX9_find_9 ?_
    refine zb (fun _ _ => lv_icmp_ge (tgt := 75) hx hb dX9_find_12 (by decide)) (fun c_1 => ?_) (fun c_1 => ?_)
    · obtain rfl := fl_eq (j := j) (N := N_) hNb (by omega) hNl c_1
      exact K _ _ (lv_sub hl [0, 1, 2, 3, 4, 5, 6] rfl)
    · exact absurd (fl_lt (j := j) (N := N_) hNb (by omega) hNl c_1) (by omega)
  | succ d ih =>
    intro j hj0 sz ls hl K
    refine zz (fun _ _ => lv_iload hx hb dX9_find_6 (lv_at hl 6 rfl)) ?_
    refine zz (fun _ _ => lv_aload_n hx hb dX9_find_8 rfl (lv_at hl 0 rfl)) ?_
    refine z_get (v := .int (v 20)) C fd_X9_160 rm_0 rfl dX9_find_9 ?_
    refine zb (fun _ _ => lv_icmp_ge (tgt := 75) hx hb dX9_find_12 (by decide)) (fun c_1 => ?_) (fun c_1 => ?_)
    · obtain rfl := fl_eq (j := j) (N := N_) hNb (by omega) hNl c_1
      exact K _ _ (lv_sub hl [0, 1, 2, 3, 4, 5, 6] rfl)
    · have hj9 : j < N_ := fl_lt hNb (by omega) hNl c_1
      refine zz (fun _ _ => lv_aload_n hx hb dX9_find_15 rfl (lv_at hl 0 rfl)) ?_
      refine z_get (v := .ref (r + 19)) C fd_X9_65 rm_0 rfl dX9_find_16 ?_
      refine zz (fun _ _ => lv_iload hx hb dX9_find_19 (lv_at hl 6 rfl)) ?_
      refine z_iald (f := A 19) C rm_19 (in_nI (j := j) rfl (by omega) (by decide)) dX9_find_21 ?_
      refine zz (fun _ _ => lv_iload_n hx hb dX9_find_22 rfl (lv_at hl 1 rfl)) ?_
      refine zbn (fun _ _ => lv_icmp_ne (tgt := 65) hx hb dX9_find_23 (by decide)) (fun c_2 => ?_) (fun c_2 => ?_)
      · refine zz (fun _ _ => lv_iload hx hb dX9_find_65 (lv_at hl 5 rfl)) ?_
        refine zs (fun _ _ => lv_istore (lv' := [(5, .int ((stX9_find_6 A a_ b_ c_ d_ i1_ j))), (0, .ref (r)), (1, .int (a_)), (2, .int (b_)), (3, .int (c_)), (4, .int (d_)), (6, .int (nI j))]) hx hb dX9_find_67 hl (by decide) rfl) (fun ls hl => ?_)
        refine zs (fun _ _ => lv_iinc (v := nI j + 1) (lv' := [(6, .int (nI j + 1)), (5, .int ((stX9_find_6 A a_ b_ c_ d_ i1_ j))), (0, .ref (r)), (1, .int (a_)), (2, .int (b_)), (3, .int (c_)), (4, .int (d_))]) hx hb dX9_find_69 hl (k := 6) rfl rfl (by decide) rfl) (fun ls hl => ?_)
        refine zz (fun _ _ => lv_goto (tgt := 6) hx hb dX9_find_72 (by decide)) ?_
        have hI := ih (j + 1) (by omega)
        simp only [stX9_find_6, if_neg c_1, if_neg c_2] at hI
        have hl := lv_sub hl [2, 3, 4, 5, 6, 1, 0] rfl
        simp only [nI_1] at hl
        exact hI _ _ hl K
      · refine zz (fun _ _ => lv_aload_n hx hb dX9_find_26 rfl (lv_at hl 0 rfl)) ?_
        refine z_get (v := .ref (r + 20)) C fd_X9_68 rm_0 rfl dX9_find_27 ?_
        refine zz (fun _ _ => lv_iload hx hb dX9_find_30 (lv_at hl 6 rfl)) ?_
        refine z_iald (f := A 20) C rm_20 (in_nI (j := j) rfl (by omega) (by decide)) dX9_find_32 ?_
        refine zz (fun _ _ => lv_iload_n hx hb dX9_find_33 rfl (lv_at hl 2 rfl)) ?_
        refine zbn (fun _ _ => lv_icmp_ne (tgt := 65) hx hb dX9_find_34 (by decide)) (fun c_3 => ?_) (fun c_3 => ?_)
        · refine zz (fun _ _ => lv_iload hx hb dX9_find_65 (lv_at hl 5 rfl)) ?_
          refine zs (fun _ _ => lv_istore (lv' := [(5, .int ((stX9_find_6 A a_ b_ c_ d_ i1_ j))), (0, .ref (r)), (1, .int (a_)), (2, .int (b_)), (3, .int (c_)), (4, .int (d_)), (6, .int (nI j))]) hx hb dX9_find_67 hl (by decide) rfl) (fun ls hl => ?_)
          refine zs (fun _ _ => lv_iinc (v := nI j + 1) (lv' := [(6, .int (nI j + 1)), (5, .int ((stX9_find_6 A a_ b_ c_ d_ i1_ j))), (0, .ref (r)), (1, .int (a_)), (2, .int (b_)), (3, .int (c_)), (4, .int (d_))]) hx hb dX9_find_69 hl (k := 6) rfl rfl (by decide) rfl) (fun ls hl => ?_)
          refine zz (fun _ _ => lv_goto (tgt := 6) hx hb dX9_find_72 (by decide)) ?_
          have hI := ih (j + 1) (by omega)
          simp only [stX9_find_6, if_neg c_1, if_pos c_2, if_neg c_3] at hI
          have hl := lv_sub hl [2, 3, 4, 5, 6, 1, 0] rfl
          simp only [nI_1] at hl
          exact hI _ _ hl K
        · refine zz (fun _ _ => lv_aload_n hx hb dX9_find_37 rfl (lv_at hl 0 rfl)) ?_
          refine z_get (v := .ref (r + 21)) C fd_X9_71 rm_0 rfl dX9_find_38 ?_
          refine zz (fun _ _ => lv_iload hx hb dX9_find_41 (lv_at hl 6 rfl)) ?_
          refine z_iald (f := A 21) C rm_21 (in_nI (j := j) rfl (by omega) (by decide)) dX9_find_43 ?_
          refine zz (fun _ _ => lv_iload_n hx hb dX9_find_44 rfl (lv_at hl 3 rfl)) ?_
          refine zbn (fun _ _ => lv_icmp_ne (tgt := 65) hx hb dX9_find_45 (by decide)) (fun c_4 => ?_) (fun c_4 => ?_)
          · refine zz (fun _ _ => lv_iload hx hb dX9_find_65 (lv_at hl 5 rfl)) ?_
            refine zs (fun _ _ => lv_istore (lv' := [(5, .int ((stX9_find_6 A a_ b_ c_ d_ i1_ j))), (0, .ref (r)), (1, .int (a_)), (2, .int (b_)), (3, .int (c_)), (4, .int (d_)), (6, .int (nI j))]) hx hb dX9_find_67 hl (by decide) rfl) (fun ls hl => ?_)
            refine zs (fun _ _ => lv_iinc (v := nI j + 1) (lv' := [(6, .int (nI j + 1)), (5, .int ((stX9_find_6 A a_ b_ c_ d_ i1_ j))), (0, .ref (r)), (1, .int (a_)), (2, .int (b_)), (3, .int (c_)), (4, .int (d_))]) hx hb dX9_find_69 hl (k := 6) rfl rfl (by decide) rfl) (fun ls hl => ?_)
            refine zz (fun _ _ => lv_goto (tgt := 6) hx hb dX9_find_72 (by decide)) ?_
            have hI := ih (j + 1) (by omega)
            simp only [stX9_find_6, if_neg c_1, if_pos c_2, if_pos c_3, if_neg c_4] at hI
            have hl := lv_sub hl [2, 3, 4, 5, 6, 1, 0] rfl
            simp only [nI_1] at hl
            exact hI _ _ hl K
          · refine zz (fun _ _ => lv_aload_n hx hb dX9_find_48 rfl (lv_at hl 0 rfl)) ?_
            refine z_get (v := .ref (r + 22)) C fd_X9_74 rm_0 rfl dX9_find_49 ?_
            refine zz (fun _ _ => lv_iload hx hb dX9_find_52 (lv_at hl 6 rfl)) ?_
            refine z_iald (f := A 22) C rm_22 (in_nI (j := j) rfl (by omega) (by decide)) dX9_find_54 ?_
            refine zz (fun _ _ => lv_iload hx hb dX9_find_55 (lv_at hl 4 rfl)) ?_
            refine zbn (fun _ _ => lv_icmp_ne (tgt := 65) hx hb dX9_find_57 (by decide)) (fun c_5 => ?_) (fun c_5 => ?_)
            · refine zz (fun _ _ => lv_iload hx hb dX9_find_65 (lv_at hl 5 rfl)) ?_
              refine zs (fun _ _ => lv_istore (lv' := [(5, .int ((stX9_find_6 A a_ b_ c_ d_ i1_ j))), (0, .ref (r)), (1, .int (a_)), (2, .int (b_)), (3, .int (c_)), (4, .int (d_)), (6, .int (nI j))]) hx hb dX9_find_67 hl (by decide) rfl) (fun ls hl => ?_)
              refine zs (fun _ _ => lv_iinc (v := nI j + 1) (lv' := [(6, .int (nI j + 1)), (5, .int ((stX9_find_6 A a_ b_ c_ d_ i1_ j))), (0, .ref (r)), (1, .int (a_)), (2, .int (b_)), (3, .int (c_)), (4, .int (d_))]) hx hb dX9_find_69 hl (k := 6) rfl rfl (by decide) rfl) (fun ls hl => ?_)
              refine zz (fun _ _ => lv_goto (tgt := 6) hx hb dX9_find_72 (by decide)) ?_
              have hI := ih (j + 1) (by omega)
              simp only [stX9_find_6, if_neg c_1, if_pos c_2, if_pos c_3, if_pos c_4, if_neg c_5] at hI
              have hl := lv_sub hl [2, 3, 4, 5, 6, 1, 0] rfl
              simp only [nI_1] at hl
              exact hI _ _ hl K
            · refine zz (fun _ _ => lv_iload hx hb dX9_find_60 (lv_at hl 6 rfl)) ?_
              refine zz (fun _ _ => lv_goto (tgt := 67) hx hb dX9_find_62 (by decide)) ?_
              refine zs (fun _ _ => lv_istore (lv' := [(5, .int (nI j)), (0, .ref (r)), (1, .int (a_)), (2, .int (b_)), (3, .int (c_)), (4, .int (d_)), (6, .int (nI j))]) hx hb dX9_find_67 hl (by decide) rfl) (fun ls hl => ?_)
              refine zs (fun _ _ => lv_iinc (v := nI j + 1) (lv' := [(6, .int (nI j + 1)), (5, .int (nI j)), (0, .ref (r)), (1, .int (a_)), (2, .int (b_)), (3, .int (c_)), (4, .int (d_))]) hx hb dX9_find_69 hl (k := 6) rfl rfl (by decide) rfl) (fun ls hl => ?_)
              refine zz (fun _ _ => lv_goto (tgt := 6) hx hb dX9_find_72 (by decide)) ?_
              have hI := ih (j + 1) (by omega)
              simp only [stX9_find_6, if_neg c_1, if_pos c_2, if_pos c_3, if_pos c_4, if_pos c_5] at hI
              have hl := lv_sub hl [2, 3, 4, 5, 6, 1, 0] rfl
              simp only [nI_1] at hl
              exact hI _ _ hl K
def fX9_find (v : Nat → Int32) (A : Nat → Nat → Int32) (a_ : Int32) (b_ : Int32) (c_ : Int32) (d_ : Int32) : Int32 := ((stX9_find_6 A a_ b_ c_ d_ (-1) (Int32.toNatClampNeg (v 20))))
set_option maxHeartbeats 1000000 in
set_option maxRecDepth 10000 in
theorem ctX9_find {l : Launch} {D : va_G} {aC : Nat → ClassId} {b0 sz : Nat} {r : Nat} {v : Nat → Int32} {A : Nat → Nat → Int32} {R : ZM} {a_ : Int32} {b_ : Int32} {c_ : Int32} {d_ : Int32} {n_ : Nat} (hs : v 20 = nI n_) (hn : n_ ≤ 120) : Ct l D aC b0 yX9_find cX9_find 7 (some .int) 0 0 0 [.ref (r), .int (a_), .int (b_), .int (c_), .int (d_)] (mm aC r v A R) sz (zd (some (.int (fX9_find v A a_ b_ c_ d_))) (mm aC r v A R)) := by
  refine Ct.of (by decide) (Nat.le_of_ble_eq_true rfl) ?_
  intro p e s m below meth c ls C hr hlk hnm hl
  have hl : lv_has ls 7 [(0, .ref (r)), (1, .int (a_)), (2, .int (b_)), (3, .int (c_)), (4, .int (d_))] := hl
  obtain ⟨hx, hb, -, -, -⟩ := id C
  refine zz (fun _ _ => lv_iconst (v := (-1)) hx hb dX9_find_0 (by decide)) ?_
  refine zs (fun _ _ => lv_istore (lv' := [(5, .int ((-1))), (0, .ref (r)), (1, .int (a_)), (2, .int (b_)), (3, .int (c_)), (4, .int (d_))]) hx hb dX9_find_1 hl (by decide) rfl) (fun ls hl => ?_)
  refine zz (fun _ _ => lv_iconst (v := 0) hx hb dX9_find_3 (by decide)) ?_
  refine zs (fun _ _ => lv_istore (lv' := [(6, .int (0)), (5, .int ((-1))), (0, .ref (r)), (1, .int (a_)), (2, .int (b_)), (3, .int (c_)), (4, .int (d_))]) hx hb dX9_find_4 hl (by decide) rfl) (fun ls hl => ?_)
  refine lpX9_find_6 (v := v) (A := A) (N_ := (Int32.toNatClampNeg (v 20))) C (nI_sn hs hn (by decide)) (nI_sle hs hn (by decide)) (Nat.lt_of_le_of_lt (nI_sle hs hn (by decide)) (by decide)) (Int32.toNatClampNeg (v 20)) 0 (Nat.zero_add _) _ _ (lv_sub hl [2, 3, 4, 5, 6, 1, 0] rfl) (fun sz ls hl => ?_)
  refine zz (fun _ _ => lv_iload hx hb dX9_find_75 (lv_at hl 5 rfl)) ?_
  exact z_iret C hr hlk dX9_find_77 (by simp only [zd, fX9_find, and_self])
def fX9_has (v : Nat → Int32) (A : Nat → Nat → Int32) (a_ : Int32) (b_ : Int32) (c_ : Int32) (d_ : Int32) : Int32 × (Nat → Int32) × (Nat → Nat → Int32) := if (fX9_isIn a_ 0 6) = 0 then (0, (upd v 0 1), A) else if (fX9_find (upd v 0 0) A a_ b_ c_ d_) < 0 then (0, (upd v 0 0), A) else (1, (upd v 0 0), A)
theorem nbfX9_has {v : Nat → Int32} {A : Nat → Nat → Int32} {a_ : Int32} {b_ : Int32} {c_ : Int32} {d_ : Int32} : narrow .boolean (.int (fX9_has v A a_ b_ c_ d_).1) = .int (fX9_has v A a_ b_ c_ d_).1 := by
  unfold fX9_has
  repeat' split
  all_goals try dsimp only
  all_goals first | rfl | assumption | exact nbfX9_isIn
set_option maxHeartbeats 1000000 in
set_option maxRecDepth 10000 in
theorem ctX9_has {l : Launch} {D : va_G} {aC : Nat → ClassId} {b0 sz : Nat} {r : Nat} {v : Nat → Int32} {A : Nat → Nat → Int32} {R : ZM} {a_ : Int32} {b_ : Int32} {c_ : Int32} {d_ : Int32} {n_ : Nat} (hs : v 20 = nI n_) (hn : n_ ≤ 120) : Ct l D aC b0 yX9_has cX9_has 5 (some .boolean) 1 0 0 [.ref (r), .int (a_), .int (b_), .int (c_), .int (d_)] (mm aC r v A R) sz (zd (some (.int (fX9_has v A a_ b_ c_ d_).1)) (mm aC r (fX9_has v A a_ b_ c_ d_).2.1 (fX9_has v A a_ b_ c_ d_).2.2 R)) := by
  refine Ct.of (by decide) (Nat.le_of_ble_eq_true rfl) ?_
  intro p e s m below meth c ls C hr hlk hnm hl
  have hl : lv_has ls 5 [(0, .ref (r)), (1, .int (a_)), (2, .int (b_)), (3, .int (c_)), (4, .int (d_))] := hl
  obtain ⟨hx, hb, -, -, -⟩ := id C
  refine zz (fun _ _ => lv_aload_n hx hb dX9_has_0 rfl (lv_at hl 0 rfl)) ?_
  refine zz (fun _ _ => lv_iload_n hx hb dX9_has_1 rfl (lv_at hl 1 rfl)) ?_
  refine zz (fun _ _ => lv_iconst (v := 0) hx hb dX9_has_2 (by decide)) ?_
  refine zz (fun _ _ => lv_bipush (v := 6) hx hb dX9_has_3 (by decide)) ?_
  refine zdS (As := [.int (a_), .int (0), .int (6)]) (rest := [.ref (r)]) (st' := [.int ((fX9_isIn a_ 0 6)), .ref (r)]) C hl.1 lk_X9_135 (ctX9_isIn ) rfl rfl (Nat.le_of_ble_eq_true rfl) ⟨by decide, by decide, by decide, by decide⟩ dX9_has_5 rfl (fun sz => ?_)
  refine zb (fun _ _ => lv_if_eq (tgt := 15) hx hb dX9_has_8 (by decide)) (fun c_1 => ?_) (fun c_1 => ?_)
  · refine zz (fun _ _ => lv_iconst (v := 1) hx hb dX9_has_15 (by decide)) ?_
    refine z_put C fp_X9_129 (fun h => by cases h) rm_0 (Nat.le_of_ble_eq_true rfl) rfl rfl dX9_has_16 ?_
    refine zeq wm_f0 ?_
    refine zz (fun _ _ => lv_aload_n hx hb dX9_has_19 rfl (lv_at hl 0 rfl)) ?_
    refine z_get (v := .int (1)) C fd_X9_129 rm_0 rfl dX9_has_20 ?_
    refine zbn (fun _ _ => lv_if_ne (tgt := 42) hx hb dX9_has_23 (by decide)) (fun c_2 => ?_) (fun c_2 => ?_)
    · refine zz (fun _ _ => lv_iconst (v := 0) hx hb dX9_has_42 (by decide)) ?_
      exact z_zret C hr rfl hlk dX9_has_43 (by simp only [zd, fX9_has, if_pos c_1, and_self])
    · exact absurd c_2 (by decide)
  · refine zz (fun _ _ => lv_iconst (v := 0) hx hb dX9_has_11 (by decide)) ?_
    refine zz (fun _ _ => lv_goto (tgt := 16) hx hb dX9_has_12 (by decide)) ?_
    refine z_put C fp_X9_129 (fun h => by cases h) rm_0 (Nat.le_of_ble_eq_true rfl) rfl rfl dX9_has_16 ?_
    refine zeq wm_f0 ?_
    refine zz (fun _ _ => lv_aload_n hx hb dX9_has_19 rfl (lv_at hl 0 rfl)) ?_
    refine z_get (v := .int (0)) C fd_X9_129 rm_0 rfl dX9_has_20 ?_
    refine zbn (fun _ _ => lv_if_ne (tgt := 42) hx hb dX9_has_23 (by decide)) (fun c_3 => ?_) (fun c_3 => ?_)
    · exact absurd (by decide) c_3
    · refine zz (fun _ _ => lv_aload_n hx hb dX9_has_26 rfl (lv_at hl 0 rfl)) ?_
      refine zz (fun _ _ => lv_iload_n hx hb dX9_has_27 rfl (lv_at hl 1 rfl)) ?_
      refine zz (fun _ _ => lv_iload_n hx hb dX9_has_28 rfl (lv_at hl 2 rfl)) ?_
      refine zz (fun _ _ => lv_iload_n hx hb dX9_has_29 rfl (lv_at hl 3 rfl)) ?_
      refine zz (fun _ _ => lv_iload hx hb dX9_has_30 (lv_at hl 4 rfl)) ?_
      refine zdV (As := [.int (a_), .int (b_), .int (c_), .int (d_)]) (rest := []) (st' := [.int ((fX9_find (upd v 0 0) A a_ b_ c_ d_))]) C hl.1 lk_X9_163 (ctX9_find hs hn) rm_0 rfl rfl rfl (Nat.le_of_ble_eq_true rfl) ⟨by decide, by decide, by decide, by decide⟩ dX9_has_32 rfl (fun sz => ?_)
      refine zb (fun _ _ => lv_if_lt (tgt := 42) hx hb dX9_has_35 (by decide)) (fun c_4 => ?_) (fun c_4 => ?_)
      · refine zz (fun _ _ => lv_iconst (v := 0) hx hb dX9_has_42 (by decide)) ?_
        exact z_zret C hr rfl hlk dX9_has_43 (by simp only [zd, fX9_has, if_neg c_1, if_pos c_4, and_self])
      · refine zz (fun _ _ => lv_iconst (v := 1) hx hb dX9_has_38 (by decide)) ?_
        refine zz (fun _ _ => lv_goto (tgt := 43) hx hb dX9_has_39 (by decide)) ?_
        exact z_zret C hr rfl hlk dX9_has_43 (by simp only [zd, fX9_has, if_neg c_1, if_neg c_4, and_self])
def stX9_clear_17 (i1_ : (Nat → Int32)) : Nat → (Nat → Int32)
  | 0 => (i1_)
  | j + 1 => ((upd ((stX9_clear_17 i1_ j)) (Int32.toNatClampNeg (nI j)) ((-1))))
set_option maxHeartbeats 2000000 in
set_option maxRecDepth 10000 in
theorem lpX9_clear_17 {p : Program} {l : Launch} {e : Env} {Rm : Room} {s : State} {m : MethodId} {args : Array Value} {below : List Frame} {meth : Method} {c : Code} {D : va_G} {aC : Nat → ClassId} {b0 cells slots : Nat} {Q : State → Prop} {r : Nat} {v : Nat → Int32} {A : Nat → Nat → Int32} {R : ZM} {a_ : Int32} {i1_ : (Nat → Int32)} {N_ : Nat} (C : zC p l s m c D aC b0 RX9 cX9_clear 3) (hNb : (12 : Int32) = nI N_) (hN2 : N_ ≤ 12) (hNl : N_ < 2 ^ 31) :
    ∀ (d j : Nat), j + d = N_ → ∀ (sz : Nat) (ls : Array Slot), lv_has ls 3 [(0, .ref (r)), (1, .int (a_)), (2, .int (nI j))] → (∀ (sz : Nat) (ls : Array Slot), lv_has ls 3 [(0, .ref (r)), (1, .int (a_)), (2, .int (nI N_))] → Z p l e Rm s m args below meth c D b0 (mm aC r v (u1 A 34 (stX9_clear_17 i1_ N_)) R) sz cells slots Q (F0 m 36 ls [])) → Z p l e Rm s m args below meth c D b0 (mm aC r v (u1 A 34 (stX9_clear_17 i1_ j)) R) sz cells slots Q (F0 m 17 ls []) := by
  obtain ⟨hx, hb, -, -, -⟩ := id C
  intro d
  induction d with
  | zero =>
    intro j hj0 sz ls hl K
    refine zz (fun _ _ => lv_iload_n hx hb dX9_clear_17 rfl (lv_at hl 2 rfl)) ?_
    refine zz (fun _ _ => lv_bipush (v := 12) hx hb dX9_clear_18 (by decide)) ?_
    refine zb (fun _ _ => lv_icmp_ge (tgt := 36) hx hb dX9_clear_20 (by decide)) (fun c_1 => ?_) (fun c_1 => ?_)
    · obtain rfl := fl_eq (j := j) (N := N_) hNb (by omega) hNl c_1
      exact K _ _ (lv_sub hl [0, 1, 2] rfl)
    · exact absurd (fl_lt (j := j) (N := N_) hNb (by omega) hNl c_1) (by omega)
  | succ d ih =>
    intro j hj0 sz ls hl K
    refine zz (fun _ _ => lv_iload_n hx hb dX9_clear_17 rfl (lv_at hl 2 rfl)) ?_
    refine zz (fun _ _ => lv_bipush (v := 12) hx hb dX9_clear_18 (by decide)) ?_
    refine zb (fun _ _ => lv_icmp_ge (tgt := 36) hx hb dX9_clear_20 (by decide)) (fun c_1 => ?_) (fun c_1 => ?_)
    · obtain rfl := fl_eq (j := j) (N := N_) hNb (by omega) hNl c_1
      exact K _ _ (lv_sub hl [0, 1, 2] rfl)
    · have hj9 : j < N_ := fl_lt hNb (by omega) hNl c_1
      refine zz (fun _ _ => lv_aload_n hx hb dX9_clear_23 rfl (lv_at hl 0 rfl)) ?_
      refine z_get (v := .ref (r + 34)) C fd_X9_110 rm_0 rfl dX9_clear_24 ?_
      refine zz (fun _ _ => lv_iload_n hx hb dX9_clear_27 rfl (lv_at hl 2 rfl)) ?_
      refine zz (fun _ _ => lv_iconst (v := (-1)) hx hb dX9_clear_28 (by decide)) ?_
      refine z_iast (f := (stX9_clear_17 i1_ j)) C rm_34 (in_nI (j := j) rfl (by omega) (by decide)) dX9_clear_29 ?_
      refine zeq wm_34 ?_
      refine zeq (M' := (mm aC r v (u1 A 34 (upd ((stX9_clear_17 i1_ j)) (Int32.toNatClampNeg (nI j)) ((-1)))) R)) (by rw [u1_u1]) ?_
      refine zs (fun _ _ => lv_iinc (v := nI j + 1) (lv' := [(2, .int (nI j + 1)), (0, .ref (r)), (1, .int (a_))]) hx hb dX9_clear_30 hl (k := 2) rfl rfl (by decide) rfl) (fun ls hl => ?_)
      refine zz (fun _ _ => lv_goto (tgt := 17) hx hb dX9_clear_33 (by decide)) ?_
      have hI := ih (j + 1) (by omega)
      simp only [stX9_clear_17, if_neg c_1] at hI
      have hl := lv_sub hl [1, 2, 0] rfl
      simp only [nI_1] at hl
      exact hI _ _ hl K
def fX9_clear (v : Nat → Int32) (A : Nat → Nat → Int32) : Int32 × (Nat → Int32) × (Nat → Nat → Int32) := (v 1, (upd (upd v 0 0) 1 0), (u1 A 34 (stX9_clear_17 (A 34) 12)))
set_option maxHeartbeats 1000000 in
set_option maxRecDepth 10000 in
theorem ctX9_clear {l : Launch} {D : va_G} {aC : Nat → ClassId} {b0 sz : Nat} {r : Nat} {v : Nat → Int32} {A : Nat → Nat → Int32} {R : ZM} : Ct l D aC b0 yX9_clear cX9_clear 3 (some .int) 0 0 0 [.ref (r)] (mm aC r v A R) sz (zd (some (.int (fX9_clear v A).1)) (mm aC r (fX9_clear v A).2.1 (fX9_clear v A).2.2 R)) := by
  refine Ct.of (by decide) (Nat.le_of_ble_eq_true rfl) ?_
  intro p e s m below meth c ls C hr hlk hnm hl
  have hl : lv_has ls 3 [(0, .ref (r))] := hl
  obtain ⟨hx, hb, -, -, -⟩ := id C
  refine zz (fun _ _ => lv_aload_n hx hb dX9_clear_0 rfl (lv_at hl 0 rfl)) ?_
  refine zz (fun _ _ => lv_iconst (v := 0) hx hb dX9_clear_1 (by decide)) ?_
  refine z_put C fp_X9_129 (fun h => by cases h) rm_0 (Nat.le_of_ble_eq_true rfl) rfl rfl dX9_clear_2 ?_
  refine zeq wm_f0 ?_
  refine zz (fun _ _ => lv_aload_n hx hb dX9_clear_5 rfl (lv_at hl 0 rfl)) ?_
  refine z_get (v := .int (v 1)) C fd_X9_132 rm_0 rfl dX9_clear_6 ?_
  refine zs (fun _ _ => lv_istore_n (lv' := [(1, .int (v 1)), (0, .ref (r))]) hx hb dX9_clear_9 rfl hl (by decide) rfl) (fun ls hl => ?_)
  refine zz (fun _ _ => lv_aload_n hx hb dX9_clear_10 rfl (lv_at hl 1 rfl)) ?_
  refine zz (fun _ _ => lv_iconst (v := 0) hx hb dX9_clear_11 (by decide)) ?_
  refine z_put C fp_X9_132 (fun h => by cases h) rm_0 (Nat.le_of_ble_eq_true rfl) rfl rfl dX9_clear_12 ?_
  refine zeq wm_f1 ?_
  refine zz (fun _ _ => lv_iconst (v := 0) hx hb dX9_clear_15 (by decide)) ?_
  refine zs (fun _ _ => lv_istore_n (lv' := [(2, .int (0)), (1, .int (v 1)), (0, .ref (r))]) hx hb dX9_clear_16 rfl hl (by decide) rfl) (fun ls hl => ?_)
  refine zeq (M' := (mm aC r (upd (upd v 0 0) 1 0) (u1 A 34 (A 34)) R)) (by rw [u1_id2 (A := A) (k := 34) (g := A 34) rfl]) ?_
  refine lpX9_clear_17 (v := (upd (upd v 0 0) 1 0)) (A := A) (N_ := 12) C rfl (by decide) (by decide) 12 0 (Nat.zero_add _) _ _ (lv_sub hl [2, 1, 0] rfl) (fun sz ls hl => ?_)
  refine zz (fun _ _ => lv_iload_n hx hb dX9_clear_36 rfl (lv_at hl 1 rfl)) ?_
  exact z_iret C hr hlk dX9_clear_37 (by simp only [zd, fX9_clear, and_self])
def stX6_factCount_4 (iv : Nat → Nat → Int32) (k : Nat) (i1_ : Int32) : Nat → Int32
  | 0 => (i1_)
  | j + 1 => (((stX6_factCount_4 iv k i1_ j)) + (iv ((k + 1) + 1 + 2 * j) 1))
set_option maxHeartbeats 2000000 in
set_option maxRecDepth 10000 in
theorem lpX6_factCount_4 {p : Program} {l : Launch} {e : Env} {Rm : Room} {s : State} {m : MethodId} {args : Array Value} {below : List Frame} {meth : Method} {c : Code} {D : va_G} {aC : Nat → ClassId} {b0 cells slots : Nat} {Q : State → Prop} {x : Nat} {iv av : Nat → Nat → Int32} {R : ZM} {k : Nat} {i1_ : Int32} {N_ : Nat} (C : zC p l s m c D aC b0 RX6 cX6_factCount 3) (hk : ck k = 4) (hNb : (7 : Int32) = nI N_) (hN2 : N_ ≤ 7) (hNl : N_ < 2 ^ 31) :
    ∀ (d j : Nat), j + d = N_ → ∀ (sz : Nat) (ls : Array Slot), lv_has ls 3 [(0, .ref (x + k)), (1, .int ((stX6_factCount_4 iv k i1_ j))), (2, .int (nI j))] → (∀ (sz : Nat) (ls : Array Slot), lv_has ls 3 [(0, .ref (x + k)), (1, .int ((stX6_factCount_4 iv k i1_ N_))), (2, .int (nI N_))] → Z p l e Rm s m args below meth c D b0 (cm aC x iv av R) sz cells slots Q (F0 m 28 ls [])) → Z p l e Rm s m args below meth c D b0 (cm aC x iv av R) sz cells slots Q (F0 m 4 ls []) := by
  obtain ⟨hx, hb, -, -, -⟩ := id C
  intro d
  induction d with
  | zero =>
    intro j hj0 sz ls hl K
    refine zz (fun _ _ => lv_iload_n hx hb dX6_factCount_4 rfl (lv_at hl 2 rfl)) ?_
    refine zz (fun _ _ => lv_bipush (v := 7) hx hb dX6_factCount_5 (by decide)) ?_
    refine zb (fun _ _ => lv_icmp_ge (tgt := 28) hx hb dX6_factCount_7 (by decide)) (fun c_1 => ?_) (fun c_1 => ?_)
    · obtain rfl := fl_eq (j := j) (N := N_) hNb (by omega) hNl c_1
      exact K _ _ (lv_sub hl [0, 1, 2] rfl)
    · exact absurd (fl_lt (j := j) (N := N_) hNb (by omega) hNl c_1) (by omega)
  | succ d ih =>
    intro j hj0 sz ls hl K
    refine zz (fun _ _ => lv_iload_n hx hb dX6_factCount_4 rfl (lv_at hl 2 rfl)) ?_
    refine zz (fun _ _ => lv_bipush (v := 7) hx hb dX6_factCount_5 (by decide)) ?_
    refine zb (fun _ _ => lv_icmp_ge (tgt := 28) hx hb dX6_factCount_7 (by decide)) (fun c_1 => ?_) (fun c_1 => ?_)
    · obtain rfl := fl_eq (j := j) (N := N_) hNb (by omega) hNl c_1
      exact K _ _ (lv_sub hl [0, 1, 2] rfl)
    · have hj9 : j < N_ := fl_lt hNb (by omega) hNl c_1
      refine zz (fun _ _ => lv_iload_n hx hb dX6_factCount_10 rfl (lv_at hl 1 rfl)) ?_
      refine zz (fun _ _ => lv_aload_n hx hb dX6_factCount_11 rfl (lv_at hl 0 rfl)) ?_
      refine z_get (v := .ref (x + (k + 1))) C fd_X6_11 (rd_4 hk) rfl dX6_factCount_12 ?_
      refine zz (fun _ _ => lv_iload_n hx hb dX6_factCount_15 rfl (lv_at hl 2 rfl)) ?_
      refine z_aald C 3 rfl (rd_5 (nb_4_1 hk)) (in_nI (j := j) rfl (by omega) (by decide)) (v := .ref (x + ((k + 1) + 1 + 2 * j))) (rf_if (f := fun q => x + (k + 1 + 1 + 2 * q)) (n := 7) rfl (Nat.lt_of_lt_of_le hj9 hN2) (by decide)) dX6_factCount_16 ?_
      refine z_get (v := .int (iv ((k + 1) + 1 + 2 * j) 1)) C fd_X6_26 (rd_6 (kp_5 (nb_4_1 hk) (Nat.lt_of_lt_of_le hj9 hN2))) rfl dX6_factCount_17 ?_
      refine zz (fun _ _ => lv_iadd hx hb dX6_factCount_20) ?_
      refine zs (fun _ _ => lv_istore_n (lv' := [(1, .int (((stX6_factCount_4 iv k i1_ j)) + (iv ((k + 1) + 1 + 2 * j) 1))), (0, .ref (x + k)), (2, .int (nI j))]) hx hb dX6_factCount_21 rfl hl (by decide) rfl) (fun ls hl => ?_)
      refine zs (fun _ _ => lv_iinc (v := nI j + 1) (lv' := [(2, .int (nI j + 1)), (1, .int (((stX6_factCount_4 iv k i1_ j)) + (iv ((k + 1) + 1 + 2 * j) 1))), (0, .ref (x + k))]) hx hb dX6_factCount_22 hl (k := 2) rfl rfl (by decide) rfl) (fun ls hl => ?_)
      refine zz (fun _ _ => lv_goto (tgt := 4) hx hb dX6_factCount_25 (by decide)) ?_
      have hI := ih (j + 1) (by omega)
      simp only [stX6_factCount_4, if_neg c_1] at hI
      have hl := lv_sub hl [2, 1, 0] rfl
      simp only [nI_1] at hl
      exact hI _ _ hl K
def fX6_factCount (iv : Nat → Nat → Int32) (k : Nat) : Int32 := ((stX6_factCount_4 iv k 0 7))
set_option maxHeartbeats 1000000 in
set_option maxRecDepth 10000 in
theorem ctX6_factCount {l : Launch} {D : va_G} {aC : Nat → ClassId} {b0 sz : Nat} {x : Nat} {iv av : Nat → Nat → Int32} {R : ZM} {k : Nat} (hk : ck k = 4) : Ct l D aC b0 yX6_factCount cX6_factCount 3 (some .int) 0 0 0 [.ref (x + k)] (cm aC x iv av R) sz (zd (some (.int (fX6_factCount iv k))) (cm aC x iv av R)) := by
  refine Ct.of (by decide) (Nat.le_of_ble_eq_true rfl) ?_
  intro p e s m below meth c ls C hr hlk hnm hl
  have hl : lv_has ls 3 [(0, .ref (x + k))] := hl
  obtain ⟨hx, hb, -, -, -⟩ := id C
  refine zz (fun _ _ => lv_iconst (v := 0) hx hb dX6_factCount_0 (by decide)) ?_
  refine zs (fun _ _ => lv_istore_n (lv' := [(1, .int (0)), (0, .ref (x + k))]) hx hb dX6_factCount_1 rfl hl (by decide) rfl) (fun ls hl => ?_)
  refine zz (fun _ _ => lv_iconst (v := 0) hx hb dX6_factCount_2 (by decide)) ?_
  refine zs (fun _ _ => lv_istore_n (lv' := [(2, .int (0)), (1, .int (0)), (0, .ref (x + k))]) hx hb dX6_factCount_3 rfl hl (by decide) rfl) (fun ls hl => ?_)
  refine lpX6_factCount_4 (iv := iv) (av := av) (N_ := 7) C hk rfl (by decide) (by decide) 7 0 (Nat.zero_add _) _ _ (lv_sub hl [2, 1, 0] rfl) (fun sz ls hl => ?_)
  refine zz (fun _ _ => lv_iload_n hx hb dX6_factCount_28 rfl (lv_at hl 1 rfl)) ?_
  exact z_iret C hr hlk dX6_factCount_29 (by simp only [zd, fX6_factCount, and_self])
def fX8_told (iv : Nat → Nat → Int32) (a_ : Int32) : Nat × Int32 := if a_ = 0 then (0, iv 0 5) else if a_ = 1 then (0, (fX6_factCount iv 3)) else if a_ = 2 then (0, iv 3 1) else if a_ = 3 then (0, iv 57 3) else if a_ = 4 then (0, iv 0 7) else (1, 0)
set_option maxHeartbeats 1000000 in
set_option maxRecDepth 10000 in
theorem ctX8_told {l : Launch} {D : va_G} {aC : Nat → ClassId} {b0 sz : Nat} {x : Nat} {iv av : Nat → Nat → Int32} {R : ZM} {a_ : Int32} : CtX l D aC b0 yX8_told cX8_told 2 (some .int) 1 1 6 [.ref (x + 0), .int (a_)] (cm aC x iv av R) sz (zdx (fX8_told iv a_).1 (some (.int (fX8_told iv a_).2)) (cm aC x iv av R)) (zxx (fX8_told iv a_).1 (cm aC x iv av R)) := by
  refine CtX.of (by decide) (Nat.le_of_ble_eq_true rfl) ?_
  intro p e s m below meth c ls C hr hlk hnt hl
  have hl : lv_has ls 2 [(0, .ref (x + 0)), (1, .int (a_))] := hl
  obtain ⟨hx, hb, -, -, -⟩ := id C
  refine zz (fun _ _ => lv_iload_n hx hb dX8_told_0 rfl (lv_at hl 1 rfl)) ?_
  by_cases c_1 : a_ = 0
  · refine zz (fun _ _ => lv_tableIn (tgt := 36) (off := (35)) hx hb dX8_told_1 (by rw [c_1]; decide) (by rw [c_1]; decide) (by rw [c_1]; rfl) (by decide)) ?_
    refine zz (fun _ _ => lv_aload_n hx hb dX8_told_36 rfl (lv_at hl 0 rfl)) ?_
    refine z_get (v := .int (iv 0 5)) C fd_X8_40 (rd_1 (by decide)) rfl dX8_told_37 ?_
    exact z_ret (by decide) (by decide) (z_iret C hr hlk dX8_told_40 ⟨by simp only [fX8_told, if_pos c_1], by simp only [fX8_told, if_pos c_1], by simp only [fX8_told, if_pos c_1]⟩)
  · skip
    by_cases c_2 : a_ = 1
    · refine zz (fun _ _ => lv_tableIn (tgt := 41) (off := (40)) hx hb dX8_told_1 (by rw [c_2]; decide) (by rw [c_2]; decide) (by rw [c_2]; rfl) (by decide)) ?_
      refine zz (fun _ _ => lv_aload_n hx hb dX8_told_41 rfl (lv_at hl 0 rfl)) ?_
      refine z_get (v := .ref (x + 3)) C fd_X8_26 (rd_1 (by decide)) rfl dX8_told_42 ?_
      refine zdV (As := []) (rest := []) (st' := [.int ((fX6_factCount iv 3))]) C hl.1 lk_X8_225 (ctX6_factCount (by decide)) (rd_4 (by decide)) rfl rfl rfl (Nat.le_of_ble_eq_true rfl) ⟨by decide, by decide, by decide, by decide⟩ dX8_told_45 rfl (fun sz => ?_)
      exact z_ret (by decide) (by decide) (z_iret C hr hlk dX8_told_48 ⟨by simp only [fX8_told, if_neg c_1, if_pos c_2], by simp only [fX8_told, if_neg c_1, if_pos c_2], by simp only [fX8_told, if_neg c_1, if_pos c_2]⟩)
    · skip
      by_cases c_3 : a_ = 2
      · refine zz (fun _ _ => lv_tableIn (tgt := 49) (off := (48)) hx hb dX8_told_1 (by rw [c_3]; decide) (by rw [c_3]; decide) (by rw [c_3]; rfl) (by decide)) ?_
        refine zz (fun _ _ => lv_aload_n hx hb dX8_told_49 rfl (lv_at hl 0 rfl)) ?_
        refine z_get (v := .ref (x + 3)) C fd_X8_26 (rd_1 (by decide)) rfl dX8_told_50 ?_
        refine z_get (v := .int (iv 3 1)) C fd_X8_229 (rd_4 (by decide)) rfl dX8_told_53 ?_
        exact z_ret (by decide) (by decide) (z_iret C hr hlk dX8_told_56 ⟨by simp only [fX8_told, if_neg c_1, if_neg c_2, if_pos c_3], by simp only [fX8_told, if_neg c_1, if_neg c_2, if_pos c_3], by simp only [fX8_told, if_neg c_1, if_neg c_2, if_pos c_3]⟩)
      · skip
        by_cases c_4 : a_ = 3
        · refine zz (fun _ _ => lv_tableIn (tgt := 57) (off := (56)) hx hb dX8_told_1 (by rw [c_4]; decide) (by rw [c_4]; decide) (by rw [c_4]; rfl) (by decide)) ?_
          refine zz (fun _ _ => lv_aload_n hx hb dX8_told_57 rfl (lv_at hl 0 rfl)) ?_
          refine z_get (v := .ref (x + 57)) C fd_X8_36 (rd_1 (by decide)) rfl dX8_told_58 ?_
          refine z_get (v := .int (iv 57 3)) C fd_X8_173 (rd_16 (by decide)) rfl dX8_told_61 ?_
          exact z_ret (by decide) (by decide) (z_iret C hr hlk dX8_told_64 ⟨by simp only [fX8_told, if_neg c_1, if_neg c_2, if_neg c_3, if_pos c_4], by simp only [fX8_told, if_neg c_1, if_neg c_2, if_neg c_3, if_pos c_4], by simp only [fX8_told, if_neg c_1, if_neg c_2, if_neg c_3, if_pos c_4]⟩)
        · skip
          by_cases c_5 : a_ = 4
          · refine zz (fun _ _ => lv_tableIn (tgt := 65) (off := (64)) hx hb dX8_told_1 (by rw [c_5]; decide) (by rw [c_5]; decide) (by rw [c_5]; rfl) (by decide)) ?_
            refine zz (fun _ _ => lv_aload_n hx hb dX8_told_65 rfl (lv_at hl 0 rfl)) ?_
            refine z_get (v := .int (iv 0 7)) C fd_X8_47 (rd_1 (by decide)) rfl dX8_told_66 ?_
            exact z_ret (by decide) (by decide) (z_iret C hr hlk dX8_told_69 ⟨by simp only [fX8_told, if_neg c_1, if_neg c_2, if_neg c_3, if_neg c_4, if_pos c_5], by simp only [fX8_told, if_neg c_1, if_neg c_2, if_neg c_3, if_neg c_4, if_pos c_5], by simp only [fX8_told, if_neg c_1, if_neg c_2, if_neg c_3, if_neg c_4, if_pos c_5]⟩)
          · skip
            refine zz (fun _ _ => lv_tableOut (tgt := 70) hx hb dX8_told_1 (sw_out (fun n h1 h2 => by rcases (show n = 0 ∨ n = 1 ∨ n = 2 ∨ n = 3 ∨ n = 4 by omega) with rfl | rfl | rfl | rfl | rfl <;> assumption)) (by decide)) ?_
            exact z_throw C hl.1 th_X8_232 hnt hlk dX8_told_70 dX8_told_73 dX8_told_74 dX8_told_76 dX8_told_79 ⟨by decide, by decide, by decide, by decide, by decide, by decide⟩ ⟨by simp only [fX8_told, if_neg c_1, if_neg c_2, if_neg c_3, if_neg c_4, if_neg c_5]; decide, by simp only [fX8_told, if_neg c_1, if_neg c_2, if_neg c_3, if_neg c_4, if_neg c_5]; rfl, by simp only [fX8_told, if_neg c_1, if_neg c_2, if_neg c_3, if_neg c_4, if_neg c_5]⟩
end
section
def stX9_wasIn_6 (A : Nat → Nat → Int32) (a_ : Int32) (b_ : Int32) (c_ : Int32) (d_ : Int32) (i1_ : Int32) : Nat → Int32
  | 0 => (i1_)
  | j + 1 => if (stX9_wasIn_6 A a_ b_ c_ d_ i1_ j) = 0 then if A 24 (Int32.toNatClampNeg (nI j)) = a_ then if A 25 (Int32.toNatClampNeg (nI j)) = b_ then if A 26 (Int32.toNatClampNeg (nI j)) = c_ then if A 27 (Int32.toNatClampNeg (nI j)) = d_ then (1) else (0) else (0) else (0) else (0) else (1)
set_option maxHeartbeats 2000000 in
set_option maxRecDepth 10000 in
theorem lpX9_wasIn_6 {p : Program} {l : Launch} {e : Env} {Rm : Room} {s : State} {m : MethodId} {args : Array Value} {below : List Frame} {meth : Method} {c : Code} {D : va_G} {aC : Nat → ClassId} {b0 cells slots : Nat} {Q : State → Prop} {r : Nat} {v : Nat → Int32} {A : Nat → Nat → Int32} {R : ZM} {a_ : Int32} {b_ : Int32} {c_ : Int32} {d_ : Int32} {i1_ : Int32} {N_ : Nat} (C : zC p l s m c D aC b0 RX9 cX9_wasIn 7) (hNb : v 27 = nI N_) (hN2 : N_ ≤ 120) (hNl : N_ < 2 ^ 31) :
    ∀ (d j : Nat), j + d = N_ → ∀ (sz : Nat) (ls : Array Slot), lv_has ls 7 [(0, .ref (r)), (1, .int (a_)), (2, .int (b_)), (3, .int (c_)), (4, .int (d_)), (5, .int ((stX9_wasIn_6 A a_ b_ c_ d_ i1_ j))), (6, .int (nI j))] → (∀ (sz : Nat) (ls : Array Slot), lv_has ls 7 [(0, .ref (r)), (1, .int (a_)), (2, .int (b_)), (3, .int (c_)), (4, .int (d_)), (5, .int ((stX9_wasIn_6 A a_ b_ c_ d_ i1_ N_))), (6, .int (nI N_))] → Z p l e Rm s m args below meth c D b0 (mm aC r v A R) sz cells slots Q (F0 m 78 ls [])) → Z p l e Rm s m args below meth c D b0 (mm aC r v A R) sz cells slots Q (F0 m 6 ls []) := by
  obtain ⟨hx, hb, -, -, -⟩ := id C
  intro d
  induction d with
  | zero =>
    intro j hj0 sz ls hl K
    refine zz (fun _ _ => lv_iload hx hb dX9_wasIn_6 (lv_at hl 6 rfl)) ?_
    refine zz (fun _ _ => lv_aload_n hx hb dX9_wasIn_8 rfl (lv_at hl 0 rfl)) ?_
    refine z_get (v := .int (v 27)) C fd_X9_244 rm_0 rfl dX9_wasIn_9 ?_
    refine zb (fun _ _ => lv_icmp_ge (tgt := 78) hx hb dX9_wasIn_12 (by decide)) (fun c_1 => ?_) (fun c_1 => ?_)
    · obtain rfl := fl_eq (j := j) (N := N_) hNb (by omega) hNl c_1
      exact K _ _ (lv_sub hl [0, 1, 2, 3, 4, 5, 6] rfl)
    · exact absurd (fl_lt (j := j) (N := N_) hNb (by omega) hNl c_1) (by omega)
  | succ d ih =>
    intro j hj0 sz ls hl K
    refine zz (fun _ _ => lv_iload hx hb dX9_wasIn_6 (lv_at hl 6 rfl)) ?_
    refine zz (fun _ _ => lv_aload_n hx hb dX9_wasIn_8 rfl (lv_at hl 0 rfl)) ?_
    refine z_get (v := .int (v 27)) C fd_X9_244 rm_0 rfl dX9_wasIn_9 ?_
    refine zb (fun _ _ => lv_icmp_ge (tgt := 78) hx hb dX9_wasIn_12 (by decide)) (fun c_1 => ?_) (fun c_1 => ?_)
    · obtain rfl := fl_eq (j := j) (N := N_) hNb (by omega) hNl c_1
      exact K _ _ (lv_sub hl [0, 1, 2, 3, 4, 5, 6] rfl)
    · have hj9 : j < N_ := fl_lt hNb (by omega) hNl c_1
      refine zz (fun _ _ => lv_iload hx hb dX9_wasIn_15 (lv_at hl 5 rfl)) ?_
      refine zbn (fun _ _ => lv_if_ne (tgt := 65) hx hb dX9_wasIn_17 (by decide)) (fun c_2 => ?_) (fun c_2 => ?_)
      · refine zz (fun _ _ => lv_iconst (v := 1) hx hb dX9_wasIn_65 (by decide)) ?_
        refine zz (fun _ _ => lv_goto (tgt := 70) hx hb dX9_wasIn_66 (by decide)) ?_
        refine zs (fun _ _ => lv_istore (lv' := [(5, .int (1)), (0, .ref (r)), (1, .int (a_)), (2, .int (b_)), (3, .int (c_)), (4, .int (d_)), (6, .int (nI j))]) hx hb dX9_wasIn_70 hl (by decide) rfl) (fun ls hl => ?_)
        refine zs (fun _ _ => lv_iinc (v := nI j + 1) (lv' := [(6, .int (nI j + 1)), (5, .int (1)), (0, .ref (r)), (1, .int (a_)), (2, .int (b_)), (3, .int (c_)), (4, .int (d_))]) hx hb dX9_wasIn_72 hl (k := 6) rfl rfl (by decide) rfl) (fun ls hl => ?_)
        refine zz (fun _ _ => lv_goto (tgt := 6) hx hb dX9_wasIn_75 (by decide)) ?_
        have hI := ih (j + 1) (by omega)
        simp only [stX9_wasIn_6, if_neg c_1, if_neg c_2] at hI
        have hl := lv_sub hl [2, 3, 4, 5, 6, 1, 0] rfl
        simp only [nI_1] at hl
        exact hI _ _ hl K
      · refine zz (fun _ _ => lv_aload_n hx hb dX9_wasIn_20 rfl (lv_at hl 0 rfl)) ?_
        refine z_get (v := .ref (r + 24)) C fd_X9_80 rm_0 rfl dX9_wasIn_21 ?_
        refine zz (fun _ _ => lv_iload hx hb dX9_wasIn_24 (lv_at hl 6 rfl)) ?_
        refine z_iald (f := A 24) C rm_24 (in_nI (j := j) rfl (by omega) (by decide)) dX9_wasIn_26 ?_
        refine zz (fun _ _ => lv_iload_n hx hb dX9_wasIn_27 rfl (lv_at hl 1 rfl)) ?_
        refine zbn (fun _ _ => lv_icmp_ne (tgt := 69) hx hb dX9_wasIn_28 (by decide)) (fun c_3 => ?_) (fun c_3 => ?_)
        · refine zz (fun _ _ => lv_iconst (v := 0) hx hb dX9_wasIn_69 (by decide)) ?_
          refine zs (fun _ _ => lv_istore (lv' := [(5, .int (0)), (0, .ref (r)), (1, .int (a_)), (2, .int (b_)), (3, .int (c_)), (4, .int (d_)), (6, .int (nI j))]) hx hb dX9_wasIn_70 hl (by decide) rfl) (fun ls hl => ?_)
          refine zs (fun _ _ => lv_iinc (v := nI j + 1) (lv' := [(6, .int (nI j + 1)), (5, .int (0)), (0, .ref (r)), (1, .int (a_)), (2, .int (b_)), (3, .int (c_)), (4, .int (d_))]) hx hb dX9_wasIn_72 hl (k := 6) rfl rfl (by decide) rfl) (fun ls hl => ?_)
          refine zz (fun _ _ => lv_goto (tgt := 6) hx hb dX9_wasIn_75 (by decide)) ?_
          have hI := ih (j + 1) (by omega)
          simp only [stX9_wasIn_6, if_neg c_1, if_pos c_2, if_neg c_3] at hI
          have hl := lv_sub hl [2, 3, 4, 5, 6, 1, 0] rfl
          simp only [nI_1] at hl
          exact hI _ _ hl K
        · refine zz (fun _ _ => lv_aload_n hx hb dX9_wasIn_31 rfl (lv_at hl 0 rfl)) ?_
          refine z_get (v := .ref (r + 25)) C fd_X9_83 rm_0 rfl dX9_wasIn_32 ?_
          refine zz (fun _ _ => lv_iload hx hb dX9_wasIn_35 (lv_at hl 6 rfl)) ?_
          refine z_iald (f := A 25) C rm_25 (in_nI (j := j) rfl (by omega) (by decide)) dX9_wasIn_37 ?_
          refine zz (fun _ _ => lv_iload_n hx hb dX9_wasIn_38 rfl (lv_at hl 2 rfl)) ?_
          refine zbn (fun _ _ => lv_icmp_ne (tgt := 69) hx hb dX9_wasIn_39 (by decide)) (fun c_4 => ?_) (fun c_4 => ?_)
          · refine zz (fun _ _ => lv_iconst (v := 0) hx hb dX9_wasIn_69 (by decide)) ?_
            refine zs (fun _ _ => lv_istore (lv' := [(5, .int (0)), (0, .ref (r)), (1, .int (a_)), (2, .int (b_)), (3, .int (c_)), (4, .int (d_)), (6, .int (nI j))]) hx hb dX9_wasIn_70 hl (by decide) rfl) (fun ls hl => ?_)
            refine zs (fun _ _ => lv_iinc (v := nI j + 1) (lv' := [(6, .int (nI j + 1)), (5, .int (0)), (0, .ref (r)), (1, .int (a_)), (2, .int (b_)), (3, .int (c_)), (4, .int (d_))]) hx hb dX9_wasIn_72 hl (k := 6) rfl rfl (by decide) rfl) (fun ls hl => ?_)
            refine zz (fun _ _ => lv_goto (tgt := 6) hx hb dX9_wasIn_75 (by decide)) ?_
            have hI := ih (j + 1) (by omega)
            simp only [stX9_wasIn_6, if_neg c_1, if_pos c_2, if_pos c_3, if_neg c_4] at hI
            have hl := lv_sub hl [2, 3, 4, 5, 6, 1, 0] rfl
            simp only [nI_1] at hl
            exact hI _ _ hl K
          · refine zz (fun _ _ => lv_aload_n hx hb dX9_wasIn_42 rfl (lv_at hl 0 rfl)) ?_
            refine z_get (v := .ref (r + 26)) C fd_X9_86 rm_0 rfl dX9_wasIn_43 ?_
            refine zz (fun _ _ => lv_iload hx hb dX9_wasIn_46 (lv_at hl 6 rfl)) ?_
            refine z_iald (f := A 26) C rm_26 (in_nI (j := j) rfl (by omega) (by decide)) dX9_wasIn_48 ?_
            refine zz (fun _ _ => lv_iload_n hx hb dX9_wasIn_49 rfl (lv_at hl 3 rfl)) ?_
            refine zbn (fun _ _ => lv_icmp_ne (tgt := 69) hx hb dX9_wasIn_50 (by decide)) (fun c_5 => ?_) (fun c_5 => ?_)
            · refine zz (fun _ _ => lv_iconst (v := 0) hx hb dX9_wasIn_69 (by decide)) ?_
              refine zs (fun _ _ => lv_istore (lv' := [(5, .int (0)), (0, .ref (r)), (1, .int (a_)), (2, .int (b_)), (3, .int (c_)), (4, .int (d_)), (6, .int (nI j))]) hx hb dX9_wasIn_70 hl (by decide) rfl) (fun ls hl => ?_)
              refine zs (fun _ _ => lv_iinc (v := nI j + 1) (lv' := [(6, .int (nI j + 1)), (5, .int (0)), (0, .ref (r)), (1, .int (a_)), (2, .int (b_)), (3, .int (c_)), (4, .int (d_))]) hx hb dX9_wasIn_72 hl (k := 6) rfl rfl (by decide) rfl) (fun ls hl => ?_)
              refine zz (fun _ _ => lv_goto (tgt := 6) hx hb dX9_wasIn_75 (by decide)) ?_
              have hI := ih (j + 1) (by omega)
              simp only [stX9_wasIn_6, if_neg c_1, if_pos c_2, if_pos c_3, if_pos c_4, if_neg c_5] at hI
              have hl := lv_sub hl [2, 3, 4, 5, 6, 1, 0] rfl
              simp only [nI_1] at hl
              exact hI _ _ hl K
            · refine zz (fun _ _ => lv_aload_n hx hb dX9_wasIn_53 rfl (lv_at hl 0 rfl)) ?_
              refine z_get (v := .ref (r + 27)) C fd_X9_89 rm_0 rfl dX9_wasIn_54 ?_
              refine zz (fun _ _ => lv_iload hx hb dX9_wasIn_57 (lv_at hl 6 rfl)) ?_
              refine z_iald (f := A 27) C rm_27 (in_nI (j := j) rfl (by omega) (by decide)) dX9_wasIn_59 ?_
              refine zz (fun _ _ => lv_iload hx hb dX9_wasIn_60 (lv_at hl 4 rfl)) ?_
              refine zbn (fun _ _ => lv_icmp_ne (tgt := 69) hx hb dX9_wasIn_62 (by decide)) (fun c_6 => ?_) (fun c_6 => ?_)
              · refine zz (fun _ _ => lv_iconst (v := 0) hx hb dX9_wasIn_69 (by decide)) ?_
                refine zs (fun _ _ => lv_istore (lv' := [(5, .int (0)), (0, .ref (r)), (1, .int (a_)), (2, .int (b_)), (3, .int (c_)), (4, .int (d_)), (6, .int (nI j))]) hx hb dX9_wasIn_70 hl (by decide) rfl) (fun ls hl => ?_)
                refine zs (fun _ _ => lv_iinc (v := nI j + 1) (lv' := [(6, .int (nI j + 1)), (5, .int (0)), (0, .ref (r)), (1, .int (a_)), (2, .int (b_)), (3, .int (c_)), (4, .int (d_))]) hx hb dX9_wasIn_72 hl (k := 6) rfl rfl (by decide) rfl) (fun ls hl => ?_)
                refine zz (fun _ _ => lv_goto (tgt := 6) hx hb dX9_wasIn_75 (by decide)) ?_
                have hI := ih (j + 1) (by omega)
                simp only [stX9_wasIn_6, if_neg c_1, if_pos c_2, if_pos c_3, if_pos c_4, if_pos c_5, if_neg c_6] at hI
                have hl := lv_sub hl [2, 3, 4, 5, 6, 1, 0] rfl
                simp only [nI_1] at hl
                exact hI _ _ hl K
              · refine zz (fun _ _ => lv_iconst (v := 1) hx hb dX9_wasIn_65 (by decide)) ?_
                refine zz (fun _ _ => lv_goto (tgt := 70) hx hb dX9_wasIn_66 (by decide)) ?_
                refine zs (fun _ _ => lv_istore (lv' := [(5, .int (1)), (0, .ref (r)), (1, .int (a_)), (2, .int (b_)), (3, .int (c_)), (4, .int (d_)), (6, .int (nI j))]) hx hb dX9_wasIn_70 hl (by decide) rfl) (fun ls hl => ?_)
                refine zs (fun _ _ => lv_iinc (v := nI j + 1) (lv' := [(6, .int (nI j + 1)), (5, .int (1)), (0, .ref (r)), (1, .int (a_)), (2, .int (b_)), (3, .int (c_)), (4, .int (d_))]) hx hb dX9_wasIn_72 hl (k := 6) rfl rfl (by decide) rfl) (fun ls hl => ?_)
                refine zz (fun _ _ => lv_goto (tgt := 6) hx hb dX9_wasIn_75 (by decide)) ?_
                have hI := ih (j + 1) (by omega)
                simp only [stX9_wasIn_6, if_neg c_1, if_pos c_2, if_pos c_3, if_pos c_4, if_pos c_5, if_pos c_6] at hI
                have hl := lv_sub hl [2, 3, 4, 5, 6, 1, 0] rfl
                simp only [nI_1] at hl
                exact hI _ _ hl K
theorem wasIn_b (A : Nat → Nat → Int32) (a_ b_ c_ d_ : Int32) : ∀ n, stX9_wasIn_6 A a_ b_ c_ d_ 0 n = 0 ∨ stX9_wasIn_6 A a_ b_ c_ d_ 0 n = 1 := by
  intro n
  cases n with
  | zero => exact Or.inl rfl
  | succ n =>
    simp only [stX9_wasIn_6]
    repeat' split
    all_goals first | exact Or.inl rfl | exact Or.inr rfl
def fX9_wasIn (v : Nat → Int32) (A : Nat → Nat → Int32) (a_ : Int32) (b_ : Int32) (c_ : Int32) (d_ : Int32) : Int32 := ((stX9_wasIn_6 A a_ b_ c_ d_ 0 (Int32.toNatClampNeg (v 27))))
set_option maxHeartbeats 1000000 in
set_option maxRecDepth 10000 in
theorem ctX9_wasIn {l : Launch} {D : va_G} {aC : Nat → ClassId} {b0 sz : Nat} {r : Nat} {v : Nat → Int32} {A : Nat → Nat → Int32} {R : ZM} {a_ : Int32} {b_ : Int32} {c_ : Int32} {d_ : Int32} {n_ : Nat} (hs : v 27 = nI n_) (hn : n_ ≤ 120) : Ct l D aC b0 yX9_wasIn cX9_wasIn 7 (some .boolean) 0 0 0 [.ref (r), .int (a_), .int (b_), .int (c_), .int (d_)] (mm aC r v A R) sz (zd (some (.int (fX9_wasIn v A a_ b_ c_ d_))) (mm aC r v A R)) := by
  refine Ct.of (by decide) (Nat.le_of_ble_eq_true rfl) ?_
  intro p e s m below meth c ls C hr hlk hnm hl
  have hl : lv_has ls 7 [(0, .ref (r)), (1, .int (a_)), (2, .int (b_)), (3, .int (c_)), (4, .int (d_))] := hl
  obtain ⟨hx, hb, -, -, -⟩ := id C
  refine zz (fun _ _ => lv_iconst (v := 0) hx hb dX9_wasIn_0 (by decide)) ?_
  refine zs (fun _ _ => lv_istore (lv' := [(5, .int (0)), (0, .ref (r)), (1, .int (a_)), (2, .int (b_)), (3, .int (c_)), (4, .int (d_))]) hx hb dX9_wasIn_1 hl (by decide) rfl) (fun ls hl => ?_)
  refine zz (fun _ _ => lv_iconst (v := 0) hx hb dX9_wasIn_3 (by decide)) ?_
  refine zs (fun _ _ => lv_istore (lv' := [(6, .int (0)), (5, .int (0)), (0, .ref (r)), (1, .int (a_)), (2, .int (b_)), (3, .int (c_)), (4, .int (d_))]) hx hb dX9_wasIn_4 hl (by decide) rfl) (fun ls hl => ?_)
  refine lpX9_wasIn_6 (v := v) (A := A) (N_ := (Int32.toNatClampNeg (v 27))) C (nI_sn hs hn (by decide)) (nI_sle hs hn (by decide)) (Nat.lt_of_le_of_lt (nI_sle hs hn (by decide)) (by decide)) (Int32.toNatClampNeg (v 27)) 0 (Nat.zero_add _) _ _ (lv_sub hl [2, 3, 4, 5, 6, 1, 0] rfl) (fun sz ls hl => ?_)
  refine zz (fun _ _ => lv_iload hx hb dX9_wasIn_78 (lv_at hl 5 rfl)) ?_
  exact z_zret C hr (bz (wasIn_b A a_ b_ c_ d_ _)) hlk dX9_wasIn_80 (by simp only [zd, fX9_wasIn, and_self])
def stX9_keep_18 (A : Nat → Nat → Int32) (i1_ : (Nat → Int32)) (i2_ : (Nat → Int32)) (i3_ : (Nat → Int32)) (i4_ : (Nat → Int32)) : Nat → (Nat → Int32) × (Nat → Int32) × (Nat → Int32) × (Nat → Int32)
  | 0 => (i1_, i2_, i3_, i4_)
  | j + 1 => ((upd ((stX9_keep_18 A i1_ i2_ i3_ i4_ j).1) (Int32.toNatClampNeg (nI j)) (A 19 (Int32.toNatClampNeg (nI j)))), (upd ((stX9_keep_18 A i1_ i2_ i3_ i4_ j).2.1) (Int32.toNatClampNeg (nI j)) (A 20 (Int32.toNatClampNeg (nI j)))), (upd ((stX9_keep_18 A i1_ i2_ i3_ i4_ j).2.2.1) (Int32.toNatClampNeg (nI j)) (A 21 (Int32.toNatClampNeg (nI j)))), (upd ((stX9_keep_18 A i1_ i2_ i3_ i4_ j).2.2.2) (Int32.toNatClampNeg (nI j)) (A 22 (Int32.toNatClampNeg (nI j)))))
set_option maxHeartbeats 2000000 in
set_option maxRecDepth 10000 in
theorem lpX9_keep_18 {p : Program} {l : Launch} {e : Env} {Rm : Room} {s : State} {m : MethodId} {args : Array Value} {below : List Frame} {meth : Method} {c : Code} {D : va_G} {aC : Nat → ClassId} {b0 cells slots : Nat} {Q : State → Prop} {r : Nat} {v : Nat → Int32} {A : Nat → Nat → Int32} {R : ZM} {i1_ : (Nat → Int32)} {i2_ : (Nat → Int32)} {i3_ : (Nat → Int32)} {i4_ : (Nat → Int32)} {N_ : Nat} (C : zC p l s m c D aC b0 RX9 cX9_keep 2) (hNb : v 20 = nI N_) (hN2 : N_ ≤ 120) (hNl : N_ < 2 ^ 31) :
    ∀ (d j : Nat), j + d = N_ → ∀ (sz : Nat) (ls : Array Slot), lv_has ls 2 [(0, .ref (r)), (1, .int (nI j))] → (∀ (sz : Nat) (ls : Array Slot), lv_has ls 2 [(0, .ref (r)), (1, .int (nI N_))] → Z p l e Rm s m args below meth c D b0 (mm aC r v (u1 (u1 (u1 (u1 A 24 (stX9_keep_18 A i1_ i2_ i3_ i4_ N_).1) 25 (stX9_keep_18 A i1_ i2_ i3_ i4_ N_).2.1) 26 (stX9_keep_18 A i1_ i2_ i3_ i4_ N_).2.2.1) 27 (stX9_keep_18 A i1_ i2_ i3_ i4_ N_).2.2.2) R) sz cells slots Q (F0 m 80 ls [])) → Z p l e Rm s m args below meth c D b0 (mm aC r v (u1 (u1 (u1 (u1 A 24 (stX9_keep_18 A i1_ i2_ i3_ i4_ j).1) 25 (stX9_keep_18 A i1_ i2_ i3_ i4_ j).2.1) 26 (stX9_keep_18 A i1_ i2_ i3_ i4_ j).2.2.1) 27 (stX9_keep_18 A i1_ i2_ i3_ i4_ j).2.2.2) R) sz cells slots Q (F0 m 18 ls []) := by
  obtain ⟨hx, hb, -, -, -⟩ := id C
  intro d
  induction d with
  | zero =>
    intro j hj0 sz ls hl K
    refine zz (fun _ _ => lv_iload_n hx hb dX9_keep_18 rfl (lv_at hl 1 rfl)) ?_
    refine zz (fun _ _ => lv_aload_n hx hb dX9_keep_19 rfl (lv_at hl 0 rfl)) ?_
    refine z_get (v := .int (v 20)) C fd_X9_160 rm_0 rfl dX9_keep_20 ?_
    refine zb (fun _ _ => lv_icmp_ge (tgt := 80) hx hb dX9_keep_23 (by decide)) (fun c_1 => ?_) (fun c_1 => ?_)
    · obtain rfl := fl_eq (j := j) (N := N_) hNb (by omega) hNl c_1
      exact K _ _ (lv_sub hl [0, 1] rfl)
    · exact absurd (fl_lt (j := j) (N := N_) hNb (by omega) hNl c_1) (by omega)
  | succ d ih =>
    intro j hj0 sz ls hl K
    refine zz (fun _ _ => lv_iload_n hx hb dX9_keep_18 rfl (lv_at hl 1 rfl)) ?_
    refine zz (fun _ _ => lv_aload_n hx hb dX9_keep_19 rfl (lv_at hl 0 rfl)) ?_
    refine z_get (v := .int (v 20)) C fd_X9_160 rm_0 rfl dX9_keep_20 ?_
    refine zb (fun _ _ => lv_icmp_ge (tgt := 80) hx hb dX9_keep_23 (by decide)) (fun c_1 => ?_) (fun c_1 => ?_)
    · obtain rfl := fl_eq (j := j) (N := N_) hNb (by omega) hNl c_1
      exact K _ _ (lv_sub hl [0, 1] rfl)
    · have hj9 : j < N_ := fl_lt hNb (by omega) hNl c_1
      refine zz (fun _ _ => lv_aload_n hx hb dX9_keep_26 rfl (lv_at hl 0 rfl)) ?_
      refine z_get (v := .ref (r + 24)) C fd_X9_80 rm_0 rfl dX9_keep_27 ?_
      refine zz (fun _ _ => lv_iload_n hx hb dX9_keep_30 rfl (lv_at hl 1 rfl)) ?_
      refine zz (fun _ _ => lv_aload_n hx hb dX9_keep_31 rfl (lv_at hl 0 rfl)) ?_
      refine z_get (v := .ref (r + 19)) C fd_X9_65 rm_0 rfl dX9_keep_32 ?_
      refine zz (fun _ _ => lv_iload_n hx hb dX9_keep_35 rfl (lv_at hl 1 rfl)) ?_
      refine z_iald (f := A 19) C rm_19 (in_nI (j := j) rfl (by omega) (by decide)) dX9_keep_36 ?_
      refine z_iast (f := (stX9_keep_18 A i1_ i2_ i3_ i4_ j).1) C rm_24 (in_nI (j := j) rfl (by omega) (by decide)) dX9_keep_37 ?_
      refine zeq wm_24 ?_
      refine zeq (M' := (mm aC r v (u1 (u1 (u1 (u1 A 24 (upd ((stX9_keep_18 A i1_ i2_ i3_ i4_ j).1) (Int32.toNatClampNeg (nI j)) (A 19 (Int32.toNatClampNeg (nI j))))) 25 ((stX9_keep_18 A i1_ i2_ i3_ i4_ j).2.1)) 26 ((stX9_keep_18 A i1_ i2_ i3_ i4_ j).2.2.1)) 27 ((stX9_keep_18 A i1_ i2_ i3_ i4_ j).2.2.2)) R)) (by rw [u1_sw (k := 27) (j := 24) (by decide), u1_sw (k := 26) (j := 24) (by decide), u1_sw (k := 25) (j := 24) (by decide), u1_u1]) ?_
      refine zz (fun _ _ => lv_aload_n hx hb dX9_keep_38 rfl (lv_at hl 0 rfl)) ?_
      refine z_get (v := .ref (r + 25)) C fd_X9_83 rm_0 rfl dX9_keep_39 ?_
      refine zz (fun _ _ => lv_iload_n hx hb dX9_keep_42 rfl (lv_at hl 1 rfl)) ?_
      refine zz (fun _ _ => lv_aload_n hx hb dX9_keep_43 rfl (lv_at hl 0 rfl)) ?_
      refine z_get (v := .ref (r + 20)) C fd_X9_68 rm_0 rfl dX9_keep_44 ?_
      refine zz (fun _ _ => lv_iload_n hx hb dX9_keep_47 rfl (lv_at hl 1 rfl)) ?_
      refine z_iald (f := A 20) C rm_20 (in_nI (j := j) rfl (by omega) (by decide)) dX9_keep_48 ?_
      refine z_iast (f := (stX9_keep_18 A i1_ i2_ i3_ i4_ j).2.1) C rm_25 (in_nI (j := j) rfl (by omega) (by decide)) dX9_keep_49 ?_
      refine zeq wm_25 ?_
      refine zeq (M' := (mm aC r v (u1 (u1 (u1 (u1 A 24 (upd ((stX9_keep_18 A i1_ i2_ i3_ i4_ j).1) (Int32.toNatClampNeg (nI j)) (A 19 (Int32.toNatClampNeg (nI j))))) 25 (upd ((stX9_keep_18 A i1_ i2_ i3_ i4_ j).2.1) (Int32.toNatClampNeg (nI j)) (A 20 (Int32.toNatClampNeg (nI j))))) 26 ((stX9_keep_18 A i1_ i2_ i3_ i4_ j).2.2.1)) 27 ((stX9_keep_18 A i1_ i2_ i3_ i4_ j).2.2.2)) R)) (by rw [u1_sw (k := 27) (j := 25) (by decide), u1_sw (k := 26) (j := 25) (by decide), u1_u1]) ?_
      refine zz (fun _ _ => lv_aload_n hx hb dX9_keep_50 rfl (lv_at hl 0 rfl)) ?_
      refine z_get (v := .ref (r + 26)) C fd_X9_86 rm_0 rfl dX9_keep_51 ?_
      refine zz (fun _ _ => lv_iload_n hx hb dX9_keep_54 rfl (lv_at hl 1 rfl)) ?_
      refine zz (fun _ _ => lv_aload_n hx hb dX9_keep_55 rfl (lv_at hl 0 rfl)) ?_
      refine z_get (v := .ref (r + 21)) C fd_X9_71 rm_0 rfl dX9_keep_56 ?_
      refine zz (fun _ _ => lv_iload_n hx hb dX9_keep_59 rfl (lv_at hl 1 rfl)) ?_
      refine z_iald (f := A 21) C rm_21 (in_nI (j := j) rfl (by omega) (by decide)) dX9_keep_60 ?_
      refine z_iast (f := (stX9_keep_18 A i1_ i2_ i3_ i4_ j).2.2.1) C rm_26 (in_nI (j := j) rfl (by omega) (by decide)) dX9_keep_61 ?_
      refine zeq wm_26 ?_
      refine zeq (M' := (mm aC r v (u1 (u1 (u1 (u1 A 24 (upd ((stX9_keep_18 A i1_ i2_ i3_ i4_ j).1) (Int32.toNatClampNeg (nI j)) (A 19 (Int32.toNatClampNeg (nI j))))) 25 (upd ((stX9_keep_18 A i1_ i2_ i3_ i4_ j).2.1) (Int32.toNatClampNeg (nI j)) (A 20 (Int32.toNatClampNeg (nI j))))) 26 (upd ((stX9_keep_18 A i1_ i2_ i3_ i4_ j).2.2.1) (Int32.toNatClampNeg (nI j)) (A 21 (Int32.toNatClampNeg (nI j))))) 27 ((stX9_keep_18 A i1_ i2_ i3_ i4_ j).2.2.2)) R)) (by rw [u1_sw (k := 27) (j := 26) (by decide), u1_u1]) ?_
      refine zz (fun _ _ => lv_aload_n hx hb dX9_keep_62 rfl (lv_at hl 0 rfl)) ?_
      refine z_get (v := .ref (r + 27)) C fd_X9_89 rm_0 rfl dX9_keep_63 ?_
      refine zz (fun _ _ => lv_iload_n hx hb dX9_keep_66 rfl (lv_at hl 1 rfl)) ?_
      refine zz (fun _ _ => lv_aload_n hx hb dX9_keep_67 rfl (lv_at hl 0 rfl)) ?_
      refine z_get (v := .ref (r + 22)) C fd_X9_74 rm_0 rfl dX9_keep_68 ?_
      refine zz (fun _ _ => lv_iload_n hx hb dX9_keep_71 rfl (lv_at hl 1 rfl)) ?_
      refine z_iald (f := A 22) C rm_22 (in_nI (j := j) rfl (by omega) (by decide)) dX9_keep_72 ?_
      refine z_iast (f := (stX9_keep_18 A i1_ i2_ i3_ i4_ j).2.2.2) C rm_27 (in_nI (j := j) rfl (by omega) (by decide)) dX9_keep_73 ?_
      refine zeq wm_27 ?_
      refine zeq (M' := (mm aC r v (u1 (u1 (u1 (u1 A 24 (upd ((stX9_keep_18 A i1_ i2_ i3_ i4_ j).1) (Int32.toNatClampNeg (nI j)) (A 19 (Int32.toNatClampNeg (nI j))))) 25 (upd ((stX9_keep_18 A i1_ i2_ i3_ i4_ j).2.1) (Int32.toNatClampNeg (nI j)) (A 20 (Int32.toNatClampNeg (nI j))))) 26 (upd ((stX9_keep_18 A i1_ i2_ i3_ i4_ j).2.2.1) (Int32.toNatClampNeg (nI j)) (A 21 (Int32.toNatClampNeg (nI j))))) 27 (upd ((stX9_keep_18 A i1_ i2_ i3_ i4_ j).2.2.2) (Int32.toNatClampNeg (nI j)) (A 22 (Int32.toNatClampNeg (nI j))))) R)) (by rw [u1_u1]) ?_
      refine zs (fun _ _ => lv_iinc (v := nI j + 1) (lv' := [(1, .int (nI j + 1)), (0, .ref (r))]) hx hb dX9_keep_74 hl (k := 1) rfl rfl (by decide) rfl) (fun ls hl => ?_)
      refine zz (fun _ _ => lv_goto (tgt := 18) hx hb dX9_keep_77 (by decide)) ?_
      have hI := ih (j + 1) (by omega)
      simp only [stX9_keep_18, if_neg c_1] at hI
      have hl := lv_sub hl [1, 0] rfl
      simp only [nI_1] at hl
      exact hI _ _ hl K
def stX9_keep_82 (A : Nat → Nat → Int32) (i1_ : (Nat → Int32)) : Nat → (Nat → Int32)
  | 0 => (i1_)
  | j + 1 => ((upd ((stX9_keep_82 A i1_ j)) (Int32.toNatClampNeg (nI j)) (A 23 (Int32.toNatClampNeg (nI j)))))
set_option maxHeartbeats 2000000 in
set_option maxRecDepth 10000 in
theorem lpX9_keep_82 {p : Program} {l : Launch} {e : Env} {Rm : Room} {s : State} {m : MethodId} {args : Array Value} {below : List Frame} {meth : Method} {c : Code} {D : va_G} {aC : Nat → ClassId} {b0 cells slots : Nat} {Q : State → Prop} {r : Nat} {v : Nat → Int32} {A : Nat → Nat → Int32} {R : ZM} {i1_ : (Nat → Int32)} {N_ : Nat} (C : zC p l s m c D aC b0 RX9 cX9_keep 2) (hz : ∀ j, j < 7 → A 23 j = 0 ∨ A 23 j = 1) (hNb : (7 : Int32) = nI N_) (hN2 : N_ ≤ 7) (hNl : N_ < 2 ^ 31) :
    ∀ (d j : Nat), j + d = N_ → ∀ (sz : Nat) (ls : Array Slot), lv_has ls 2 [(0, .ref (r)), (1, .int (nI j))] → (∀ (sz : Nat) (ls : Array Slot), lv_has ls 2 [(0, .ref (r)), (1, .int (nI N_))] → Z p l e Rm s m args below meth c D b0 (mm aC r v (u1 A 28 (stX9_keep_82 A i1_ N_)) R) sz cells slots Q (F0 m 106 ls [])) → Z p l e Rm s m args below meth c D b0 (mm aC r v (u1 A 28 (stX9_keep_82 A i1_ j)) R) sz cells slots Q (F0 m 82 ls []) := by
  obtain ⟨hx, hb, -, -, -⟩ := id C
  intro d
  induction d with
  | zero =>
    intro j hj0 sz ls hl K
    refine zz (fun _ _ => lv_iload_n hx hb dX9_keep_82 rfl (lv_at hl 1 rfl)) ?_
    refine zz (fun _ _ => lv_bipush (v := 7) hx hb dX9_keep_83 (by decide)) ?_
    refine zb (fun _ _ => lv_icmp_ge (tgt := 106) hx hb dX9_keep_85 (by decide)) (fun c_1 => ?_) (fun c_1 => ?_)
    · obtain rfl := fl_eq (j := j) (N := N_) hNb (by omega) hNl c_1
      exact K _ _ (lv_sub hl [0, 1] rfl)
    · exact absurd (fl_lt (j := j) (N := N_) hNb (by omega) hNl c_1) (by omega)
  | succ d ih =>
    intro j hj0 sz ls hl K
    refine zz (fun _ _ => lv_iload_n hx hb dX9_keep_82 rfl (lv_at hl 1 rfl)) ?_
    refine zz (fun _ _ => lv_bipush (v := 7) hx hb dX9_keep_83 (by decide)) ?_
    refine zb (fun _ _ => lv_icmp_ge (tgt := 106) hx hb dX9_keep_85 (by decide)) (fun c_1 => ?_) (fun c_1 => ?_)
    · obtain rfl := fl_eq (j := j) (N := N_) hNb (by omega) hNl c_1
      exact K _ _ (lv_sub hl [0, 1] rfl)
    · have hj9 : j < N_ := fl_lt hNb (by omega) hNl c_1
      refine zz (fun _ _ => lv_aload_n hx hb dX9_keep_88 rfl (lv_at hl 0 rfl)) ?_
      refine z_get (v := .ref (r + 28)) C fd_X9_92 rm_0 rfl dX9_keep_89 ?_
      refine zz (fun _ _ => lv_iload_n hx hb dX9_keep_92 rfl (lv_at hl 1 rfl)) ?_
      refine zz (fun _ _ => lv_aload_n hx hb dX9_keep_93 rfl (lv_at hl 0 rfl)) ?_
      refine z_get (v := .ref (r + 23)) C fd_X9_77 rm_0 rfl dX9_keep_94 ?_
      refine zz (fun _ _ => lv_iload_n hx hb dX9_keep_97 rfl (lv_at hl 1 rfl)) ?_
      refine z_zald (f := A 23) C rm_23 (in_nI (j := j) rfl (by omega) (by decide)) dX9_keep_98 ?_
      refine z_zast (f := (stX9_keep_82 A i1_ j)) C rm_28 (in_nI (j := j) rfl (by omega) (by decide)) (bz (hz _ (by rw [nI_clamp (by omega)]; omega))) dX9_keep_99 ?_
      refine zeq wm_28 ?_
      refine zeq (M' := (mm aC r v (u1 A 28 (upd ((stX9_keep_82 A i1_ j)) (Int32.toNatClampNeg (nI j)) (A 23 (Int32.toNatClampNeg (nI j))))) R)) (by rw [u1_u1]) ?_
      refine zs (fun _ _ => lv_iinc (v := nI j + 1) (lv' := [(1, .int (nI j + 1)), (0, .ref (r))]) hx hb dX9_keep_100 hl (k := 1) rfl rfl (by decide) rfl) (fun ls hl => ?_)
      refine zz (fun _ _ => lv_goto (tgt := 82) hx hb dX9_keep_103 (by decide)) ?_
      have hI := ih (j + 1) (by omega)
      simp only [stX9_keep_82, if_neg c_1] at hI
      have hl := lv_sub hl [1, 0] rfl
      simp only [nI_1] at hl
      exact hI _ _ hl K
def fX9_keep (v : Nat → Int32) (A : Nat → Nat → Int32) : (Nat → Int32) × (Nat → Nat → Int32) := ((upd (upd v 27 (v 20)) 33 (v 26)), (u1 (u1 (u1 (u1 (u1 A 24 ((stX9_keep_18 A (A 24) (A 25) (A 26) (A 27) (Int32.toNatClampNeg (v 20))).1)) 25 ((stX9_keep_18 A (A 24) (A 25) (A 26) (A 27) (Int32.toNatClampNeg (v 20))).2.1)) 26 ((stX9_keep_18 A (A 24) (A 25) (A 26) (A 27) (Int32.toNatClampNeg (v 20))).2.2.1)) 27 ((stX9_keep_18 A (A 24) (A 25) (A 26) (A 27) (Int32.toNatClampNeg (v 20))).2.2.2)) 28 (stX9_keep_82 (u1 (u1 (u1 (u1 A 24 ((stX9_keep_18 A (A 24) (A 25) (A 26) (A 27) (Int32.toNatClampNeg (v 20))).1)) 25 ((stX9_keep_18 A (A 24) (A 25) (A 26) (A 27) (Int32.toNatClampNeg (v 20))).2.1)) 26 ((stX9_keep_18 A (A 24) (A 25) (A 26) (A 27) (Int32.toNatClampNeg (v 20))).2.2.1)) 27 ((stX9_keep_18 A (A 24) (A 25) (A 26) (A 27) (Int32.toNatClampNeg (v 20))).2.2.2)) (A 28) 7)))
set_option maxHeartbeats 1000000 in
set_option maxRecDepth 10000 in
theorem ctX9_keep {l : Launch} {D : va_G} {aC : Nat → ClassId} {b0 sz : Nat} {r : Nat} {v : Nat → Int32} {A : Nat → Nat → Int32} {R : ZM} {n_ : Nat} (hs : v 20 = nI n_) (hn : n_ ≤ 120) (hz : ∀ j, j < 7 → A 23 j = 0 ∨ A 23 j = 1) : Ct l D aC b0 yX9_keep cX9_keep 2 none 0 0 0 [.ref (r)] (mm aC r v A R) sz (zd none (mm aC r (fX9_keep v A).1 (fX9_keep v A).2 R)) := by
  refine Ct.of (by decide) (Nat.le_of_ble_eq_true rfl) ?_
  intro p e s m below meth c ls C hr hlk hnm hl
  have hl : lv_has ls 2 [(0, .ref (r))] := hl
  obtain ⟨hx, hb, -, -, -⟩ := id C
  refine zz (fun _ _ => lv_aload_n hx hb dX9_keep_0 rfl (lv_at hl 0 rfl)) ?_
  refine zz (fun _ _ => lv_aload_n hx hb dX9_keep_1 rfl (lv_at hl 0 rfl)) ?_
  refine z_get (v := .int (v 20)) C fd_X9_160 rm_0 rfl dX9_keep_2 ?_
  refine z_put C fp_X9_244 (fun h => by cases h) rm_0 (Nat.le_of_ble_eq_true rfl) rfl rfl dX9_keep_5 ?_
  refine zeq wm_f27 ?_
  refine zz (fun _ _ => lv_aload_n hx hb dX9_keep_8 rfl (lv_at hl 0 rfl)) ?_
  refine zz (fun _ _ => lv_aload_n hx hb dX9_keep_9 rfl (lv_at hl 0 rfl)) ?_
  refine z_get (v := .int (v 26)) C fd_X9_199 rm_0 rfl dX9_keep_10 ?_
  refine z_put C fp_X9_247 (fun h => by cases h) rm_0 (Nat.le_of_ble_eq_true rfl) rfl rfl dX9_keep_13 ?_
  refine zeq wm_f33 ?_
  refine zz (fun _ _ => lv_iconst (v := 0) hx hb dX9_keep_16 (by decide)) ?_
  refine zs (fun _ _ => lv_istore_n (lv' := [(1, .int (0)), (0, .ref (r))]) hx hb dX9_keep_17 rfl hl (by decide) rfl) (fun ls hl => ?_)
  refine zeq (M' := (mm aC r (upd (upd v 27 (v 20)) 33 (v 26)) (u1 (u1 (u1 (u1 A 24 (A 24)) 25 (A 25)) 26 (A 26)) 27 (A 27)) R)) (by rw [u1_id2 (A := (u1 (u1 (u1 A 24 (A 24)) 25 (A 25)) 26 (A 26))) (k := 27) (g := A 27) rfl, u1_id2 (A := (u1 (u1 A 24 (A 24)) 25 (A 25))) (k := 26) (g := A 26) rfl, u1_id2 (A := (u1 A 24 (A 24))) (k := 25) (g := A 25) rfl, u1_id2 (A := A) (k := 24) (g := A 24) rfl]) ?_
  refine lpX9_keep_18 (v := (upd (upd v 27 (v 20)) 33 (v 26))) (A := A) (N_ := (Int32.toNatClampNeg (v 20))) C (nI_sn hs hn (by decide)) (nI_sle hs hn (by decide)) (Nat.lt_of_le_of_lt (nI_sle hs hn (by decide)) (by decide)) (Int32.toNatClampNeg (v 20)) 0 (Nat.zero_add _) _ _ (lv_sub hl [1, 0] rfl) (fun sz ls hl => ?_)
  refine zz (fun _ _ => lv_iconst (v := 0) hx hb dX9_keep_80 (by decide)) ?_
  refine zs (fun _ _ => lv_istore_n (lv' := [(1, .int (0)), (0, .ref (r))]) hx hb dX9_keep_81 rfl hl (by decide) rfl) (fun ls hl => ?_)
  refine zeq (M' := (mm aC r (upd (upd v 27 (v 20)) 33 (v 26)) (u1 (u1 (u1 (u1 (u1 A 24 ((stX9_keep_18 A (A 24) (A 25) (A 26) (A 27) (Int32.toNatClampNeg (v 20))).1)) 25 ((stX9_keep_18 A (A 24) (A 25) (A 26) (A 27) (Int32.toNatClampNeg (v 20))).2.1)) 26 ((stX9_keep_18 A (A 24) (A 25) (A 26) (A 27) (Int32.toNatClampNeg (v 20))).2.2.1)) 27 ((stX9_keep_18 A (A 24) (A 25) (A 26) (A 27) (Int32.toNatClampNeg (v 20))).2.2.2)) 28 (A 28)) R)) (by rw [u1_id2 (A := (u1 (u1 (u1 (u1 A 24 ((stX9_keep_18 A (A 24) (A 25) (A 26) (A 27) (Int32.toNatClampNeg (v 20))).1)) 25 ((stX9_keep_18 A (A 24) (A 25) (A 26) (A 27) (Int32.toNatClampNeg (v 20))).2.1)) 26 ((stX9_keep_18 A (A 24) (A 25) (A 26) (A 27) (Int32.toNatClampNeg (v 20))).2.2.1)) 27 ((stX9_keep_18 A (A 24) (A 25) (A 26) (A 27) (Int32.toNatClampNeg (v 20))).2.2.2))) (k := 28) (g := A 28) rfl]) ?_
  refine lpX9_keep_82 (v := (upd (upd v 27 (v 20)) 33 (v 26))) (A := (u1 (u1 (u1 (u1 A 24 ((stX9_keep_18 A (A 24) (A 25) (A 26) (A 27) (Int32.toNatClampNeg (v 20))).1)) 25 ((stX9_keep_18 A (A 24) (A 25) (A 26) (A 27) (Int32.toNatClampNeg (v 20))).2.1)) 26 ((stX9_keep_18 A (A 24) (A 25) (A 26) (A 27) (Int32.toNatClampNeg (v 20))).2.2.1)) 27 ((stX9_keep_18 A (A 24) (A 25) (A 26) (A 27) (Int32.toNatClampNeg (v 20))).2.2.2))) (N_ := 7) C hz rfl (by decide) (by decide) 7 0 (Nat.zero_add _) _ _ (lv_sub hl [1, 0] rfl) (fun sz ls hl => ?_)
  exact z_vret C hr hlk dX9_keep_106 (by simp only [zd, fX9_keep, and_self])
def stX9_goBack_18 (A : Nat → Nat → Int32) (i1_ : (Nat → Int32)) (i2_ : (Nat → Int32)) (i3_ : (Nat → Int32)) (i4_ : (Nat → Int32)) : Nat → (Nat → Int32) × (Nat → Int32) × (Nat → Int32) × (Nat → Int32)
  | 0 => (i1_, i2_, i3_, i4_)
  | j + 1 => ((upd ((stX9_goBack_18 A i1_ i2_ i3_ i4_ j).1) (Int32.toNatClampNeg (nI j)) (A 24 (Int32.toNatClampNeg (nI j)))), (upd ((stX9_goBack_18 A i1_ i2_ i3_ i4_ j).2.1) (Int32.toNatClampNeg (nI j)) (A 25 (Int32.toNatClampNeg (nI j)))), (upd ((stX9_goBack_18 A i1_ i2_ i3_ i4_ j).2.2.1) (Int32.toNatClampNeg (nI j)) (A 26 (Int32.toNatClampNeg (nI j)))), (upd ((stX9_goBack_18 A i1_ i2_ i3_ i4_ j).2.2.2) (Int32.toNatClampNeg (nI j)) (A 27 (Int32.toNatClampNeg (nI j)))))
set_option maxHeartbeats 2000000 in
set_option maxRecDepth 10000 in
theorem lpX9_goBack_18 {p : Program} {l : Launch} {e : Env} {Rm : Room} {s : State} {m : MethodId} {args : Array Value} {below : List Frame} {meth : Method} {c : Code} {D : va_G} {aC : Nat → ClassId} {b0 cells slots : Nat} {Q : State → Prop} {r : Nat} {v : Nat → Int32} {A : Nat → Nat → Int32} {R : ZM} {i1_ : (Nat → Int32)} {i2_ : (Nat → Int32)} {i3_ : (Nat → Int32)} {i4_ : (Nat → Int32)} {N_ : Nat} (C : zC p l s m c D aC b0 RX9 cX9_goBack 2) (hNb : v 20 = nI N_) (hN2 : N_ ≤ 120) (hNl : N_ < 2 ^ 31) :
    ∀ (d j : Nat), j + d = N_ → ∀ (sz : Nat) (ls : Array Slot), lv_has ls 2 [(0, .ref (r)), (1, .int (nI j))] → (∀ (sz : Nat) (ls : Array Slot), lv_has ls 2 [(0, .ref (r)), (1, .int (nI N_))] → Z p l e Rm s m args below meth c D b0 (mm aC r v (u1 (u1 (u1 (u1 A 19 (stX9_goBack_18 A i1_ i2_ i3_ i4_ N_).1) 20 (stX9_goBack_18 A i1_ i2_ i3_ i4_ N_).2.1) 21 (stX9_goBack_18 A i1_ i2_ i3_ i4_ N_).2.2.1) 22 (stX9_goBack_18 A i1_ i2_ i3_ i4_ N_).2.2.2) R) sz cells slots Q (F0 m 80 ls [])) → Z p l e Rm s m args below meth c D b0 (mm aC r v (u1 (u1 (u1 (u1 A 19 (stX9_goBack_18 A i1_ i2_ i3_ i4_ j).1) 20 (stX9_goBack_18 A i1_ i2_ i3_ i4_ j).2.1) 21 (stX9_goBack_18 A i1_ i2_ i3_ i4_ j).2.2.1) 22 (stX9_goBack_18 A i1_ i2_ i3_ i4_ j).2.2.2) R) sz cells slots Q (F0 m 18 ls []) := by
  obtain ⟨hx, hb, -, -, -⟩ := id C
  intro d
  induction d with
  | zero =>
    intro j hj0 sz ls hl K
    refine zz (fun _ _ => lv_iload_n hx hb dX9_goBack_18 rfl (lv_at hl 1 rfl)) ?_
    refine zz (fun _ _ => lv_aload_n hx hb dX9_goBack_19 rfl (lv_at hl 0 rfl)) ?_
    refine z_get (v := .int (v 20)) C fd_X9_160 rm_0 rfl dX9_goBack_20 ?_
    refine zb (fun _ _ => lv_icmp_ge (tgt := 80) hx hb dX9_goBack_23 (by decide)) (fun c_1 => ?_) (fun c_1 => ?_)
    · obtain rfl := fl_eq (j := j) (N := N_) hNb (by omega) hNl c_1
      exact K _ _ (lv_sub hl [0, 1] rfl)
    · exact absurd (fl_lt (j := j) (N := N_) hNb (by omega) hNl c_1) (by omega)
  | succ d ih =>
    intro j hj0 sz ls hl K
    refine zz (fun _ _ => lv_iload_n hx hb dX9_goBack_18 rfl (lv_at hl 1 rfl)) ?_
    refine zz (fun _ _ => lv_aload_n hx hb dX9_goBack_19 rfl (lv_at hl 0 rfl)) ?_
    refine z_get (v := .int (v 20)) C fd_X9_160 rm_0 rfl dX9_goBack_20 ?_
    refine zb (fun _ _ => lv_icmp_ge (tgt := 80) hx hb dX9_goBack_23 (by decide)) (fun c_1 => ?_) (fun c_1 => ?_)
    · obtain rfl := fl_eq (j := j) (N := N_) hNb (by omega) hNl c_1
      exact K _ _ (lv_sub hl [0, 1] rfl)
    · have hj9 : j < N_ := fl_lt hNb (by omega) hNl c_1
      refine zz (fun _ _ => lv_aload_n hx hb dX9_goBack_26 rfl (lv_at hl 0 rfl)) ?_
      refine z_get (v := .ref (r + 19)) C fd_X9_65 rm_0 rfl dX9_goBack_27 ?_
      refine zz (fun _ _ => lv_iload_n hx hb dX9_goBack_30 rfl (lv_at hl 1 rfl)) ?_
      refine zz (fun _ _ => lv_aload_n hx hb dX9_goBack_31 rfl (lv_at hl 0 rfl)) ?_
      refine z_get (v := .ref (r + 24)) C fd_X9_80 rm_0 rfl dX9_goBack_32 ?_
      refine zz (fun _ _ => lv_iload_n hx hb dX9_goBack_35 rfl (lv_at hl 1 rfl)) ?_
      refine z_iald (f := A 24) C rm_24 (in_nI (j := j) rfl (by omega) (by decide)) dX9_goBack_36 ?_
      refine z_iast (f := (stX9_goBack_18 A i1_ i2_ i3_ i4_ j).1) C rm_19 (in_nI (j := j) rfl (by omega) (by decide)) dX9_goBack_37 ?_
      refine zeq wm_19 ?_
      refine zeq (M' := (mm aC r v (u1 (u1 (u1 (u1 A 19 (upd ((stX9_goBack_18 A i1_ i2_ i3_ i4_ j).1) (Int32.toNatClampNeg (nI j)) (A 24 (Int32.toNatClampNeg (nI j))))) 20 ((stX9_goBack_18 A i1_ i2_ i3_ i4_ j).2.1)) 21 ((stX9_goBack_18 A i1_ i2_ i3_ i4_ j).2.2.1)) 22 ((stX9_goBack_18 A i1_ i2_ i3_ i4_ j).2.2.2)) R)) (by rw [u1_sw (k := 22) (j := 19) (by decide), u1_sw (k := 21) (j := 19) (by decide), u1_sw (k := 20) (j := 19) (by decide), u1_u1]) ?_
      refine zz (fun _ _ => lv_aload_n hx hb dX9_goBack_38 rfl (lv_at hl 0 rfl)) ?_
      refine z_get (v := .ref (r + 20)) C fd_X9_68 rm_0 rfl dX9_goBack_39 ?_
      refine zz (fun _ _ => lv_iload_n hx hb dX9_goBack_42 rfl (lv_at hl 1 rfl)) ?_
      refine zz (fun _ _ => lv_aload_n hx hb dX9_goBack_43 rfl (lv_at hl 0 rfl)) ?_
      refine z_get (v := .ref (r + 25)) C fd_X9_83 rm_0 rfl dX9_goBack_44 ?_
      refine zz (fun _ _ => lv_iload_n hx hb dX9_goBack_47 rfl (lv_at hl 1 rfl)) ?_
      refine z_iald (f := A 25) C rm_25 (in_nI (j := j) rfl (by omega) (by decide)) dX9_goBack_48 ?_
      refine z_iast (f := (stX9_goBack_18 A i1_ i2_ i3_ i4_ j).2.1) C rm_20 (in_nI (j := j) rfl (by omega) (by decide)) dX9_goBack_49 ?_
      refine zeq wm_20 ?_
      refine zeq (M' := (mm aC r v (u1 (u1 (u1 (u1 A 19 (upd ((stX9_goBack_18 A i1_ i2_ i3_ i4_ j).1) (Int32.toNatClampNeg (nI j)) (A 24 (Int32.toNatClampNeg (nI j))))) 20 (upd ((stX9_goBack_18 A i1_ i2_ i3_ i4_ j).2.1) (Int32.toNatClampNeg (nI j)) (A 25 (Int32.toNatClampNeg (nI j))))) 21 ((stX9_goBack_18 A i1_ i2_ i3_ i4_ j).2.2.1)) 22 ((stX9_goBack_18 A i1_ i2_ i3_ i4_ j).2.2.2)) R)) (by rw [u1_sw (k := 22) (j := 20) (by decide), u1_sw (k := 21) (j := 20) (by decide), u1_u1]) ?_
      refine zz (fun _ _ => lv_aload_n hx hb dX9_goBack_50 rfl (lv_at hl 0 rfl)) ?_
      refine z_get (v := .ref (r + 21)) C fd_X9_71 rm_0 rfl dX9_goBack_51 ?_
      refine zz (fun _ _ => lv_iload_n hx hb dX9_goBack_54 rfl (lv_at hl 1 rfl)) ?_
      refine zz (fun _ _ => lv_aload_n hx hb dX9_goBack_55 rfl (lv_at hl 0 rfl)) ?_
      refine z_get (v := .ref (r + 26)) C fd_X9_86 rm_0 rfl dX9_goBack_56 ?_
      refine zz (fun _ _ => lv_iload_n hx hb dX9_goBack_59 rfl (lv_at hl 1 rfl)) ?_
      refine z_iald (f := A 26) C rm_26 (in_nI (j := j) rfl (by omega) (by decide)) dX9_goBack_60 ?_
      refine z_iast (f := (stX9_goBack_18 A i1_ i2_ i3_ i4_ j).2.2.1) C rm_21 (in_nI (j := j) rfl (by omega) (by decide)) dX9_goBack_61 ?_
      refine zeq wm_21 ?_
      refine zeq (M' := (mm aC r v (u1 (u1 (u1 (u1 A 19 (upd ((stX9_goBack_18 A i1_ i2_ i3_ i4_ j).1) (Int32.toNatClampNeg (nI j)) (A 24 (Int32.toNatClampNeg (nI j))))) 20 (upd ((stX9_goBack_18 A i1_ i2_ i3_ i4_ j).2.1) (Int32.toNatClampNeg (nI j)) (A 25 (Int32.toNatClampNeg (nI j))))) 21 (upd ((stX9_goBack_18 A i1_ i2_ i3_ i4_ j).2.2.1) (Int32.toNatClampNeg (nI j)) (A 26 (Int32.toNatClampNeg (nI j))))) 22 ((stX9_goBack_18 A i1_ i2_ i3_ i4_ j).2.2.2)) R)) (by rw [u1_sw (k := 22) (j := 21) (by decide), u1_u1]) ?_
      refine zz (fun _ _ => lv_aload_n hx hb dX9_goBack_62 rfl (lv_at hl 0 rfl)) ?_
      refine z_get (v := .ref (r + 22)) C fd_X9_74 rm_0 rfl dX9_goBack_63 ?_
      refine zz (fun _ _ => lv_iload_n hx hb dX9_goBack_66 rfl (lv_at hl 1 rfl)) ?_
      refine zz (fun _ _ => lv_aload_n hx hb dX9_goBack_67 rfl (lv_at hl 0 rfl)) ?_
      refine z_get (v := .ref (r + 27)) C fd_X9_89 rm_0 rfl dX9_goBack_68 ?_
      refine zz (fun _ _ => lv_iload_n hx hb dX9_goBack_71 rfl (lv_at hl 1 rfl)) ?_
      refine z_iald (f := A 27) C rm_27 (in_nI (j := j) rfl (by omega) (by decide)) dX9_goBack_72 ?_
      refine z_iast (f := (stX9_goBack_18 A i1_ i2_ i3_ i4_ j).2.2.2) C rm_22 (in_nI (j := j) rfl (by omega) (by decide)) dX9_goBack_73 ?_
      refine zeq wm_22 ?_
      refine zeq (M' := (mm aC r v (u1 (u1 (u1 (u1 A 19 (upd ((stX9_goBack_18 A i1_ i2_ i3_ i4_ j).1) (Int32.toNatClampNeg (nI j)) (A 24 (Int32.toNatClampNeg (nI j))))) 20 (upd ((stX9_goBack_18 A i1_ i2_ i3_ i4_ j).2.1) (Int32.toNatClampNeg (nI j)) (A 25 (Int32.toNatClampNeg (nI j))))) 21 (upd ((stX9_goBack_18 A i1_ i2_ i3_ i4_ j).2.2.1) (Int32.toNatClampNeg (nI j)) (A 26 (Int32.toNatClampNeg (nI j))))) 22 (upd ((stX9_goBack_18 A i1_ i2_ i3_ i4_ j).2.2.2) (Int32.toNatClampNeg (nI j)) (A 27 (Int32.toNatClampNeg (nI j))))) R)) (by rw [u1_u1]) ?_
      refine zs (fun _ _ => lv_iinc (v := nI j + 1) (lv' := [(1, .int (nI j + 1)), (0, .ref (r))]) hx hb dX9_goBack_74 hl (k := 1) rfl rfl (by decide) rfl) (fun ls hl => ?_)
      refine zz (fun _ _ => lv_goto (tgt := 18) hx hb dX9_goBack_77 (by decide)) ?_
      have hI := ih (j + 1) (by omega)
      simp only [stX9_goBack_18, if_neg c_1] at hI
      have hl := lv_sub hl [1, 0] rfl
      simp only [nI_1] at hl
      exact hI _ _ hl K
def stX9_goBack_82 (A : Nat → Nat → Int32) (i1_ : (Nat → Int32)) : Nat → (Nat → Int32)
  | 0 => (i1_)
  | j + 1 => ((upd ((stX9_goBack_82 A i1_ j)) (Int32.toNatClampNeg (nI j)) (A 28 (Int32.toNatClampNeg (nI j)))))
set_option maxHeartbeats 2000000 in
set_option maxRecDepth 10000 in
theorem lpX9_goBack_82 {p : Program} {l : Launch} {e : Env} {Rm : Room} {s : State} {m : MethodId} {args : Array Value} {below : List Frame} {meth : Method} {c : Code} {D : va_G} {aC : Nat → ClassId} {b0 cells slots : Nat} {Q : State → Prop} {r : Nat} {v : Nat → Int32} {A : Nat → Nat → Int32} {R : ZM} {i1_ : (Nat → Int32)} {N_ : Nat} (C : zC p l s m c D aC b0 RX9 cX9_goBack 2) (hz : ∀ j, j < 7 → A 28 j = 0 ∨ A 28 j = 1) (hNb : (7 : Int32) = nI N_) (hN2 : N_ ≤ 7) (hNl : N_ < 2 ^ 31) :
    ∀ (d j : Nat), j + d = N_ → ∀ (sz : Nat) (ls : Array Slot), lv_has ls 2 [(0, .ref (r)), (1, .int (nI j))] → (∀ (sz : Nat) (ls : Array Slot), lv_has ls 2 [(0, .ref (r)), (1, .int (nI N_))] → Z p l e Rm s m args below meth c D b0 (mm aC r v (u1 A 23 (stX9_goBack_82 A i1_ N_)) R) sz cells slots Q (F0 m 106 ls [])) → Z p l e Rm s m args below meth c D b0 (mm aC r v (u1 A 23 (stX9_goBack_82 A i1_ j)) R) sz cells slots Q (F0 m 82 ls []) := by
  obtain ⟨hx, hb, -, -, -⟩ := id C
  intro d
  induction d with
  | zero =>
    intro j hj0 sz ls hl K
    refine zz (fun _ _ => lv_iload_n hx hb dX9_goBack_82 rfl (lv_at hl 1 rfl)) ?_
    refine zz (fun _ _ => lv_bipush (v := 7) hx hb dX9_goBack_83 (by decide)) ?_
    refine zb (fun _ _ => lv_icmp_ge (tgt := 106) hx hb dX9_goBack_85 (by decide)) (fun c_1 => ?_) (fun c_1 => ?_)
    · obtain rfl := fl_eq (j := j) (N := N_) hNb (by omega) hNl c_1
      exact K _ _ (lv_sub hl [0, 1] rfl)
    · exact absurd (fl_lt (j := j) (N := N_) hNb (by omega) hNl c_1) (by omega)
  | succ d ih =>
    intro j hj0 sz ls hl K
    refine zz (fun _ _ => lv_iload_n hx hb dX9_goBack_82 rfl (lv_at hl 1 rfl)) ?_
    refine zz (fun _ _ => lv_bipush (v := 7) hx hb dX9_goBack_83 (by decide)) ?_
    refine zb (fun _ _ => lv_icmp_ge (tgt := 106) hx hb dX9_goBack_85 (by decide)) (fun c_1 => ?_) (fun c_1 => ?_)
    · obtain rfl := fl_eq (j := j) (N := N_) hNb (by omega) hNl c_1
      exact K _ _ (lv_sub hl [0, 1] rfl)
    · have hj9 : j < N_ := fl_lt hNb (by omega) hNl c_1
      refine zz (fun _ _ => lv_aload_n hx hb dX9_goBack_88 rfl (lv_at hl 0 rfl)) ?_
      refine z_get (v := .ref (r + 23)) C fd_X9_77 rm_0 rfl dX9_goBack_89 ?_
      refine zz (fun _ _ => lv_iload_n hx hb dX9_goBack_92 rfl (lv_at hl 1 rfl)) ?_
      refine zz (fun _ _ => lv_aload_n hx hb dX9_goBack_93 rfl (lv_at hl 0 rfl)) ?_
      refine z_get (v := .ref (r + 28)) C fd_X9_92 rm_0 rfl dX9_goBack_94 ?_
      refine zz (fun _ _ => lv_iload_n hx hb dX9_goBack_97 rfl (lv_at hl 1 rfl)) ?_
      refine z_zald (f := A 28) C rm_28 (in_nI (j := j) rfl (by omega) (by decide)) dX9_goBack_98 ?_
      refine z_zast (f := (stX9_goBack_82 A i1_ j)) C rm_23 (in_nI (j := j) rfl (by omega) (by decide)) (bz (hz _ (by rw [nI_clamp (by omega)]; omega))) dX9_goBack_99 ?_
      refine zeq wm_23 ?_
      refine zeq (M' := (mm aC r v (u1 A 23 (upd ((stX9_goBack_82 A i1_ j)) (Int32.toNatClampNeg (nI j)) (A 28 (Int32.toNatClampNeg (nI j))))) R)) (by rw [u1_u1]) ?_
      refine zs (fun _ _ => lv_iinc (v := nI j + 1) (lv' := [(1, .int (nI j + 1)), (0, .ref (r))]) hx hb dX9_goBack_100 hl (k := 1) rfl rfl (by decide) rfl) (fun ls hl => ?_)
      refine zz (fun _ _ => lv_goto (tgt := 82) hx hb dX9_goBack_103 (by decide)) ?_
      have hI := ih (j + 1) (by omega)
      simp only [stX9_goBack_82, if_neg c_1] at hI
      have hl := lv_sub hl [1, 0] rfl
      simp only [nI_1] at hl
      exact hI _ _ hl K
def fX9_goBack (v : Nat → Int32) (A : Nat → Nat → Int32) : (Nat → Int32) × (Nat → Nat → Int32) := ((upd (upd v 20 (v 27)) 26 (v 33)), (u1 (u1 (u1 (u1 (u1 A 19 ((stX9_goBack_18 A (A 19) (A 20) (A 21) (A 22) (Int32.toNatClampNeg (v 27))).1)) 20 ((stX9_goBack_18 A (A 19) (A 20) (A 21) (A 22) (Int32.toNatClampNeg (v 27))).2.1)) 21 ((stX9_goBack_18 A (A 19) (A 20) (A 21) (A 22) (Int32.toNatClampNeg (v 27))).2.2.1)) 22 ((stX9_goBack_18 A (A 19) (A 20) (A 21) (A 22) (Int32.toNatClampNeg (v 27))).2.2.2)) 23 (stX9_goBack_82 (u1 (u1 (u1 (u1 A 19 ((stX9_goBack_18 A (A 19) (A 20) (A 21) (A 22) (Int32.toNatClampNeg (v 27))).1)) 20 ((stX9_goBack_18 A (A 19) (A 20) (A 21) (A 22) (Int32.toNatClampNeg (v 27))).2.1)) 21 ((stX9_goBack_18 A (A 19) (A 20) (A 21) (A 22) (Int32.toNatClampNeg (v 27))).2.2.1)) 22 ((stX9_goBack_18 A (A 19) (A 20) (A 21) (A 22) (Int32.toNatClampNeg (v 27))).2.2.2)) (A 23) 7)))
set_option maxHeartbeats 1000000 in
set_option maxRecDepth 10000 in
theorem ctX9_goBack {l : Launch} {D : va_G} {aC : Nat → ClassId} {b0 sz : Nat} {r : Nat} {v : Nat → Int32} {A : Nat → Nat → Int32} {R : ZM} {n_ : Nat} (hs : v 27 = nI n_) (hn : n_ ≤ 120) (hz : ∀ j, j < 7 → A 28 j = 0 ∨ A 28 j = 1) : Ct l D aC b0 yX9_goBack cX9_goBack 2 none 0 0 0 [.ref (r)] (mm aC r v A R) sz (zd none (mm aC r (fX9_goBack v A).1 (fX9_goBack v A).2 R)) := by
  refine Ct.of (by decide) (Nat.le_of_ble_eq_true rfl) ?_
  intro p e s m below meth c ls C hr hlk hnm hl
  have hl : lv_has ls 2 [(0, .ref (r))] := hl
  obtain ⟨hx, hb, -, -, -⟩ := id C
  refine zz (fun _ _ => lv_aload_n hx hb dX9_goBack_0 rfl (lv_at hl 0 rfl)) ?_
  refine zz (fun _ _ => lv_aload_n hx hb dX9_goBack_1 rfl (lv_at hl 0 rfl)) ?_
  refine z_get (v := .int (v 27)) C fd_X9_244 rm_0 rfl dX9_goBack_2 ?_
  refine z_put C fp_X9_160 (fun h => by cases h) rm_0 (Nat.le_of_ble_eq_true rfl) rfl rfl dX9_goBack_5 ?_
  refine zeq wm_f20 ?_
  refine zz (fun _ _ => lv_aload_n hx hb dX9_goBack_8 rfl (lv_at hl 0 rfl)) ?_
  refine zz (fun _ _ => lv_aload_n hx hb dX9_goBack_9 rfl (lv_at hl 0 rfl)) ?_
  refine z_get (v := .int (v 33)) C fd_X9_247 rm_0 rfl dX9_goBack_10 ?_
  refine z_put C fp_X9_199 (fun h => by cases h) rm_0 (Nat.le_of_ble_eq_true rfl) rfl rfl dX9_goBack_13 ?_
  refine zeq wm_f26 ?_
  refine zz (fun _ _ => lv_iconst (v := 0) hx hb dX9_goBack_16 (by decide)) ?_
  refine zs (fun _ _ => lv_istore_n (lv' := [(1, .int (0)), (0, .ref (r))]) hx hb dX9_goBack_17 rfl hl (by decide) rfl) (fun ls hl => ?_)
  refine zeq (M' := (mm aC r (upd (upd v 20 (v 27)) 26 (v 33)) (u1 (u1 (u1 (u1 A 19 (A 19)) 20 (A 20)) 21 (A 21)) 22 (A 22)) R)) (by rw [u1_id2 (A := (u1 (u1 (u1 A 19 (A 19)) 20 (A 20)) 21 (A 21))) (k := 22) (g := A 22) rfl, u1_id2 (A := (u1 (u1 A 19 (A 19)) 20 (A 20))) (k := 21) (g := A 21) rfl, u1_id2 (A := (u1 A 19 (A 19))) (k := 20) (g := A 20) rfl, u1_id2 (A := A) (k := 19) (g := A 19) rfl]) ?_
  refine lpX9_goBack_18 (v := (upd (upd v 20 (v 27)) 26 (v 33))) (A := A) (N_ := (Int32.toNatClampNeg (v 27))) C (nI_sn hs hn (by decide)) (nI_sle hs hn (by decide)) (Nat.lt_of_le_of_lt (nI_sle hs hn (by decide)) (by decide)) (Int32.toNatClampNeg (v 27)) 0 (Nat.zero_add _) _ _ (lv_sub hl [1, 0] rfl) (fun sz ls hl => ?_)
  refine zz (fun _ _ => lv_iconst (v := 0) hx hb dX9_goBack_80 (by decide)) ?_
  refine zs (fun _ _ => lv_istore_n (lv' := [(1, .int (0)), (0, .ref (r))]) hx hb dX9_goBack_81 rfl hl (by decide) rfl) (fun ls hl => ?_)
  refine zeq (M' := (mm aC r (upd (upd v 20 (v 27)) 26 (v 33)) (u1 (u1 (u1 (u1 (u1 A 19 ((stX9_goBack_18 A (A 19) (A 20) (A 21) (A 22) (Int32.toNatClampNeg (v 27))).1)) 20 ((stX9_goBack_18 A (A 19) (A 20) (A 21) (A 22) (Int32.toNatClampNeg (v 27))).2.1)) 21 ((stX9_goBack_18 A (A 19) (A 20) (A 21) (A 22) (Int32.toNatClampNeg (v 27))).2.2.1)) 22 ((stX9_goBack_18 A (A 19) (A 20) (A 21) (A 22) (Int32.toNatClampNeg (v 27))).2.2.2)) 23 (A 23)) R)) (by rw [u1_id2 (A := (u1 (u1 (u1 (u1 A 19 ((stX9_goBack_18 A (A 19) (A 20) (A 21) (A 22) (Int32.toNatClampNeg (v 27))).1)) 20 ((stX9_goBack_18 A (A 19) (A 20) (A 21) (A 22) (Int32.toNatClampNeg (v 27))).2.1)) 21 ((stX9_goBack_18 A (A 19) (A 20) (A 21) (A 22) (Int32.toNatClampNeg (v 27))).2.2.1)) 22 ((stX9_goBack_18 A (A 19) (A 20) (A 21) (A 22) (Int32.toNatClampNeg (v 27))).2.2.2))) (k := 23) (g := A 23) rfl]) ?_
  refine lpX9_goBack_82 (v := (upd (upd v 20 (v 27)) 26 (v 33))) (A := (u1 (u1 (u1 (u1 A 19 ((stX9_goBack_18 A (A 19) (A 20) (A 21) (A 22) (Int32.toNatClampNeg (v 27))).1)) 20 ((stX9_goBack_18 A (A 19) (A 20) (A 21) (A 22) (Int32.toNatClampNeg (v 27))).2.1)) 21 ((stX9_goBack_18 A (A 19) (A 20) (A 21) (A 22) (Int32.toNatClampNeg (v 27))).2.2.1)) 22 ((stX9_goBack_18 A (A 19) (A 20) (A 21) (A 22) (Int32.toNatClampNeg (v 27))).2.2.2))) (N_ := 7) C hz rfl (by decide) (by decide) 7 0 (Nat.zero_add _) _ _ (lv_sub hl [1, 0] rfl) (fun sz ls hl => ?_)
  exact z_vret C hr hlk dX9_goBack_106 (by simp only [zd, fX9_goBack, and_self])
end
