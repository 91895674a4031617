def fX8_isGraph (a_ : Int32) : Int32 := if a_ < 0 then (0) else if 7 ≤ a_ then (0) else (1)
theorem nbfX8_isGraph {a_ : Int32} : narrow .boolean (.int (fX8_isGraph a_)) = .int (fX8_isGraph a_) := by
  unfold fX8_isGraph
  repeat' split
  all_goals try dsimp only
  all_goals first | rfl | assumption
set_option maxHeartbeats 1000000 in
set_option maxRecDepth 10000 in
theorem ctX8_isGraph {l : Launch} {D : va_G} {aC : Nat → ClassId} {b0 sz : Nat} {M : ZM} {a_ : Int32} : Ct l D aC b0 yX8_isGraph cX8_isGraph 1 (some .boolean) 0 0 0 [.int (a_)] M sz (zd (some (.int (fX8_isGraph a_))) M) := by
  refine Ct.of (by decide) (Nat.le_of_ble_eq_true rfl) ?_
  intro p e s m below meth c ls C hr hlk hnm hl
  have hl : lv_has ls 1 [(0, .int (a_))] := hl
  obtain ⟨hx, hb, -, -, -⟩ := id C
  refine zz (fun _ _ => lv_iload_n hx hb dX8_isGraph_0 rfl (lv_at hl 0 rfl)) ?_
  refine zb (fun _ _ => lv_if_lt (tgt := 14) hx hb dX8_isGraph_1 (by decide)) (fun c_1 => ?_) (fun c_1 => ?_)
  · refine zz (fun _ _ => lv_iconst (v := 0) hx hb dX8_isGraph_14 (by decide)) ?_
    exact z_zret C hr rfl hlk dX8_isGraph_15 (by simp only [zd, fX8_isGraph, if_pos c_1, and_self])
  · refine zz (fun _ _ => lv_iload_n hx hb dX8_isGraph_4 rfl (lv_at hl 0 rfl)) ?_
    refine zz (fun _ _ => lv_bipush (v := 7) hx hb dX8_isGraph_5 (by decide)) ?_
    refine zb (fun _ _ => lv_icmp_ge (tgt := 14) hx hb dX8_isGraph_7 (by decide)) (fun c_2 => ?_) (fun c_2 => ?_)
    · refine zz (fun _ _ => lv_iconst (v := 0) hx hb dX8_isGraph_14 (by decide)) ?_
      exact z_zret C hr rfl hlk dX8_isGraph_15 (by simp only [zd, fX8_isGraph, if_neg c_1, if_pos c_2, and_self])
    · refine zz (fun _ _ => lv_iconst (v := 1) hx hb dX8_isGraph_10 (by decide)) ?_
      refine zz (fun _ _ => lv_goto (tgt := 15) hx hb dX8_isGraph_11 (by decide)) ?_
      exact z_zret C hr rfl hlk dX8_isGraph_15 (by simp only [zd, fX8_isGraph, if_neg c_1, if_neg c_2, and_self])
def fX8_fromCounts (a_ : Int32) : Int32 := if a_ = 2 then (1) else if a_ < 6 then (0) else (1)
theorem nbfX8_fromCounts {a_ : Int32} : narrow .boolean (.int (fX8_fromCounts a_)) = .int (fX8_fromCounts a_) := by
  unfold fX8_fromCounts
  repeat' split
  all_goals try dsimp only
  all_goals first | rfl | assumption
set_option maxHeartbeats 1000000 in
set_option maxRecDepth 10000 in
theorem ctX8_fromCounts {l : Launch} {D : va_G} {aC : Nat → ClassId} {b0 sz : Nat} {M : ZM} {a_ : Int32} : Ct l D aC b0 yX8_fromCounts cX8_fromCounts 1 (some .boolean) 0 0 0 [.int (a_)] M sz (zd (some (.int (fX8_fromCounts a_))) M) := by
  refine Ct.of (by decide) (Nat.le_of_ble_eq_true rfl) ?_
  intro p e s m below meth c ls C hr hlk hnm hl
  have hl : lv_has ls 1 [(0, .int (a_))] := hl
  obtain ⟨hx, hb, -, -, -⟩ := id C
  refine zz (fun _ _ => lv_iload_n hx hb dX8_fromCounts_0 rfl (lv_at hl 0 rfl)) ?_
  refine zz (fun _ _ => lv_iconst (v := 2) hx hb dX8_fromCounts_1 (by decide)) ?_
  refine zb (fun _ _ => lv_icmp_eq (tgt := 11) hx hb dX8_fromCounts_2 (by decide)) (fun c_1 => ?_) (fun c_1 => ?_)
  · refine zz (fun _ _ => lv_iconst (v := 1) hx hb dX8_fromCounts_11 (by decide)) ?_
    refine zz (fun _ _ => lv_goto (tgt := 16) hx hb dX8_fromCounts_12 (by decide)) ?_
    exact z_zret C hr rfl hlk dX8_fromCounts_16 (by simp only [zd, fX8_fromCounts, if_pos c_1, and_self])
  · refine zz (fun _ _ => lv_iload_n hx hb dX8_fromCounts_5 rfl (lv_at hl 0 rfl)) ?_
    refine zz (fun _ _ => lv_bipush (v := 6) hx hb dX8_fromCounts_6 (by decide)) ?_
    refine zb (fun _ _ => lv_icmp_lt (tgt := 15) hx hb dX8_fromCounts_8 (by decide)) (fun c_2 => ?_) (fun c_2 => ?_)
    · refine zz (fun _ _ => lv_iconst (v := 0) hx hb dX8_fromCounts_15 (by decide)) ?_
      exact z_zret C hr rfl hlk dX8_fromCounts_16 (by simp only [zd, fX8_fromCounts, if_neg c_1, if_pos c_2, and_self])
    · refine zz (fun _ _ => lv_iconst (v := 1) hx hb dX8_fromCounts_11 (by decide)) ?_
      refine zz (fun _ _ => lv_goto (tgt := 16) hx hb dX8_fromCounts_12 (by decide)) ?_
      exact z_zret C hr rfl hlk dX8_fromCounts_16 (by simp only [zd, fX8_fromCounts, if_neg c_1, if_neg c_2, and_self])
def fX8_fromMayBe (a_ : Int32) (b_ : Int32) : Int32 := if a_ = 9 then if b_ < 0 then (0) else if 4 ≤ b_ then (0) else (1) else if (fX8_fromCounts a_) = 0 then (1) else if (fX8_isGraph b_) = 0 then (0) else (1)
theorem nbfX8_fromMayBe {a_ : Int32} {b_ : Int32} : narrow .boolean (.int (fX8_fromMayBe a_ b_)) = .int (fX8_fromMayBe a_ b_) := by
  unfold fX8_fromMayBe
  repeat' split
  all_goals try dsimp only
  all_goals first | rfl | assumption | exact nbfX8_fromCounts | exact nbfX8_isGraph
set_option maxHeartbeats 1000000 in
set_option maxRecDepth 10000 in
theorem ctX8_fromMayBe {l : Launch} {D : va_G} {aC : Nat → ClassId} {b0 sz : Nat} {M : ZM} {a_ : Int32} {b_ : Int32} : Ct l D aC b0 yX8_fromMayBe cX8_fromMayBe 2 (some .boolean) 1 0 0 [.int (a_), .int (b_)] M sz (zd (some (.int (fX8_fromMayBe a_ b_))) M) := by
  refine Ct.of (by decide) (Nat.le_of_ble_eq_true rfl) ?_
  intro p e s m below meth c ls C hr hlk hnm hl
  have hl : lv_has ls 2 [(0, .int (a_)), (1, .int (b_))] := hl
  obtain ⟨hx, hb, -, -, -⟩ := id C
  refine zz (fun _ _ => lv_iload_n hx hb dX8_fromMayBe_0 rfl (lv_at hl 0 rfl)) ?_
  refine zz (fun _ _ => lv_bipush (v := 9) hx hb dX8_fromMayBe_1 (by decide)) ?_
  refine zbn (fun _ _ => lv_icmp_ne (tgt := 21) hx hb dX8_fromMayBe_3 (by decide)) (fun c_1 => ?_) (fun c_1 => ?_)
  · refine zz (fun _ _ => lv_iload_n hx hb dX8_fromMayBe_21 rfl (lv_at hl 0 rfl)) ?_
    refine zdS (As := [.int (a_)]) (rest := []) (st' := [.int ((fX8_fromCounts a_))]) C hl.1 lk_X8_70 (ctX8_fromCounts) rfl rfl (Nat.le_of_ble_eq_true rfl) ⟨by decide, by decide, by decide, by decide⟩ dX8_fromMayBe_22 rfl (fun sz => ?_)
    refine zb (fun _ _ => lv_if_eq (tgt := 35) hx hb dX8_fromMayBe_25 (by decide)) (fun c_2 => ?_) (fun c_2 => ?_)
    · refine zz (fun _ _ => lv_iconst (v := 1) hx hb dX8_fromMayBe_35 (by decide)) ?_
      refine zz (fun _ _ => lv_goto (tgt := 40) hx hb dX8_fromMayBe_36 (by decide)) ?_
      exact z_zret C hr rfl hlk dX8_fromMayBe_40 (by simp only [zd, fX8_fromMayBe, if_neg c_1, if_pos c_2, and_self])
    · refine zz (fun _ _ => lv_iload_n hx hb dX8_fromMayBe_28 rfl (lv_at hl 1 rfl)) ?_
      refine zdS (As := [.int (b_)]) (rest := []) (st' := [.int ((fX8_isGraph b_))]) C hl.1 lk_X8_242 (ctX8_isGraph) rfl rfl (Nat.le_of_ble_eq_true rfl) ⟨by decide, by decide, by decide, by decide⟩ dX8_fromMayBe_29 rfl (fun sz => ?_)
      refine zb (fun _ _ => lv_if_eq (tgt := 39) hx hb dX8_fromMayBe_32 (by decide)) (fun c_3 => ?_) (fun c_3 => ?_)
      · refine zz (fun _ _ => lv_iconst (v := 0) hx hb dX8_fromMayBe_39 (by decide)) ?_
        exact z_zret C hr rfl hlk dX8_fromMayBe_40 (by simp only [zd, fX8_fromMayBe, if_neg c_1, if_neg c_2, if_pos c_3, and_self])
      · refine zz (fun _ _ => lv_iconst (v := 1) hx hb dX8_fromMayBe_35 (by decide)) ?_
        refine zz (fun _ _ => lv_goto (tgt := 40) hx hb dX8_fromMayBe_36 (by decide)) ?_
        exact z_zret C hr rfl hlk dX8_fromMayBe_40 (by simp only [zd, fX8_fromMayBe, if_neg c_1, if_neg c_2, if_neg c_3, and_self])
  · refine zz (fun _ _ => lv_iload_n hx hb dX8_fromMayBe_6 rfl (lv_at hl 1 rfl)) ?_
    refine zb (fun _ _ => lv_if_lt (tgt := 19) hx hb dX8_fromMayBe_7 (by decide)) (fun c_4 => ?_) (fun c_4 => ?_)
    · refine zz (fun _ _ => lv_iconst (v := 0) hx hb dX8_fromMayBe_19 (by decide)) ?_
      exact z_zret C hr rfl hlk dX8_fromMayBe_20 (by simp only [zd, fX8_fromMayBe, if_pos c_1, if_pos c_4, and_self])
    · refine zz (fun _ _ => lv_iload_n hx hb dX8_fromMayBe_10 rfl (lv_at hl 1 rfl)) ?_
      refine zz (fun _ _ => lv_iconst (v := 4) hx hb dX8_fromMayBe_11 (by decide)) ?_
      refine zb (fun _ _ => lv_icmp_ge (tgt := 19) hx hb dX8_fromMayBe_12 (by decide)) (fun c_5 => ?_) (fun c_5 => ?_)
      · refine zz (fun _ _ => lv_iconst (v := 0) hx hb dX8_fromMayBe_19 (by decide)) ?_
        exact z_zret C hr rfl hlk dX8_fromMayBe_20 (by simp only [zd, fX8_fromMayBe, if_pos c_1, if_neg c_4, if_pos c_5, and_self])
      · refine zz (fun _ _ => lv_iconst (v := 1) hx hb dX8_fromMayBe_15 (by decide)) ?_
        refine zz (fun _ _ => lv_goto (tgt := 20) hx hb dX8_fromMayBe_16 (by decide)) ?_
        exact z_zret C hr rfl hlk dX8_fromMayBe_20 (by simp only [zd, fX8_fromMayBe, if_pos c_1, if_neg c_4, if_neg c_5, and_self])
def fX8_toMayBe (a_ : Int32) (b_ : Int32) : Int32 := if b_ = (-1) then if a_ = 3 then (1) else if a_ = 5 then (1) else (0) else if b_ = (-2) then if a_ = 3 then (1) else if a_ = 5 then (1) else (0) else if (fX8_isGraph b_) = 0 then (0) else if a_ = 4 then if b_ = 0 then (0) else (1) else (1)
theorem nbfX8_toMayBe {a_ : Int32} {b_ : Int32} : narrow .boolean (.int (fX8_toMayBe a_ b_)) = .int (fX8_toMayBe a_ b_) := by
  unfold fX8_toMayBe
  repeat' split
  all_goals try dsimp only
  all_goals first | rfl | assumption | exact nbfX8_isGraph
set_option maxHeartbeats 1000000 in
set_option maxRecDepth 10000 in
theorem ctX8_toMayBe {l : Launch} {D : va_G} {aC : Nat → ClassId} {b0 sz : Nat} {M : ZM} {a_ : Int32} {b_ : Int32} : Ct l D aC b0 yX8_toMayBe cX8_toMayBe 2 (some .boolean) 1 0 0 [.int (a_), .int (b_)] M sz (zd (some (.int (fX8_toMayBe a_ b_))) M) := by
  refine Ct.of (by decide) (Nat.le_of_ble_eq_true rfl) ?_
  intro p e s m below meth c ls C hr hlk hnm hl
  have hl : lv_has ls 2 [(0, .int (a_)), (1, .int (b_))] := hl
  obtain ⟨hx, hb, -, -, -⟩ := id C
  refine zz (fun _ _ => lv_iload_n hx hb dX8_toMayBe_0 rfl (lv_at hl 1 rfl)) ?_
  refine zz (fun _ _ => lv_iconst (v := (-1)) hx hb dX8_toMayBe_1 (by decide)) ?_
  refine zb (fun _ _ => lv_icmp_eq (tgt := 11) hx hb dX8_toMayBe_2 (by decide)) (fun c_1 => ?_) (fun c_1 => ?_)
  · refine zz (fun _ _ => lv_iload_n hx hb dX8_toMayBe_11 rfl (lv_at hl 0 rfl)) ?_
    refine zz (fun _ _ => lv_iconst (v := 3) hx hb dX8_toMayBe_12 (by decide)) ?_
    refine zb (fun _ _ => lv_icmp_eq (tgt := 21) hx hb dX8_toMayBe_13 (by decide)) (fun c_2 => ?_) (fun c_2 => ?_)
    · refine zz (fun _ _ => lv_iconst (v := 1) hx hb dX8_toMayBe_21 (by decide)) ?_
      refine zz (fun _ _ => lv_goto (tgt := 26) hx hb dX8_toMayBe_22 (by decide)) ?_
      exact z_zret C hr rfl hlk dX8_toMayBe_26 (by simp only [zd, fX8_toMayBe, if_pos c_1, if_pos c_2, and_self])
    · refine zz (fun _ _ => lv_iload_n hx hb dX8_toMayBe_16 rfl (lv_at hl 0 rfl)) ?_
      refine zz (fun _ _ => lv_iconst (v := 5) hx hb dX8_toMayBe_17 (by decide)) ?_
      refine zbn (fun _ _ => lv_icmp_ne (tgt := 25) hx hb dX8_toMayBe_18 (by decide)) (fun c_3 => ?_) (fun c_3 => ?_)
      · refine zz (fun _ _ => lv_iconst (v := 0) hx hb dX8_toMayBe_25 (by decide)) ?_
        exact z_zret C hr rfl hlk dX8_toMayBe_26 (by simp only [zd, fX8_toMayBe, if_pos c_1, if_neg c_2, if_neg c_3, and_self])
      · refine zz (fun _ _ => lv_iconst (v := 1) hx hb dX8_toMayBe_21 (by decide)) ?_
        refine zz (fun _ _ => lv_goto (tgt := 26) hx hb dX8_toMayBe_22 (by decide)) ?_
        exact z_zret C hr rfl hlk dX8_toMayBe_26 (by simp only [zd, fX8_toMayBe, if_pos c_1, if_neg c_2, if_pos c_3, and_self])
  · refine zz (fun _ _ => lv_iload_n hx hb dX8_toMayBe_5 rfl (lv_at hl 1 rfl)) ?_
    refine zz (fun _ _ => lv_bipush (v := (-2)) hx hb dX8_toMayBe_6 (by decide)) ?_
    refine zbn (fun _ _ => lv_icmp_ne (tgt := 27) hx hb dX8_toMayBe_8 (by decide)) (fun c_4 => ?_) (fun c_4 => ?_)
    · refine zz (fun _ _ => lv_iload_n hx hb dX8_toMayBe_27 rfl (lv_at hl 1 rfl)) ?_
      refine zdS (As := [.int (b_)]) (rest := []) (st' := [.int ((fX8_isGraph b_))]) C hl.1 lk_X8_242 (ctX8_isGraph) rfl rfl (Nat.le_of_ble_eq_true rfl) ⟨by decide, by decide, by decide, by decide⟩ dX8_toMayBe_28 rfl (fun sz => ?_)
      refine zb (fun _ _ => lv_if_eq (tgt := 47) hx hb dX8_toMayBe_31 (by decide)) (fun c_5 => ?_) (fun c_5 => ?_)
      · refine zz (fun _ _ => lv_iconst (v := 0) hx hb dX8_toMayBe_47 (by decide)) ?_
        exact z_zret C hr rfl hlk dX8_toMayBe_48 (by simp only [zd, fX8_toMayBe, if_neg c_1, if_neg c_4, if_pos c_5, and_self])
      · refine zz (fun _ _ => lv_iload_n hx hb dX8_toMayBe_34 rfl (lv_at hl 0 rfl)) ?_
        refine zz (fun _ _ => lv_iconst (v := 4) hx hb dX8_toMayBe_35 (by decide)) ?_
        refine zbn (fun _ _ => lv_icmp_ne (tgt := 43) hx hb dX8_toMayBe_36 (by decide)) (fun c_6 => ?_) (fun c_6 => ?_)
        · refine zz (fun _ _ => lv_iconst (v := 1) hx hb dX8_toMayBe_43 (by decide)) ?_
          refine zz (fun _ _ => lv_goto (tgt := 48) hx hb dX8_toMayBe_44 (by decide)) ?_
          exact z_zret C hr rfl hlk dX8_toMayBe_48 (by simp only [zd, fX8_toMayBe, if_neg c_1, if_neg c_4, if_neg c_5, if_neg c_6, and_self])
        · refine zz (fun _ _ => lv_iload_n hx hb dX8_toMayBe_39 rfl (lv_at hl 1 rfl)) ?_
          refine zb (fun _ _ => lv_if_eq (tgt := 47) hx hb dX8_toMayBe_40 (by decide)) (fun c_7 => ?_) (fun c_7 => ?_)
          · refine zz (fun _ _ => lv_iconst (v := 0) hx hb dX8_toMayBe_47 (by decide)) ?_
            exact z_zret C hr rfl hlk dX8_toMayBe_48 (by simp only [zd, fX8_toMayBe, if_neg c_1, if_neg c_4, if_neg c_5, if_pos c_6, if_pos c_7, and_self])
          · refine zz (fun _ _ => lv_iconst (v := 1) hx hb dX8_toMayBe_43 (by decide)) ?_
            refine zz (fun _ _ => lv_goto (tgt := 48) hx hb dX8_toMayBe_44 (by decide)) ?_
            exact z_zret C hr rfl hlk dX8_toMayBe_48 (by simp only [zd, fX8_toMayBe, if_neg c_1, if_neg c_4, if_neg c_5, if_pos c_6, if_neg c_7, and_self])
    · refine zz (fun _ _ => lv_iload_n hx hb dX8_toMayBe_11 rfl (lv_at hl 0 rfl)) ?_
      refine zz (fun _ _ => lv_iconst (v := 3) hx hb dX8_toMayBe_12 (by decide)) ?_
      refine zb (fun _ _ => lv_icmp_eq (tgt := 21) hx hb dX8_toMayBe_13 (by decide)) (fun c_8 => ?_) (fun c_8 => ?_)
      · refine zz (fun _ _ => lv_iconst (v := 1) hx hb dX8_toMayBe_21 (by decide)) ?_
        refine zz (fun _ _ => lv_goto (tgt := 26) hx hb dX8_toMayBe_22 (by decide)) ?_
        exact z_zret C hr rfl hlk dX8_toMayBe_26 (by simp only [zd, fX8_toMayBe, if_neg c_1, if_pos c_4, if_pos c_8, and_self])
      · refine zz (fun _ _ => lv_iload_n hx hb dX8_toMayBe_16 rfl (lv_at hl 0 rfl)) ?_
        refine zz (fun _ _ => lv_iconst (v := 5) hx hb dX8_toMayBe_17 (by decide)) ?_
        refine zbn (fun _ _ => lv_icmp_ne (tgt := 25) hx hb dX8_toMayBe_18 (by decide)) (fun c_9 => ?_) (fun c_9 => ?_)
        · refine zz (fun _ _ => lv_iconst (v := 0) hx hb dX8_toMayBe_25 (by decide)) ?_
          exact z_zret C hr rfl hlk dX8_toMayBe_26 (by simp only [zd, fX8_toMayBe, if_neg c_1, if_pos c_4, if_neg c_8, if_neg c_9, and_self])
        · refine zz (fun _ _ => lv_iconst (v := 1) hx hb dX8_toMayBe_21 (by decide)) ?_
          refine zz (fun _ _ => lv_goto (tgt := 26) hx hb dX8_toMayBe_22 (by decide)) ?_
          exact z_zret C hr rfl hlk dX8_toMayBe_26 (by simp only [zd, fX8_toMayBe, if_neg c_1, if_pos c_4, if_neg c_8, if_pos c_9, and_self])
def fX8_templateMayBe (a_ : Int32) (b_ : Int32) : Int32 := if a_ = 2 then (1) else if a_ = 0 then if b_ = 0 then if a_ = 1 then (1) else (0) else (1) else if a_ = 1 then if b_ = 0 then (1) else (0) else (0)
theorem nbfX8_templateMayBe {a_ : Int32} {b_ : Int32} : narrow .boolean (.int (fX8_templateMayBe a_ b_)) = .int (fX8_templateMayBe a_ b_) := by
  unfold fX8_templateMayBe
  repeat' split
  all_goals try dsimp only
  all_goals first | rfl | assumption
set_option maxHeartbeats 1000000 in
set_option maxRecDepth 10000 in
theorem ctX8_templateMayBe {l : Launch} {D : va_G} {aC : Nat → ClassId} {b0 sz : Nat} {M : ZM} {a_ : Int32} {b_ : Int32} : Ct l D aC b0 yX8_templateMayBe cX8_templateMayBe 2 (some .boolean) 0 0 0 [.int (a_), .int (b_)] M sz (zd (some (.int (fX8_templateMayBe a_ b_))) M) := by
  refine Ct.of (by decide) (Nat.le_of_ble_eq_true rfl) ?_
  intro p e s m below meth c ls C hr hlk hnm hl
  have hl : lv_has ls 2 [(0, .int (a_)), (1, .int (b_))] := hl
  obtain ⟨hx, hb, -, -, -⟩ := id C
  refine zz (fun _ _ => lv_iload_n hx hb dX8_templateMayBe_0 rfl (lv_at hl 0 rfl)) ?_
  refine zz (fun _ _ => lv_iconst (v := 2) hx hb dX8_templateMayBe_1 (by decide)) ?_
  refine zb (fun _ _ => lv_icmp_eq (tgt := 22) hx hb dX8_templateMayBe_2 (by decide)) (fun c_1 => ?_) (fun c_1 => ?_)
  · refine zz (fun _ _ => lv_iconst (v := 1) hx hb dX8_templateMayBe_22 (by decide)) ?_
    refine zz (fun _ _ => lv_goto (tgt := 27) hx hb dX8_templateMayBe_23 (by decide)) ?_
    exact z_zret C hr rfl hlk dX8_templateMayBe_27 (by simp only [zd, fX8_templateMayBe, if_pos c_1, and_self])
  · refine zz (fun _ _ => lv_iload_n hx hb dX8_templateMayBe_5 rfl (lv_at hl 0 rfl)) ?_
    refine zbn (fun _ _ => lv_if_ne (tgt := 13) hx hb dX8_templateMayBe_6 (by decide)) (fun c_2 => ?_) (fun c_2 => ?_)
    · refine zz (fun _ _ => lv_iload_n hx hb dX8_templateMayBe_13 rfl (lv_at hl 0 rfl)) ?_
      refine zz (fun _ _ => lv_iconst (v := 1) hx hb dX8_templateMayBe_14 (by decide)) ?_
      refine zbn (fun _ _ => lv_icmp_ne (tgt := 26) hx hb dX8_templateMayBe_15 (by decide)) (fun c_3 => ?_) (fun c_3 => ?_)
      · refine zz (fun _ _ => lv_iconst (v := 0) hx hb dX8_templateMayBe_26 (by decide)) ?_
        exact z_zret C hr rfl hlk dX8_templateMayBe_27 (by simp only [zd, fX8_templateMayBe, if_neg c_1, if_neg c_2, if_neg c_3, and_self])
      · refine zz (fun _ _ => lv_iload_n hx hb dX8_templateMayBe_18 rfl (lv_at hl 1 rfl)) ?_
        refine zbn (fun _ _ => lv_if_ne (tgt := 26) hx hb dX8_templateMayBe_19 (by decide)) (fun c_4 => ?_) (fun c_4 => ?_)
        · refine zz (fun _ _ => lv_iconst (v := 0) hx hb dX8_templateMayBe_26 (by decide)) ?_
          exact z_zret C hr rfl hlk dX8_templateMayBe_27 (by simp only [zd, fX8_templateMayBe, if_neg c_1, if_neg c_2, if_pos c_3, if_neg c_4, and_self])
        · refine zz (fun _ _ => lv_iconst (v := 1) hx hb dX8_templateMayBe_22 (by decide)) ?_
          refine zz (fun _ _ => lv_goto (tgt := 27) hx hb dX8_templateMayBe_23 (by decide)) ?_
          exact z_zret C hr rfl hlk dX8_templateMayBe_27 (by simp only [zd, fX8_templateMayBe, if_neg c_1, if_neg c_2, if_pos c_3, if_pos c_4, and_self])
    · refine zz (fun _ _ => lv_iload_n hx hb dX8_templateMayBe_9 rfl (lv_at hl 1 rfl)) ?_
      refine zbn (fun _ _ => lv_if_ne (tgt := 22) hx hb dX8_templateMayBe_10 (by decide)) (fun c_5 => ?_) (fun c_5 => ?_)
      · refine zz (fun _ _ => lv_iconst (v := 1) hx hb dX8_templateMayBe_22 (by decide)) ?_
        refine zz (fun _ _ => lv_goto (tgt := 27) hx hb dX8_templateMayBe_23 (by decide)) ?_
        exact z_zret C hr rfl hlk dX8_templateMayBe_27 (by simp only [zd, fX8_templateMayBe, if_neg c_1, if_pos c_2, if_neg c_5, and_self])
      · refine zz (fun _ _ => lv_iload_n hx hb dX8_templateMayBe_13 rfl (lv_at hl 0 rfl)) ?_
        refine zz (fun _ _ => lv_iconst (v := 1) hx hb dX8_templateMayBe_14 (by decide)) ?_
        refine zbn (fun _ _ => lv_icmp_ne (tgt := 26) hx hb dX8_templateMayBe_15 (by decide)) (fun c_6 => ?_) (fun c_6 => ?_)
        · refine zz (fun _ _ => lv_iconst (v := 0) hx hb dX8_templateMayBe_26 (by decide)) ?_
          exact z_zret C hr rfl hlk dX8_templateMayBe_27 (by simp only [zd, fX8_templateMayBe, if_neg c_1, if_pos c_2, if_pos c_5, if_neg c_6, and_self])
        · refine zz (fun _ _ => lv_iload_n hx hb dX8_templateMayBe_18 rfl (lv_at hl 1 rfl)) ?_
          refine zbn (fun _ _ => lv_if_ne (tgt := 26) hx hb dX8_templateMayBe_19 (by decide)) (fun c_7 => ?_) (fun c_7 => ?_)
          · exact absurd c_5 c_7
          · refine zz (fun _ _ => lv_iconst (v := 1) hx hb dX8_templateMayBe_22 (by decide)) ?_
            refine zz (fun _ _ => lv_goto (tgt := 27) hx hb dX8_templateMayBe_23 (by decide)) ?_
            exact z_zret C hr rfl hlk dX8_templateMayBe_27 (by simp only [zd, fX8_templateMayBe, if_neg c_1, if_pos c_2, if_pos c_5, if_pos c_6, and_self])
def fX8_isName (a_ : Int32) : Int32 := if a_ < 0 then (0) else if 100 ≤ a_ then (0) else (1)
theorem nbfX8_isName {a_ : Int32} : narrow .boolean (.int (fX8_isName a_)) = .int (fX8_isName a_) := by
  unfold fX8_isName
  repeat' split
  all_goals try dsimp only
  all_goals first | rfl | assumption
set_option maxHeartbeats 1000000 in
set_option maxRecDepth 10000 in
theorem ctX8_isName {l : Launch} {D : va_G} {aC : Nat → ClassId} {b0 sz : Nat} {M : ZM} {a_ : Int32} : Ct l D aC b0 yX8_isName cX8_isName 1 (some .boolean) 0 0 0 [.int (a_)] M sz (zd (some (.int (fX8_isName a_))) M) := by
  refine Ct.of (by decide) (Nat.le_of_ble_eq_true rfl) ?_
  intro p e s m below meth c ls C hr hlk hnm hl
  have hl : lv_has ls 1 [(0, .int (a_))] := hl
  obtain ⟨hx, hb, -, -, -⟩ := id C
  refine zz (fun _ _ => lv_iload_n hx hb dX8_isName_0 rfl (lv_at hl 0 rfl)) ?_
  refine zb (fun _ _ => lv_if_lt (tgt := 14) hx hb dX8_isName_1 (by decide)) (fun c_1 => ?_) (fun c_1 => ?_)
  · refine zz (fun _ _ => lv_iconst (v := 0) hx hb dX8_isName_14 (by decide)) ?_
    exact z_zret C hr rfl hlk dX8_isName_15 (by simp only [zd, fX8_isName, if_pos c_1, and_self])
  · refine zz (fun _ _ => lv_iload_n hx hb dX8_isName_4 rfl (lv_at hl 0 rfl)) ?_
    refine zz (fun _ _ => lv_bipush (v := 100) hx hb dX8_isName_5 (by decide)) ?_
    refine zb (fun _ _ => lv_icmp_ge (tgt := 14) hx hb dX8_isName_7 (by decide)) (fun c_2 => ?_) (fun c_2 => ?_)
    · refine zz (fun _ _ => lv_iconst (v := 0) hx hb dX8_isName_14 (by decide)) ?_
      exact z_zret C hr rfl hlk dX8_isName_15 (by simp only [zd, fX8_isName, if_neg c_1, if_pos c_2, and_self])
    · refine zz (fun _ _ => lv_iconst (v := 1) hx hb dX8_isName_10 (by decide)) ?_
      refine zz (fun _ _ => lv_goto (tgt := 15) hx hb dX8_isName_11 (by decide)) ?_
      exact z_zret C hr rfl hlk dX8_isName_15 (by simp only [zd, fX8_isName, if_neg c_1, if_neg c_2, and_self])
def fX8_isVariable (a_ : Int32) : Int32 := if (-1) < a_ then (0) else if a_ ≤ (-5) then (0) else (1)
theorem nbfX8_isVariable {a_ : Int32} : narrow .boolean (.int (fX8_isVariable a_)) = .int (fX8_isVariable a_) := by
  unfold fX8_isVariable
  repeat' split
  all_goals try dsimp only
  all_goals first | rfl | assumption
set_option maxHeartbeats 1000000 in
set_option maxRecDepth 10000 in
theorem ctX8_isVariable {l : Launch} {D : va_G} {aC : Nat → ClassId} {b0 sz : Nat} {M : ZM} {a_ : Int32} : Ct l D aC b0 yX8_isVariable cX8_isVariable 1 (some .boolean) 0 0 0 [.int (a_)] M sz (zd (some (.int (fX8_isVariable a_))) M) := by
  refine Ct.of (by decide) (Nat.le_of_ble_eq_true rfl) ?_
  intro p e s m below meth c ls C hr hlk hnm hl
  have hl : lv_has ls 1 [(0, .int (a_))] := hl
  obtain ⟨hx, hb, -, -, -⟩ := id C
  refine zz (fun _ _ => lv_iload_n hx hb dX8_isVariable_0 rfl (lv_at hl 0 rfl)) ?_
  refine zz (fun _ _ => lv_iconst (v := (-1)) hx hb dX8_isVariable_1 (by decide)) ?_
  refine zb (fun _ _ => lv_icmp_gt (tgt := 15) hx hb dX8_isVariable_2 (by decide)) (fun c_1 => ?_) (fun c_1 => ?_)
  · refine zz (fun _ _ => lv_iconst (v := 0) hx hb dX8_isVariable_15 (by decide)) ?_
    exact z_zret C hr rfl hlk dX8_isVariable_16 (by simp only [zd, fX8_isVariable, if_pos c_1, and_self])
  · refine zz (fun _ _ => lv_iload_n hx hb dX8_isVariable_5 rfl (lv_at hl 0 rfl)) ?_
    refine zz (fun _ _ => lv_bipush (v := (-5)) hx hb dX8_isVariable_6 (by decide)) ?_
    refine zb (fun _ _ => lv_icmp_le (tgt := 15) hx hb dX8_isVariable_8 (by decide)) (fun c_2 => ?_) (fun c_2 => ?_)
    · refine zz (fun _ _ => lv_iconst (v := 0) hx hb dX8_isVariable_15 (by decide)) ?_
      exact z_zret C hr rfl hlk dX8_isVariable_16 (by simp only [zd, fX8_isVariable, if_neg c_1, if_pos c_2, and_self])
    · refine zz (fun _ _ => lv_iconst (v := 1) hx hb dX8_isVariable_11 (by decide)) ?_
      refine zz (fun _ _ => lv_goto (tgt := 16) hx hb dX8_isVariable_12 (by decide)) ?_
      exact z_zret C hr rfl hlk dX8_isVariable_16 (by simp only [zd, fX8_isVariable, if_neg c_1, if_neg c_2, and_self])
def fX8_isNewBlank (a_ : Int32) : Int32 := if (-11) < a_ then (0) else if a_ ≤ (-15) then (0) else (1)
theorem nbfX8_isNewBlank {a_ : Int32} : narrow .boolean (.int (fX8_isNewBlank a_)) = .int (fX8_isNewBlank a_) := by
  unfold fX8_isNewBlank
  repeat' split
  all_goals try dsimp only
  all_goals first | rfl | assumption
set_option maxHeartbeats 1000000 in
set_option maxRecDepth 10000 in
theorem ctX8_isNewBlank {l : Launch} {D : va_G} {aC : Nat → ClassId} {b0 sz : Nat} {M : ZM} {a_ : Int32} : Ct l D aC b0 yX8_isNewBlank cX8_isNewBlank 1 (some .boolean) 0 0 0 [.int (a_)] M sz (zd (some (.int (fX8_isNewBlank a_))) M) := by
  refine Ct.of (by decide) (Nat.le_of_ble_eq_true rfl) ?_
  intro p e s m below meth c ls C hr hlk hnm hl
  have hl : lv_has ls 1 [(0, .int (a_))] := hl
  obtain ⟨hx, hb, -, -, -⟩ := id C
  refine zz (fun _ _ => lv_iload_n hx hb dX8_isNewBlank_0 rfl (lv_at hl 0 rfl)) ?_
  refine zz (fun _ _ => lv_bipush (v := (-11)) hx hb dX8_isNewBlank_1 (by decide)) ?_
  refine zb (fun _ _ => lv_icmp_gt (tgt := 16) hx hb dX8_isNewBlank_3 (by decide)) (fun c_1 => ?_) (fun c_1 => ?_)
  · refine zz (fun _ _ => lv_iconst (v := 0) hx hb dX8_isNewBlank_16 (by decide)) ?_
    exact z_zret C hr rfl hlk dX8_isNewBlank_17 (by simp only [zd, fX8_isNewBlank, if_pos c_1, and_self])
  · refine zz (fun _ _ => lv_iload_n hx hb dX8_isNewBlank_6 rfl (lv_at hl 0 rfl)) ?_
    refine zz (fun _ _ => lv_bipush (v := (-15)) hx hb dX8_isNewBlank_7 (by decide)) ?_
    refine zb (fun _ _ => lv_icmp_le (tgt := 16) hx hb dX8_isNewBlank_9 (by decide)) (fun c_2 => ?_) (fun c_2 => ?_)
    · refine zz (fun _ _ => lv_iconst (v := 0) hx hb dX8_isNewBlank_16 (by decide)) ?_
      exact z_zret C hr rfl hlk dX8_isNewBlank_17 (by simp only [zd, fX8_isNewBlank, if_neg c_1, if_pos c_2, and_self])
    · refine zz (fun _ _ => lv_iconst (v := 1) hx hb dX8_isNewBlank_12 (by decide)) ?_
      refine zz (fun _ _ => lv_goto (tgt := 17) hx hb dX8_isNewBlank_13 (by decide)) ?_
      exact z_zret C hr rfl hlk dX8_isNewBlank_17 (by simp only [zd, fX8_isNewBlank, if_neg c_1, if_neg c_2, and_self])
def fX8_templateTermMayBe (a_ : Int32) (b_ : Int32) (c_ : Int32) : Int32 := if (fX8_isName c_) = 0 then if (fX8_isVariable c_) = 0 then if (fX8_isNewBlank c_) = 0 then (0) else if b_ = 0 then (0) else (1) else if a_ = 2 then (1) else if (fX8_isNewBlank c_) = 0 then (0) else if b_ = 0 then (0) else (1) else (1)
theorem nbfX8_templateTermMayBe {a_ : Int32} {b_ : Int32} {c_ : Int32} : narrow .boolean (.int (fX8_templateTermMayBe a_ b_ c_)) = .int (fX8_templateTermMayBe a_ b_ c_) := by
  unfold fX8_templateTermMayBe
  repeat' split
  all_goals try dsimp only
  all_goals first | rfl | assumption | exact nbfX8_isName | exact nbfX8_isNewBlank | exact nbfX8_isVariable
set_option maxHeartbeats 1000000 in
set_option maxRecDepth 10000 in
theorem ctX8_templateTermMayBe {l : Launch} {D : va_G} {aC : Nat → ClassId} {b0 sz : Nat} {M : ZM} {a_ : Int32} {b_ : Int32} {c_ : Int32} : Ct l D aC b0 yX8_templateTermMayBe cX8_templateTermMayBe 3 (some .boolean) 1 0 0 [.int (a_), .int (b_), .int (c_)] M sz (zd (some (.int (fX8_templateTermMayBe a_ b_ c_))) M) := by
  refine Ct.of (by decide) (Nat.le_of_ble_eq_true rfl) ?_
  intro p e s m below meth c ls C hr hlk hnm hl
  have hl : lv_has ls 3 [(0, .int (a_)), (1, .int (b_)), (2, .int (c_))] := hl
  obtain ⟨hx, hb, -, -, -⟩ := id C
  refine zz (fun _ _ => lv_iload_n hx hb dX8_templateTermMayBe_0 rfl (lv_at hl 2 rfl)) ?_
  refine zdS (As := [.int (c_)]) (rest := []) (st' := [.int ((fX8_isName c_))]) C hl.1 lk_X8_136 (ctX8_isName) rfl rfl (Nat.le_of_ble_eq_true rfl) ⟨by decide, by decide, by decide, by decide⟩ dX8_templateTermMayBe_1 rfl (fun sz => ?_)
  refine zbn (fun _ _ => lv_if_ne (tgt := 30) hx hb dX8_templateTermMayBe_4 (by decide)) (fun c_1 => ?_) (fun c_1 => ?_)
  · refine zz (fun _ _ => lv_iconst (v := 1) hx hb dX8_templateTermMayBe_30 (by decide)) ?_
    refine zz (fun _ _ => lv_goto (tgt := 35) hx hb dX8_templateTermMayBe_31 (by decide)) ?_
    exact z_zret C hr rfl hlk dX8_templateTermMayBe_35 (by simp only [zd, fX8_templateTermMayBe, if_neg c_1, and_self])
  · refine zz (fun _ _ => lv_iload_n hx hb dX8_templateTermMayBe_7 rfl (lv_at hl 2 rfl)) ?_
    refine zdS (As := [.int (c_)]) (rest := []) (st' := [.int ((fX8_isVariable c_))]) C hl.1 lk_X8_251 (ctX8_isVariable) rfl rfl (Nat.le_of_ble_eq_true rfl) ⟨by decide, by decide, by decide, by decide⟩ dX8_templateTermMayBe_8 rfl (fun sz => ?_)
    refine zb (fun _ _ => lv_if_eq (tgt := 19) hx hb dX8_templateTermMayBe_11 (by decide)) (fun c_2 => ?_) (fun c_2 => ?_)
    · refine zz (fun _ _ => lv_iload_n hx hb dX8_templateTermMayBe_19 rfl (lv_at hl 2 rfl)) ?_
      refine zdS (As := [.int (c_)]) (rest := []) (st' := [.int ((fX8_isNewBlank c_))]) C hl.1 lk_X8_97 (ctX8_isNewBlank) rfl rfl (Nat.le_of_ble_eq_true rfl) ⟨by decide, by decide, by decide, by decide⟩ dX8_templateTermMayBe_20 rfl (fun sz => ?_)
      refine zb (fun _ _ => lv_if_eq (tgt := 34) hx hb dX8_templateTermMayBe_23 (by decide)) (fun c_3 => ?_) (fun c_3 => ?_)
      · refine zz (fun _ _ => lv_iconst (v := 0) hx hb dX8_templateTermMayBe_34 (by decide)) ?_
        exact z_zret C hr rfl hlk dX8_templateTermMayBe_35 (by simp only [zd, fX8_templateTermMayBe, if_pos c_1, if_pos c_2, if_pos c_3, and_self])
      · refine zz (fun _ _ => lv_iload_n hx hb dX8_templateTermMayBe_26 rfl (lv_at hl 1 rfl)) ?_
        refine zb (fun _ _ => lv_if_eq (tgt := 34) hx hb dX8_templateTermMayBe_27 (by decide)) (fun c_4 => ?_) (fun c_4 => ?_)
        · refine zz (fun _ _ => lv_iconst (v := 0) hx hb dX8_templateTermMayBe_34 (by decide)) ?_
          exact z_zret C hr rfl hlk dX8_templateTermMayBe_35 (by simp only [zd, fX8_templateTermMayBe, if_pos c_1, if_pos c_2, if_neg c_3, if_pos c_4, and_self])
        · refine zz (fun _ _ => lv_iconst (v := 1) hx hb dX8_templateTermMayBe_30 (by decide)) ?_
          refine zz (fun _ _ => lv_goto (tgt := 35) hx hb dX8_templateTermMayBe_31 (by decide)) ?_
          exact z_zret C hr rfl hlk dX8_templateTermMayBe_35 (by simp only [zd, fX8_templateTermMayBe, if_pos c_1, if_pos c_2, if_neg c_3, if_neg c_4, and_self])
    · refine zz (fun _ _ => lv_iload_n hx hb dX8_templateTermMayBe_14 rfl (lv_at hl 0 rfl)) ?_
      refine zz (fun _ _ => lv_iconst (v := 2) hx hb dX8_templateTermMayBe_15 (by decide)) ?_
      refine zb (fun _ _ => lv_icmp_eq (tgt := 30) hx hb dX8_templateTermMayBe_16 (by decide)) (fun c_5 => ?_) (fun c_5 => ?_)
      · refine zz (fun _ _ => lv_iconst (v := 1) hx hb dX8_templateTermMayBe_30 (by decide)) ?_
        refine zz (fun _ _ => lv_goto (tgt := 35) hx hb dX8_templateTermMayBe_31 (by decide)) ?_
        exact z_zret C hr rfl hlk dX8_templateTermMayBe_35 (by simp only [zd, fX8_templateTermMayBe, if_pos c_1, if_neg c_2, if_pos c_5, and_self])
      · refine zz (fun _ _ => lv_iload_n hx hb dX8_templateTermMayBe_19 rfl (lv_at hl 2 rfl)) ?_
        refine zdS (As := [.int (c_)]) (rest := []) (st' := [.int ((fX8_isNewBlank c_))]) C hl.1 lk_X8_97 (ctX8_isNewBlank) rfl rfl (Nat.le_of_ble_eq_true rfl) ⟨by decide, by decide, by decide, by decide⟩ dX8_templateTermMayBe_20 rfl (fun sz => ?_)
        refine zb (fun _ _ => lv_if_eq (tgt := 34) hx hb dX8_templateTermMayBe_23 (by decide)) (fun c_6 => ?_) (fun c_6 => ?_)
        · refine zz (fun _ _ => lv_iconst (v := 0) hx hb dX8_templateTermMayBe_34 (by decide)) ?_
          exact z_zret C hr rfl hlk dX8_templateTermMayBe_35 (by simp only [zd, fX8_templateTermMayBe, if_pos c_1, if_neg c_2, if_neg c_5, if_pos c_6, and_self])
        · refine zz (fun _ _ => lv_iload_n hx hb dX8_templateTermMayBe_26 rfl (lv_at hl 1 rfl)) ?_
          refine zb (fun _ _ => lv_if_eq (tgt := 34) hx hb dX8_templateTermMayBe_27 (by decide)) (fun c_7 => ?_) (fun c_7 => ?_)
          · refine zz (fun _ _ => lv_iconst (v := 0) hx hb dX8_templateTermMayBe_34 (by decide)) ?_
            exact z_zret C hr rfl hlk dX8_templateTermMayBe_35 (by simp only [zd, fX8_templateTermMayBe, if_pos c_1, if_neg c_2, if_neg c_5, if_neg c_6, if_pos c_7, and_self])
          · refine zz (fun _ _ => lv_iconst (v := 1) hx hb dX8_templateTermMayBe_30 (by decide)) ?_
            refine zz (fun _ _ => lv_goto (tgt := 35) hx hb dX8_templateTermMayBe_31 (by decide)) ?_
            exact z_zret C hr rfl hlk dX8_templateTermMayBe_35 (by simp only [zd, fX8_templateTermMayBe, if_pos c_1, if_neg c_2, if_neg c_5, if_neg c_6, if_neg c_7, and_self])
def fX8_patternTermMayBe (a_ : Int32) : Int32 := if (fX8_isName a_) = 0 then if (fX8_isVariable a_) = 0 then (0) else (1) else (1)
theorem nbfX8_patternTermMayBe {a_ : Int32} : narrow .boolean (.int (fX8_patternTermMayBe a_)) = .int (fX8_patternTermMayBe a_) := by
  unfold fX8_patternTermMayBe
  repeat' split
  all_goals try dsimp only
  all_goals first | rfl | assumption | exact nbfX8_isName | exact nbfX8_isVariable
set_option maxHeartbeats 1000000 in
set_option maxRecDepth 10000 in
theorem ctX8_patternTermMayBe {l : Launch} {D : va_G} {aC : Nat → ClassId} {b0 sz : Nat} {M : ZM} {a_ : Int32} : Ct l D aC b0 yX8_patternTermMayBe cX8_patternTermMayBe 1 (some .boolean) 1 0 0 [.int (a_)] M sz (zd (some (.int (fX8_patternTermMayBe a_))) M) := by
  refine Ct.of (by decide) (Nat.le_of_ble_eq_true rfl) ?_
  intro p e s m below meth c ls C hr hlk hnm hl
  have hl : lv_has ls 1 [(0, .int (a_))] := hl
  obtain ⟨hx, hb, -, -, -⟩ := id C
  refine zz (fun _ _ => lv_iload_n hx hb dX8_patternTermMayBe_0 rfl (lv_at hl 0 rfl)) ?_
  refine zdS (As := [.int (a_)]) (rest := []) (st' := [.int ((fX8_isName a_))]) C hl.1 lk_X8_136 (ctX8_isName) rfl rfl (Nat.le_of_ble_eq_true rfl) ⟨by decide, by decide, by decide, by decide⟩ dX8_patternTermMayBe_1 rfl (fun sz => ?_)
  refine zbn (fun _ _ => lv_if_ne (tgt := 14) hx hb dX8_patternTermMayBe_4 (by decide)) (fun c_1 => ?_) (fun c_1 => ?_)
  · refine zz (fun _ _ => lv_iconst (v := 1) hx hb dX8_patternTermMayBe_14 (by decide)) ?_
    refine zz (fun _ _ => lv_goto (tgt := 19) hx hb dX8_patternTermMayBe_15 (by decide)) ?_
    exact z_zret C hr rfl hlk dX8_patternTermMayBe_19 (by simp only [zd, fX8_patternTermMayBe, if_neg c_1, and_self])
  · refine zz (fun _ _ => lv_iload_n hx hb dX8_patternTermMayBe_7 rfl (lv_at hl 0 rfl)) ?_
    refine zdS (As := [.int (a_)]) (rest := []) (st' := [.int ((fX8_isVariable a_))]) C hl.1 lk_X8_251 (ctX8_isVariable) rfl rfl (Nat.le_of_ble_eq_true rfl) ⟨by decide, by decide, by decide, by decide⟩ dX8_patternTermMayBe_8 rfl (fun sz => ?_)
    refine zb (fun _ _ => lv_if_eq (tgt := 18) hx hb dX8_patternTermMayBe_11 (by decide)) (fun c_2 => ?_) (fun c_2 => ?_)
    · refine zz (fun _ _ => lv_iconst (v := 0) hx hb dX8_patternTermMayBe_18 (by decide)) ?_
      exact z_zret C hr rfl hlk dX8_patternTermMayBe_19 (by simp only [zd, fX8_patternTermMayBe, if_pos c_1, if_pos c_2, and_self])
    · refine zz (fun _ _ => lv_iconst (v := 1) hx hb dX8_patternTermMayBe_14 (by decide)) ?_
      refine zz (fun _ _ => lv_goto (tgt := 19) hx hb dX8_patternTermMayBe_15 (by decide)) ?_
      exact z_zret C hr rfl hlk dX8_patternTermMayBe_19 (by simp only [zd, fX8_patternTermMayBe, if_pos c_1, if_neg c_2, and_self])
def fX8_isPart (a_ : Int32) : Int32 := if a_ < 0 then (0) else if 255 < a_ then (0) else (1)
theorem nbfX8_isPart {a_ : Int32} : narrow .boolean (.int (fX8_isPart a_)) = .int (fX8_isPart a_) := by
  unfold fX8_isPart
  repeat' split
  all_goals try dsimp only
  all_goals first | rfl | assumption
set_option maxHeartbeats 1000000 in
set_option maxRecDepth 10000 in
theorem ctX8_isPart {l : Launch} {D : va_G} {aC : Nat → ClassId} {b0 sz : Nat} {M : ZM} {a_ : Int32} : Ct l D aC b0 yX8_isPart cX8_isPart 1 (some .boolean) 0 0 0 [.int (a_)] M sz (zd (some (.int (fX8_isPart a_))) M) := by
  refine Ct.of (by decide) (Nat.le_of_ble_eq_true rfl) ?_
  intro p e s m below meth c ls C hr hlk hnm hl
  have hl : lv_has ls 1 [(0, .int (a_))] := hl
  obtain ⟨hx, hb, -, -, -⟩ := id C
  refine zz (fun _ _ => lv_iload_n hx hb dX8_isPart_0 rfl (lv_at hl 0 rfl)) ?_
  refine zb (fun _ _ => lv_if_lt (tgt := 15) hx hb dX8_isPart_1 (by decide)) (fun c_1 => ?_) (fun c_1 => ?_)
  · refine zz (fun _ _ => lv_iconst (v := 0) hx hb dX8_isPart_15 (by decide)) ?_
    exact z_zret C hr rfl hlk dX8_isPart_16 (by simp only [zd, fX8_isPart, if_pos c_1, and_self])
  · refine zz (fun _ _ => lv_iload_n hx hb dX8_isPart_4 rfl (lv_at hl 0 rfl)) ?_
    refine zz (fun _ _ => lv_sipush (v := 255) hx hb dX8_isPart_5 (by decide)) ?_
    refine zb (fun _ _ => lv_icmp_gt (tgt := 15) hx hb dX8_isPart_8 (by decide)) (fun c_2 => ?_) (fun c_2 => ?_)
    · refine zz (fun _ _ => lv_iconst (v := 0) hx hb dX8_isPart_15 (by decide)) ?_
      exact z_zret C hr rfl hlk dX8_isPart_16 (by simp only [zd, fX8_isPart, if_neg c_1, if_pos c_2, and_self])
    · refine zz (fun _ _ => lv_iconst (v := 1) hx hb dX8_isPart_11 (by decide)) ?_
      refine zz (fun _ _ => lv_goto (tgt := 16) hx hb dX8_isPart_12 (by decide)) ?_
      exact z_zret C hr rfl hlk dX8_isPart_16 (by simp only [zd, fX8_isPart, if_neg c_1, if_neg c_2, and_self])
def fX8_factOf (a_ : Int32) (b_ : Int32) (c_ : Int32) : Int32 := ((((a_) <<< ((16) &&& 31)) ||| ((b_) <<< ((8) &&& 31))) ||| (c_))
set_option maxHeartbeats 1000000 in
set_option maxRecDepth 10000 in
theorem ctX8_factOf {l : Launch} {D : va_G} {aC : Nat → ClassId} {b0 sz : Nat} {M : ZM} {a_ : Int32} {b_ : Int32} {c_ : Int32} : Ct l D aC b0 yX8_factOf cX8_factOf 3 (some .int) 0 0 0 [.int (a_), .int (b_), .int (c_)] M sz (zd (some (.int (fX8_factOf a_ b_ c_))) M) := by
  refine Ct.of (by decide) (Nat.le_of_ble_eq_true rfl) ?_
  intro p e s m below meth c ls C hr hlk hnm hl
  have hl : lv_has ls 3 [(0, .int (a_)), (1, .int (b_)), (2, .int (c_))] := hl
  obtain ⟨hx, hb, -, -, -⟩ := id C
  refine zz (fun _ _ => lv_iload_n hx hb dX8_factOf_0 rfl (lv_at hl 0 rfl)) ?_
  refine zz (fun _ _ => lv_bipush (v := 16) hx hb dX8_factOf_1 (by decide)) ?_
  refine zz (fun _ _ => lv_ishl hx hb dX8_factOf_3) ?_
  refine zz (fun _ _ => lv_iload_n hx hb dX8_factOf_4 rfl (lv_at hl 1 rfl)) ?_
  refine zz (fun _ _ => lv_bipush (v := 8) hx hb dX8_factOf_5 (by decide)) ?_
  refine zz (fun _ _ => lv_ishl hx hb dX8_factOf_7) ?_
  refine zz (fun _ _ => lv_ior hx hb dX8_factOf_8) ?_
  refine zz (fun _ _ => lv_iload_n hx hb dX8_factOf_9 rfl (lv_at hl 2 rfl)) ?_
  refine zz (fun _ _ => lv_ior hx hb dX8_factOf_10) ?_
  exact z_iret C hr hlk dX8_factOf_11 (by simp only [zd, fX8_factOf, and_self])
def fX8_partOf (a_ : Int32) (b_ : Int32) : Int32 := (((a_) >>> (((16) - ((8) * (b_))) &&& 31)) &&& (255))
set_option maxHeartbeats 1000000 in
set_option maxRecDepth 10000 in
theorem ctX8_partOf {l : Launch} {D : va_G} {aC : Nat → ClassId} {b0 sz : Nat} {M : ZM} {a_ : Int32} {b_ : Int32} : Ct l D aC b0 yX8_partOf cX8_partOf 2 (some .int) 0 0 0 [.int (a_), .int (b_)] M sz (zd (some (.int (fX8_partOf a_ b_))) M) := by
  refine Ct.of (by decide) (Nat.le_of_ble_eq_true rfl) ?_
  intro p e s m below meth c ls C hr hlk hnm hl
  have hl : lv_has ls 2 [(0, .int (a_)), (1, .int (b_))] := hl
  obtain ⟨hx, hb, -, -, -⟩ := id C
  refine zz (fun _ _ => lv_iload_n hx hb dX8_partOf_0 rfl (lv_at hl 0 rfl)) ?_
  refine zz (fun _ _ => lv_bipush (v := 16) hx hb dX8_partOf_1 (by decide)) ?_
  refine zz (fun _ _ => lv_bipush (v := 8) hx hb dX8_partOf_3 (by decide)) ?_
  refine zz (fun _ _ => lv_iload_n hx hb dX8_partOf_5 rfl (lv_at hl 1 rfl)) ?_
  refine zz (fun _ _ => lv_imul hx hb dX8_partOf_6) ?_
  refine zz (fun _ _ => lv_isub hx hb dX8_partOf_7) ?_
  refine zz (fun _ _ => lv_ishr hx hb dX8_partOf_8) ?_
  refine zz (fun _ _ => lv_sipush (v := 255) hx hb dX8_partOf_9 (by decide)) ?_
  refine zz (fun _ _ => lv_iand hx hb dX8_partOf_12) ?_
  exact z_iret C hr hlk dX8_partOf_13 (by simp only [zd, fX8_partOf, and_self])
def fX9_isIn (a_ : Int32) (b_ : Int32) (c_ : Int32) : Int32 := if a_ < b_ then (0) else if c_ < a_ then (0) else (1)
theorem nbfX9_isIn {a_ : Int32} {b_ : Int32} {c_ : Int32} : narrow .boolean (.int (fX9_isIn a_ b_ c_)) = .int (fX9_isIn a_ b_ c_) := by
  unfold fX9_isIn
  repeat' split
  all_goals try dsimp only
  all_goals first | rfl | assumption
set_option maxHeartbeats 1000000 in
set_option maxRecDepth 10000 in
theorem ctX9_isIn {l : Launch} {D : va_G} {aC : Nat → ClassId} {b0 sz : Nat} {M : ZM} {a_ : Int32} {b_ : Int32} {c_ : Int32} : Ct l D aC b0 yX9_isIn cX9_isIn 3 (some .boolean) 0 0 0 [.int (a_), .int (b_), .int (c_)] M sz (zd (some (.int (fX9_isIn a_ b_ c_))) M) := by
  refine Ct.of (by decide) (Nat.le_of_ble_eq_true rfl) ?_
  intro p e s m below meth c ls C hr hlk hnm hl
  have hl : lv_has ls 3 [(0, .int (a_)), (1, .int (b_)), (2, .int (c_))] := hl
  obtain ⟨hx, hb, -, -, -⟩ := id C
  refine zz (fun _ _ => lv_iload_n hx hb dX9_isIn_0 rfl (lv_at hl 0 rfl)) ?_
  refine zz (fun _ _ => lv_iload_n hx hb dX9_isIn_1 rfl (lv_at hl 1 rfl)) ?_
  refine zb (fun _ _ => lv_icmp_lt (tgt := 14) hx hb dX9_isIn_2 (by decide)) (fun c_1 => ?_) (fun c_1 => ?_)
  · refine zz (fun _ _ => lv_iconst (v := 0) hx hb dX9_isIn_14 (by decide)) ?_
    exact z_zret C hr rfl hlk dX9_isIn_15 (by simp only [zd, fX9_isIn, if_pos c_1, and_self])
  · refine zz (fun _ _ => lv_iload_n hx hb dX9_isIn_5 rfl (lv_at hl 0 rfl)) ?_
    refine zz (fun _ _ => lv_iload_n hx hb dX9_isIn_6 rfl (lv_at hl 2 rfl)) ?_
    refine zb (fun _ _ => lv_icmp_gt (tgt := 14) hx hb dX9_isIn_7 (by decide)) (fun c_2 => ?_) (fun c_2 => ?_)
    · refine zz (fun _ _ => lv_iconst (v := 0) hx hb dX9_isIn_14 (by decide)) ?_
      exact z_zret C hr rfl hlk dX9_isIn_15 (by simp only [zd, fX9_isIn, if_neg c_1, if_pos c_2, and_self])
    · refine zz (fun _ _ => lv_iconst (v := 1) hx hb dX9_isIn_10 (by decide)) ?_
      refine zz (fun _ _ => lv_goto (tgt := 15) hx hb dX9_isIn_11 (by decide)) ?_
      exact z_zret C hr rfl hlk dX9_isIn_15 (by simp only [zd, fX9_isIn, if_neg c_1, if_neg c_2, and_self])
def fX9_isTo (a_ : Int32) (b_ : Int32) : Int32 := if a_ = 3 then ((fX9_isIn b_ (-2) 6)) else if a_ = 5 then ((fX9_isIn b_ (-2) 6)) else if a_ = 4 then ((fX9_isIn b_ 1 6)) else ((fX9_isIn b_ 0 6))
theorem nbfX9_isTo {a_ : Int32} {b_ : Int32} : narrow .boolean (.int (fX9_isTo a_ b_)) = .int (fX9_isTo a_ b_) := by
  unfold fX9_isTo
  repeat' split
  all_goals try dsimp only
  all_goals first | rfl | assumption | exact nbfX9_isIn
set_option maxHeartbeats 1000000 in
set_option maxRecDepth 10000 in
theorem ctX9_isTo {l : Launch} {D : va_G} {aC : Nat → ClassId} {b0 sz : Nat} {M : ZM} {a_ : Int32} {b_ : Int32} : Ct l D aC b0 yX9_isTo cX9_isTo 2 (some .boolean) 1 0 0 [.int (a_), .int (b_)] M sz (zd (some (.int (fX9_isTo a_ b_))) M) := by
  refine Ct.of (by decide) (Nat.le_of_ble_eq_true rfl) ?_
  intro p e s m below meth c ls C hr hlk hnm hl
  have hl : lv_has ls 2 [(0, .int (a_)), (1, .int (b_))] := hl
  obtain ⟨hx, hb, -, -, -⟩ := id C
  refine zz (fun _ _ => lv_iload_n hx hb dX9_isTo_0 rfl (lv_at hl 0 rfl)) ?_
  refine zz (fun _ _ => lv_iconst (v := 3) hx hb dX9_isTo_1 (by decide)) ?_
  refine zb (fun _ _ => lv_icmp_eq (tgt := 10) hx hb dX9_isTo_2 (by decide)) (fun c_1 => ?_) (fun c_1 => ?_)
  · refine zz (fun _ _ => lv_iload_n hx hb dX9_isTo_10 rfl (lv_at hl 1 rfl)) ?_
    refine zz (fun _ _ => lv_bipush (v := (-2)) hx hb dX9_isTo_11 (by decide)) ?_
    refine zz (fun _ _ => lv_bipush (v := 6) hx hb dX9_isTo_13 (by decide)) ?_
    refine zdS (As := [.int (b_), .int ((-2)), .int (6)]) (rest := []) (st' := [.int ((fX9_isIn b_ (-2) 6))]) C hl.1 lk_X9_135 (ctX9_isIn) rfl rfl (Nat.le_of_ble_eq_true rfl) ⟨by decide, by decide, by decide, by decide⟩ dX9_isTo_15 rfl (fun sz => ?_)
    exact z_zret C hr nbfX9_isIn hlk dX9_isTo_18 (by simp only [zd, fX9_isTo, if_pos c_1, and_self])
  · refine zz (fun _ _ => lv_iload_n hx hb dX9_isTo_5 rfl (lv_at hl 0 rfl)) ?_
    refine zz (fun _ _ => lv_iconst (v := 5) hx hb dX9_isTo_6 (by decide)) ?_
    refine zbn (fun _ _ => lv_icmp_ne (tgt := 19) hx hb dX9_isTo_7 (by decide)) (fun c_2 => ?_) (fun c_2 => ?_)
    · refine zz (fun _ _ => lv_iload_n hx hb dX9_isTo_19 rfl (lv_at hl 1 rfl)) ?_
      refine zz (fun _ _ => lv_iload_n hx hb dX9_isTo_20 rfl (lv_at hl 0 rfl)) ?_
      refine zz (fun _ _ => lv_iconst (v := 4) hx hb dX9_isTo_21 (by decide)) ?_
      refine zbn (fun _ _ => lv_icmp_ne (tgt := 29) hx hb dX9_isTo_22 (by decide)) (fun c_3 => ?_) (fun c_3 => ?_)
      · refine zz (fun _ _ => lv_iconst (v := 0) hx hb dX9_isTo_29 (by decide)) ?_
        refine zz (fun _ _ => lv_bipush (v := 6) hx hb dX9_isTo_30 (by decide)) ?_
        refine zdS (As := [.int (b_), .int (0), .int (6)]) (rest := []) (st' := [.int ((fX9_isIn b_ 0 6))]) C hl.1 lk_X9_135 (ctX9_isIn) rfl rfl (Nat.le_of_ble_eq_true rfl) ⟨by decide, by decide, by decide, by decide⟩ dX9_isTo_32 rfl (fun sz => ?_)
        exact z_zret C hr nbfX9_isIn hlk dX9_isTo_35 (by simp only [zd, fX9_isTo, if_neg c_1, if_neg c_2, if_neg c_3, and_self])
      · refine zz (fun _ _ => lv_iconst (v := 1) hx hb dX9_isTo_25 (by decide)) ?_
        refine zz (fun _ _ => lv_goto (tgt := 30) hx hb dX9_isTo_26 (by decide)) ?_
        refine zz (fun _ _ => lv_bipush (v := 6) hx hb dX9_isTo_30 (by decide)) ?_
        refine zdS (As := [.int (b_), .int (1), .int (6)]) (rest := []) (st' := [.int ((fX9_isIn b_ 1 6))]) C hl.1 lk_X9_135 (ctX9_isIn) rfl rfl (Nat.le_of_ble_eq_true rfl) ⟨by decide, by decide, by decide, by decide⟩ dX9_isTo_32 rfl (fun sz => ?_)
        exact z_zret C hr nbfX9_isIn hlk dX9_isTo_35 (by simp only [zd, fX9_isTo, if_neg c_1, if_neg c_2, if_pos c_3, and_self])
    · refine zz (fun _ _ => lv_iload_n hx hb dX9_isTo_10 rfl (lv_at hl 1 rfl)) ?_
      refine zz (fun _ _ => lv_bipush (v := (-2)) hx hb dX9_isTo_11 (by decide)) ?_
      refine zz (fun _ _ => lv_bipush (v := 6) hx hb dX9_isTo_13 (by decide)) ?_
      refine zdS (As := [.int (b_), .int ((-2)), .int (6)]) (rest := []) (st' := [.int ((fX9_isIn b_ (-2) 6))]) C hl.1 lk_X9_135 (ctX9_isIn) rfl rfl (Nat.le_of_ble_eq_true rfl) ⟨by decide, by decide, by decide, by decide⟩ dX9_isTo_15 rfl (fun sz => ?_)
      exact z_zret C hr nbfX9_isIn hlk dX9_isTo_18 (by simp only [zd, fX9_isTo, if_neg c_1, if_pos c_2, and_self])
def fX9_isName (a_ : Int32) : Int32 := ((fX9_isIn a_ 0 99))
theorem nbfX9_isName {a_ : Int32} : narrow .boolean (.int (fX9_isName a_)) = .int (fX9_isName a_) := by
  unfold fX9_isName
  repeat' split
  all_goals try dsimp only
  all_goals first | rfl | assumption | exact nbfX9_isIn
set_option maxHeartbeats 1000000 in
set_option maxRecDepth 10000 in
theorem ctX9_isName {l : Launch} {D : va_G} {aC : Nat → ClassId} {b0 sz : Nat} {M : ZM} {a_ : Int32} : Ct l D aC b0 yX9_isName cX9_isName 1 (some .boolean) 1 0 0 [.int (a_)] M sz (zd (some (.int (fX9_isName a_))) M) := by
  refine Ct.of (by decide) (Nat.le_of_ble_eq_true rfl) ?_
  intro p e s m below meth c ls C hr hlk hnm hl
  have hl : lv_has ls 1 [(0, .int (a_))] := hl
  obtain ⟨hx, hb, -, -, -⟩ := id C
  refine zz (fun _ _ => lv_iload_n hx hb dX9_isName_0 rfl (lv_at hl 0 rfl)) ?_
  refine zz (fun _ _ => lv_iconst (v := 0) hx hb dX9_isName_1 (by decide)) ?_
  refine zz (fun _ _ => lv_bipush (v := 99) hx hb dX9_isName_2 (by decide)) ?_
  refine zdS (As := [.int (a_), .int (0), .int (99)]) (rest := []) (st' := [.int ((fX9_isIn a_ 0 99))]) C hl.1 lk_X9_135 (ctX9_isIn) rfl rfl (Nat.le_of_ble_eq_true rfl) ⟨by decide, by decide, by decide, by decide⟩ dX9_isName_4 rfl (fun sz => ?_)
  exact z_zret C hr nbfX9_isIn hlk dX9_isName_7 (by simp only [zd, fX9_isName, and_self])
def fX9_isVariable (a_ : Int32) : Int32 := ((fX9_isIn a_ (-4) (-1)))
theorem nbfX9_isVariable {a_ : Int32} : narrow .boolean (.int (fX9_isVariable a_)) = .int (fX9_isVariable a_) := by
  unfold fX9_isVariable
  repeat' split
  all_goals try dsimp only
  all_goals first | rfl | assumption | exact nbfX9_isIn
set_option maxHeartbeats 1000000 in
set_option maxRecDepth 10000 in
theorem ctX9_isVariable {l : Launch} {D : va_G} {aC : Nat → ClassId} {b0 sz : Nat} {M : ZM} {a_ : Int32} : Ct l D aC b0 yX9_isVariable cX9_isVariable 1 (some .boolean) 1 0 0 [.int (a_)] M sz (zd (some (.int (fX9_isVariable a_))) M) := by
  refine Ct.of (by decide) (Nat.le_of_ble_eq_true rfl) ?_
  intro p e s m below meth c ls C hr hlk hnm hl
  have hl : lv_has ls 1 [(0, .int (a_))] := hl
  obtain ⟨hx, hb, -, -, -⟩ := id C
  refine zz (fun _ _ => lv_iload_n hx hb dX9_isVariable_0 rfl (lv_at hl 0 rfl)) ?_
  refine zz (fun _ _ => lv_bipush (v := (-4)) hx hb dX9_isVariable_1 (by decide)) ?_
  refine zz (fun _ _ => lv_iconst (v := (-1)) hx hb dX9_isVariable_3 (by decide)) ?_
  refine zdS (As := [.int (a_), .int ((-4)), .int ((-1))]) (rest := []) (st' := [.int ((fX9_isIn a_ (-4) (-1)))]) C hl.1 lk_X9_135 (ctX9_isIn) rfl rfl (Nat.le_of_ble_eq_true rfl) ⟨by decide, by decide, by decide, by decide⟩ dX9_isVariable_4 rfl (fun sz => ?_)
  exact z_zret C hr nbfX9_isIn hlk dX9_isVariable_7 (by simp only [zd, fX9_isVariable, and_self])
def fX9_isNew (a_ : Int32) : Int32 := ((fX9_isIn a_ (-14) (-11)))
theorem nbfX9_isNew {a_ : Int32} : narrow .boolean (.int (fX9_isNew a_)) = .int (fX9_isNew a_) := by
  unfold fX9_isNew
  repeat' split
  all_goals try dsimp only
  all_goals first | rfl | assumption | exact nbfX9_isIn
set_option maxHeartbeats 1000000 in
set_option maxRecDepth 10000 in
theorem ctX9_isNew {l : Launch} {D : va_G} {aC : Nat → ClassId} {b0 sz : Nat} {M : ZM} {a_ : Int32} : Ct l D aC b0 yX9_isNew cX9_isNew 1 (some .boolean) 1 0 0 [.int (a_)] M sz (zd (some (.int (fX9_isNew a_))) M) := by
  refine Ct.of (by decide) (Nat.le_of_ble_eq_true rfl) ?_
  intro p e s m below meth c ls C hr hlk hnm hl
  have hl : lv_has ls 1 [(0, .int (a_))] := hl
  obtain ⟨hx, hb, -, -, -⟩ := id C
  refine zz (fun _ _ => lv_iload_n hx hb dX9_isNew_0 rfl (lv_at hl 0 rfl)) ?_
  refine zz (fun _ _ => lv_bipush (v := (-14)) hx hb dX9_isNew_1 (by decide)) ?_
  refine zz (fun _ _ => lv_bipush (v := (-11)) hx hb dX9_isNew_3 (by decide)) ?_
  refine zdS (As := [.int (a_), .int ((-14)), .int ((-11))]) (rest := []) (st' := [.int ((fX9_isIn a_ (-14) (-11)))]) C hl.1 lk_X9_135 (ctX9_isIn) rfl rfl (Nat.le_of_ble_eq_true rfl) ⟨by decide, by decide, by decide, by decide⟩ dX9_isNew_5 rfl (fun sz => ?_)
  exact z_zret C hr nbfX9_isIn hlk dX9_isNew_8 (by simp only [zd, fX9_isNew, and_self])
def fX9_mayStand (a_ : Int32) (b_ : Int32) (c_ : Int32) : Int32 := if (fX9_isName a_) = 0 then if b_ = 2 then if (fX9_isVariable a_) = 0 then if c_ = 0 then (0) else if (fX9_isNew a_) = 0 then (0) else (1) else (1) else if c_ = 0 then (0) else if (fX9_isNew a_) = 0 then (0) else (1) else (1)
theorem nbfX9_mayStand {a_ : Int32} {b_ : Int32} {c_ : Int32} : narrow .boolean (.int (fX9_mayStand a_ b_ c_)) = .int (fX9_mayStand a_ b_ c_) := by
  unfold fX9_mayStand
  repeat' split
  all_goals try dsimp only
  all_goals first | rfl | assumption | exact nbfX9_isName | exact nbfX9_isNew | exact nbfX9_isVariable
set_option maxHeartbeats 1000000 in
set_option maxRecDepth 10000 in
theorem ctX9_mayStand {l : Launch} {D : va_G} {aC : Nat → ClassId} {b0 sz : Nat} {M : ZM} {a_ : Int32} {b_ : Int32} {c_ : Int32} : Ct l D aC b0 yX9_mayStand cX9_mayStand 3 (some .boolean) 2 0 0 [.int (a_), .int (b_), .int (c_)] M sz (zd (some (.int (fX9_mayStand a_ b_ c_))) M) := by
  refine Ct.of (by decide) (Nat.le_of_ble_eq_true rfl) ?_
  intro p e s m below meth c ls C hr hlk hnm hl
  have hl : lv_has ls 3 [(0, .int (a_)), (1, .int (b_)), (2, .int (c_))] := hl
  obtain ⟨hx, hb, -, -, -⟩ := id C
  refine zz (fun _ _ => lv_iload_n hx hb dX9_mayStand_0 rfl (lv_at hl 0 rfl)) ?_
  refine zdS (As := [.int (a_)]) (rest := []) (st' := [.int ((fX9_isName a_))]) C hl.1 lk_X9_147 (ctX9_isName) rfl rfl (Nat.le_of_ble_eq_true rfl) ⟨by decide, by decide, by decide, by decide⟩ dX9_mayStand_1 rfl (fun sz => ?_)
  refine zbn (fun _ _ => lv_if_ne (tgt := 30) hx hb dX9_mayStand_4 (by decide)) (fun c_1 => ?_) (fun c_1 => ?_)
  · refine zz (fun _ _ => lv_iconst (v := 1) hx hb dX9_mayStand_30 (by decide)) ?_
    refine zz (fun _ _ => lv_goto (tgt := 35) hx hb dX9_mayStand_31 (by decide)) ?_
    exact z_zret C hr rfl hlk dX9_mayStand_35 (by simp only [zd, fX9_mayStand, if_neg c_1, and_self])
  · refine zz (fun _ _ => lv_iload_n hx hb dX9_mayStand_7 rfl (lv_at hl 1 rfl)) ?_
    refine zz (fun _ _ => lv_iconst (v := 2) hx hb dX9_mayStand_8 (by decide)) ?_
    refine zbn (fun _ _ => lv_icmp_ne (tgt := 19) hx hb dX9_mayStand_9 (by decide)) (fun c_2 => ?_) (fun c_2 => ?_)
    · refine zz (fun _ _ => lv_iload_n hx hb dX9_mayStand_19 rfl (lv_at hl 2 rfl)) ?_
      refine zb (fun _ _ => lv_if_eq (tgt := 34) hx hb dX9_mayStand_20 (by decide)) (fun c_3 => ?_) (fun c_3 => ?_)
      · refine zz (fun _ _ => lv_iconst (v := 0) hx hb dX9_mayStand_34 (by decide)) ?_
        exact z_zret C hr rfl hlk dX9_mayStand_35 (by simp only [zd, fX9_mayStand, if_pos c_1, if_neg c_2, if_pos c_3, and_self])
      · refine zz (fun _ _ => lv_iload_n hx hb dX9_mayStand_23 rfl (lv_at hl 0 rfl)) ?_
        refine zdS (As := [.int (a_)]) (rest := []) (st' := [.int ((fX9_isNew a_))]) C hl.1 lk_X9_153 (ctX9_isNew) rfl rfl (Nat.le_of_ble_eq_true rfl) ⟨by decide, by decide, by decide, by decide⟩ dX9_mayStand_24 rfl (fun sz => ?_)
        refine zb (fun _ _ => lv_if_eq (tgt := 34) hx hb dX9_mayStand_27 (by decide)) (fun c_4 => ?_) (fun c_4 => ?_)
        · refine zz (fun _ _ => lv_iconst (v := 0) hx hb dX9_mayStand_34 (by decide)) ?_
          exact z_zret C hr rfl hlk dX9_mayStand_35 (by simp only [zd, fX9_mayStand, if_pos c_1, if_neg c_2, if_neg c_3, if_pos c_4, and_self])
        · refine zz (fun _ _ => lv_iconst (v := 1) hx hb dX9_mayStand_30 (by decide)) ?_
          refine zz (fun _ _ => lv_goto (tgt := 35) hx hb dX9_mayStand_31 (by decide)) ?_
          exact z_zret C hr rfl hlk dX9_mayStand_35 (by simp only [zd, fX9_mayStand, if_pos c_1, if_neg c_2, if_neg c_3, if_neg c_4, and_self])
    · refine zz (fun _ _ => lv_iload_n hx hb dX9_mayStand_12 rfl (lv_at hl 0 rfl)) ?_
      refine zdS (As := [.int (a_)]) (rest := []) (st' := [.int ((fX9_isVariable a_))]) C hl.1 lk_X9_150 (ctX9_isVariable) rfl rfl (Nat.le_of_ble_eq_true rfl) ⟨by decide, by decide, by decide, by decide⟩ dX9_mayStand_13 rfl (fun sz => ?_)
      refine zbn (fun _ _ => lv_if_ne (tgt := 30) hx hb dX9_mayStand_16 (by decide)) (fun c_5 => ?_) (fun c_5 => ?_)
      · refine zz (fun _ _ => lv_iconst (v := 1) hx hb dX9_mayStand_30 (by decide)) ?_
        refine zz (fun _ _ => lv_goto (tgt := 35) hx hb dX9_mayStand_31 (by decide)) ?_
        exact z_zret C hr rfl hlk dX9_mayStand_35 (by simp only [zd, fX9_mayStand, if_pos c_1, if_pos c_2, if_neg c_5, and_self])
      · refine zz (fun _ _ => lv_iload_n hx hb dX9_mayStand_19 rfl (lv_at hl 2 rfl)) ?_
        refine zb (fun _ _ => lv_if_eq (tgt := 34) hx hb dX9_mayStand_20 (by decide)) (fun c_6 => ?_) (fun c_6 => ?_)
        · refine zz (fun _ _ => lv_iconst (v := 0) hx hb dX9_mayStand_34 (by decide)) ?_
          exact z_zret C hr rfl hlk dX9_mayStand_35 (by simp only [zd, fX9_mayStand, if_pos c_1, if_pos c_2, if_pos c_5, if_pos c_6, and_self])
        · refine zz (fun _ _ => lv_iload_n hx hb dX9_mayStand_23 rfl (lv_at hl 0 rfl)) ?_
          refine zdS (As := [.int (a_)]) (rest := []) (st' := [.int ((fX9_isNew a_))]) C hl.1 lk_X9_153 (ctX9_isNew) rfl rfl (Nat.le_of_ble_eq_true rfl) ⟨by decide, by decide, by decide, by decide⟩ dX9_mayStand_24 rfl (fun sz => ?_)
          refine zb (fun _ _ => lv_if_eq (tgt := 34) hx hb dX9_mayStand_27 (by decide)) (fun c_7 => ?_) (fun c_7 => ?_)
          · refine zz (fun _ _ => lv_iconst (v := 0) hx hb dX9_mayStand_34 (by decide)) ?_
            exact z_zret C hr rfl hlk dX9_mayStand_35 (by simp only [zd, fX9_mayStand, if_pos c_1, if_pos c_2, if_pos c_5, if_neg c_6, if_pos c_7, and_self])
          · refine zz (fun _ _ => lv_iconst (v := 1) hx hb dX9_mayStand_30 (by decide)) ?_
            refine zz (fun _ _ => lv_goto (tgt := 35) hx hb dX9_mayStand_31 (by decide)) ?_
            exact z_zret C hr rfl hlk dX9_mayStand_35 (by simp only [zd, fX9_mayStand, if_pos c_1, if_pos c_2, if_pos c_5, if_neg c_6, if_neg c_7, and_self])
