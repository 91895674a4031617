theorem kp_2 {i : Nat} (h : i < 12) : ck (61 + 6 * i) = 18 := by
  revert h; revert i; decide +kernel
theorem kp_8 {i : Nat} (h : i < 4) : ck (29 + 3 * i) = 13 := by
  revert h; revert i; decide +kernel
theorem kp_10 {i : Nat} (h : i < 5) : ck (22 + i) = 11 := by
  revert h; revert i; decide +kernel
theorem kp_5 {k i : Nat} (hk : ck k = 5) (h : i < 7) : ck (k + 1 + 2 * i) = 6 := by
  have h2 : ∀ k, k < 133 → ck k = 5 → ∀ i, i < 7 → ck (k + 1 + 2 * i) = 6 := by decide +kernel
  exact h2 k (ck_lt hk (by decide)) hk i h
theorem rf_if {f : Nat → Nat} {n j : Nat} {i : Int32} (hi : i = nI j) (hj : j < n) (hn : n < 2 ^ 31) : va_rf ((fun q => if q < n then some (f q) else none) i.toNatClampNeg) = .ref (f j) := by
  subst hi
  rw [nI_clamp (by omega)]
  simp [va_rf, hj]
theorem in_nI {i : Int32} {j n : Nat} (hi : i = nI j) (hj : j < n) (hn : n < 2 ^ 31) : vp_in i n := by
  subst hi
  exact vp_in_nI hj hn
def fX5_begin (iv : Nat → Nat → Int32) (av : Nat → Nat → Int32) (k : Nat) (a_ : Int32) (b_ : Int32) (c_ : Int32) : (Nat → Nat → Int32) × (Nat → Nat → Int32) := ((u2 (u2 (u2 (u2 (u2 (u2 (u2 iv k 3 (a_)) k 4 (b_)) k 5 (c_)) k 6 (0)) k 7 ((-1))) (k + 1) 2 (0)) (k + 4) 2 (0)), av)
set_option maxHeartbeats 1000000 in
set_option maxRecDepth 10000 in
theorem ctX5_begin {l : Launch} {D : va_G} {aC : Nat → ClassId} {b0 sz : Nat} {x : Nat} {iv av : Nat → Nat → Int32} {R : ZM} {k : Nat} {a_ : Int32} {b_ : Int32} {c_ : Int32} (hk : ck k = 18) : Ct l D aC b0 yX5_begin cX5_begin 4 none 0 0 0 [.ref (x + k), .int (a_), .int (b_), .int (c_)] (cm aC x iv av R) sz (zd none (cm aC x (fX5_begin iv av k a_ b_ c_).1 (fX5_begin iv av k a_ b_ c_).2 R)) := by
  refine Ct.of (by decide) (Nat.le_of_ble_eq_true rfl) ?_
  intro p e s m below meth c ls C hr hlk hnm hl
  have hl : lv_has ls 4 [(0, .ref (x + k)), (1, .int (a_)), (2, .int (b_)), (3, .int (c_))] := hl
  obtain ⟨hx, hb, -, -, -⟩ := id C
  refine zz (fun _ _ => lv_aload_n hx hb dX5_begin_0 rfl (lv_at hl 0 rfl)) ?_
  refine zz (fun _ _ => lv_iload_n hx hb dX5_begin_1 rfl (lv_at hl 1 rfl)) ?_
  refine z_put C fp_X5_27 (fun h => by cases h) (rd_18 hk) (Nat.le_of_ble_eq_true rfl) rfl rfl dX5_begin_2 ?_
  refine zeq (wr_18_3 hk) ?_
  refine zz (fun _ _ => lv_aload_n hx hb dX5_begin_5 rfl (lv_at hl 0 rfl)) ?_
  refine zz (fun _ _ => lv_iload_n hx hb dX5_begin_6 rfl (lv_at hl 2 rfl)) ?_
  refine z_put C fp_X5_31 (fun h => by cases h) (rd_18 hk) (Nat.le_of_ble_eq_true rfl) rfl rfl dX5_begin_7 ?_
  refine zeq (wr_18_4 hk) ?_
  refine zz (fun _ _ => lv_aload_n hx hb dX5_begin_10 rfl (lv_at hl 0 rfl)) ?_
  refine zz (fun _ _ => lv_iload_n hx hb dX5_begin_11 rfl (lv_at hl 3 rfl)) ?_
  refine z_put C fp_X5_34 (fun h => by cases h) (rd_18 hk) (Nat.le_of_ble_eq_true rfl) rfl rfl dX5_begin_12 ?_
  refine zeq (wr_18_5 hk) ?_
  refine zz (fun _ _ => lv_aload_n hx hb dX5_begin_15 rfl (lv_at hl 0 rfl)) ?_
  refine zz (fun _ _ => lv_iconst (v := 0) hx hb dX5_begin_16 (by decide)) ?_
  refine z_put C fp_X5_37 (fun h => by cases h) (rd_18 hk) (Nat.le_of_ble_eq_true rfl) rfl rfl dX5_begin_17 ?_
  refine zeq (wr_18_6 hk) ?_
  refine zz (fun _ _ => lv_aload_n hx hb dX5_begin_20 rfl (lv_at hl 0 rfl)) ?_
  refine zz (fun _ _ => lv_iconst (v := (-1)) hx hb dX5_begin_21 (by decide)) ?_
  refine z_put C fp_X5_41 (fun h => by cases h) (rd_18 hk) (Nat.le_of_ble_eq_true rfl) rfl rfl dX5_begin_22 ?_
  refine zeq (wr_18_7 hk) ?_
  refine zz (fun _ _ => lv_aload_n hx hb dX5_begin_25 rfl (lv_at hl 0 rfl)) ?_
  refine z_get (v := .ref (x + (k + 1))) C fd_X5_14 (rd_18 hk) rfl dX5_begin_26 ?_
  refine zz (fun _ _ => lv_iconst (v := 0) hx hb dX5_begin_29 (by decide)) ?_
  refine z_put C fp_X5_44 (fun h => by cases h) (rd_14 (nb_18_1 hk)) (Nat.le_of_ble_eq_true rfl) rfl rfl dX5_begin_30 ?_
  refine zeq (wr_14_2 (nb_18_1 hk)) ?_
  refine zz (fun _ _ => lv_aload_n hx hb dX5_begin_33 rfl (lv_at hl 0 rfl)) ?_
  refine z_get (v := .ref (x + (k + 4))) C fd_X5_24 (rd_18 hk) rfl dX5_begin_34 ?_
  refine zz (fun _ _ => lv_iconst (v := 0) hx hb dX5_begin_37 (by decide)) ?_
  refine z_put C fp_X5_44 (fun h => by cases h) (rd_14 (nb_18_4 hk)) (Nat.le_of_ble_eq_true rfl) rfl rfl dX5_begin_38 ?_
  refine zeq (wr_14_2 (nb_18_4 hk)) ?_
  exact z_vret C hr hlk dX5_begin_41 (by simp only [zd, fX5_begin, and_self])
theorem bz {b : Int32} (h : b = 0 ∨ b = 1) : narrow .boolean (.int b) = .int b := by
  rcases h with rfl | rfl <;> rfl
theorem bf {b : Int32} (h : b = 0 ∨ b = 1) : fits .boolean (.int b) = true := by
  rcases h with rfl | rfl <;> rfl
def fX6_makeBlank (iv : Nat → Nat → Int32) (av : Nat → Nat → Int32) (k : Nat) : Int32 × (Nat → Nat → Int32) × (Nat → Nat → Int32) := if iv k 1 < 60 then (((100) + ((iv k 1) + (1))) - (1), (u2 iv k 1 ((iv k 1) + (1))), av) else ((-1), iv, av)
set_option maxHeartbeats 1000000 in
set_option maxRecDepth 10000 in
theorem ctX6_makeBlank {l : Launch} {D : va_G} {aC : Nat → ClassId} {b0 sz : Nat} {x : Nat} {iv av : Nat → Nat → Int32} {R : ZM} {k : Nat} (hk : ck k = 4) : Ct l D aC b0 yX6_makeBlank cX6_makeBlank 1 (some .int) 0 0 0 [.ref (x + k)] (cm aC x iv av R) sz (zd (some (.int (fX6_makeBlank iv av k).1)) (cm aC x (fX6_makeBlank iv av k).2.1 (fX6_makeBlank iv av k).2.2 R)) := by
  refine Ct.of (by decide) (Nat.le_of_ble_eq_true rfl) ?_
  intro p e s m below meth c ls C hr hlk hnm hl
  have hl : lv_has ls 1 [(0, .ref (x + k))] := hl
  obtain ⟨hx, hb, -, -, -⟩ := id C
  refine zz (fun _ _ => lv_aload_n hx hb dX6_makeBlank_0 rfl (lv_at hl 0 rfl)) ?_
  refine z_get (v := .int (iv k 1)) C fd_X6_17 (rd_4 hk) rfl dX6_makeBlank_1 ?_
  refine zz (fun _ _ => lv_bipush (v := 60) hx hb dX6_makeBlank_4 (by decide)) ?_
  refine zb (fun _ _ => lv_icmp_lt (tgt := 11) hx hb dX6_makeBlank_6 (by decide)) (fun c_1 => ?_) (fun c_1 => ?_)
  · refine zz (fun _ _ => lv_aload_n hx hb dX6_makeBlank_11 rfl (lv_at hl 0 rfl)) ?_
    refine zz (fun _ _ => lv_dup hx hb dX6_makeBlank_12 rfl) ?_
    refine z_get (v := .int (iv k 1)) C fd_X6_17 (rd_4 hk) rfl dX6_makeBlank_13 ?_
    refine zz (fun _ _ => lv_iconst (v := 1) hx hb dX6_makeBlank_16 (by decide)) ?_
    refine zz (fun _ _ => lv_iadd hx hb dX6_makeBlank_17) ?_
    refine z_put C fp_X6_17 (fun h => by cases h) (rd_4 hk) (Nat.le_of_ble_eq_true rfl) rfl rfl dX6_makeBlank_18 ?_
    refine zeq (wr_4_1 hk) ?_
    refine zz (fun _ _ => lv_bipush (v := 100) hx hb dX6_makeBlank_21 (by decide)) ?_
    refine zz (fun _ _ => lv_aload_n hx hb dX6_makeBlank_23 rfl (lv_at hl 0 rfl)) ?_
    refine z_get (v := .int ((iv k 1) + (1))) C fd_X6_17 (rd_4 hk) (by simp [u2]) dX6_makeBlank_24 ?_
    refine zz (fun _ _ => lv_iadd hx hb dX6_makeBlank_27) ?_
    refine zz (fun _ _ => lv_iconst (v := 1) hx hb dX6_makeBlank_28 (by decide)) ?_
    refine zz (fun _ _ => lv_isub hx hb dX6_makeBlank_29) ?_
    exact z_iret C hr hlk dX6_makeBlank_30 (by simp only [zd, fX6_makeBlank, if_pos c_1, and_self])
  · refine zz (fun _ _ => lv_iconst (v := (-1)) hx hb dX6_makeBlank_9 (by decide)) ?_
    exact z_iret C hr hlk dX6_makeBlank_10 (by simp only [zd, fX6_makeBlank, if_neg c_1, and_self])
def fX6_drop (iv : Nat → Nat → Int32) (av : Nat → Nat → Int32) (k : Nat) (j : Nat) (a_ : Int32) : (Nat → Nat → Int32) × (Nat → Nat → Int32) := if a_ = 0 then ((u2 (u2 iv ((k + 1) + 1 + 2 * j) 1 (0)) ((k + 1) + 1 + 2 * j) 2 (1)), av) else ((u2 (u2 iv ((k + 1) + 1 + 2 * j) 1 (0)) ((k + 1) + 1 + 2 * j) 2 (0)), av)
set_option maxHeartbeats 1000000 in
set_option maxRecDepth 10000 in
theorem ctX6_drop {l : Launch} {D : va_G} {aC : Nat → ClassId} {b0 sz : Nat} {x : Nat} {iv av : Nat → Nat → Int32} {R : ZM} {k : Nat} {j : Nat} {a_ : Int32} (hk : ck k = 4) (hj0 : a_ = nI j) (hj : j < 7) : Ct l D aC b0 yX6_drop cX6_drop 2 none 0 0 0 [.ref (x + k), .int (a_)] (cm aC x iv av R) sz (zd none (cm aC x (fX6_drop iv av k j a_).1 (fX6_drop iv av k j a_).2 R)) := by
  refine Ct.of (by decide) (Nat.le_of_ble_eq_true rfl) ?_
  intro p e s m below meth c ls C hr hlk hnm hl
  have hl : lv_has ls 2 [(0, .ref (x + k)), (1, .int (a_))] := hl
  obtain ⟨hx, hb, -, -, -⟩ := id C
  refine zz (fun _ _ => lv_aload_n hx hb dX6_drop_0 rfl (lv_at hl 0 rfl)) ?_
  refine z_get (v := .ref (x + (k + 1))) C fd_X6_11 (rd_4 hk) rfl dX6_drop_1 ?_
  refine zz (fun _ _ => lv_iload_n hx hb dX6_drop_4 rfl (lv_at hl 1 rfl)) ?_
  refine z_aald C 3 rfl (rd_5 (nb_4_1 hk)) (in_nI hj0 hj (by decide)) (v := .ref (x + ((k + 1) + 1 + 2 * j))) (rf_if (f := fun q => x + (k + 1 + 1 + 2 * q)) (n := 7) hj0 hj (by decide)) dX6_drop_5 ?_
  refine zz (fun _ _ => lv_iconst (v := 0) hx hb dX6_drop_6 (by decide)) ?_
  refine z_put C fp_X6_26 (fun h => by cases h) (rd_6 (kp_5 (nb_4_1 hk) hj)) (Nat.le_of_ble_eq_true rfl) rfl rfl dX6_drop_7 ?_
  refine zeq (wr_6_1 (kp_5 (nb_4_1 hk) hj)) ?_
  refine zz (fun _ _ => lv_aload_n hx hb dX6_drop_10 rfl (lv_at hl 0 rfl)) ?_
  refine z_get (v := .ref (x + (k + 1))) C fd_X6_11 (rd_4 hk) rfl dX6_drop_11 ?_
  refine zz (fun _ _ => lv_iload_n hx hb dX6_drop_14 rfl (lv_at hl 1 rfl)) ?_
  refine z_aald C 3 rfl (rd_5 (nb_4_1 hk)) (in_nI hj0 hj (by decide)) (v := .ref (x + ((k + 1) + 1 + 2 * j))) (rf_if (f := fun q => x + (k + 1 + 1 + 2 * q)) (n := 7) hj0 hj (by decide)) dX6_drop_15 ?_
  refine zz (fun _ _ => lv_iload_n hx hb dX6_drop_16 rfl (lv_at hl 1 rfl)) ?_
  refine zbn (fun _ _ => lv_if_ne (tgt := 24) hx hb dX6_drop_17 (by decide)) (fun c_1 => ?_) (fun c_1 => ?_)
  · refine zz (fun _ _ => lv_iconst (v := 0) hx hb dX6_drop_24 (by decide)) ?_
    refine z_put C fp_X6_22 (fun h => by cases h) (rd_6 (kp_5 (nb_4_1 hk) hj)) (Nat.le_of_ble_eq_true rfl) rfl rfl dX6_drop_25 ?_
    refine zeq (wr_6_2 (kp_5 (nb_4_1 hk) hj)) ?_
    exact z_vret C hr hlk dX6_drop_28 (by simp only [zd, fX6_drop, if_neg c_1, and_self])
  · refine zz (fun _ _ => lv_iconst (v := 1) hx hb dX6_drop_20 (by decide)) ?_
    refine zz (fun _ _ => lv_goto (tgt := 25) hx hb dX6_drop_21 (by decide)) ?_
    refine z_put C fp_X6_22 (fun h => by cases h) (rd_6 (kp_5 (nb_4_1 hk) hj)) (Nat.le_of_ble_eq_true rfl) rfl rfl dX6_drop_25 ?_
    refine zeq (wr_6_2 (kp_5 (nb_4_1 hk) hj)) ?_
    exact z_vret C hr hlk dX6_drop_28 (by simp only [zd, fX6_drop, if_pos c_1, and_self])
def fX5_addTemplate (iv : Nat → Nat → Int32) (av : Nat → Nat → Int32) (k : Nat) (a_ : Int32) (b_ : Int32) (c_ : Int32) (d_ : Int32) : Int32 × (Nat → Nat → Int32) × (Nat → Nat → Int32) := if (fX3_isFull iv (k + 1)) = 0 then ((fX3_append iv (u1 av (k + 3) (upd (av (k + 3)) (Int32.toNatClampNeg (iv (k + 1) 2)) (d_))) (k + 1) a_ b_ c_).1, (fX3_append iv (u1 av (k + 3) (upd (av (k + 3)) (Int32.toNatClampNeg (iv (k + 1) 2)) (d_))) (k + 1) a_ b_ c_).2.1, (fX3_append iv (u1 av (k + 3) (upd (av (k + 3)) (Int32.toNatClampNeg (iv (k + 1) 2)) (d_))) (k + 1) a_ b_ c_).2.2) else ((fX3_append iv av (k + 1) a_ b_ c_).1, (fX3_append iv av (k + 1) a_ b_ c_).2.1, (fX3_append iv av (k + 1) a_ b_ c_).2.2)
set_option maxHeartbeats 1000000 in
set_option maxRecDepth 10000 in
theorem ctX5_addTemplate {l : Launch} {D : va_G} {aC : Nat → ClassId} {b0 sz : Nat} {x : Nat} {iv av : Nat → Nat → Int32} {R : ZM} {k : Nat} {a_ : Int32} {b_ : Int32} {c_ : Int32} {d_ : Int32} (hk : ck k = 18) {c_0 mo : Nat} (hc : iv (k + 1) 2 = nI c_0) (hm : iv (k + 1) 1 = nI mo) (hcm : c_0 ≤ mo) (hml : 3 * mo ≤ tl (k + 1)) (hmo : mo ≤ 6) (hbb : d_ = 0 ∨ d_ = 1) : Ct l D aC b0 yX5_addTemplate cX5_addTemplate 5 (some .int) 2 0 0 [.ref (x + k), .int (a_), .int (b_), .int (c_), .int (d_)] (cm aC x iv av R) sz (zd (some (.int (fX5_addTemplate iv av k a_ b_ c_ d_).1)) (cm aC x (fX5_addTemplate iv av k a_ b_ c_ d_).2.1 (fX5_addTemplate iv av k a_ b_ c_ d_).2.2 R)) := by
  refine Ct.of (by decide) (Nat.le_of_ble_eq_true rfl) ?_
  intro p e s m below meth c ls C hr hlk hnm hl
  have hl : lv_has ls 5 [(0, .ref (x + k)), (1, .int (a_)), (2, .int (b_)), (3, .int (c_)), (4, .int (d_))] := hl
  obtain ⟨hx, hb, -, -, -⟩ := id C
  refine zz (fun _ _ => lv_aload_n hx hb dX5_addTemplate_0 rfl (lv_at hl 0 rfl)) ?_
  refine z_get (v := .ref (x + (k + 1))) C fd_X5_14 (rd_18 hk) rfl dX5_addTemplate_1 ?_
  refine zdV (As := []) (rest := []) (st' := [.int ((fX3_isFull iv (k + 1)))]) C hl.1 lk_X5_47 (ctX3_isFull (nb_18_1 hk)) (rd_14 (nb_18_1 hk)) rfl rfl rfl (Nat.le_of_ble_eq_true rfl) ⟨by decide, by decide, by decide, by decide⟩ dX5_addTemplate_4 rfl (fun sz => ?_)
  refine zbn (fun _ _ => lv_if_ne (tgt := 24) hx hb dX5_addTemplate_7 (by decide)) (fun c_1 => ?_) (fun c_1 => ?_)
  · refine zz (fun _ _ => lv_aload_n hx hb dX5_addTemplate_24 rfl (lv_at hl 0 rfl)) ?_
    refine z_get (v := .ref (x + (k + 1))) C fd_X5_14 (rd_18 hk) rfl dX5_addTemplate_25 ?_
    refine zz (fun _ _ => lv_iload_n hx hb dX5_addTemplate_28 rfl (lv_at hl 1 rfl)) ?_
    refine zz (fun _ _ => lv_iload_n hx hb dX5_addTemplate_29 rfl (lv_at hl 2 rfl)) ?_
    refine zz (fun _ _ => lv_iload_n hx hb dX5_addTemplate_30 rfl (lv_at hl 3 rfl)) ?_
    refine zdV (As := [.int (a_), .int (b_), .int (c_)]) (rest := []) (st' := [.int ((fX3_append iv av (k + 1) a_ b_ c_).1)]) C hl.1 lk_X5_51 (ctX3_append (nb_18_1 hk) hc hm hcm hml) (rd_14 (nb_18_1 hk)) rfl rfl rfl (Nat.le_of_ble_eq_true rfl) ⟨by decide, by decide, by decide, by decide⟩ dX5_addTemplate_31 rfl (fun sz => ?_)
    exact z_iret C hr hlk dX5_addTemplate_34 (by simp only [zd, fX5_addTemplate, if_neg c_1, and_self])
  · refine zz (fun _ _ => lv_aload_n hx hb dX5_addTemplate_10 rfl (lv_at hl 0 rfl)) ?_
    refine z_get (v := .ref (x + (k + 3))) C fd_X5_20 (rd_18 hk) rfl dX5_addTemplate_11 ?_
    refine zz (fun _ _ => lv_aload_n hx hb dX5_addTemplate_14 rfl (lv_at hl 0 rfl)) ?_
    refine z_get (v := .ref (x + (k + 1))) C fd_X5_14 (rd_18 hk) rfl dX5_addTemplate_15 ?_
    refine z_get (v := .int (iv (k + 1) 2)) C fd_X5_44 (rd_14 (nb_18_1 hk)) rfl dX5_addTemplate_18 ?_
    refine zz (fun _ _ => lv_iload hx hb dX5_addTemplate_21 (lv_at hl 4 rfl)) ?_
    refine z_zast (f := av (k + 3)) C (rd_20 (nb_18_3 hk)) (in_nI hc (Nat.lt_of_lt_of_le (full0 hc hm hcm (by omega) c_1) hmo) (by decide)) (bz hbb) dX5_addTemplate_23 ?_
    refine zeq (wr_20 (nb_18_3 hk)) ?_
    refine zz (fun _ _ => lv_aload_n hx hb dX5_addTemplate_24 rfl (lv_at hl 0 rfl)) ?_
    refine z_get (v := .ref (x + (k + 1))) C fd_X5_14 (rd_18 hk) rfl dX5_addTemplate_25 ?_
    refine zz (fun _ _ => lv_iload_n hx hb dX5_addTemplate_28 rfl (lv_at hl 1 rfl)) ?_
    refine zz (fun _ _ => lv_iload_n hx hb dX5_addTemplate_29 rfl (lv_at hl 2 rfl)) ?_
    refine zz (fun _ _ => lv_iload_n hx hb dX5_addTemplate_30 rfl (lv_at hl 3 rfl)) ?_
    refine zdV (As := [.int (a_), .int (b_), .int (c_)]) (rest := []) (st' := [.int ((fX3_append iv (u1 av (k + 3) (upd (av (k + 3)) (Int32.toNatClampNeg (iv (k + 1) 2)) (d_))) (k + 1) a_ b_ c_).1)]) C hl.1 lk_X5_51 (ctX3_append (nb_18_1 hk) hc hm hcm hml) (rd_14 (nb_18_1 hk)) rfl rfl rfl (Nat.le_of_ble_eq_true rfl) ⟨by decide, by decide, by decide, by decide⟩ dX5_addTemplate_31 rfl (fun sz => ?_)
    exact z_iret C hr hlk dX5_addTemplate_34 (by simp only [zd, fX5_addTemplate, if_pos c_1, and_self])
theorem in_isIn {a hi : Int32} {n : Nat} (h : ¬ fX9_isIn a 0 hi = 0) (hn : hi.toInt < n) : vp_in a n := by
  unfold fX9_isIn at h
  split at h
  · exact absurd rfl h
  · split at h
    · exact absurd rfl h
    · rename_i h1 h2
      refine vp_in_iff.mpr ⟨?_, ?_⟩
      · simpa [Int32.lt_iff_toInt_lt] using h1
      · simp only [Int32.lt_iff_toInt_lt] at h2
        omega
def fX9_thrown (v : Nat → Int32) : Int32 := (v 0)
set_option maxHeartbeats 1000000 in
set_option maxRecDepth 10000 in
theorem ctX9_thrown {l : Launch} {D : va_G} {aC : Nat → ClassId} {b0 sz : Nat} {r : Nat} {v : Nat → Int32} {A : Nat → Nat → Int32} {R : ZM} : Ct l D aC b0 yX9_thrown cX9_thrown 1 (some .int) 0 0 0 [.ref (r)] (mm aC r v A R) sz (zd (some (.int (fX9_thrown v))) (mm aC r v A R)) := by
  refine Ct.of (by decide) (Nat.le_of_ble_eq_true rfl) ?_
  intro p e s m below meth c ls C hr hlk hnm hl
  have hl : lv_has ls 1 [(0, .ref (r))] := hl
  obtain ⟨hx, hb, -, -, -⟩ := id C
  refine zz (fun _ _ => lv_aload_n hx hb dX9_thrown_0 rfl (lv_at hl 0 rfl)) ?_
  refine z_get (v := .int (v 0)) C fd_X9_129 rm_0 rfl dX9_thrown_1 ?_
  exact z_iret C hr hlk dX9_thrown_4 (by simp only [zd, fX9_thrown, and_self])
def fX9_isStep (v : Nat → Int32) (a_ : Int32) : Int32 := if a_ < 0 then (0) else if v 1 ≤ a_ then (0) else (1)
theorem nbfX9_isStep {v : Nat → Int32} {a_ : Int32} : narrow .boolean (.int (fX9_isStep v a_)) = .int (fX9_isStep v a_) := by
  unfold fX9_isStep
  repeat' split
  all_goals try dsimp only
  all_goals first | rfl | assumption
set_option maxHeartbeats 1000000 in
set_option maxRecDepth 10000 in
theorem ctX9_isStep {l : Launch} {D : va_G} {aC : Nat → ClassId} {b0 sz : Nat} {r : Nat} {v : Nat → Int32} {A : Nat → Nat → Int32} {R : ZM} {a_ : Int32} : Ct l D aC b0 yX9_isStep cX9_isStep 2 (some .boolean) 0 0 0 [.ref (r), .int (a_)] (mm aC r v A R) sz (zd (some (.int (fX9_isStep v a_))) (mm aC r v A R)) := by
  refine Ct.of (by decide) (Nat.le_of_ble_eq_true rfl) ?_
  intro p e s m below meth c ls C hr hlk hnm hl
  have hl : lv_has ls 2 [(0, .ref (r)), (1, .int (a_))] := hl
  obtain ⟨hx, hb, -, -, -⟩ := id C
  refine zz (fun _ _ => lv_iload_n hx hb dX9_isStep_0 rfl (lv_at hl 1 rfl)) ?_
  refine zb (fun _ _ => lv_if_lt (tgt := 16) hx hb dX9_isStep_1 (by decide)) (fun c_1 => ?_) (fun c_1 => ?_)
  · refine zz (fun _ _ => lv_iconst (v := 0) hx hb dX9_isStep_16 (by decide)) ?_
    exact z_zret C hr rfl hlk dX9_isStep_17 (by simp only [zd, fX9_isStep, if_pos c_1, and_self])
  · refine zz (fun _ _ => lv_iload_n hx hb dX9_isStep_4 rfl (lv_at hl 1 rfl)) ?_
    refine zz (fun _ _ => lv_aload_n hx hb dX9_isStep_5 rfl (lv_at hl 0 rfl)) ?_
    refine z_get (v := .int (v 1)) C fd_X9_132 rm_0 rfl dX9_isStep_6 ?_
    refine zb (fun _ _ => lv_icmp_ge (tgt := 16) hx hb dX9_isStep_9 (by decide)) (fun c_2 => ?_) (fun c_2 => ?_)
    · refine zz (fun _ _ => lv_iconst (v := 0) hx hb dX9_isStep_16 (by decide)) ?_
      exact z_zret C hr rfl hlk dX9_isStep_17 (by simp only [zd, fX9_isStep, if_neg c_1, if_pos c_2, and_self])
    · refine zz (fun _ _ => lv_iconst (v := 1) hx hb dX9_isStep_12 (by decide)) ?_
      refine zz (fun _ _ => lv_goto (tgt := 17) hx hb dX9_isStep_13 (by decide)) ?_
      exact z_zret C hr rfl hlk dX9_isStep_17 (by simp only [zd, fX9_isStep, if_neg c_1, if_neg c_2, and_self])
def fX9_fails (v : Nat → Int32) (A : Nat → Nat → Int32) : Int32 × (Nat → Int32) × (Nat → Nat → Int32) := (v 42, (upd v 0 0), A)
set_option maxHeartbeats 1000000 in
set_option maxRecDepth 10000 in
theorem ctX9_fails {l : Launch} {D : va_G} {aC : Nat → ClassId} {b0 sz : Nat} {r : Nat} {v : Nat → Int32} {A : Nat → Nat → Int32} {R : ZM} : Ct l D aC b0 yX9_fails cX9_fails 1 (some .int) 0 0 0 [.ref (r)] (mm aC r v A R) sz (zd (some (.int (fX9_fails v A).1)) (mm aC r (fX9_fails v A).2.1 (fX9_fails v A).2.2 R)) := by
  refine Ct.of (by decide) (Nat.le_of_ble_eq_true rfl) ?_
  intro p e s m below meth c ls C hr hlk hnm hl
  have hl : lv_has ls 1 [(0, .ref (r))] := hl
  obtain ⟨hx, hb, -, -, -⟩ := id C
  refine zz (fun _ _ => lv_aload_n hx hb dX9_fails_0 rfl (lv_at hl 0 rfl)) ?_
  refine zz (fun _ _ => lv_iconst (v := 0) hx hb dX9_fails_1 (by decide)) ?_
  refine z_put C fp_X9_129 (fun h => by cases h) rm_0 (Nat.le_of_ble_eq_true rfl) rfl rfl dX9_fails_2 ?_
  refine zeq wm_f0 ?_
  refine zz (fun _ _ => lv_aload_n hx hb dX9_fails_5 rfl (lv_at hl 0 rfl)) ?_
  refine z_get (v := .int (v 42)) C fd_X9_113 rm_0 rfl dX9_fails_6 ?_
  exact z_iret C hr hlk dX9_fails_9 (by simp only [zd, fX9_fails, and_self])
