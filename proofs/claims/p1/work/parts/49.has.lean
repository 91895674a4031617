theorem place_ix {iv av : Nat → Nat → Int32} {k n : Nat} {a : Int32} (hs : iv k 1 = nI n) (hn : n ≤ 120) (h : ¬ iv k 1 ≤ fX2_placeOf iv av k a) : vp_in (fX2_placeOf iv av k a) 120 := by
  unfold fX2_placeOf at h ⊢
  rw [hs, nI_clamp (by omega)] at h ⊢
  have hb := (bs_le (av (k + 1)) a n 0 n (Nat.zero_le _)).2
  refine vp_in_nI ?_ (by decide)
  rcases Nat.lt_or_ge (bs (av (k + 1)) a n 0 n) n with q | q
  · omega
  · exact absurd (nI_le q (by omega)) h
def fX2_holds (iv : Nat → Nat → Int32) (av : Nat → Nat → Int32) (k : Nat) (a_ : Int32) : Int32 := if iv k 1 ≤ (fX2_placeOf iv av k a_) then (0) else if av (k + 1) (Int32.toNatClampNeg ((fX2_placeOf iv av k a_))) = a_ then (1) else (0)
theorem nbfX2_holds {iv : Nat → Nat → Int32} {av : Nat → Nat → Int32} {k : Nat} {a_ : Int32} : narrow .boolean (.int (fX2_holds iv av k a_)) = .int (fX2_holds iv av k a_) := by
  unfold fX2_holds
  repeat' split
  all_goals try dsimp only
  all_goals first | rfl | assumption
set_option maxHeartbeats 1000000 in
set_option maxRecDepth 10000 in
theorem ctX2_holds {l : Launch} {D : va_G} {aC : Nat → ClassId} {b0 sz : Nat} {x : Nat} {iv av : Nat → Nat → Int32} {R : ZM} {k : Nat} {a_ : Int32} (hk : ck k = 6) {n_ : Nat} (hs : iv k 1 = nI n_) (hn : n_ ≤ 120) : Ct l D aC b0 yX2_holds cX2_holds 3 (some .boolean) 1 0 0 [.ref (x + k), .int (a_)] (cm aC x iv av R) sz (zd (some (.int (fX2_holds iv av k a_))) (cm aC x iv av R)) := by
  refine Ct.of (by decide) (Nat.le_of_ble_eq_true rfl) ?_
  intro p e s m below meth c ls C hr hlk hnm hl
  have hl : lv_has ls 3 [(0, .ref (x + k)), (1, .int (a_))] := hl
  obtain ⟨hx, hb, -, -, -⟩ := id C
  refine zz (fun _ _ => lv_aload_n hx hb dX2_holds_0 rfl (lv_at hl 0 rfl)) ?_
  refine zz (fun _ _ => lv_iload_n hx hb dX2_holds_1 rfl (lv_at hl 1 rfl)) ?_
  refine zdV (As := [.int (a_)]) (rest := []) (st' := [.int ((fX2_placeOf iv av k a_))]) C hl.1 lk_X2_23 (ctX2_placeOf hk hs hn) (rd_6 hk) rfl rfl rfl (Nat.le_of_ble_eq_true rfl) ⟨by decide, by decide, by decide, by decide⟩ dX2_holds_2 rfl (fun sz => ?_)
  refine zs (fun _ _ => lv_istore_n (lv' := [(2, .int ((fX2_placeOf iv av k a_))), (0, .ref (x + k)), (1, .int (a_))]) hx hb dX2_holds_5 rfl hl (by decide) rfl) (fun ls hl => ?_)
  refine zz (fun _ _ => lv_iload_n hx hb dX2_holds_6 rfl (lv_at hl 0 rfl)) ?_
  refine zz (fun _ _ => lv_aload_n hx hb dX2_holds_7 rfl (lv_at hl 1 rfl)) ?_
  refine z_get (v := .int (iv k 1)) C fd_X2_15 (rd_6 hk) rfl dX2_holds_8 ?_
  refine zb (fun _ _ => lv_icmp_ge (tgt := 28) hx hb dX2_holds_11 (by decide)) (fun c_1 => ?_) (fun c_1 => ?_)
  · refine zz (fun _ _ => lv_iconst (v := 0) hx hb dX2_holds_28 (by decide)) ?_
    exact z_zret C hr rfl hlk dX2_holds_29 (by simp only [zd, fX2_holds, if_pos c_1, and_self])
  · refine zz (fun _ _ => lv_aload_n hx hb dX2_holds_14 rfl (lv_at hl 1 rfl)) ?_
    refine z_get (v := .ref (x + (k + 1))) C fd_X2_9 (rd_6 hk) rfl dX2_holds_15 ?_
    refine zz (fun _ _ => lv_iload_n hx hb dX2_holds_18 rfl (lv_at hl 0 rfl)) ?_
    refine z_iald (f := av (k + 1)) C (rd_7 (nb_6_1 hk)) (place_ix hs hn c_1) dX2_holds_19 ?_
    refine zz (fun _ _ => lv_iload_n hx hb dX2_holds_20 rfl (lv_at hl 2 rfl)) ?_
    refine zbn (fun _ _ => lv_icmp_ne (tgt := 28) hx hb dX2_holds_21 (by decide)) (fun c_2 => ?_) (fun c_2 => ?_)
    · refine zz (fun _ _ => lv_iconst (v := 0) hx hb dX2_holds_28 (by decide)) ?_
      exact z_zret C hr rfl hlk dX2_holds_29 (by simp only [zd, fX2_holds, if_neg c_1, if_neg c_2, and_self])
    · refine zz (fun _ _ => lv_iconst (v := 1) hx hb dX2_holds_24 (by decide)) ?_
      refine zz (fun _ _ => lv_goto (tgt := 29) hx hb dX2_holds_25 (by decide)) ?_
      exact z_zret C hr rfl hlk dX2_holds_29 (by simp only [zd, fX2_holds, if_neg c_1, if_pos c_2, and_self])
def fX8_has (iv : Nat → Nat → Int32) (av : Nat → Nat → Int32) (a_ : Int32) (b_ : Int32) (c_ : Int32) (d_ : Int32) : Nat × Int32 := if (fX8_graphNumbered a_) = 0 then if (fX8_isPart b_) = 0 then (0, 0) else if (fX8_isPart c_) = 0 then (0, 0) else if (fX8_isPart d_) = 0 then (0, 0) else if (fX2_holds iv av (4 + 1 + 2 * (Int32.toNatClampNeg (a_))) (fX8_factOf b_ c_ d_)) = 0 then (0, 0) else (0, 1) else ((fX8_graphNumbered a_), 0)
set_option maxHeartbeats 1000000 in
set_option maxRecDepth 10000 in
theorem ctX8_has {l : Launch} {D : va_G} {aC : Nat → ClassId} {b0 sz : Nat} {x : Nat} {iv av : Nat → Nat → Int32} {R : ZM} {a_ : Int32} {b_ : Int32} {c_ : Int32} {d_ : Int32} (hsz : ∀ j, j < 7 → ∃ n, n ≤ 120 ∧ iv (4 + 1 + 2 * j) 1 = nI n) : CtX l D aC b0 yX8_has cX8_has 6 (some .boolean) 2 1 6 [.ref (x + 0), .int (a_), .int (b_), .int (c_), .int (d_)] (cm aC x iv av R) sz (zdx (fX8_has iv av a_ b_ c_ d_).1 (some (.int (fX8_has iv av a_ b_ c_ d_).2)) (cm aC x iv av R)) (zxx (fX8_has iv av a_ b_ c_ d_).1 (cm aC x iv av R)) := by
  refine CtX.of (by decide) (Nat.le_of_ble_eq_true rfl) ?_
  intro p e s m below meth c ls C hr hlk hnt hl
  have hl : lv_has ls 6 [(0, .ref (x + 0)), (1, .int (a_)), (2, .int (b_)), (3, .int (c_)), (4, .int (d_))] := hl
  obtain ⟨hx, hb, -, -, -⟩ := id C
  refine zz (fun _ _ => lv_aload_n hx hb dX8_has_0 rfl (lv_at hl 0 rfl)) ?_
  refine zz (fun _ _ => lv_iload_n hx hb dX8_has_1 rfl (lv_at hl 1 rfl)) ?_
  refine z_callVX (As := [.int (a_)]) (rest := []) C hl.1 lk_X8_176 ml_X8_176 (ctX8_graphNumbered ) (rd_1 (by decide)) rfl rfl rfl (Nat.le_of_ble_eq_true rfl) ⟨by decide, by decide, by decide, by decide⟩ dX8_has_2 (fun E9 M9 hp9 _ _ _ _ a1 a2 a3 a4 a5 => ?_) (fun r9 M9 sz hp9 => ?_)
  · obtain ⟨h9, rfl, rfl⟩ := hp9
    exact z_out hnt hlk (by decide) (by decide) ⟨by simp only [fX8_has, if_neg h9]; exact h9, by simp only [fX8_has, if_neg h9], by simp only [fX8_has, if_neg h9]⟩ a1 a2 a3 a4 a5
  obtain ⟨c_1, rfl, rfl⟩ := hp9
  refine zst (st' := [.ref (x + (4 + 1 + 2 * (Int32.toNatClampNeg (a_))))]) rfl ?_
  refine zs (fun _ _ => lv_astore (lv' := [(5, .ref (x + (4 + 1 + 2 * (Int32.toNatClampNeg (a_))))), (0, .ref (x + 0)), (1, .int (a_)), (2, .int (b_)), (3, .int (c_)), (4, .int (d_))]) hx hb dX8_has_5 hl (by decide) rfl) (fun ls hl => ?_)
  refine zz (fun _ _ => lv_iload_n hx hb dX8_has_7 rfl (lv_at hl 3 rfl)) ?_
  refine zdS (As := [.int (b_)]) (rest := []) (st' := [.int ((fX8_isPart b_))]) C hl.1 lk_X8_203 (ctX8_isPart ) rfl rfl (Nat.le_of_ble_eq_true rfl) ⟨by decide, by decide, by decide, by decide⟩ dX8_has_8 rfl (fun sz => ?_)
  refine zb (fun _ _ => lv_if_eq (tgt := 48) hx hb dX8_has_11 (by decide)) (fun c_2 => ?_) (fun c_2 => ?_)
  · refine zz (fun _ _ => lv_iconst (v := 0) hx hb dX8_has_48 (by decide)) ?_
    exact z_ret (by decide) (by decide) (z_zret C hr rfl hlk dX8_has_49 ⟨by simp only [fX8_has, if_pos c_1, if_pos c_2], by simp only [fX8_has, if_pos c_1, if_pos c_2], by simp only [fX8_has, if_pos c_1, if_pos c_2]⟩)
  · refine zz (fun _ _ => lv_iload_n hx hb dX8_has_14 rfl (lv_at hl 4 rfl)) ?_
    refine zdS (As := [.int (c_)]) (rest := []) (st' := [.int ((fX8_isPart c_))]) C hl.1 lk_X8_203 (ctX8_isPart ) rfl rfl (Nat.le_of_ble_eq_true rfl) ⟨by decide, by decide, by decide, by decide⟩ dX8_has_15 rfl (fun sz => ?_)
    refine zb (fun _ _ => lv_if_eq (tgt := 48) hx hb dX8_has_18 (by decide)) (fun c_3 => ?_) (fun c_3 => ?_)
    · refine zz (fun _ _ => lv_iconst (v := 0) hx hb dX8_has_48 (by decide)) ?_
      exact z_ret (by decide) (by decide) (z_zret C hr rfl hlk dX8_has_49 ⟨by simp only [fX8_has, if_pos c_1, if_neg c_2, if_pos c_3], by simp only [fX8_has, if_pos c_1, if_neg c_2, if_pos c_3], by simp only [fX8_has, if_pos c_1, if_neg c_2, if_pos c_3]⟩)
    · refine zz (fun _ _ => lv_iload hx hb dX8_has_21 (lv_at hl 5 rfl)) ?_
      refine zdS (As := [.int (d_)]) (rest := []) (st' := [.int ((fX8_isPart d_))]) C hl.1 lk_X8_203 (ctX8_isPart ) rfl rfl (Nat.le_of_ble_eq_true rfl) ⟨by decide, by decide, by decide, by decide⟩ dX8_has_23 rfl (fun sz => ?_)
      refine zb (fun _ _ => lv_if_eq (tgt := 48) hx hb dX8_has_26 (by decide)) (fun c_4 => ?_) (fun c_4 => ?_)
      · refine zz (fun _ _ => lv_iconst (v := 0) hx hb dX8_has_48 (by decide)) ?_
        exact z_ret (by decide) (by decide) (z_zret C hr rfl hlk dX8_has_49 ⟨by simp only [fX8_has, if_pos c_1, if_neg c_2, if_neg c_3, if_pos c_4], by simp only [fX8_has, if_pos c_1, if_neg c_2, if_neg c_3, if_pos c_4], by simp only [fX8_has, if_pos c_1, if_neg c_2, if_neg c_3, if_pos c_4]⟩)
      · refine zz (fun _ _ => lv_aload hx hb dX8_has_29 (lv_at hl 0 rfl)) ?_
        refine zz (fun _ _ => lv_iload_n hx hb dX8_has_31 rfl (lv_at hl 3 rfl)) ?_
        refine zz (fun _ _ => lv_iload_n hx hb dX8_has_32 rfl (lv_at hl 4 rfl)) ?_
        refine zz (fun _ _ => lv_iload hx hb dX8_has_33 (lv_at hl 5 rfl)) ?_
        refine zdS (As := [.int (b_), .int (c_), .int (d_)]) (rest := [.ref (x + (4 + 1 + 2 * (Int32.toNatClampNeg (a_))))]) (st' := [.int ((fX8_factOf b_ c_ d_)), .ref (x + (4 + 1 + 2 * (Int32.toNatClampNeg (a_))))]) C hl.1 lk_X8_206 (ctX8_factOf ) rfl rfl (Nat.le_of_ble_eq_true rfl) ⟨by decide, by decide, by decide, by decide⟩ dX8_has_35 rfl (fun sz => ?_)
        obtain ⟨n9, hn9, hs9⟩ := hsz _ (gn_lt c_1)
        refine zdV (As := [.int ((fX8_factOf b_ c_ d_))]) (rest := []) (st' := [.int ((fX2_holds iv av (4 + 1 + 2 * (Int32.toNatClampNeg (a_))) (fX8_factOf b_ c_ d_)))]) C hl.1 lk_X8_209 (ctX2_holds (kp_5 (k := 4) (by decide) (gn_lt c_1)) hs9 hn9) (rd_6 (kp_5 (k := 4) (by decide) (gn_lt c_1))) rfl rfl rfl (Nat.le_of_ble_eq_true rfl) ⟨by decide, by decide, by decide, by decide⟩ dX8_has_38 rfl (fun sz => ?_)
        refine zb (fun _ _ => lv_if_eq (tgt := 48) hx hb dX8_has_41 (by decide)) (fun c_5 => ?_) (fun c_5 => ?_)
        · refine zz (fun _ _ => lv_iconst (v := 0) hx hb dX8_has_48 (by decide)) ?_
          exact z_ret (by decide) (by decide) (z_zret C hr rfl hlk dX8_has_49 ⟨by simp only [fX8_has, if_pos c_1, if_neg c_2, if_neg c_3, if_neg c_4, if_pos c_5], by simp only [fX8_has, if_pos c_1, if_neg c_2, if_neg c_3, if_neg c_4, if_pos c_5], by simp only [fX8_has, if_pos c_1, if_neg c_2, if_neg c_3, if_neg c_4, if_pos c_5]⟩)
        · refine zz (fun _ _ => lv_iconst (v := 1) hx hb dX8_has_44 (by decide)) ?_
          refine zz (fun _ _ => lv_goto (tgt := 49) hx hb dX8_has_45 (by decide)) ?_
          exact z_ret (by decide) (by decide) (z_zret C hr rfl hlk dX8_has_49 ⟨by simp only [fX8_has, if_pos c_1, if_neg c_2, if_neg c_3, if_neg c_4, if_neg c_5], by simp only [fX8_has, if_pos c_1, if_neg c_2, if_neg c_3, if_neg c_4, if_neg c_5], by simp only [fX8_has, if_pos c_1, if_neg c_2, if_neg c_3, if_neg c_4, if_neg c_5]⟩)
