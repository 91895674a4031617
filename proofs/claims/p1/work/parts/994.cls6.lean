set_option maxHeartbeats 2000000 in
set_option maxRecDepth 10000 in
theorem hX4_keep {l : Launch} {D : va_G} {aC : Nat → ClassId} {b0 sz : Nat} {x : Nat} {iv av : Nat → Nat → Int32} {R : ZM} {r9 w9 : Nat} {acc : List Sg} {σ : Sg} (hr5 : r9 < 5) (hS : SE iv av acc w9) (hV : VA av r9 σ) : Ct l D aC b0 yX4_keep cX4_keep 2 (some .boolean) 0 0 0 [.ref (x + 20), .ref (x + (22 + r9))] (cm aC x iv av R) sz (zpI (fun iv av => cm aC x iv av R) (goP iv av r9 acc w9 [σ] 0)) := by
  refine Ct.of (by decide) (Nat.le_of_ble_eq_true rfl) ?_
  intro p e s m below meth c ls C hr hlk hnm hl
  have hl : lv_has ls 2 [(0, .ref (x + 20)), (1, .ref (x + (22 + r9)))] := hl
  obtain ⟨hx, hb, -, -, -⟩ := id C
  have hl9 := hS.2.1
  refine zz (fun _ _ => lv_aload_n hx hb dX4_keep_0 rfl (lv_at hl 0 rfl)) ?_
  refine zz (fun _ _ => lv_dup hx hb dX4_keep_1 rfl) ?_
  refine z_get (v := .int (iv 20 2)) C fd_X4_20 (rd_9 (by decide)) rfl dX4_keep_2 ?_
  refine zval (v' := .int (nI acc.length)) (congrArg Value.int hS.1) ?_
  refine zz (fun _ _ => lv_iconst (v := 1) hx hb dX4_keep_5 (by decide)) ?_
  refine zz (fun _ _ => lv_iadd hx hb dX4_keep_6) ?_
  refine zval (v' := .int (nI (acc.length + 1))) (congrArg Value.int (nI_1 _)) ?_
  refine z_put C fp_X4_20 (fun h => by cases h) (rd_9 (by decide)) (Nat.le_of_ble_eq_true rfl) rfl rfl dX4_keep_7 ?_
  refine zeq (wr_9_2 (by decide)) ?_
  refine zz (fun _ _ => lv_aload_n hx hb dX4_keep_10 rfl (lv_at hl 0 rfl)) ?_
  refine z_get (v := .int (nI (acc.length + 1))) C fd_X4_20 (rd_9 (by decide)) (by simp [u2]) dX4_keep_11 ?_
  refine zz (fun _ _ => lv_bipush (v := 100) hx hb dX4_keep_14 (by decide)) ?_
  refine zval (v' := .int (nI 100)) (congrArg Value.int rfl) ?_
  refine zb (fun _ _ => lv_icmp_le (tgt := 21) hx hb dX4_keep_16 (by decide)) (fun c_1 => ?_) (fun c_1 => ?_)
  · refine zz (fun _ _ => lv_aload_n hx hb dX4_keep_21 rfl (lv_at hl 1 rfl)) ?_
    refine zz (fun _ _ => lv_iconst (v := 0) hx hb dX4_keep_22 (by decide)) ?_
    refine zz (fun _ _ => lv_aload_n hx hb dX4_keep_23 rfl (lv_at hl 0 rfl)) ?_
    refine z_get (v := .ref (x + 27)) C fd_X4_16 (rd_9 (by decide)) rfl dX4_keep_24 ?_
    refine zz (fun _ _ => lv_aload_n hx hb dX4_keep_27 rfl (lv_at hl 0 rfl)) ?_
    refine z_get (v := .int (nI (acc.length + 1))) C fd_X4_20 (rd_9 (by decide)) (by simp [u2]) dX4_keep_28 ?_
    refine zz (fun _ _ => lv_iconst (v := 1) hx hb dX4_keep_31 (by decide)) ?_
    refine zz (fun _ _ => lv_isub hx hb dX4_keep_32) ?_
    refine zval (v' := .int (nI acc.length)) (congrArg Value.int (nI_p1 _)) ?_
    refine zz (fun _ _ => lv_iconst (v := 4) hx hb dX4_keep_33 (by decide)) ?_
    refine zz (fun _ _ => lv_imul hx hb dX4_keep_34) ?_
    refine zval (v' := .int (nI (acc.length * 4))) (congrArg Value.int (pk_mul _ 4)) ?_
    refine zz (fun _ _ => lv_iconst (v := 4) hx hb dX4_keep_35 (by decide)) ?_
    refine z_copy C hl.1 ac_X4_62 (rd_11 (kp_10 hr5)) (rd_12 (by decide)) (by decide) (nI_pos (by omega)) (by decide) (by decide) (by rw [nI_clamp (by omega)]; have h9 := (nI_leI (by omega) (by decide)).mp c_1; show acc.length * 4 + 4 ≤ 400; omega) (by decide) (by decide) dX4_keep_36 (fun sz => ?_)
    refine zeq (wr_12 (by decide)) ?_
    refine zz (fun _ _ => lv_iconst (v := 1) hx hb dX4_keep_39 (by decide)) ?_
    exact z_zret C hr rfl hlk dX4_keep_40 (zpI_mk (a := (u2 iv 20 2 (nI (acc.length + 1)))) (b := (u1 av 27 (va_cpy (av (22 + r9)) (av 27) (Int32.toNatClampNeg (0)) (Int32.toNatClampNeg (nI (acc.length * 4))) (Int32.toNatClampNeg (4))))) (ke_ok hr5 hS hV c_1))
  · refine zz (fun _ _ => lv_iconst (v := 0) hx hb dX4_keep_19 (by decide)) ?_
    exact z_zret C hr rfl hlk dX4_keep_20 (zpI_mk (a := (u2 iv 20 2 (nI (acc.length + 1)))) (b := av) (ke_no hS c_1))
set_option maxHeartbeats 2000000 in
set_option maxRecDepth 10000 in
theorem hX4_goOn_0 {l : Launch} {D : va_G} {aC : Nat → ClassId} {b0 sz : Nat} {x : Nat} {iv av : Nat → Nat → Int32} {R : ZM} {i g9 r9 w9 : Nat} {ps : List Rw} {p9 : Nat → Bool} {t9 : Bool} {acc : List Sg} {σ : Sg} (hi : i < 12) (hP : PRc iv av i ps) (hg : g9 < 7) (hG : GC iv av (4 + 1 + 2 * g9) p9 t9) (hop : ∀ c, p9 c = true → okc c) (hlen : (cds p9).length ≤ 120) (hS : SE iv av acc w9) (hV : VA av r9 σ) (hd : r9 + 0 = ps.length) : Ct l D aC b0 yX4_goOn cX4_goOn 6 (some .boolean) 1 0 0 [.ref (x + 20), .ref (x + ((61 + 6 * i) + 4)), .ref (x + (4 + 1 + 2 * g9)), .int (nI r9)] (cm aC x iv av R) sz (zpI (fun iv av => cm aC x iv av R) (goP iv av r9 acc w9 (sols (cds p9) (ps.drop r9) σ) (wk (cds p9) (ps.drop r9) σ))) := by
  refine Ct.of (by decide) (Nat.le_of_ble_eq_true rfl) ?_
  intro p e s m below meth c ls C hr hlk hnm hl
  have hl : lv_has ls 6 [(0, .ref (x + 20)), (1, .ref (x + ((61 + 6 * i) + 4))), (2, .ref (x + (4 + 1 + 2 * g9))), (3, .int (nI r9))] := hl
  obtain ⟨hx, hb, -, -, -⟩ := id C
  have hp4 := hP.2.1
  refine zz (fun _ _ => lv_iload_n hx hb dX4_goOn_0 rfl (lv_at hl 3 rfl)) ?_
  refine zz (fun _ _ => lv_aload_n hx hb dX4_goOn_1 rfl (lv_at hl 1 rfl)) ?_
  refine z_get (v := .int (iv ((61 + 6 * i) + 4) 2)) C fd_X4_37 (rd_14 (nb_18_4 (ck_s hi))) rfl dX4_goOn_2 ?_
  refine zval (v' := .int (nI ps.length)) (congrArg Value.int hP.1) ?_
  refine zb (fun _ _ => lv_icmp_ge (tgt := 13) hx hb dX4_goOn_5 (by decide)) (fun c_1 => ?_) (fun c_1 => ?_)
  · refine zz (fun _ _ => lv_aload_n hx hb dX4_goOn_13 rfl (lv_at hl 0 rfl)) ?_
    refine zz (fun _ _ => lv_aload_n hx hb dX4_goOn_14 rfl (lv_at hl 0 rfl)) ?_
    refine z_get (v := .ref (x + 21)) C fd_X4_11 (rd_9 (by decide)) rfl dX4_goOn_15 ?_
    refine zz (fun _ _ => lv_iload_n hx hb dX4_goOn_18 rfl (lv_at hl 3 rfl)) ?_
    refine z_aaldA C (rd_10 (by decide)) (by first | assumption | (apply vp_in_nI <;> omega)) (v := .ref (x + (22 + r9))) (rf_if (f := fun q => x + (22 + q)) (n := 5) rfl (show r9 < 5 by omega) (by decide)) dX4_goOn_19 ?_
    refine zqVI (As := [.ref (x + (22 + r9))]) (rest := []) C hl.1 lk_X4_42 (hX4_keep (by omega) hS hV) (rd_9 (by decide)) rfl rfl rfl (Nat.le_of_ble_eq_true rfl) ⟨by decide, by decide, by decide, by decide⟩ dX4_goOn_20 (fun w2 iv2 av2 sz h2 => ?_)
    refine zeq (M' := (cm aC x iv2 av2 R)) rfl ?_
    exact z_zret C hr (bz (goP_b h2)) hlk dX4_goOn_23 (zpI_mk (a := iv2) (b := av2) (by rw [List.drop_eq_nil_of_le (by omega)]; exact h2))
  · exact absurd (nI_le (by omega) (by omega)) c_1
set_option maxHeartbeats 2000000 in
set_option maxRecDepth 10000 in
theorem hX4_holdAgainst_1 {l : Launch} {D : va_G} {aC : Nat → ClassId} {b0 sz : Nat} {x : Nat} {iv av : Nat → Nat → Int32} {R : ZM} {i g9 r9 w9 c9 : Nat} {ps : List Rw} {p9 : Nat → Bool} {t9 : Bool} {acc : List Sg} {σ : Sg} (hi : i < 12) (hP : PRc iv av i ps) (hg : g9 < 7) (hG : GC iv av (4 + 1 + 2 * g9) p9 t9) (hop : ∀ c, p9 c = true → okc c) (hlen : (cds p9).length ≤ 120) (hS : SE iv av acc w9) (hV : VA av r9 σ) {rw9 : Rw} (erw : ps[r9]? = some rw9) (hd : r9 + 1 = ps.length) (hc : okc c9) : Ct l D aC b0 yX4_holdAgainst cX4_holdAgainst 5 (some .boolean) 2 0 0 [.ref (x + 20), .ref (x + ((61 + 6 * i) + 4)), .ref (x + (4 + 1 + 2 * g9)), .int (nI r9), .int (nI c9)] (cm aC x iv av R) sz (zpI (fun iv av => cm aC x iv av R) (goP iv av r9 acc w9 (solP (cds p9) rw9 (ps.drop (r9 + 1)) σ [c9]) (wkP (cds p9) rw9 (ps.drop (r9 + 1)) σ [c9]))) := by
  refine Ct.of (by decide) (Nat.le_of_ble_eq_true rfl) ?_
  intro p e s m below meth c ls C hr hlk hnm hl
  have hl : lv_has ls 5 [(0, .ref (x + 20)), (1, .ref (x + ((61 + 6 * i) + 4))), (2, .ref (x + (4 + 1 + 2 * g9))), (3, .int (nI r9)), (4, .int (nI c9))] := hl
  obtain ⟨hx, hb, -, -, -⟩ := id C
  have hp4 := hP.2.1
  refine zz (fun _ _ => lv_aload_n hx hb dX4_holdAgainst_0 rfl (lv_at hl 0 rfl)) ?_
  refine zz (fun _ _ => lv_dup hx hb dX4_holdAgainst_1 rfl) ?_
  refine z_get (v := .int (iv 20 3)) C fd_X4_24 (rd_9 (by decide)) rfl dX4_holdAgainst_2 ?_
  refine zval (v' := .int (nI w9)) (congrArg Value.int hS.2.2.1) ?_
  refine zz (fun _ _ => lv_iconst (v := 1) hx hb dX4_holdAgainst_5 (by decide)) ?_
  refine zz (fun _ _ => lv_iadd hx hb dX4_holdAgainst_6) ?_
  refine zval (v' := .int (nI (w9 + 1))) (congrArg Value.int (nI_1 _)) ?_
  refine z_put C fp_X4_24 (fun h => by cases h) (rd_9 (by decide)) (Nat.le_of_ble_eq_true rfl) rfl rfl dX4_holdAgainst_7 ?_
  refine zeq (wr_9_3 (by decide)) ?_
  refine zz (fun _ _ => lv_aload_n hx hb dX4_holdAgainst_10 rfl (lv_at hl 0 rfl)) ?_
  refine z_get (v := .int (nI (w9 + 1))) C fd_X4_24 (rd_9 (by decide)) (by simp [u2]) dX4_holdAgainst_11 ?_
  refine zz (fun _ _ => lv_sipush (v := 5000) hx hb dX4_holdAgainst_14 (by decide)) ?_
  refine zval (v' := .int (nI 5000)) (congrArg Value.int rfl) ?_
  refine zb (fun _ _ => lv_icmp_le (tgt := 22) hx hb dX4_holdAgainst_17 (by decide)) (fun c_1 => ?_) (fun c_1 => ?_)
  · refine zz (fun _ _ => lv_aload_n hx hb dX4_holdAgainst_22 rfl (lv_at hl 0 rfl)) ?_
    refine zz (fun _ _ => lv_aload_n hx hb dX4_holdAgainst_23 rfl (lv_at hl 1 rfl)) ?_
    refine zz (fun _ _ => lv_iload_n hx hb dX4_holdAgainst_24 rfl (lv_at hl 3 rfl)) ?_
    refine zz (fun _ _ => lv_iload hx hb dX4_holdAgainst_25 (lv_at hl 4 rfl)) ?_
    refine zqVI (As := [.ref (x + ((61 + 6 * i) + 4)), .int (nI r9), .int (nI c9)]) (rest := []) C hl.1 lk_X4_58 (hX4_fits hi (FQc_w.P (row := r9) hP) erw hc hV) (rd_9 (by decide)) rfl rfl rfl (Nat.le_of_ble_eq_true rfl) ⟨by decide, by decide, by decide, by decide⟩ dX4_holdAgainst_27 (fun w2 iv2 av2 sz h2 => ?_)
    refine zeq (M' := (cm aC x iv2 av2 R)) rfl ?_
    refine zb (fun _ _ => lv_if_eq (tgt := 45) hx hb dX4_holdAgainst_30 (by decide)) (fun c_3 => ?_) (fun c_3 => ?_)
    · refine zz (fun _ _ => lv_iconst (v := 1) hx hb dX4_holdAgainst_45 (by decide)) ?_
      refine zz (fun _ _ => lv_goto (tgt := 50) hx hb dX4_holdAgainst_46 (by decide)) ?_
      exact z_zret C hr rfl hlk dX4_holdAgainst_50 (zpI_mk (a := iv2) (b := av2) (ho_n (by omega) hS c_1 h2 c_3))
    · obtain ⟨sx9, ex9, hx9⟩ := fc_ok h2 c_3
      have hq9 := fc_FQ (by omega) h2
      have hfq9 := FQc_w.trans (row := r9) hq9.1
      have hS9 := SE_av (SE_w hS c_1) hq9.2
      rw [← h2.1] at hS9
      refine zz (fun _ _ => lv_aload_n hx hb dX4_holdAgainst_33 rfl (lv_at hl 0 rfl)) ?_
      refine zz (fun _ _ => lv_aload_n hx hb dX4_holdAgainst_34 rfl (lv_at hl 1 rfl)) ?_
      refine zz (fun _ _ => lv_aload_n hx hb dX4_holdAgainst_35 rfl (lv_at hl 2 rfl)) ?_
      refine zz (fun _ _ => lv_iload_n hx hb dX4_holdAgainst_36 rfl (lv_at hl 3 rfl)) ?_
      refine zz (fun _ _ => lv_iconst (v := 1) hx hb dX4_holdAgainst_37 (by decide)) ?_
      refine zz (fun _ _ => lv_iadd hx hb dX4_holdAgainst_38) ?_
      refine zval (v' := .int (nI (r9 + 1))) (congrArg Value.int (nI_1 _)) ?_
      refine zqVI (As := [.ref (x + ((61 + 6 * i) + 4)), .ref (x + (4 + 1 + 2 * g9)), .int (nI (r9 + 1))]) (rest := []) C hl.1 lk_X4_33 (hX4_goOn_0 hi (hfq9.P hP) hg (hfq9.G hg hG) hop hlen hS9 hx9 (by omega)) (rd_9 (by decide)) rfl rfl rfl (Nat.le_of_ble_eq_true rfl) ⟨by decide, by decide, by decide, by decide⟩ dX4_holdAgainst_39 (fun w4 iv4 av4 sz h4 => ?_)
      refine zeq (M' := (cm aC x iv4 av4 R)) rfl ?_
      refine zb (fun _ _ => lv_if_eq (tgt := 49) hx hb dX4_holdAgainst_42 (by decide)) (fun c_5 => ?_) (fun c_5 => ?_)
      · refine zz (fun _ _ => lv_iconst (v := 0) hx hb dX4_holdAgainst_49 (by decide)) ?_
        exact z_zret C hr rfl hlk dX4_holdAgainst_50 (zpI_mk (a := iv4) (b := av4) (by have h9 := ho_s hfq9 ex9 h4; rw [c_5] at h9; exact h9))
      · refine zz (fun _ _ => lv_iconst (v := 1) hx hb dX4_holdAgainst_45 (by decide)) ?_
        refine zz (fun _ _ => lv_goto (tgt := 50) hx hb dX4_holdAgainst_46 (by decide)) ?_
        exact z_zret C hr rfl hlk dX4_holdAgainst_50 (zpI_mk (a := iv4) (b := av4) (by have h9 := ho_s hfq9 ex9 h4; rw [(goP_b h4).resolve_left c_5] at h9; exact h9))
  · refine zz (fun _ _ => lv_iconst (v := 0) hx hb dX4_holdAgainst_20 (by decide)) ?_
    exact z_zret C hr rfl hlk dX4_holdAgainst_21 (zpI_mk (a := (u2 iv 20 3 (nI (w9 + 1)))) (b := av) (ho_5 hS c_1))
set_option maxHeartbeats 2000000 in
set_option maxRecDepth 10000 in
theorem hX4_goOn_1 {l : Launch} {D : va_G} {aC : Nat → ClassId} {b0 sz : Nat} {x : Nat} {iv av : Nat → Nat → Int32} {R : ZM} {i g9 r9 w9 : Nat} {ps : List Rw} {p9 : Nat → Bool} {t9 : Bool} {acc : List Sg} {σ : Sg} (hi : i < 12) (hP : PRc iv av i ps) (hg : g9 < 7) (hG : GC iv av (4 + 1 + 2 * g9) p9 t9) (hop : ∀ c, p9 c = true → okc c) (hlen : (cds p9).length ≤ 120) (hS : SE iv av acc w9) (hV : VA av r9 σ) (hd : r9 + 1 = ps.length) : Ct l D aC b0 yX4_goOn cX4_goOn 6 (some .boolean) 3 0 0 [.ref (x + 20), .ref (x + ((61 + 6 * i) + 4)), .ref (x + (4 + 1 + 2 * g9)), .int (nI r9)] (cm aC x iv av R) sz (zpI (fun iv av => cm aC x iv av R) (goP iv av r9 acc w9 (sols (cds p9) (ps.drop r9) σ) (wk (cds p9) (ps.drop r9) σ))) := by
  refine Ct.of (by decide) (Nat.le_of_ble_eq_true rfl) ?_
  intro p e s m below meth c ls C hr hlk hnm hl
  have hl : lv_has ls 6 [(0, .ref (x + 20)), (1, .ref (x + ((61 + 6 * i) + 4))), (2, .ref (x + (4 + 1 + 2 * g9))), (3, .int (nI r9))] := hl
  obtain ⟨hx, hb, -, -, -⟩ := id C
  have hp4 := hP.2.1
  obtain ⟨rw9, erw9⟩ : ∃ t, ps[r9]? = some t := ⟨_, List.getElem?_eq_getElem (by omega)⟩
  refine zz (fun _ _ => lv_iload_n hx hb dX4_goOn_0 rfl (lv_at hl 3 rfl)) ?_
  refine zz (fun _ _ => lv_aload_n hx hb dX4_goOn_1 rfl (lv_at hl 1 rfl)) ?_
  refine z_get (v := .int (iv ((61 + 6 * i) + 4) 2)) C fd_X4_37 (rd_14 (nb_18_4 (ck_s hi))) rfl dX4_goOn_2 ?_
  refine zval (v' := .int (nI ps.length)) (congrArg Value.int hP.1) ?_
  refine zb (fun _ _ => lv_icmp_ge (tgt := 13) hx hb dX4_goOn_5 (by decide)) (fun c_1 => ?_) (fun c_1 => ?_)
  · exact absurd c_1 (nI_ge (by omega) (by omega))
  · refine zz (fun _ _ => lv_iload_n hx hb dX4_goOn_8 rfl (lv_at hl 3 rfl)) ?_
    refine zz (fun _ _ => lv_iconst (v := 4) hx hb dX4_goOn_9 (by decide)) ?_
    refine zval (v' := .int (nI 4)) (congrArg Value.int rfl) ?_
    refine zb (fun _ _ => lv_icmp_lt (tgt := 24) hx hb dX4_goOn_10 (by decide)) (fun c_2 => ?_) (fun c_2 => ?_)
    · refine zz (fun _ _ => lv_iconst (v := 1) hx hb dX4_goOn_24 (by decide)) ?_
      refine zs (fun _ _ => lv_istore (lv' := [(4, .int (1)), (0, .ref (x + 20)), (1, .ref (x + ((61 + 6 * i) + 4))), (2, .ref (x + (4 + 1 + 2 * g9))), (3, .int (nI r9))]) hx hb dX4_goOn_25 hl (by decide) rfl) (fun ls hl => ?_)
      refine zz (fun _ _ => lv_iconst (v := 0) hx hb dX4_goOn_27 (by decide)) ?_
      refine zs (fun _ _ => lv_istore (lv' := [(5, .int (0)), (4, .int (1)), (0, .ref (x + 20)), (1, .ref (x + ((61 + 6 * i) + 4))), (2, .ref (x + (4 + 1 + 2 * g9))), (3, .int (nI r9))]) hx hb dX4_goOn_28 hl (by decide) rfl) (fun ls hl => ?_)
      have hl0 := lv_sub hl [2, 3, 4, 5, 1, 0] rfl
      refine z_loop (γ := (Nat → Nat → Int32) × (Nat → Nat → Int32) × Int32) (G := fun a => cm aC x a.1 a.2.1 R) (I := fun j a => goI iv av r9 acc w9 (cds p9) rw9 (ps.drop (r9 + 1)) σ j a.2.2 a.1 a.2.1) (lv := fun j a => [(0, .ref (x + 20)), (1, .ref (x + ((61 + 6 * i) + 4))), (2, .ref (x + (4 + 1 + 2 * g9))), (3, .int (nI r9)), (4, .int (a.2.2)), (5, .int (nI (j)))]) ((cds p9).length) ?_ ?_ (iv, av, 1) _ _ (goI_0 hS) hl0
      · intro j3 a3 sz ls hj3 hI3 hl ih3
        obtain ⟨iv3, av3, t3_4⟩ := a3
        dsimp only at hI3 hl ih3
        refine zeq (M' := (cm aC x iv3 av3 R)) rfl ?_
        have hG3 := hI3.1.G hg hG
        have hok8 := hop _ ((cds_mem hop).mp (getD_mem hj3))
        refine zz (fun _ _ => lv_iload hx hb dX4_goOn_30 (lv_at hl 5 rfl)) ?_
        refine zz (fun _ _ => lv_aload_n hx hb dX4_goOn_32 rfl (lv_at hl 2 rfl)) ?_
        refine z_get (v := .int (iv3 (4 + 1 + 2 * g9) 1)) C fd_X4_46 (rd_6 (ck_g hg)) rfl dX4_goOn_33 ?_
        refine zval (v' := .int (nI (cds p9).length)) (congrArg Value.int hG3.1) ?_
        refine zb (fun _ _ => lv_icmp_ge (tgt := 66) hx hb dX4_goOn_36 (by decide)) (fun c_4 => ?_) (fun c_4 => ?_)
        · exact absurd c_4 (nI_ge (by omega) (by omega))
        · refine zz (fun _ _ => lv_iload hx hb dX4_goOn_39 (lv_at hl 4 rfl)) ?_
          refine zb (fun _ _ => lv_if_eq (tgt := 66) hx hb dX4_goOn_41 (by decide)) (fun c_5 => ?_) (fun c_5 => ?_)
          · refine zz (fun _ _ => lv_iload hx hb dX4_goOn_66 (lv_at hl 4 rfl)) ?_
            exact z_zret C hr (bz (goP_b hI3)) hlk dX4_goOn_68 (zpI_mk (a := iv3) (b := av3) (by rw [drop_c erw9]; exact goI_out hI3 c_5))
          · refine zz (fun _ _ => lv_aload_n hx hb dX4_goOn_44 rfl (lv_at hl 0 rfl)) ?_
            refine zz (fun _ _ => lv_aload_n hx hb dX4_goOn_45 rfl (lv_at hl 1 rfl)) ?_
            refine zz (fun _ _ => lv_aload_n hx hb dX4_goOn_46 rfl (lv_at hl 2 rfl)) ?_
            refine zz (fun _ _ => lv_iload_n hx hb dX4_goOn_47 rfl (lv_at hl 3 rfl)) ?_
            refine zz (fun _ _ => lv_aload_n hx hb dX4_goOn_48 rfl (lv_at hl 2 rfl)) ?_
            refine z_get (v := .ref (x + ((4 + 1 + 2 * g9) + 1))) C fd_X4_51 (rd_6 (ck_g hg)) rfl dX4_goOn_49 ?_
            refine zz (fun _ _ => lv_iload hx hb dX4_goOn_52 (lv_at hl 5 rfl)) ?_
            refine z_iald (f := av3 ((4 + 1 + 2 * g9) + 1)) C (rd_7 (nb_6_1 (ck_g hg))) (by first | assumption | (apply vp_in_nI <;> omega)) dX4_goOn_54 ?_
            refine zval (v' := .int (nI ((cds p9).getD j3 0))) (congrArg Value.int (rdI (hG3.2.2 j3 hj3) (by omega))) ?_
            refine zqVI (As := [.ref (x + ((61 + 6 * i) + 4)), .ref (x + (4 + 1 + 2 * g9)), .int (nI r9), .int (nI ((cds p9).getD j3 0))]) (rest := []) C hl.1 lk_X4_54 (hX4_holdAgainst_1 hi (hI3.1.P hP) hg hG3 hop hlen (goI_S hI3 c_5) (hI3.1.V hV) erw9 hd hok8) (rd_9 (by decide)) rfl rfl rfl (Nat.le_of_ble_eq_true rfl) ⟨by decide, by decide, by decide, by decide⟩ dX4_goOn_55 (fun w6 iv6 av6 sz h6 => ?_)
            refine zeq (M' := (cm aC x iv6 av6 R)) rfl ?_
            refine zs (fun _ _ => lv_istore (lv' := [(4, .int (w6)), (0, .ref (x + 20)), (1, .ref (x + ((61 + 6 * i) + 4))), (2, .ref (x + (4 + 1 + 2 * g9))), (3, .int (nI r9)), (5, .int (nI (j3)))]) hx hb dX4_goOn_58 hl (by decide) rfl) (fun ls hl => ?_)
            refine zs (fun _ _ => lv_iinc (v := nI (j3) + 1) (lv' := [(5, .int (nI (j3) + 1)), (4, .int (w6)), (0, .ref (x + 20)), (1, .ref (x + ((61 + 6 * i) + 4))), (2, .ref (x + (4 + 1 + 2 * g9))), (3, .int (nI r9))]) hx hb dX4_goOn_60 hl (k := 5) rfl rfl (by decide) rfl) (fun ls hl => ?_)
            refine zz (fun _ _ => lv_goto (tgt := 30) hx hb dX4_goOn_63 (by decide)) ?_
            have hl := lv_sub hl [2, 3, 4, 5, 1, 0] rfl
            try simp only [nI_1] at hl
            exact ih3 (iv6, av6, w6) _ _ (goI_next hj3 hI3 h6) hl
      · intro a3 sz ls hI3 hl
        obtain ⟨iv3, av3, t3_4⟩ := a3
        dsimp only at hI3 hl
        refine zeq (M' := (cm aC x iv3 av3 R)) rfl ?_
        have hG3 := hI3.1.G hg hG
        refine zz (fun _ _ => lv_iload hx hb dX4_goOn_30 (lv_at hl 5 rfl)) ?_
        refine zz (fun _ _ => lv_aload_n hx hb dX4_goOn_32 rfl (lv_at hl 2 rfl)) ?_
        refine z_get (v := .int (iv3 (4 + 1 + 2 * g9) 1)) C fd_X4_46 (rd_6 (ck_g hg)) rfl dX4_goOn_33 ?_
        refine zval (v' := .int (nI (cds p9).length)) (congrArg Value.int hG3.1) ?_
        refine zb (fun _ _ => lv_icmp_ge (tgt := 66) hx hb dX4_goOn_36 (by decide)) (fun c_7 => ?_) (fun c_7 => ?_)
        · refine zz (fun _ _ => lv_iload hx hb dX4_goOn_66 (lv_at hl 4 rfl)) ?_
          exact z_zret C hr (bz (goP_b hI3)) hlk dX4_goOn_68 (zpI_mk (a := iv3) (b := av3) (by rw [drop_c erw9]; exact goI_end hI3))
        · exact absurd (nI_le (Nat.le_refl _) (by omega)) c_7
    · exact absurd (nI_lt (by omega) (by omega)) c_2
set_option maxHeartbeats 2000000 in
set_option maxRecDepth 10000 in
theorem hX4_holdAgainst_2 {l : Launch} {D : va_G} {aC : Nat → ClassId} {b0 sz : Nat} {x : Nat} {iv av : Nat → Nat → Int32} {R : ZM} {i g9 r9 w9 c9 : Nat} {ps : List Rw} {p9 : Nat → Bool} {t9 : Bool} {acc : List Sg} {σ : Sg} (hi : i < 12) (hP : PRc iv av i ps) (hg : g9 < 7) (hG : GC iv av (4 + 1 + 2 * g9) p9 t9) (hop : ∀ c, p9 c = true → okc c) (hlen : (cds p9).length ≤ 120) (hS : SE iv av acc w9) (hV : VA av r9 σ) {rw9 : Rw} (erw : ps[r9]? = some rw9) (hd : r9 + 2 = ps.length) (hc : okc c9) : Ct l D aC b0 yX4_holdAgainst cX4_holdAgainst 5 (some .boolean) 4 0 0 [.ref (x + 20), .ref (x + ((61 + 6 * i) + 4)), .ref (x + (4 + 1 + 2 * g9)), .int (nI r9), .int (nI c9)] (cm aC x iv av R) sz (zpI (fun iv av => cm aC x iv av R) (goP iv av r9 acc w9 (solP (cds p9) rw9 (ps.drop (r9 + 1)) σ [c9]) (wkP (cds p9) rw9 (ps.drop (r9 + 1)) σ [c9]))) := by
  refine Ct.of (by decide) (Nat.le_of_ble_eq_true rfl) ?_
  intro p e s m below meth c ls C hr hlk hnm hl
  have hl : lv_has ls 5 [(0, .ref (x + 20)), (1, .ref (x + ((61 + 6 * i) + 4))), (2, .ref (x + (4 + 1 + 2 * g9))), (3, .int (nI r9)), (4, .int (nI c9))] := hl
  obtain ⟨hx, hb, -, -, -⟩ := id C
  have hp4 := hP.2.1
  refine zz (fun _ _ => lv_aload_n hx hb dX4_holdAgainst_0 rfl (lv_at hl 0 rfl)) ?_
  refine zz (fun _ _ => lv_dup hx hb dX4_holdAgainst_1 rfl) ?_
  refine z_get (v := .int (iv 20 3)) C fd_X4_24 (rd_9 (by decide)) rfl dX4_holdAgainst_2 ?_
  refine zval (v' := .int (nI w9)) (congrArg Value.int hS.2.2.1) ?_
  refine zz (fun _ _ => lv_iconst (v := 1) hx hb dX4_holdAgainst_5 (by decide)) ?_
  refine zz (fun _ _ => lv_iadd hx hb dX4_holdAgainst_6) ?_
  refine zval (v' := .int (nI (w9 + 1))) (congrArg Value.int (nI_1 _)) ?_
  refine z_put C fp_X4_24 (fun h => by cases h) (rd_9 (by decide)) (Nat.le_of_ble_eq_true rfl) rfl rfl dX4_holdAgainst_7 ?_
  refine zeq (wr_9_3 (by decide)) ?_
  refine zz (fun _ _ => lv_aload_n hx hb dX4_holdAgainst_10 rfl (lv_at hl 0 rfl)) ?_
  refine z_get (v := .int (nI (w9 + 1))) C fd_X4_24 (rd_9 (by decide)) (by simp [u2]) dX4_holdAgainst_11 ?_
  refine zz (fun _ _ => lv_sipush (v := 5000) hx hb dX4_holdAgainst_14 (by decide)) ?_
  refine zval (v' := .int (nI 5000)) (congrArg Value.int rfl) ?_
  refine zb (fun _ _ => lv_icmp_le (tgt := 22) hx hb dX4_holdAgainst_17 (by decide)) (fun c_1 => ?_) (fun c_1 => ?_)
  · refine zz (fun _ _ => lv_aload_n hx hb dX4_holdAgainst_22 rfl (lv_at hl 0 rfl)) ?_
    refine zz (fun _ _ => lv_aload_n hx hb dX4_holdAgainst_23 rfl (lv_at hl 1 rfl)) ?_
    refine zz (fun _ _ => lv_iload_n hx hb dX4_holdAgainst_24 rfl (lv_at hl 3 rfl)) ?_
    refine zz (fun _ _ => lv_iload hx hb dX4_holdAgainst_25 (lv_at hl 4 rfl)) ?_
    refine zqVI (As := [.ref (x + ((61 + 6 * i) + 4)), .int (nI r9), .int (nI c9)]) (rest := []) C hl.1 lk_X4_58 (hX4_fits hi (FQc_w.P (row := r9) hP) erw hc hV) (rd_9 (by decide)) rfl rfl rfl (Nat.le_of_ble_eq_true rfl) ⟨by decide, by decide, by decide, by decide⟩ dX4_holdAgainst_27 (fun w2 iv2 av2 sz h2 => ?_)
    refine zeq (M' := (cm aC x iv2 av2 R)) rfl ?_
    refine zb (fun _ _ => lv_if_eq (tgt := 45) hx hb dX4_holdAgainst_30 (by decide)) (fun c_3 => ?_) (fun c_3 => ?_)
    · refine zz (fun _ _ => lv_iconst (v := 1) hx hb dX4_holdAgainst_45 (by decide)) ?_
      refine zz (fun _ _ => lv_goto (tgt := 50) hx hb dX4_holdAgainst_46 (by decide)) ?_
      exact z_zret C hr rfl hlk dX4_holdAgainst_50 (zpI_mk (a := iv2) (b := av2) (ho_n (by omega) hS c_1 h2 c_3))
    · obtain ⟨sx9, ex9, hx9⟩ := fc_ok h2 c_3
      have hq9 := fc_FQ (by omega) h2
      have hfq9 := FQc_w.trans (row := r9) hq9.1
      have hS9 := SE_av (SE_w hS c_1) hq9.2
      rw [← h2.1] at hS9
      refine zz (fun _ _ => lv_aload_n hx hb dX4_holdAgainst_33 rfl (lv_at hl 0 rfl)) ?_
      refine zz (fun _ _ => lv_aload_n hx hb dX4_holdAgainst_34 rfl (lv_at hl 1 rfl)) ?_
      refine zz (fun _ _ => lv_aload_n hx hb dX4_holdAgainst_35 rfl (lv_at hl 2 rfl)) ?_
      refine zz (fun _ _ => lv_iload_n hx hb dX4_holdAgainst_36 rfl (lv_at hl 3 rfl)) ?_
      refine zz (fun _ _ => lv_iconst (v := 1) hx hb dX4_holdAgainst_37 (by decide)) ?_
      refine zz (fun _ _ => lv_iadd hx hb dX4_holdAgainst_38) ?_
      refine zval (v' := .int (nI (r9 + 1))) (congrArg Value.int (nI_1 _)) ?_
      refine zqVI (As := [.ref (x + ((61 + 6 * i) + 4)), .ref (x + (4 + 1 + 2 * g9)), .int (nI (r9 + 1))]) (rest := []) C hl.1 lk_X4_33 (hX4_goOn_1 hi (hfq9.P hP) hg (hfq9.G hg hG) hop hlen hS9 hx9 (by omega)) (rd_9 (by decide)) rfl rfl rfl (Nat.le_of_ble_eq_true rfl) ⟨by decide, by decide, by decide, by decide⟩ dX4_holdAgainst_39 (fun w4 iv4 av4 sz h4 => ?_)
      refine zeq (M' := (cm aC x iv4 av4 R)) rfl ?_
      refine zb (fun _ _ => lv_if_eq (tgt := 49) hx hb dX4_holdAgainst_42 (by decide)) (fun c_5 => ?_) (fun c_5 => ?_)
      · refine zz (fun _ _ => lv_iconst (v := 0) hx hb dX4_holdAgainst_49 (by decide)) ?_
        exact z_zret C hr rfl hlk dX4_holdAgainst_50 (zpI_mk (a := iv4) (b := av4) (by have h9 := ho_s hfq9 ex9 h4; rw [c_5] at h9; exact h9))
      · refine zz (fun _ _ => lv_iconst (v := 1) hx hb dX4_holdAgainst_45 (by decide)) ?_
        refine zz (fun _ _ => lv_goto (tgt := 50) hx hb dX4_holdAgainst_46 (by decide)) ?_
        exact z_zret C hr rfl hlk dX4_holdAgainst_50 (zpI_mk (a := iv4) (b := av4) (by have h9 := ho_s hfq9 ex9 h4; rw [(goP_b h4).resolve_left c_5] at h9; exact h9))
  · refine zz (fun _ _ => lv_iconst (v := 0) hx hb dX4_holdAgainst_20 (by decide)) ?_
    exact z_zret C hr rfl hlk dX4_holdAgainst_21 (zpI_mk (a := (u2 iv 20 3 (nI (w9 + 1)))) (b := av) (ho_5 hS c_1))
set_option maxHeartbeats 2000000 in
set_option maxRecDepth 10000 in
theorem hX4_goOn_2 {l : Launch} {D : va_G} {aC : Nat → ClassId} {b0 sz : Nat} {x : Nat} {iv av : Nat → Nat → Int32} {R : ZM} {i g9 r9 w9 : Nat} {ps : List Rw} {p9 : Nat → Bool} {t9 : Bool} {acc : List Sg} {σ : Sg} (hi : i < 12) (hP : PRc iv av i ps) (hg : g9 < 7) (hG : GC iv av (4 + 1 + 2 * g9) p9 t9) (hop : ∀ c, p9 c = true → okc c) (hlen : (cds p9).length ≤ 120) (hS : SE iv av acc w9) (hV : VA av r9 σ) (hd : r9 + 2 = ps.length) : Ct l D aC b0 yX4_goOn cX4_goOn 6 (some .boolean) 5 0 0 [.ref (x + 20), .ref (x + ((61 + 6 * i) + 4)), .ref (x + (4 + 1 + 2 * g9)), .int (nI r9)] (cm aC x iv av R) sz (zpI (fun iv av => cm aC x iv av R) (goP iv av r9 acc w9 (sols (cds p9) (ps.drop r9) σ) (wk (cds p9) (ps.drop r9) σ))) := by
  refine Ct.of (by decide) (Nat.le_of_ble_eq_true rfl) ?_
  intro p e s m below meth c ls C hr hlk hnm hl
  have hl : lv_has ls 6 [(0, .ref (x + 20)), (1, .ref (x + ((61 + 6 * i) + 4))), (2, .ref (x + (4 + 1 + 2 * g9))), (3, .int (nI r9))] := hl
  obtain ⟨hx, hb, -, -, -⟩ := id C
  have hp4 := hP.2.1
  obtain ⟨rw9, erw9⟩ : ∃ t, ps[r9]? = some t := ⟨_, List.getElem?_eq_getElem (by omega)⟩
  refine zz (fun _ _ => lv_iload_n hx hb dX4_goOn_0 rfl (lv_at hl 3 rfl)) ?_
  refine zz (fun _ _ => lv_aload_n hx hb dX4_goOn_1 rfl (lv_at hl 1 rfl)) ?_
  refine z_get (v := .int (iv ((61 + 6 * i) + 4) 2)) C fd_X4_37 (rd_14 (nb_18_4 (ck_s hi))) rfl dX4_goOn_2 ?_
  refine zval (v' := .int (nI ps.length)) (congrArg Value.int hP.1) ?_
  refine zb (fun _ _ => lv_icmp_ge (tgt := 13) hx hb dX4_goOn_5 (by decide)) (fun c_1 => ?_) (fun c_1 => ?_)
  · exact absurd c_1 (nI_ge (by omega) (by omega))
  · refine zz (fun _ _ => lv_iload_n hx hb dX4_goOn_8 rfl (lv_at hl 3 rfl)) ?_
    refine zz (fun _ _ => lv_iconst (v := 4) hx hb dX4_goOn_9 (by decide)) ?_
    refine zval (v' := .int (nI 4)) (congrArg Value.int rfl) ?_
    refine zb (fun _ _ => lv_icmp_lt (tgt := 24) hx hb dX4_goOn_10 (by decide)) (fun c_2 => ?_) (fun c_2 => ?_)
    · refine zz (fun _ _ => lv_iconst (v := 1) hx hb dX4_goOn_24 (by decide)) ?_
      refine zs (fun _ _ => lv_istore (lv' := [(4, .int (1)), (0, .ref (x + 20)), (1, .ref (x + ((61 + 6 * i) + 4))), (2, .ref (x + (4 + 1 + 2 * g9))), (3, .int (nI r9))]) hx hb dX4_goOn_25 hl (by decide) rfl) (fun ls hl => ?_)
      refine zz (fun _ _ => lv_iconst (v := 0) hx hb dX4_goOn_27 (by decide)) ?_
      refine zs (fun _ _ => lv_istore (lv' := [(5, .int (0)), (4, .int (1)), (0, .ref (x + 20)), (1, .ref (x + ((61 + 6 * i) + 4))), (2, .ref (x + (4 + 1 + 2 * g9))), (3, .int (nI r9))]) hx hb dX4_goOn_28 hl (by decide) rfl) (fun ls hl => ?_)
      have hl0 := lv_sub hl [2, 3, 4, 5, 1, 0] rfl
      refine z_loop (γ := (Nat → Nat → Int32) × (Nat → Nat → Int32) × Int32) (G := fun a => cm aC x a.1 a.2.1 R) (I := fun j a => goI iv av r9 acc w9 (cds p9) rw9 (ps.drop (r9 + 1)) σ j a.2.2 a.1 a.2.1) (lv := fun j a => [(0, .ref (x + 20)), (1, .ref (x + ((61 + 6 * i) + 4))), (2, .ref (x + (4 + 1 + 2 * g9))), (3, .int (nI r9)), (4, .int (a.2.2)), (5, .int (nI (j)))]) ((cds p9).length) ?_ ?_ (iv, av, 1) _ _ (goI_0 hS) hl0
      · intro j3 a3 sz ls hj3 hI3 hl ih3
        obtain ⟨iv3, av3, t3_4⟩ := a3
        dsimp only at hI3 hl ih3
        refine zeq (M' := (cm aC x iv3 av3 R)) rfl ?_
        have hG3 := hI3.1.G hg hG
        have hok8 := hop _ ((cds_mem hop).mp (getD_mem hj3))
        refine zz (fun _ _ => lv_iload hx hb dX4_goOn_30 (lv_at hl 5 rfl)) ?_
        refine zz (fun _ _ => lv_aload_n hx hb dX4_goOn_32 rfl (lv_at hl 2 rfl)) ?_
        refine z_get (v := .int (iv3 (4 + 1 + 2 * g9) 1)) C fd_X4_46 (rd_6 (ck_g hg)) rfl dX4_goOn_33 ?_
        refine zval (v' := .int (nI (cds p9).length)) (congrArg Value.int hG3.1) ?_
        refine zb (fun _ _ => lv_icmp_ge (tgt := 66) hx hb dX4_goOn_36 (by decide)) (fun c_4 => ?_) (fun c_4 => ?_)
        · exact absurd c_4 (nI_ge (by omega) (by omega))
        · refine zz (fun _ _ => lv_iload hx hb dX4_goOn_39 (lv_at hl 4 rfl)) ?_
          refine zb (fun _ _ => lv_if_eq (tgt := 66) hx hb dX4_goOn_41 (by decide)) (fun c_5 => ?_) (fun c_5 => ?_)
          · refine zz (fun _ _ => lv_iload hx hb dX4_goOn_66 (lv_at hl 4 rfl)) ?_
            exact z_zret C hr (bz (goP_b hI3)) hlk dX4_goOn_68 (zpI_mk (a := iv3) (b := av3) (by rw [drop_c erw9]; exact goI_out hI3 c_5))
          · refine zz (fun _ _ => lv_aload_n hx hb dX4_goOn_44 rfl (lv_at hl 0 rfl)) ?_
            refine zz (fun _ _ => lv_aload_n hx hb dX4_goOn_45 rfl (lv_at hl 1 rfl)) ?_
            refine zz (fun _ _ => lv_aload_n hx hb dX4_goOn_46 rfl (lv_at hl 2 rfl)) ?_
            refine zz (fun _ _ => lv_iload_n hx hb dX4_goOn_47 rfl (lv_at hl 3 rfl)) ?_
            refine zz (fun _ _ => lv_aload_n hx hb dX4_goOn_48 rfl (lv_at hl 2 rfl)) ?_
            refine z_get (v := .ref (x + ((4 + 1 + 2 * g9) + 1))) C fd_X4_51 (rd_6 (ck_g hg)) rfl dX4_goOn_49 ?_
            refine zz (fun _ _ => lv_iload hx hb dX4_goOn_52 (lv_at hl 5 rfl)) ?_
            refine z_iald (f := av3 ((4 + 1 + 2 * g9) + 1)) C (rd_7 (nb_6_1 (ck_g hg))) (by first | assumption | (apply vp_in_nI <;> omega)) dX4_goOn_54 ?_
            refine zval (v' := .int (nI ((cds p9).getD j3 0))) (congrArg Value.int (rdI (hG3.2.2 j3 hj3) (by omega))) ?_
            refine zqVI (As := [.ref (x + ((61 + 6 * i) + 4)), .ref (x + (4 + 1 + 2 * g9)), .int (nI r9), .int (nI ((cds p9).getD j3 0))]) (rest := []) C hl.1 lk_X4_54 (hX4_holdAgainst_2 hi (hI3.1.P hP) hg hG3 hop hlen (goI_S hI3 c_5) (hI3.1.V hV) erw9 hd hok8) (rd_9 (by decide)) rfl rfl rfl (Nat.le_of_ble_eq_true rfl) ⟨by decide, by decide, by decide, by decide⟩ dX4_goOn_55 (fun w6 iv6 av6 sz h6 => ?_)
            refine zeq (M' := (cm aC x iv6 av6 R)) rfl ?_
            refine zs (fun _ _ => lv_istore (lv' := [(4, .int (w6)), (0, .ref (x + 20)), (1, .ref (x + ((61 + 6 * i) + 4))), (2, .ref (x + (4 + 1 + 2 * g9))), (3, .int (nI r9)), (5, .int (nI (j3)))]) hx hb dX4_goOn_58 hl (by decide) rfl) (fun ls hl => ?_)
            refine zs (fun _ _ => lv_iinc (v := nI (j3) + 1) (lv' := [(5, .int (nI (j3) + 1)), (4, .int (w6)), (0, .ref (x + 20)), (1, .ref (x + ((61 + 6 * i) + 4))), (2, .ref (x + (4 + 1 + 2 * g9))), (3, .int (nI r9))]) hx hb dX4_goOn_60 hl (k := 5) rfl rfl (by decide) rfl) (fun ls hl => ?_)
            refine zz (fun _ _ => lv_goto (tgt := 30) hx hb dX4_goOn_63 (by decide)) ?_
            have hl := lv_sub hl [2, 3, 4, 5, 1, 0] rfl
            try simp only [nI_1] at hl
            exact ih3 (iv6, av6, w6) _ _ (goI_next hj3 hI3 h6) hl
      · intro a3 sz ls hI3 hl
        obtain ⟨iv3, av3, t3_4⟩ := a3
        dsimp only at hI3 hl
        refine zeq (M' := (cm aC x iv3 av3 R)) rfl ?_
        have hG3 := hI3.1.G hg hG
        refine zz (fun _ _ => lv_iload hx hb dX4_goOn_30 (lv_at hl 5 rfl)) ?_
        refine zz (fun _ _ => lv_aload_n hx hb dX4_goOn_32 rfl (lv_at hl 2 rfl)) ?_
        refine z_get (v := .int (iv3 (4 + 1 + 2 * g9) 1)) C fd_X4_46 (rd_6 (ck_g hg)) rfl dX4_goOn_33 ?_
        refine zval (v' := .int (nI (cds p9).length)) (congrArg Value.int hG3.1) ?_
        refine zb (fun _ _ => lv_icmp_ge (tgt := 66) hx hb dX4_goOn_36 (by decide)) (fun c_7 => ?_) (fun c_7 => ?_)
        · refine zz (fun _ _ => lv_iload hx hb dX4_goOn_66 (lv_at hl 4 rfl)) ?_
          exact z_zret C hr (bz (goP_b hI3)) hlk dX4_goOn_68 (zpI_mk (a := iv3) (b := av3) (by rw [drop_c erw9]; exact goI_end hI3))
        · exact absurd (nI_le (Nat.le_refl _) (by omega)) c_7
    · exact absurd (nI_lt (by omega) (by omega)) c_2
set_option maxHeartbeats 2000000 in
set_option maxRecDepth 10000 in
theorem hX4_holdAgainst_3 {l : Launch} {D : va_G} {aC : Nat → ClassId} {b0 sz : Nat} {x : Nat} {iv av : Nat → Nat → Int32} {R : ZM} {i g9 r9 w9 c9 : Nat} {ps : List Rw} {p9 : Nat → Bool} {t9 : Bool} {acc : List Sg} {σ : Sg} (hi : i < 12) (hP : PRc iv av i ps) (hg : g9 < 7) (hG : GC iv av (4 + 1 + 2 * g9) p9 t9) (hop : ∀ c, p9 c = true → okc c) (hlen : (cds p9).length ≤ 120) (hS : SE iv av acc w9) (hV : VA av r9 σ) {rw9 : Rw} (erw : ps[r9]? = some rw9) (hd : r9 + 3 = ps.length) (hc : okc c9) : Ct l D aC b0 yX4_holdAgainst cX4_holdAgainst 5 (some .boolean) 6 0 0 [.ref (x + 20), .ref (x + ((61 + 6 * i) + 4)), .ref (x + (4 + 1 + 2 * g9)), .int (nI r9), .int (nI c9)] (cm aC x iv av R) sz (zpI (fun iv av => cm aC x iv av R) (goP iv av r9 acc w9 (solP (cds p9) rw9 (ps.drop (r9 + 1)) σ [c9]) (wkP (cds p9) rw9 (ps.drop (r9 + 1)) σ [c9]))) := by
  refine Ct.of (by decide) (Nat.le_of_ble_eq_true rfl) ?_
  intro p e s m below meth c ls C hr hlk hnm hl
  have hl : lv_has ls 5 [(0, .ref (x + 20)), (1, .ref (x + ((61 + 6 * i) + 4))), (2, .ref (x + (4 + 1 + 2 * g9))), (3, .int (nI r9)), (4, .int (nI c9))] := hl
  obtain ⟨hx, hb, -, -, -⟩ := id C
  have hp4 := hP.2.1
  refine zz (fun _ _ => lv_aload_n hx hb dX4_holdAgainst_0 rfl (lv_at hl 0 rfl)) ?_
  refine zz (fun _ _ => lv_dup hx hb dX4_holdAgainst_1 rfl) ?_
  refine z_get (v := .int (iv 20 3)) C fd_X4_24 (rd_9 (by decide)) rfl dX4_holdAgainst_2 ?_
  refine zval (v' := .int (nI w9)) (congrArg Value.int hS.2.2.1) ?_
  refine zz (fun _ _ => lv_iconst (v := 1) hx hb dX4_holdAgainst_5 (by decide)) ?_
  refine zz (fun _ _ => lv_iadd hx hb dX4_holdAgainst_6) ?_
  refine zval (v' := .int (nI (w9 + 1))) (congrArg Value.int (nI_1 _)) ?_
  refine z_put C fp_X4_24 (fun h => by cases h) (rd_9 (by decide)) (Nat.le_of_ble_eq_true rfl) rfl rfl dX4_holdAgainst_7 ?_
  refine zeq (wr_9_3 (by decide)) ?_
  refine zz (fun _ _ => lv_aload_n hx hb dX4_holdAgainst_10 rfl (lv_at hl 0 rfl)) ?_
  refine z_get (v := .int (nI (w9 + 1))) C fd_X4_24 (rd_9 (by decide)) (by simp [u2]) dX4_holdAgainst_11 ?_
  refine zz (fun _ _ => lv_sipush (v := 5000) hx hb dX4_holdAgainst_14 (by decide)) ?_
  refine zval (v' := .int (nI 5000)) (congrArg Value.int rfl) ?_
  refine zb (fun _ _ => lv_icmp_le (tgt := 22) hx hb dX4_holdAgainst_17 (by decide)) (fun c_1 => ?_) (fun c_1 => ?_)
  · refine zz (fun _ _ => lv_aload_n hx hb dX4_holdAgainst_22 rfl (lv_at hl 0 rfl)) ?_
    refine zz (fun _ _ => lv_aload_n hx hb dX4_holdAgainst_23 rfl (lv_at hl 1 rfl)) ?_
    refine zz (fun _ _ => lv_iload_n hx hb dX4_holdAgainst_24 rfl (lv_at hl 3 rfl)) ?_
    refine zz (fun _ _ => lv_iload hx hb dX4_holdAgainst_25 (lv_at hl 4 rfl)) ?_
    refine zqVI (As := [.ref (x + ((61 + 6 * i) + 4)), .int (nI r9), .int (nI c9)]) (rest := []) C hl.1 lk_X4_58 (hX4_fits hi (FQc_w.P (row := r9) hP) erw hc hV) (rd_9 (by decide)) rfl rfl rfl (Nat.le_of_ble_eq_true rfl) ⟨by decide, by decide, by decide, by decide⟩ dX4_holdAgainst_27 (fun w2 iv2 av2 sz h2 => ?_)
    refine zeq (M' := (cm aC x iv2 av2 R)) rfl ?_
    refine zb (fun _ _ => lv_if_eq (tgt := 45) hx hb dX4_holdAgainst_30 (by decide)) (fun c_3 => ?_) (fun c_3 => ?_)
    · refine zz (fun _ _ => lv_iconst (v := 1) hx hb dX4_holdAgainst_45 (by decide)) ?_
      refine zz (fun _ _ => lv_goto (tgt := 50) hx hb dX4_holdAgainst_46 (by decide)) ?_
      exact z_zret C hr rfl hlk dX4_holdAgainst_50 (zpI_mk (a := iv2) (b := av2) (ho_n (by omega) hS c_1 h2 c_3))
    · obtain ⟨sx9, ex9, hx9⟩ := fc_ok h2 c_3
      have hq9 := fc_FQ (by omega) h2
      have hfq9 := FQc_w.trans (row := r9) hq9.1
      have hS9 := SE_av (SE_w hS c_1) hq9.2
      rw [← h2.1] at hS9
      refine zz (fun _ _ => lv_aload_n hx hb dX4_holdAgainst_33 rfl (lv_at hl 0 rfl)) ?_
      refine zz (fun _ _ => lv_aload_n hx hb dX4_holdAgainst_34 rfl (lv_at hl 1 rfl)) ?_
      refine zz (fun _ _ => lv_aload_n hx hb dX4_holdAgainst_35 rfl (lv_at hl 2 rfl)) ?_
      refine zz (fun _ _ => lv_iload_n hx hb dX4_holdAgainst_36 rfl (lv_at hl 3 rfl)) ?_
      refine zz (fun _ _ => lv_iconst (v := 1) hx hb dX4_holdAgainst_37 (by decide)) ?_
      refine zz (fun _ _ => lv_iadd hx hb dX4_holdAgainst_38) ?_
      refine zval (v' := .int (nI (r9 + 1))) (congrArg Value.int (nI_1 _)) ?_
      refine zqVI (As := [.ref (x + ((61 + 6 * i) + 4)), .ref (x + (4 + 1 + 2 * g9)), .int (nI (r9 + 1))]) (rest := []) C hl.1 lk_X4_33 (hX4_goOn_2 hi (hfq9.P hP) hg (hfq9.G hg hG) hop hlen hS9 hx9 (by omega)) (rd_9 (by decide)) rfl rfl rfl (Nat.le_of_ble_eq_true rfl) ⟨by decide, by decide, by decide, by decide⟩ dX4_holdAgainst_39 (fun w4 iv4 av4 sz h4 => ?_)
      refine zeq (M' := (cm aC x iv4 av4 R)) rfl ?_
      refine zb (fun _ _ => lv_if_eq (tgt := 49) hx hb dX4_holdAgainst_42 (by decide)) (fun c_5 => ?_) (fun c_5 => ?_)
      · refine zz (fun _ _ => lv_iconst (v := 0) hx hb dX4_holdAgainst_49 (by decide)) ?_
        exact z_zret C hr rfl hlk dX4_holdAgainst_50 (zpI_mk (a := iv4) (b := av4) (by have h9 := ho_s hfq9 ex9 h4; rw [c_5] at h9; exact h9))
      · refine zz (fun _ _ => lv_iconst (v := 1) hx hb dX4_holdAgainst_45 (by decide)) ?_
        refine zz (fun _ _ => lv_goto (tgt := 50) hx hb dX4_holdAgainst_46 (by decide)) ?_
        exact z_zret C hr rfl hlk dX4_holdAgainst_50 (zpI_mk (a := iv4) (b := av4) (by have h9 := ho_s hfq9 ex9 h4; rw [(goP_b h4).resolve_left c_5] at h9; exact h9))
  · refine zz (fun _ _ => lv_iconst (v := 0) hx hb dX4_holdAgainst_20 (by decide)) ?_
    exact z_zret C hr rfl hlk dX4_holdAgainst_21 (zpI_mk (a := (u2 iv 20 3 (nI (w9 + 1)))) (b := av) (ho_5 hS c_1))
set_option maxHeartbeats 2000000 in
set_option maxRecDepth 10000 in
theorem hX4_goOn_3 {l : Launch} {D : va_G} {aC : Nat → ClassId} {b0 sz : Nat} {x : Nat} {iv av : Nat → Nat → Int32} {R : ZM} {i g9 r9 w9 : Nat} {ps : List Rw} {p9 : Nat → Bool} {t9 : Bool} {acc : List Sg} {σ : Sg} (hi : i < 12) (hP : PRc iv av i ps) (hg : g9 < 7) (hG : GC iv av (4 + 1 + 2 * g9) p9 t9) (hop : ∀ c, p9 c = true → okc c) (hlen : (cds p9).length ≤ 120) (hS : SE iv av acc w9) (hV : VA av r9 σ) (hd : r9 + 3 = ps.length) : Ct l D aC b0 yX4_goOn cX4_goOn 6 (some .boolean) 7 0 0 [.ref (x + 20), .ref (x + ((61 + 6 * i) + 4)), .ref (x + (4 + 1 + 2 * g9)), .int (nI r9)] (cm aC x iv av R) sz (zpI (fun iv av => cm aC x iv av R) (goP iv av r9 acc w9 (sols (cds p9) (ps.drop r9) σ) (wk (cds p9) (ps.drop r9) σ))) := by
  refine Ct.of (by decide) (Nat.le_of_ble_eq_true rfl) ?_
  intro p e s m below meth c ls C hr hlk hnm hl
  have hl : lv_has ls 6 [(0, .ref (x + 20)), (1, .ref (x + ((61 + 6 * i) + 4))), (2, .ref (x + (4 + 1 + 2 * g9))), (3, .int (nI r9))] := hl
  obtain ⟨hx, hb, -, -, -⟩ := id C
  have hp4 := hP.2.1
  obtain ⟨rw9, erw9⟩ : ∃ t, ps[r9]? = some t := ⟨_, List.getElem?_eq_getElem (by omega)⟩
  refine zz (fun _ _ => lv_iload_n hx hb dX4_goOn_0 rfl (lv_at hl 3 rfl)) ?_
  refine zz (fun _ _ => lv_aload_n hx hb dX4_goOn_1 rfl (lv_at hl 1 rfl)) ?_
  refine z_get (v := .int (iv ((61 + 6 * i) + 4) 2)) C fd_X4_37 (rd_14 (nb_18_4 (ck_s hi))) rfl dX4_goOn_2 ?_
  refine zval (v' := .int (nI ps.length)) (congrArg Value.int hP.1) ?_
  refine zb (fun _ _ => lv_icmp_ge (tgt := 13) hx hb dX4_goOn_5 (by decide)) (fun c_1 => ?_) (fun c_1 => ?_)
  · exact absurd c_1 (nI_ge (by omega) (by omega))
  · refine zz (fun _ _ => lv_iload_n hx hb dX4_goOn_8 rfl (lv_at hl 3 rfl)) ?_
    refine zz (fun _ _ => lv_iconst (v := 4) hx hb dX4_goOn_9 (by decide)) ?_
    refine zval (v' := .int (nI 4)) (congrArg Value.int rfl) ?_
    refine zb (fun _ _ => lv_icmp_lt (tgt := 24) hx hb dX4_goOn_10 (by decide)) (fun c_2 => ?_) (fun c_2 => ?_)
    · refine zz (fun _ _ => lv_iconst (v := 1) hx hb dX4_goOn_24 (by decide)) ?_
      refine zs (fun _ _ => lv_istore (lv' := [(4, .int (1)), (0, .ref (x + 20)), (1, .ref (x + ((61 + 6 * i) + 4))), (2, .ref (x + (4 + 1 + 2 * g9))), (3, .int (nI r9))]) hx hb dX4_goOn_25 hl (by decide) rfl) (fun ls hl => ?_)
      refine zz (fun _ _ => lv_iconst (v := 0) hx hb dX4_goOn_27 (by decide)) ?_
      refine zs (fun _ _ => lv_istore (lv' := [(5, .int (0)), (4, .int (1)), (0, .ref (x + 20)), (1, .ref (x + ((61 + 6 * i) + 4))), (2, .ref (x + (4 + 1 + 2 * g9))), (3, .int (nI r9))]) hx hb dX4_goOn_28 hl (by decide) rfl) (fun ls hl => ?_)
      have hl0 := lv_sub hl [2, 3, 4, 5, 1, 0] rfl
      refine z_loop (γ := (Nat → Nat → Int32) × (Nat → Nat → Int32) × Int32) (G := fun a => cm aC x a.1 a.2.1 R) (I := fun j a => goI iv av r9 acc w9 (cds p9) rw9 (ps.drop (r9 + 1)) σ j a.2.2 a.1 a.2.1) (lv := fun j a => [(0, .ref (x + 20)), (1, .ref (x + ((61 + 6 * i) + 4))), (2, .ref (x + (4 + 1 + 2 * g9))), (3, .int (nI r9)), (4, .int (a.2.2)), (5, .int (nI (j)))]) ((cds p9).length) ?_ ?_ (iv, av, 1) _ _ (goI_0 hS) hl0
      · intro j3 a3 sz ls hj3 hI3 hl ih3
        obtain ⟨iv3, av3, t3_4⟩ := a3
        dsimp only at hI3 hl ih3
        refine zeq (M' := (cm aC x iv3 av3 R)) rfl ?_
        have hG3 := hI3.1.G hg hG
        have hok8 := hop _ ((cds_mem hop).mp (getD_mem hj3))
        refine zz (fun _ _ => lv_iload hx hb dX4_goOn_30 (lv_at hl 5 rfl)) ?_
        refine zz (fun _ _ => lv_aload_n hx hb dX4_goOn_32 rfl (lv_at hl 2 rfl)) ?_
        refine z_get (v := .int (iv3 (4 + 1 + 2 * g9) 1)) C fd_X4_46 (rd_6 (ck_g hg)) rfl dX4_goOn_33 ?_
        refine zval (v' := .int (nI (cds p9).length)) (congrArg Value.int hG3.1) ?_
        refine zb (fun _ _ => lv_icmp_ge (tgt := 66) hx hb dX4_goOn_36 (by decide)) (fun c_4 => ?_) (fun c_4 => ?_)
        · exact absurd c_4 (nI_ge (by omega) (by omega))
        · refine zz (fun _ _ => lv_iload hx hb dX4_goOn_39 (lv_at hl 4 rfl)) ?_
          refine zb (fun _ _ => lv_if_eq (tgt := 66) hx hb dX4_goOn_41 (by decide)) (fun c_5 => ?_) (fun c_5 => ?_)
          · refine zz (fun _ _ => lv_iload hx hb dX4_goOn_66 (lv_at hl 4 rfl)) ?_
            exact z_zret C hr (bz (goP_b hI3)) hlk dX4_goOn_68 (zpI_mk (a := iv3) (b := av3) (by rw [drop_c erw9]; exact goI_out hI3 c_5))
          · refine zz (fun _ _ => lv_aload_n hx hb dX4_goOn_44 rfl (lv_at hl 0 rfl)) ?_
            refine zz (fun _ _ => lv_aload_n hx hb dX4_goOn_45 rfl (lv_at hl 1 rfl)) ?_
            refine zz (fun _ _ => lv_aload_n hx hb dX4_goOn_46 rfl (lv_at hl 2 rfl)) ?_
            refine zz (fun _ _ => lv_iload_n hx hb dX4_goOn_47 rfl (lv_at hl 3 rfl)) ?_
            refine zz (fun _ _ => lv_aload_n hx hb dX4_goOn_48 rfl (lv_at hl 2 rfl)) ?_
            refine z_get (v := .ref (x + ((4 + 1 + 2 * g9) + 1))) C fd_X4_51 (rd_6 (ck_g hg)) rfl dX4_goOn_49 ?_
            refine zz (fun _ _ => lv_iload hx hb dX4_goOn_52 (lv_at hl 5 rfl)) ?_
            refine z_iald (f := av3 ((4 + 1 + 2 * g9) + 1)) C (rd_7 (nb_6_1 (ck_g hg))) (by first | assumption | (apply vp_in_nI <;> omega)) dX4_goOn_54 ?_
            refine zval (v' := .int (nI ((cds p9).getD j3 0))) (congrArg Value.int (rdI (hG3.2.2 j3 hj3) (by omega))) ?_
            refine zqVI (As := [.ref (x + ((61 + 6 * i) + 4)), .ref (x + (4 + 1 + 2 * g9)), .int (nI r9), .int (nI ((cds p9).getD j3 0))]) (rest := []) C hl.1 lk_X4_54 (hX4_holdAgainst_3 hi (hI3.1.P hP) hg hG3 hop hlen (goI_S hI3 c_5) (hI3.1.V hV) erw9 hd hok8) (rd_9 (by decide)) rfl rfl rfl (Nat.le_of_ble_eq_true rfl) ⟨by decide, by decide, by decide, by decide⟩ dX4_goOn_55 (fun w6 iv6 av6 sz h6 => ?_)
            refine zeq (M' := (cm aC x iv6 av6 R)) rfl ?_
            refine zs (fun _ _ => lv_istore (lv' := [(4, .int (w6)), (0, .ref (x + 20)), (1, .ref (x + ((61 + 6 * i) + 4))), (2, .ref (x + (4 + 1 + 2 * g9))), (3, .int (nI r9)), (5, .int (nI (j3)))]) hx hb dX4_goOn_58 hl (by decide) rfl) (fun ls hl => ?_)
            refine zs (fun _ _ => lv_iinc (v := nI (j3) + 1) (lv' := [(5, .int (nI (j3) + 1)), (4, .int (w6)), (0, .ref (x + 20)), (1, .ref (x + ((61 + 6 * i) + 4))), (2, .ref (x + (4 + 1 + 2 * g9))), (3, .int (nI r9))]) hx hb dX4_goOn_60 hl (k := 5) rfl rfl (by decide) rfl) (fun ls hl => ?_)
            refine zz (fun _ _ => lv_goto (tgt := 30) hx hb dX4_goOn_63 (by decide)) ?_
            have hl := lv_sub hl [2, 3, 4, 5, 1, 0] rfl
            try simp only [nI_1] at hl
            exact ih3 (iv6, av6, w6) _ _ (goI_next hj3 hI3 h6) hl
      · intro a3 sz ls hI3 hl
        obtain ⟨iv3, av3, t3_4⟩ := a3
        dsimp only at hI3 hl
        refine zeq (M' := (cm aC x iv3 av3 R)) rfl ?_
        have hG3 := hI3.1.G hg hG
        refine zz (fun _ _ => lv_iload hx hb dX4_goOn_30 (lv_at hl 5 rfl)) ?_
        refine zz (fun _ _ => lv_aload_n hx hb dX4_goOn_32 rfl (lv_at hl 2 rfl)) ?_
        refine z_get (v := .int (iv3 (4 + 1 + 2 * g9) 1)) C fd_X4_46 (rd_6 (ck_g hg)) rfl dX4_goOn_33 ?_
        refine zval (v' := .int (nI (cds p9).length)) (congrArg Value.int hG3.1) ?_
        refine zb (fun _ _ => lv_icmp_ge (tgt := 66) hx hb dX4_goOn_36 (by decide)) (fun c_7 => ?_) (fun c_7 => ?_)
        · refine zz (fun _ _ => lv_iload hx hb dX4_goOn_66 (lv_at hl 4 rfl)) ?_
          exact z_zret C hr (bz (goP_b hI3)) hlk dX4_goOn_68 (zpI_mk (a := iv3) (b := av3) (by rw [drop_c erw9]; exact goI_end hI3))
        · exact absurd (nI_le (Nat.le_refl _) (by omega)) c_7
    · exact absurd (nI_lt (by omega) (by omega)) c_2
set_option maxHeartbeats 2000000 in
set_option maxRecDepth 10000 in
theorem hX4_holdAgainst_4 {l : Launch} {D : va_G} {aC : Nat → ClassId} {b0 sz : Nat} {x : Nat} {iv av : Nat → Nat → Int32} {R : ZM} {i g9 r9 w9 c9 : Nat} {ps : List Rw} {p9 : Nat → Bool} {t9 : Bool} {acc : List Sg} {σ : Sg} (hi : i < 12) (hP : PRc iv av i ps) (hg : g9 < 7) (hG : GC iv av (4 + 1 + 2 * g9) p9 t9) (hop : ∀ c, p9 c = true → okc c) (hlen : (cds p9).length ≤ 120) (hS : SE iv av acc w9) (hV : VA av r9 σ) {rw9 : Rw} (erw : ps[r9]? = some rw9) (hd : r9 + 4 = ps.length) (hc : okc c9) : Ct l D aC b0 yX4_holdAgainst cX4_holdAgainst 5 (some .boolean) 8 0 0 [.ref (x + 20), .ref (x + ((61 + 6 * i) + 4)), .ref (x + (4 + 1 + 2 * g9)), .int (nI r9), .int (nI c9)] (cm aC x iv av R) sz (zpI (fun iv av => cm aC x iv av R) (goP iv av r9 acc w9 (solP (cds p9) rw9 (ps.drop (r9 + 1)) σ [c9]) (wkP (cds p9) rw9 (ps.drop (r9 + 1)) σ [c9]))) := by
  refine Ct.of (by decide) (Nat.le_of_ble_eq_true rfl) ?_
  intro p e s m below meth c ls C hr hlk hnm hl
  have hl : lv_has ls 5 [(0, .ref (x + 20)), (1, .ref (x + ((61 + 6 * i) + 4))), (2, .ref (x + (4 + 1 + 2 * g9))), (3, .int (nI r9)), (4, .int (nI c9))] := hl
  obtain ⟨hx, hb, -, -, -⟩ := id C
  have hp4 := hP.2.1
  refine zz (fun _ _ => lv_aload_n hx hb dX4_holdAgainst_0 rfl (lv_at hl 0 rfl)) ?_
  refine zz (fun _ _ => lv_dup hx hb dX4_holdAgainst_1 rfl) ?_
  refine z_get (v := .int (iv 20 3)) C fd_X4_24 (rd_9 (by decide)) rfl dX4_holdAgainst_2 ?_
  refine zval (v' := .int (nI w9)) (congrArg Value.int hS.2.2.1) ?_
  refine zz (fun _ _ => lv_iconst (v := 1) hx hb dX4_holdAgainst_5 (by decide)) ?_
  refine zz (fun _ _ => lv_iadd hx hb dX4_holdAgainst_6) ?_
  refine zval (v' := .int (nI (w9 + 1))) (congrArg Value.int (nI_1 _)) ?_
  refine z_put C fp_X4_24 (fun h => by cases h) (rd_9 (by decide)) (Nat.le_of_ble_eq_true rfl) rfl rfl dX4_holdAgainst_7 ?_
  refine zeq (wr_9_3 (by decide)) ?_
  refine zz (fun _ _ => lv_aload_n hx hb dX4_holdAgainst_10 rfl (lv_at hl 0 rfl)) ?_
  refine z_get (v := .int (nI (w9 + 1))) C fd_X4_24 (rd_9 (by decide)) (by simp [u2]) dX4_holdAgainst_11 ?_
  refine zz (fun _ _ => lv_sipush (v := 5000) hx hb dX4_holdAgainst_14 (by decide)) ?_
  refine zval (v' := .int (nI 5000)) (congrArg Value.int rfl) ?_
  refine zb (fun _ _ => lv_icmp_le (tgt := 22) hx hb dX4_holdAgainst_17 (by decide)) (fun c_1 => ?_) (fun c_1 => ?_)
  · refine zz (fun _ _ => lv_aload_n hx hb dX4_holdAgainst_22 rfl (lv_at hl 0 rfl)) ?_
    refine zz (fun _ _ => lv_aload_n hx hb dX4_holdAgainst_23 rfl (lv_at hl 1 rfl)) ?_
    refine zz (fun _ _ => lv_iload_n hx hb dX4_holdAgainst_24 rfl (lv_at hl 3 rfl)) ?_
    refine zz (fun _ _ => lv_iload hx hb dX4_holdAgainst_25 (lv_at hl 4 rfl)) ?_
    refine zqVI (As := [.ref (x + ((61 + 6 * i) + 4)), .int (nI r9), .int (nI c9)]) (rest := []) C hl.1 lk_X4_58 (hX4_fits hi (FQc_w.P (row := r9) hP) erw hc hV) (rd_9 (by decide)) rfl rfl rfl (Nat.le_of_ble_eq_true rfl) ⟨by decide, by decide, by decide, by decide⟩ dX4_holdAgainst_27 (fun w2 iv2 av2 sz h2 => ?_)
    refine zeq (M' := (cm aC x iv2 av2 R)) rfl ?_
    refine zb (fun _ _ => lv_if_eq (tgt := 45) hx hb dX4_holdAgainst_30 (by decide)) (fun c_3 => ?_) (fun c_3 => ?_)
    · refine zz (fun _ _ => lv_iconst (v := 1) hx hb dX4_holdAgainst_45 (by decide)) ?_
      refine zz (fun _ _ => lv_goto (tgt := 50) hx hb dX4_holdAgainst_46 (by decide)) ?_
      exact z_zret C hr rfl hlk dX4_holdAgainst_50 (zpI_mk (a := iv2) (b := av2) (ho_n (by omega) hS c_1 h2 c_3))
    · obtain ⟨sx9, ex9, hx9⟩ := fc_ok h2 c_3
      have hq9 := fc_FQ (by omega) h2
      have hfq9 := FQc_w.trans (row := r9) hq9.1
      have hS9 := SE_av (SE_w hS c_1) hq9.2
      rw [← h2.1] at hS9
      refine zz (fun _ _ => lv_aload_n hx hb dX4_holdAgainst_33 rfl (lv_at hl 0 rfl)) ?_
      refine zz (fun _ _ => lv_aload_n hx hb dX4_holdAgainst_34 rfl (lv_at hl 1 rfl)) ?_
      refine zz (fun _ _ => lv_aload_n hx hb dX4_holdAgainst_35 rfl (lv_at hl 2 rfl)) ?_
      refine zz (fun _ _ => lv_iload_n hx hb dX4_holdAgainst_36 rfl (lv_at hl 3 rfl)) ?_
      refine zz (fun _ _ => lv_iconst (v := 1) hx hb dX4_holdAgainst_37 (by decide)) ?_
      refine zz (fun _ _ => lv_iadd hx hb dX4_holdAgainst_38) ?_
      refine zval (v' := .int (nI (r9 + 1))) (congrArg Value.int (nI_1 _)) ?_
      refine zqVI (As := [.ref (x + ((61 + 6 * i) + 4)), .ref (x + (4 + 1 + 2 * g9)), .int (nI (r9 + 1))]) (rest := []) C hl.1 lk_X4_33 (hX4_goOn_3 hi (hfq9.P hP) hg (hfq9.G hg hG) hop hlen hS9 hx9 (by omega)) (rd_9 (by decide)) rfl rfl rfl (Nat.le_of_ble_eq_true rfl) ⟨by decide, by decide, by decide, by decide⟩ dX4_holdAgainst_39 (fun w4 iv4 av4 sz h4 => ?_)
      refine zeq (M' := (cm aC x iv4 av4 R)) rfl ?_
      refine zb (fun _ _ => lv_if_eq (tgt := 49) hx hb dX4_holdAgainst_42 (by decide)) (fun c_5 => ?_) (fun c_5 => ?_)
      · refine zz (fun _ _ => lv_iconst (v := 0) hx hb dX4_holdAgainst_49 (by decide)) ?_
        exact z_zret C hr rfl hlk dX4_holdAgainst_50 (zpI_mk (a := iv4) (b := av4) (by have h9 := ho_s hfq9 ex9 h4; rw [c_5] at h9; exact h9))
      · refine zz (fun _ _ => lv_iconst (v := 1) hx hb dX4_holdAgainst_45 (by decide)) ?_
        refine zz (fun _ _ => lv_goto (tgt := 50) hx hb dX4_holdAgainst_46 (by decide)) ?_
        exact z_zret C hr rfl hlk dX4_holdAgainst_50 (zpI_mk (a := iv4) (b := av4) (by have h9 := ho_s hfq9 ex9 h4; rw [(goP_b h4).resolve_left c_5] at h9; exact h9))
  · refine zz (fun _ _ => lv_iconst (v := 0) hx hb dX4_holdAgainst_20 (by decide)) ?_
    exact z_zret C hr rfl hlk dX4_holdAgainst_21 (zpI_mk (a := (u2 iv 20 3 (nI (w9 + 1)))) (b := av) (ho_5 hS c_1))
set_option maxHeartbeats 2000000 in
set_option maxRecDepth 10000 in
theorem hX4_goOn_4 {l : Launch} {D : va_G} {aC : Nat → ClassId} {b0 sz : Nat} {x : Nat} {iv av : Nat → Nat → Int32} {R : ZM} {i g9 r9 w9 : Nat} {ps : List Rw} {p9 : Nat → Bool} {t9 : Bool} {acc : List Sg} {σ : Sg} (hi : i < 12) (hP : PRc iv av i ps) (hg : g9 < 7) (hG : GC iv av (4 + 1 + 2 * g9) p9 t9) (hop : ∀ c, p9 c = true → okc c) (hlen : (cds p9).length ≤ 120) (hS : SE iv av acc w9) (hV : VA av r9 σ) (hd : r9 + 4 = ps.length) : Ct l D aC b0 yX4_goOn cX4_goOn 6 (some .boolean) 9 0 0 [.ref (x + 20), .ref (x + ((61 + 6 * i) + 4)), .ref (x + (4 + 1 + 2 * g9)), .int (nI r9)] (cm aC x iv av R) sz (zpI (fun iv av => cm aC x iv av R) (goP iv av r9 acc w9 (sols (cds p9) (ps.drop r9) σ) (wk (cds p9) (ps.drop r9) σ))) := by
  refine Ct.of (by decide) (Nat.le_of_ble_eq_true rfl) ?_
  intro p e s m below meth c ls C hr hlk hnm hl
  have hl : lv_has ls 6 [(0, .ref (x + 20)), (1, .ref (x + ((61 + 6 * i) + 4))), (2, .ref (x + (4 + 1 + 2 * g9))), (3, .int (nI r9))] := hl
  obtain ⟨hx, hb, -, -, -⟩ := id C
  have hp4 := hP.2.1
  obtain ⟨rw9, erw9⟩ : ∃ t, ps[r9]? = some t := ⟨_, List.getElem?_eq_getElem (by omega)⟩
  refine zz (fun _ _ => lv_iload_n hx hb dX4_goOn_0 rfl (lv_at hl 3 rfl)) ?_
  refine zz (fun _ _ => lv_aload_n hx hb dX4_goOn_1 rfl (lv_at hl 1 rfl)) ?_
  refine z_get (v := .int (iv ((61 + 6 * i) + 4) 2)) C fd_X4_37 (rd_14 (nb_18_4 (ck_s hi))) rfl dX4_goOn_2 ?_
  refine zval (v' := .int (nI ps.length)) (congrArg Value.int hP.1) ?_
  refine zb (fun _ _ => lv_icmp_ge (tgt := 13) hx hb dX4_goOn_5 (by decide)) (fun c_1 => ?_) (fun c_1 => ?_)
  · exact absurd c_1 (nI_ge (by omega) (by omega))
  · refine zz (fun _ _ => lv_iload_n hx hb dX4_goOn_8 rfl (lv_at hl 3 rfl)) ?_
    refine zz (fun _ _ => lv_iconst (v := 4) hx hb dX4_goOn_9 (by decide)) ?_
    refine zval (v' := .int (nI 4)) (congrArg Value.int rfl) ?_
    refine zb (fun _ _ => lv_icmp_lt (tgt := 24) hx hb dX4_goOn_10 (by decide)) (fun c_2 => ?_) (fun c_2 => ?_)
    · refine zz (fun _ _ => lv_iconst (v := 1) hx hb dX4_goOn_24 (by decide)) ?_
      refine zs (fun _ _ => lv_istore (lv' := [(4, .int (1)), (0, .ref (x + 20)), (1, .ref (x + ((61 + 6 * i) + 4))), (2, .ref (x + (4 + 1 + 2 * g9))), (3, .int (nI r9))]) hx hb dX4_goOn_25 hl (by decide) rfl) (fun ls hl => ?_)
      refine zz (fun _ _ => lv_iconst (v := 0) hx hb dX4_goOn_27 (by decide)) ?_
      refine zs (fun _ _ => lv_istore (lv' := [(5, .int (0)), (4, .int (1)), (0, .ref (x + 20)), (1, .ref (x + ((61 + 6 * i) + 4))), (2, .ref (x + (4 + 1 + 2 * g9))), (3, .int (nI r9))]) hx hb dX4_goOn_28 hl (by decide) rfl) (fun ls hl => ?_)
      have hl0 := lv_sub hl [2, 3, 4, 5, 1, 0] rfl
      refine z_loop (γ := (Nat → Nat → Int32) × (Nat → Nat → Int32) × Int32) (G := fun a => cm aC x a.1 a.2.1 R) (I := fun j a => goI iv av r9 acc w9 (cds p9) rw9 (ps.drop (r9 + 1)) σ j a.2.2 a.1 a.2.1) (lv := fun j a => [(0, .ref (x + 20)), (1, .ref (x + ((61 + 6 * i) + 4))), (2, .ref (x + (4 + 1 + 2 * g9))), (3, .int (nI r9)), (4, .int (a.2.2)), (5, .int (nI (j)))]) ((cds p9).length) ?_ ?_ (iv, av, 1) _ _ (goI_0 hS) hl0
      · intro j3 a3 sz ls hj3 hI3 hl ih3
        obtain ⟨iv3, av3, t3_4⟩ := a3
        dsimp only at hI3 hl ih3
        refine zeq (M' := (cm aC x iv3 av3 R)) rfl ?_
        have hG3 := hI3.1.G hg hG
        have hok8 := hop _ ((cds_mem hop).mp (getD_mem hj3))
        refine zz (fun _ _ => lv_iload hx hb dX4_goOn_30 (lv_at hl 5 rfl)) ?_
        refine zz (fun _ _ => lv_aload_n hx hb dX4_goOn_32 rfl (lv_at hl 2 rfl)) ?_
        refine z_get (v := .int (iv3 (4 + 1 + 2 * g9) 1)) C fd_X4_46 (rd_6 (ck_g hg)) rfl dX4_goOn_33 ?_
        refine zval (v' := .int (nI (cds p9).length)) (congrArg Value.int hG3.1) ?_
        refine zb (fun _ _ => lv_icmp_ge (tgt := 66) hx hb dX4_goOn_36 (by decide)) (fun c_4 => ?_) (fun c_4 => ?_)
        · exact absurd c_4 (nI_ge (by omega) (by omega))
        · refine zz (fun _ _ => lv_iload hx hb dX4_goOn_39 (lv_at hl 4 rfl)) ?_
          refine zb (fun _ _ => lv_if_eq (tgt := 66) hx hb dX4_goOn_41 (by decide)) (fun c_5 => ?_) (fun c_5 => ?_)
          · refine zz (fun _ _ => lv_iload hx hb dX4_goOn_66 (lv_at hl 4 rfl)) ?_
            exact z_zret C hr (bz (goP_b hI3)) hlk dX4_goOn_68 (zpI_mk (a := iv3) (b := av3) (by rw [drop_c erw9]; exact goI_out hI3 c_5))
          · refine zz (fun _ _ => lv_aload_n hx hb dX4_goOn_44 rfl (lv_at hl 0 rfl)) ?_
            refine zz (fun _ _ => lv_aload_n hx hb dX4_goOn_45 rfl (lv_at hl 1 rfl)) ?_
            refine zz (fun _ _ => lv_aload_n hx hb dX4_goOn_46 rfl (lv_at hl 2 rfl)) ?_
            refine zz (fun _ _ => lv_iload_n hx hb dX4_goOn_47 rfl (lv_at hl 3 rfl)) ?_
            refine zz (fun _ _ => lv_aload_n hx hb dX4_goOn_48 rfl (lv_at hl 2 rfl)) ?_
            refine z_get (v := .ref (x + ((4 + 1 + 2 * g9) + 1))) C fd_X4_51 (rd_6 (ck_g hg)) rfl dX4_goOn_49 ?_
            refine zz (fun _ _ => lv_iload hx hb dX4_goOn_52 (lv_at hl 5 rfl)) ?_
            refine z_iald (f := av3 ((4 + 1 + 2 * g9) + 1)) C (rd_7 (nb_6_1 (ck_g hg))) (by first | assumption | (apply vp_in_nI <;> omega)) dX4_goOn_54 ?_
            refine zval (v' := .int (nI ((cds p9).getD j3 0))) (congrArg Value.int (rdI (hG3.2.2 j3 hj3) (by omega))) ?_
            refine zqVI (As := [.ref (x + ((61 + 6 * i) + 4)), .ref (x + (4 + 1 + 2 * g9)), .int (nI r9), .int (nI ((cds p9).getD j3 0))]) (rest := []) C hl.1 lk_X4_54 (hX4_holdAgainst_4 hi (hI3.1.P hP) hg hG3 hop hlen (goI_S hI3 c_5) (hI3.1.V hV) erw9 hd hok8) (rd_9 (by decide)) rfl rfl rfl (Nat.le_of_ble_eq_true rfl) ⟨by decide, by decide, by decide, by decide⟩ dX4_goOn_55 (fun w6 iv6 av6 sz h6 => ?_)
            refine zeq (M' := (cm aC x iv6 av6 R)) rfl ?_
            refine zs (fun _ _ => lv_istore (lv' := [(4, .int (w6)), (0, .ref (x + 20)), (1, .ref (x + ((61 + 6 * i) + 4))), (2, .ref (x + (4 + 1 + 2 * g9))), (3, .int (nI r9)), (5, .int (nI (j3)))]) hx hb dX4_goOn_58 hl (by decide) rfl) (fun ls hl => ?_)
            refine zs (fun _ _ => lv_iinc (v := nI (j3) + 1) (lv' := [(5, .int (nI (j3) + 1)), (4, .int (w6)), (0, .ref (x + 20)), (1, .ref (x + ((61 + 6 * i) + 4))), (2, .ref (x + (4 + 1 + 2 * g9))), (3, .int (nI r9))]) hx hb dX4_goOn_60 hl (k := 5) rfl rfl (by decide) rfl) (fun ls hl => ?_)
            refine zz (fun _ _ => lv_goto (tgt := 30) hx hb dX4_goOn_63 (by decide)) ?_
            have hl := lv_sub hl [2, 3, 4, 5, 1, 0] rfl
            try simp only [nI_1] at hl
            exact ih3 (iv6, av6, w6) _ _ (goI_next hj3 hI3 h6) hl
      · intro a3 sz ls hI3 hl
        obtain ⟨iv3, av3, t3_4⟩ := a3
        dsimp only at hI3 hl
        refine zeq (M' := (cm aC x iv3 av3 R)) rfl ?_
        have hG3 := hI3.1.G hg hG
        refine zz (fun _ _ => lv_iload hx hb dX4_goOn_30 (lv_at hl 5 rfl)) ?_
        refine zz (fun _ _ => lv_aload_n hx hb dX4_goOn_32 rfl (lv_at hl 2 rfl)) ?_
        refine z_get (v := .int (iv3 (4 + 1 + 2 * g9) 1)) C fd_X4_46 (rd_6 (ck_g hg)) rfl dX4_goOn_33 ?_
        refine zval (v' := .int (nI (cds p9).length)) (congrArg Value.int hG3.1) ?_
        refine zb (fun _ _ => lv_icmp_ge (tgt := 66) hx hb dX4_goOn_36 (by decide)) (fun c_7 => ?_) (fun c_7 => ?_)
        · refine zz (fun _ _ => lv_iload hx hb dX4_goOn_66 (lv_at hl 4 rfl)) ?_
          exact z_zret C hr (bz (goP_b hI3)) hlk dX4_goOn_68 (zpI_mk (a := iv3) (b := av3) (by rw [drop_c erw9]; exact goI_end hI3))
        · exact absurd (nI_le (Nat.le_refl _) (by omega)) c_7
    · exact absurd (nI_lt (by omega) (by omega)) c_2
