set_option maxHeartbeats 2000000 in
set_option maxRecDepth 10000 in
theorem hJ7_fill_53178 {l : Launch} {D : va_G} {aC : Nat → ClassId} {b0 sz : Nat} {x : Nat} {iv av : Nat → Nat → Int32} {R : ZM} {k9 : Nat} {a_ : Int32} (hk : ck k9 = 11) : Ct l D aC b0 yJ7_fill_53178 cJ7_fill_53178 4 none 0 0 0 [.ref (x + k9), .int (a_)] (cm aC x iv av R) sz (zpN (fun iv av => cm aC x iv av R) (flP k9 a_ 4 iv av)) := by
  refine Ct.of (by decide) (Nat.le_of_ble_eq_true rfl) ?_
  intro p e s m below meth c ls C hr hlk hnm hl
  have hl : lv_has ls 4 [(0, .ref (x + k9)), (1, .int (a_))] := hl
  obtain ⟨hx, hb, -, -, -⟩ := id C
  refine zz (fun _ _ => lv_iconst (v := 0) hx hb dJ7_fill_53178_0 (by decide)) ?_
  refine zs (fun _ _ => lv_istore_n (lv' := [(2, .int (0)), (0, .ref (x + k9)), (1, .int (a_))]) hx hb dJ7_fill_53178_1 rfl hl (by decide) rfl) (fun ls hl => ?_)
  refine zz (fun _ _ => lv_aload_n hx hb dJ7_fill_53178_2 rfl (lv_at hl 1 rfl)) ?_
  refine z_alen C 0 rfl (rd_11 hk) (v := nI 4) rfl dJ7_fill_53178_3 ?_
  refine zs (fun _ _ => lv_istore_n (lv' := [(3, .int (nI 4)), (2, .int (0)), (0, .ref (x + k9)), (1, .int (a_))]) hx hb dJ7_fill_53178_4 rfl hl (by decide) rfl) (fun ls hl => ?_)
  have hl0 := lv_sub hl [2, 3, 1, 0] rfl
  refine z_loop (γ := (Nat → Nat → Int32) × (Nat → Nat → Int32)) (G := fun a => cm aC x a.1 a.2 R) (I := fun j a => flP k9 a_ j iv av a.1 a.2) (lv := fun j a => [(0, .ref (x + k9)), (1, .int (a_)), (2, .int (nI (j))), (3, .int (nI 4))]) (4) ?_ ?_ (iv, av) _ _ ⟨rfl, fun _ _ => rfl, fun i hi => absurd hi (Nat.not_lt_zero _)⟩ hl0
  · intro j1 a1 sz ls hj1 hI1 hl ih1
    obtain ⟨iv1, av1⟩ := a1
    dsimp only at hI1 hl ih1
    refine zeq (M' := (cm aC x iv1 av1 R)) rfl ?_
    refine zz (fun _ _ => lv_iload_n hx hb dJ7_fill_53178_5 rfl (lv_at hl 2 rfl)) ?_
    refine zz (fun _ _ => lv_iload_n hx hb dJ7_fill_53178_6 rfl (lv_at hl 3 rfl)) ?_
    refine zb (fun _ _ => lv_icmp_ge (tgt := 20) hx hb dJ7_fill_53178_7 (by decide)) (fun c_2 => ?_) (fun c_2 => ?_)
    · exact absurd c_2 (nI_ge (by omega) (by omega))
    · refine zz (fun _ _ => lv_aload_n hx hb dJ7_fill_53178_10 rfl (lv_at hl 0 rfl)) ?_
      refine zz (fun _ _ => lv_iload_n hx hb dJ7_fill_53178_11 rfl (lv_at hl 2 rfl)) ?_
      refine zz (fun _ _ => lv_iload_n hx hb dJ7_fill_53178_12 rfl (lv_at hl 1 rfl)) ?_
      refine z_iast (f := av1 k9) C (rd_11 hk) (by first | assumption | (apply vp_in_nI <;> omega)) dJ7_fill_53178_13 ?_
      refine zeq (wr_11 hk) ?_
      refine zs (fun _ _ => lv_iinc (v := nI (j1) + 1) (lv' := [(2, .int (nI (j1) + 1)), (0, .ref (x + k9)), (1, .int (a_)), (3, .int (nI 4))]) hx hb dJ7_fill_53178_14 hl (k := 2) rfl rfl (by decide) rfl) (fun ls hl => ?_)
      refine zz (fun _ _ => lv_goto (tgt := 5) hx hb dJ7_fill_53178_17 (by decide)) ?_
      have hl := lv_sub hl [1, 2, 0, 3] rfl
      try simp only [nI_1] at hl
      exact ih1 (iv1, (u1 av1 k9 (upd (av1 k9) (Int32.toNatClampNeg (nI (j1))) (a_)))) _ _ (by dsimp only; rw [nI_clamp (n := j1) (by omega)]; exact fl_next hI1) hl
  · intro a1 sz ls hI1 hl
    obtain ⟨iv1, av1⟩ := a1
    dsimp only at hI1 hl
    refine zeq (M' := (cm aC x iv1 av1 R)) rfl ?_
    refine zz (fun _ _ => lv_iload_n hx hb dJ7_fill_53178_5 rfl (lv_at hl 2 rfl)) ?_
    refine zz (fun _ _ => lv_iload_n hx hb dJ7_fill_53178_6 rfl (lv_at hl 3 rfl)) ?_
    refine zb (fun _ _ => lv_icmp_ge (tgt := 20) hx hb dJ7_fill_53178_7 (by decide)) (fun c_3 => ?_) (fun c_3 => ?_)
    · exact z_vret C hr hlk dJ7_fill_53178_20 (zpN_mk (a := iv1) (b := av1) hI1)
    · exact absurd (nI_le (Nat.le_refl _) (by omega)) c_3
set_option maxHeartbeats 2000000 in
set_option maxRecDepth 10000 in
theorem hX4_find {l : Launch} {D : va_G} {aC : Nat → ClassId} {b0 sz : Nat} {x : Nat} {iv av : Nat → Nat → Int32} {R : ZM} {i g9 : Nat} {ps : List Rw} {p9 : Nat → Bool} {t9 : Bool} (hi : i < 12) (hP : PRc iv av i ps) (hg : g9 < 7) (hG : GC iv av (4 + 1 + 2 * g9) p9 t9) (hop : ∀ c, p9 c = true → okc c) (hlen : (cds p9).length ≤ 120) : Ct l D aC b0 yX4_find cX4_find 3 (some .boolean) 10 0 0 [.ref (x + 20), .ref (x + ((61 + 6 * i) + 4)), .ref (x + (4 + 1 + 2 * g9))] (cm aC x iv av R) sz (zpI (fun iv av => cm aC x iv av R) (fiP iv av (cds p9) ps)) := by
  refine Ct.of (by decide) (Nat.le_of_ble_eq_true rfl) ?_
  intro p e s m below meth c ls C hr hlk hnm hl
  have hl : lv_has ls 3 [(0, .ref (x + 20)), (1, .ref (x + ((61 + 6 * i) + 4))), (2, .ref (x + (4 + 1 + 2 * g9)))] := hl
  obtain ⟨hx, hb, -, -, -⟩ := id C
  have hp4 := hP.2.1
  refine zz (fun _ _ => lv_aload_n hx hb dX4_find_0 rfl (lv_at hl 0 rfl)) ?_
  refine zz (fun _ _ => lv_iconst (v := 0) hx hb dX4_find_1 (by decide)) ?_
  refine z_put C fp_X4_20 (fun h => by cases h) (rd_9 (by decide)) (Nat.le_of_ble_eq_true rfl) rfl rfl dX4_find_2 ?_
  refine zeq (wr_9_2 (by decide)) ?_
  refine zz (fun _ _ => lv_aload_n hx hb dX4_find_5 rfl (lv_at hl 0 rfl)) ?_
  refine zz (fun _ _ => lv_iconst (v := 0) hx hb dX4_find_6 (by decide)) ?_
  refine z_put C fp_X4_24 (fun h => by cases h) (rd_9 (by decide)) (Nat.le_of_ble_eq_true rfl) rfl rfl dX4_find_7 ?_
  refine zeq (wr_9_3 (by decide)) ?_
  refine zz (fun _ _ => lv_aload_n hx hb dX4_find_10 rfl (lv_at hl 0 rfl)) ?_
  refine z_get (v := .ref (x + 21)) C fd_X4_11 (rd_9 (by decide)) rfl dX4_find_11 ?_
  refine zz (fun _ _ => lv_iconst (v := 0) hx hb dX4_find_14 (by decide)) ?_
  refine zval (v' := .int (nI 0)) (congrArg Value.int rfl) ?_
  refine z_aaldA C (rd_10 (by decide)) (by first | assumption | (apply vp_in_nI <;> omega)) (v := .ref (x + (22 + 0))) (rf_if (f := fun q => x + (22 + q)) (n := 5) rfl (show 0 < 5 by decide) (by decide)) dX4_find_15 ?_
  refine zz (fun _ _ => lv_iconst (v := (-1)) hx hb dX4_find_16 (by decide)) ?_
  refine zqSN (As := [.ref (x + (22 + 0)), .int ((-1))]) (rest := []) C hl.1 lk_X4_27 (hJ7_fill_53178 (kp_10 (by decide))) rfl rfl (Nat.le_of_ble_eq_true rfl) ⟨by decide, by decide, by decide, by decide⟩ dX4_find_17 (fun iv1 av1 sz h1 => ?_)
  refine zeq (M' := (cm aC x iv1 av1 R)) rfl ?_
  have hS9 : SE iv1 av1 [] 0 := by rw [h1.1]; exact fi_SE
  have hV9 := fi_VA h1
  have hP9 : PRc iv1 av1 i ps := by unfold PRc at hP ⊢; rw [h1.1, u2_k _ _ _ _ (by omega), u2_k _ _ _ _ (by omega), h1.2.1 _ (by omega)]; exact hP
  have hG9 : GC iv1 av1 (4 + 1 + 2 * g9) p9 t9 := hG.kept (by rw [h1.1, u2_k _ _ _ _ (by omega), u2_k _ _ _ _ (by omega)]) (by rw [h1.1, u2_k _ _ _ _ (by omega), u2_k _ _ _ _ (by omega)]) (h1.2.1 _ (by omega))
  refine zz (fun _ _ => lv_aload_n hx hb dX4_find_20 rfl (lv_at hl 0 rfl)) ?_
  refine zz (fun _ _ => lv_aload_n hx hb dX4_find_21 rfl (lv_at hl 1 rfl)) ?_
  refine zz (fun _ _ => lv_aload_n hx hb dX4_find_22 rfl (lv_at hl 2 rfl)) ?_
  refine zz (fun _ _ => lv_iconst (v := 0) hx hb dX4_find_23 (by decide)) ?_
  refine zval (v' := .int (nI 0)) (congrArg Value.int rfl) ?_
  rcases (show ps.length = 0 ∨ ps.length = 1 ∨ ps.length = 2 ∨ ps.length = 3 ∨ ps.length = 4 by omega) with h9 | h9 | h9 | h9 | h9
  · refine zqVI (As := [.ref (x + ((61 + 6 * i) + 4)), .ref (x + (4 + 1 + 2 * g9)), .int (nI 0)]) (rest := []) C hl.1 lk_X4_33 (hX4_goOn_0 hi hP9 hg hG9 hop hlen hS9 hV9 (by omega)) (rd_9 (by decide)) rfl rfl rfl (Nat.le_of_ble_eq_true rfl) ⟨by decide, by decide, by decide, by decide⟩ dX4_find_24 (fun w2 iv2 av2 sz h2 => ?_)
    refine zeq (M' := (cm aC x iv2 av2 R)) rfl ?_
    exact z_zret C hr (bz (goP_b h2)) hlk dX4_find_27 (zpI_mk (a := iv2) (b := av2) (fi_end h1 h2))
  · refine zqVI (As := [.ref (x + ((61 + 6 * i) + 4)), .ref (x + (4 + 1 + 2 * g9)), .int (nI 0)]) (rest := []) C hl.1 lk_X4_33 (hX4_goOn_1 hi hP9 hg hG9 hop hlen hS9 hV9 (by omega)) (rd_9 (by decide)) rfl rfl rfl (Nat.le_of_ble_eq_true rfl) ⟨by decide, by decide, by decide, by decide⟩ dX4_find_24 (fun w3 iv3 av3 sz h3 => ?_)
    refine zeq (M' := (cm aC x iv3 av3 R)) rfl ?_
    exact z_zret C hr (bz (goP_b h3)) hlk dX4_find_27 (zpI_mk (a := iv3) (b := av3) (fi_end h1 h3))
  · refine zqVI (As := [.ref (x + ((61 + 6 * i) + 4)), .ref (x + (4 + 1 + 2 * g9)), .int (nI 0)]) (rest := []) C hl.1 lk_X4_33 (hX4_goOn_2 hi hP9 hg hG9 hop hlen hS9 hV9 (by omega)) (rd_9 (by decide)) rfl rfl rfl (Nat.le_of_ble_eq_true rfl) ⟨by decide, by decide, by decide, by decide⟩ dX4_find_24 (fun w4 iv4 av4 sz h4 => ?_)
    refine zeq (M' := (cm aC x iv4 av4 R)) rfl ?_
    exact z_zret C hr (bz (goP_b h4)) hlk dX4_find_27 (zpI_mk (a := iv4) (b := av4) (fi_end h1 h4))
  · refine zqVI (As := [.ref (x + ((61 + 6 * i) + 4)), .ref (x + (4 + 1 + 2 * g9)), .int (nI 0)]) (rest := []) C hl.1 lk_X4_33 (hX4_goOn_3 hi hP9 hg hG9 hop hlen hS9 hV9 (by omega)) (rd_9 (by decide)) rfl rfl rfl (Nat.le_of_ble_eq_true rfl) ⟨by decide, by decide, by decide, by decide⟩ dX4_find_24 (fun w5 iv5 av5 sz h5 => ?_)
    refine zeq (M' := (cm aC x iv5 av5 R)) rfl ?_
    exact z_zret C hr (bz (goP_b h5)) hlk dX4_find_27 (zpI_mk (a := iv5) (b := av5) (fi_end h1 h5))
  · refine zqVI (As := [.ref (x + ((61 + 6 * i) + 4)), .ref (x + (4 + 1 + 2 * g9)), .int (nI 0)]) (rest := []) C hl.1 lk_X4_33 (hX4_goOn_4 hi hP9 hg hG9 hop hlen hS9 hV9 (by omega)) (rd_9 (by decide)) rfl rfl rfl (Nat.le_of_ble_eq_true rfl) ⟨by decide, by decide, by decide, by decide⟩ dX4_find_24 (fun w6 iv6 av6 sz h6 => ?_)
    refine zeq (M' := (cm aC x iv6 av6 R)) rfl ?_
    exact z_zret C hr (bz (goP_b h6)) hlk dX4_find_27 (zpI_mk (a := iv6) (b := av6) (fi_end h1 h6))
set_option maxHeartbeats 2000000 in
set_option maxRecDepth 10000 in
theorem hX4_valueIn {l : Launch} {D : va_G} {aC : Nat → ClassId} {b0 sz : Nat} {x : Nat} {iv av : Nat → Nat → Int32} {R : ZM} {u9 : Nat} {a_ : Int32} {σ : Sg} (hu : u9 < 100) (hv : isV a_) (hV : SV av u9 σ) : Ct l D aC b0 yX4_valueIn cX4_valueIn 3 (some .int) 0 0 0 [.ref (x + 20), .int (nI u9), .int (a_)] (cm aC x iv av R) sz (zpI (fun iv av => cm aC x iv av R) (saP iv av (σ (sl a_)))) := by
  refine Ct.of (by decide) (Nat.le_of_ble_eq_true rfl) ?_
  intro p e s m below meth c ls C hr hlk hnm hl
  have hl : lv_has ls 3 [(0, .ref (x + 20)), (1, .int (nI u9)), (2, .int (a_))] := hl
  obtain ⟨hx, hb, -, -, -⟩ := id C
  have hs9 := (sl_s hv).1
  refine zz (fun _ _ => lv_aload_n hx hb dX4_valueIn_0 rfl (lv_at hl 0 rfl)) ?_
  refine z_get (v := .ref (x + 27)) C fd_X4_16 (rd_9 (by decide)) rfl dX4_valueIn_1 ?_
  refine zz (fun _ _ => lv_iload_n hx hb dX4_valueIn_4 rfl (lv_at hl 1 rfl)) ?_
  refine zz (fun _ _ => lv_iconst (v := 4) hx hb dX4_valueIn_5 (by decide)) ?_
  refine zz (fun _ _ => lv_imul hx hb dX4_valueIn_6) ?_
  refine zz (fun _ _ => lv_iconst (v := (-1)) hx hb dX4_valueIn_7 (by decide)) ?_
  refine zz (fun _ _ => lv_iadd hx hb dX4_valueIn_8) ?_
  refine zz (fun _ _ => lv_iload_n hx hb dX4_valueIn_9 rfl (lv_at hl 2 rfl)) ?_
  refine zz (fun _ _ => lv_isub hx hb dX4_valueIn_10) ?_
  refine zval (v' := .int (nI (4 * u9 + sl a_))) (congrArg Value.int (vplace_c hv u9)) ?_
  refine z_iald (f := av 27) C (rd_12 (by decide)) (by first | assumption | (apply vp_in_nI <;> omega)) dX4_valueIn_11 ?_
  refine zval (v' := .int (σ (sl a_))) (congrArg Value.int (rdI (hV _ hs9) (by omega))) ?_
  exact z_iret C hr hlk dX4_valueIn_12 (zpI_mk (a := iv) (b := av) ⟨rfl, rfl, rfl⟩)
set_option maxHeartbeats 2000000 in
set_option maxRecDepth 10000 in
theorem hX7_valueOf {l : Launch} {D : va_G} {aC : Nat → ClassId} {b0 sz : Nat} {x : Nat} {iv av : Nat → Nat → Int32} {R : ZM} {u9 : Nat} {a_ : Int32} {σ : Sg} (hu : u9 < 100) (hV : SV av u9 σ) : Ct l D aC b0 yX7_valueOf cX7_valueOf 3 (some .int) 1 0 0 [.ref (x + 2), .int (a_), .int (nI u9)] (cm aC x iv av R) sz (zpI (fun iv av => cm aC x iv av R) (saP iv av (vl σ a_))) := by
  refine Ct.of (by decide) (Nat.le_of_ble_eq_true rfl) ?_
  intro p e s m below meth c ls C hr hlk hnm hl
  have hl : lv_has ls 3 [(0, .ref (x + 2)), (1, .int (a_)), (2, .int (nI u9))] := hl
  obtain ⟨hx, hb, -, -, -⟩ := id C
  refine zz (fun _ _ => lv_iload_n hx hb dX7_valueOf_0 rfl (lv_at hl 1 rfl)) ?_
  refine zdS (As := [.int (a_)]) (rest := []) (st' := [.int ((fX8_isVariable a_))]) C hl.1 lk_X7_183 (ctX8_isVariable ) rfl rfl (Nat.le_of_ble_eq_true rfl) ⟨by decide, by decide, by decide, by decide⟩ dX7_valueOf_1 rfl (fun sz => ?_)
  refine zb (fun _ _ => lv_if_eq (tgt := 19) hx hb dX7_valueOf_4 (by decide)) (fun c_1 => ?_) (fun c_1 => ?_)
  · refine zz (fun _ _ => lv_iload_n hx hb dX7_valueOf_19 rfl (lv_at hl 1 rfl)) ?_
    exact z_iret C hr hlk dX7_valueOf_20 (zpI_mk (a := iv) (b := av) ⟨(if_neg (isVar8.mp c_1)).symm, rfl, rfl⟩)
  · refine zz (fun _ _ => lv_aload_n hx hb dX7_valueOf_7 rfl (lv_at hl 0 rfl)) ?_
    refine z_get (v := .ref (x + 20)) C fd_X7_27 (rd_3 (by decide)) rfl dX7_valueOf_8 ?_
    refine zz (fun _ _ => lv_iload_n hx hb dX7_valueOf_11 rfl (lv_at hl 2 rfl)) ?_
    refine zz (fun _ _ => lv_iload_n hx hb dX7_valueOf_12 rfl (lv_at hl 1 rfl)) ?_
    refine zqVI (As := [.int (nI u9), .int (a_)]) (rest := []) C hl.1 lk_X7_186 (hX4_valueIn hu (Classical.not_not.mp (fun q => c_1 (isVar8.mpr q))) hV) (rd_9 (by decide)) rfl rfl rfl (Nat.le_of_ble_eq_true rfl) ⟨by decide, by decide, by decide, by decide⟩ dX7_valueOf_13 (fun w2 iv2 av2 sz h2 => ?_)
    refine zeq (M' := (cm aC x iv2 av2 R)) rfl ?_
    refine zz (fun _ _ => lv_goto (tgt := 20) hx hb dX7_valueOf_16 (by decide)) ?_
    exact z_iret C hr hlk dX7_valueOf_20 (zpI_mk (a := iv2) (b := av2) ⟨h2.1.trans (if_pos (Classical.not_not.mp (fun q => c_1 (isVar8.mpr q)))).symm, h2.2.1, h2.2.2⟩)
set_option maxHeartbeats 2000000 in
set_option maxRecDepth 10000 in
theorem hX7_withBlank {l : Launch} {D : va_G} {aC : Nat → ClassId} {b0 sz : Nat} {x : Nat} {iv av : Nat → Nat → Int32} {R : ZM} {a_ t_ : Int32} {S : St} {σ mk : Sg} (hS : SC iv av S) (hB : BL av mk) (hok : okm mk) (hid : fX8_isNewBlank a_ = 0 → wbP iv av S σ mk t_ a_ iv av) (het : isNw a_ → a_ = t_) : Ct l D aC b0 yX7_withBlank cX7_withBlank 3 (some .int) 1 0 0 [.ref (x + 2), .int (a_)] (cm aC x iv av R) sz (zpI (fun iv av => cm aC x iv av R) (wbP iv av S σ mk t_)) := by
  refine Ct.of (by decide) (Nat.le_of_ble_eq_true rfl) ?_
  intro p e s m below meth c ls C hr hlk hnm hl
  have hl : lv_has ls 3 [(0, .ref (x + 2)), (1, .int (a_))] := hl
  obtain ⟨hx, hb, -, -, -⟩ := id C
  refine zz (fun _ _ => lv_iload_n hx hb dX7_withBlank_0 rfl (lv_at hl 1 rfl)) ?_
  refine zdS (As := [.int (a_)]) (rest := []) (st' := [.int ((fX8_isNewBlank a_))]) C hl.1 lk_X7_189 (ctX8_isNewBlank ) rfl rfl (Nat.le_of_ble_eq_true rfl) ⟨by decide, by decide, by decide, by decide⟩ dX7_withBlank_1 rfl (fun sz => ?_)
  refine zbn (fun _ _ => lv_if_ne (tgt := 9) hx hb dX7_withBlank_4 (by decide)) (fun c_1 => ?_) (fun c_1 => ?_)
  · have hn9 : isNw a_ := Classical.not_not.mp (fun q => c_1 (isNew8.mpr q))
    have hs9 := (nsl_s hn9).1
    refine zz (fun _ _ => lv_bipush (v := (-11)) hx hb dX7_withBlank_9 (by decide)) ?_
    refine zz (fun _ _ => lv_iload_n hx hb dX7_withBlank_11 rfl (lv_at hl 1 rfl)) ?_
    refine zz (fun _ _ => lv_isub hx hb dX7_withBlank_12) ?_
    refine zval (v' := .int (nI (nsl a_))) (congrArg Value.int (nsl_s hn9).2) ?_
    refine zs (fun _ _ => lv_istore_n (lv' := [(2, .int (nI (nsl a_))), (0, .ref (x + 2)), (1, .int (a_))]) hx hb dX7_withBlank_13 rfl hl (by decide) rfl) (fun ls hl => ?_)
    refine zz (fun _ _ => lv_aload_n hx hb dX7_withBlank_14 rfl (lv_at hl 1 rfl)) ?_
    refine z_get (v := .ref (x + 28)) C fd_X7_31 (rd_3 (by decide)) rfl dX7_withBlank_15 ?_
    refine zz (fun _ _ => lv_iload_n hx hb dX7_withBlank_18 rfl (lv_at hl 0 rfl)) ?_
    refine z_iald (f := av 28) C (rd_11 (by decide)) (by first | assumption | (apply vp_in_nI <;> omega)) dX7_withBlank_19 ?_
    refine zval (v' := .int (mk (nsl a_))) (congrArg Value.int (rdI (hB _ hs9) (by omega))) ?_
    refine zz (fun _ _ => lv_iconst (v := (-1)) hx hb dX7_withBlank_20 (by decide)) ?_
    refine zbn (fun _ _ => lv_icmp_ne (tgt := 37) hx hb dX7_withBlank_21 (by decide)) (fun c_2 => ?_) (fun c_2 => ?_)
    · refine zz (fun _ _ => lv_aload_n hx hb dX7_withBlank_37 rfl (lv_at hl 1 rfl)) ?_
      refine z_get (v := .ref (x + 28)) C fd_X7_31 (rd_3 (by decide)) rfl dX7_withBlank_38 ?_
      refine zz (fun _ _ => lv_iload_n hx hb dX7_withBlank_41 rfl (lv_at hl 0 rfl)) ?_
      refine z_iald (f := av 28) C (rd_11 (by decide)) (by first | assumption | (apply vp_in_nI <;> omega)) dX7_withBlank_42 ?_
      refine zval (v' := .int (mk (nsl a_))) (congrArg Value.int (rdI (hB _ hs9) (by omega))) ?_
      exact z_iret C hr hlk dX7_withBlank_43 (zpI_mk (a := iv) (b := av) (by rw [← het hn9]; exact (wb_old hS hB hok hn9 c_2)))
    · refine zz (fun _ _ => lv_aload_n hx hb dX7_withBlank_24 rfl (lv_at hl 1 rfl)) ?_
      refine z_get (v := .ref (x + 28)) C fd_X7_31 (rd_3 (by decide)) rfl dX7_withBlank_25 ?_
      refine zz (fun _ _ => lv_iload_n hx hb dX7_withBlank_28 rfl (lv_at hl 0 rfl)) ?_
      refine zz (fun _ _ => lv_aload_n hx hb dX7_withBlank_29 rfl (lv_at hl 1 rfl)) ?_
      refine z_get (v := .ref (x + 3)) C fd_X7_12 (rd_3 (by decide)) rfl dX7_withBlank_30 ?_
      refine zdV (As := []) (rest := [.int (nI (nsl a_)), .ref (x + 28)]) (st' := [.int ((fX6_makeBlank iv av 3).1), .int (nI (nsl a_)), .ref (x + 28)]) C hl.1 lk_X7_192 (ctX6_makeBlank (by decide)) (rd_4 (by decide)) rfl rfl rfl (Nat.le_of_ble_eq_true rfl) ⟨by decide, by decide, by decide, by decide⟩ dX7_withBlank_33 rfl (fun sz => ?_)
      refine z_iast (f := (fX6_makeBlank iv av 3).2.2 28) C (rd_11 (by decide)) (by first | assumption | (apply vp_in_nI <;> omega)) dX7_withBlank_36 ?_
      refine zeq (wr_11 (by decide)) ?_
      refine zz (fun _ _ => lv_aload_n hx hb dX7_withBlank_37 rfl (lv_at hl 1 rfl)) ?_
      refine z_get (v := .ref (x + 28)) C fd_X7_31 (rd_3 (by decide)) rfl dX7_withBlank_38 ?_
      refine zz (fun _ _ => lv_iload_n hx hb dX7_withBlank_41 rfl (lv_at hl 0 rfl)) ?_
      refine z_iald (n := 4) (f := (upd ((fX6_makeBlank iv av 3).2.2 28) (Int32.toNatClampNeg (nI (nsl a_))) ((fX6_makeBlank iv av 3).1))) C ((rd_11 (by decide)).trans (by simp [u1])) (by first | assumption | (apply vp_in_nI <;> omega)) dX7_withBlank_42 ?_
      exact z_iret C hr hlk dX7_withBlank_43 (zpI_mk (a := (fX6_makeBlank iv av 3).2.1) (b := (u1 (fX6_makeBlank iv av 3).2.2 28 (upd ((fX6_makeBlank iv av 3).2.2 28) (Int32.toNatClampNeg (nI (nsl a_))) ((fX6_makeBlank iv av 3).1)))) (by rw [← het hn9]; exact (by rw [nI_clamp (by omega)]; exact wb_new hS hB hok hn9 c_2)))
  · refine zz (fun _ _ => lv_iload_n hx hb dX7_withBlank_7 rfl (lv_at hl 1 rfl)) ?_
    exact z_iret C hr hlk dX7_withBlank_8 (zpI_mk (a := iv) (b := av) (hid c_1))
