set_option maxHeartbeats 2000000 in
set_option maxRecDepth 10000 in
theorem hX7_takeAwayFor {l : Launch} {D : va_G} {aC : Nat → ClassId} {b0 sz : Nat} {x : Nat} {iv av : Nat → Nat → Int32} {R : ZM} {i u9 to : Nat} {S : St} {σ : Sg} {ts : List TR} (hi : i < 12) (hto7 : to < 7) (hto : iv (61 + 6 * i) 5 = nI to) (hT : TRc iv av i ts) (hu : u9 < 100) (hV : SV av u9 σ) (hσ : okG σ) (hS : SC iv av S) : Ct l D aC b0 yX7_takeAwayFor cX7_takeAwayFor 4 none 3 0 0 [.ref (x + 2), .ref (x + (61 + 6 * i)), .int (nI u9)] (cm aC x iv av R) sz (zpN (fun iv av => cm aC x iv av R) (tfI iv av (takeSol to ts S σ))) := by
  refine Ct.of (by decide) (Nat.le_of_ble_eq_true rfl) ?_
  intro p e s m below meth c ls C hr hlk hnm hl
  have hl : lv_has ls 4 [(0, .ref (x + 2)), (1, .ref (x + (61 + 6 * i))), (2, .int (nI u9))] := hl
  obtain ⟨hx, hb, -, -, -⟩ := id C
  have hlen := hT.2.1
  refine zz (fun _ _ => lv_iconst (v := 0) hx hb dX7_takeAwayFor_0 (by decide)) ?_
  refine zs (fun _ _ => lv_istore_n (lv' := [(3, .int (0)), (0, .ref (x + 2)), (1, .ref (x + (61 + 6 * i))), (2, .int (nI u9))]) hx hb dX7_takeAwayFor_1 rfl hl (by decide) rfl) (fun ls hl => ?_)
  have hl0 := lv_sub hl [1, 2, 3, 0] rfl
  refine z_loop (γ := (Nat → Nat → Int32) × (Nat → Nat → Int32)) (G := fun a => cm aC x a.1 a.2 R) (I := fun j a => tfI iv av ((ts.take j).foldl (takeRow to σ) S) a.1 a.2) (lv := fun j a => [(0, .ref (x + 2)), (1, .ref (x + (61 + 6 * i))), (2, .int (nI u9)), (3, .int (nI (j)))]) (ts.length) ?_ ?_ (iv, av) _ _ ⟨FC.refl, by rw [List.take_zero]; exact hS⟩ hl0
  · intro j1 a1 sz ls hj1 hI1 hl ih1
    obtain ⟨iv1, av1⟩ := a1
    dsimp only at hI1 hl ih1
    refine zeq (M' := (cm aC x iv1 av1 R)) rfl ?_
    have hT1 : TRc iv1 av1 i ts := hT.kept hI1.1.K
    obtain ⟨t1, et1⟩ : ∃ t, ts[j1]? = some t := ⟨_, List.getElem?_eq_getElem hj1⟩
    have hrow1 := hT1.2.2.2 j1 t1 et1
    refine zz (fun _ _ => lv_iload_n hx hb dX7_takeAwayFor_2 rfl (lv_at hl 3 rfl)) ?_
    refine zz (fun _ _ => lv_aload_n hx hb dX7_takeAwayFor_3 rfl (lv_at hl 1 rfl)) ?_
    refine z_get (v := .ref (x + ((61 + 6 * i) + 1))) C fd_X7_153 (rd_18 (ck_s hi)) rfl dX7_takeAwayFor_4 ?_
    refine z_get (v := .int (iv1 ((61 + 6 * i) + 1) 2)) C fd_X7_114 (rd_14 (nb_18_1 (ck_s hi))) rfl dX7_takeAwayFor_7 ?_
    refine zval (v' := .int (nI ts.length)) (congrArg Value.int hT1.1) ?_
    refine zb (fun _ _ => lv_icmp_ge (tgt := 36) hx hb dX7_takeAwayFor_10 (by decide)) (fun c_2 => ?_) (fun c_2 => ?_)
    · exact absurd c_2 (nI_ge (by omega) (by omega))
    · refine zz (fun _ _ => lv_aload_n hx hb dX7_takeAwayFor_13 rfl (lv_at hl 1 rfl)) ?_
      refine z_get (v := .ref (x + ((61 + 6 * i) + 3))) C fd_X7_156 (rd_18 (ck_s hi)) rfl dX7_takeAwayFor_14 ?_
      refine zz (fun _ _ => lv_iload_n hx hb dX7_takeAwayFor_17 rfl (lv_at hl 3 rfl)) ?_
      refine z_zald (f := av1 ((61 + 6 * i) + 3)) C (rd_20 (nb_18_3 (ck_s hi))) (by first | assumption | (apply vp_in_nI <;> omega)) dX7_takeAwayFor_18 ?_
      refine zval (v' := .int (tI t1.2.2.2)) (congrArg Value.int (rdI hrow1.2.2.2 (by omega))) ?_
      refine zbn (fun _ _ => lv_if_ne (tgt := 30) hx hb dX7_takeAwayFor_19 (by decide)) (fun c_3 => ?_) (fun c_3 => ?_)
      · refine zs (fun _ _ => lv_iinc (v := nI (j1) + 1) (lv' := [(3, .int (nI (j1) + 1)), (0, .ref (x + 2)), (1, .ref (x + (61 + 6 * i))), (2, .int (nI u9))]) hx hb dX7_takeAwayFor_30 hl (k := 3) rfl rfl (by decide) rfl) (fun ls hl => ?_)
        refine zz (fun _ _ => lv_goto (tgt := 2) hx hb dX7_takeAwayFor_33 (by decide)) ?_
        have hl := lv_sub hl [1, 2, 3, 0] rfl
        try simp only [nI_1] at hl
        exact ih1 (iv1, av1) _ _ (tf_skip et1 (tI_1.mp c_3) hI1) hl
      · refine zz (fun _ _ => lv_aload_n hx hb dX7_takeAwayFor_22 rfl (lv_at hl 0 rfl)) ?_
        refine zz (fun _ _ => lv_aload_n hx hb dX7_takeAwayFor_23 rfl (lv_at hl 1 rfl)) ?_
        refine zz (fun _ _ => lv_iload_n hx hb dX7_takeAwayFor_24 rfl (lv_at hl 3 rfl)) ?_
        refine zz (fun _ _ => lv_iload_n hx hb dX7_takeAwayFor_25 rfl (lv_at hl 2 rfl)) ?_
        refine zqVI (As := [.ref (x + (61 + 6 * i)), .int (nI (j1)), .int (nI u9)]) (rest := []) C hl.1 lk_X7_160 (hX7_applyRow_t hi hto7 ((hI1.1.1 (61 + 6 * i) 5 (by omega)).trans hto) hT1 et1 hu (hV.kept hI1.1) hσ hI1.2 (tI_0.mp c_3)) (rd_3 (by decide)) rfl rfl rfl (Nat.le_of_ble_eq_true rfl) ⟨by decide, by decide, by decide, by decide⟩ dX7_takeAwayFor_26 (fun w4 iv4 av4 sz h4 => ?_)
        refine zeq (M' := (cm aC x iv4 av4 R)) rfl ?_
        refine zz (fun _ _ => lv_pop hx hb dX7_takeAwayFor_29 rfl) ?_
        refine zs (fun _ _ => lv_iinc (v := nI (j1) + 1) (lv' := [(3, .int (nI (j1) + 1)), (0, .ref (x + 2)), (1, .ref (x + (61 + 6 * i))), (2, .int (nI u9))]) hx hb dX7_takeAwayFor_30 hl (k := 3) rfl rfl (by decide) rfl) (fun ls hl => ?_)
        refine zz (fun _ _ => lv_goto (tgt := 2) hx hb dX7_takeAwayFor_33 (by decide)) ?_
        have hl := lv_sub hl [1, 2, 3, 0] rfl
        try simp only [nI_1] at hl
        exact ih1 (iv4, av4) _ _ (tf_next et1 hI1 h4) hl
  · intro a1 sz ls hI1 hl
    obtain ⟨iv1, av1⟩ := a1
    dsimp only at hI1 hl
    refine zeq (M' := (cm aC x iv1 av1 R)) rfl ?_
    have hT1 : TRc iv1 av1 i ts := hT.kept hI1.1.K
    refine zz (fun _ _ => lv_iload_n hx hb dX7_takeAwayFor_2 rfl (lv_at hl 3 rfl)) ?_
    refine zz (fun _ _ => lv_aload_n hx hb dX7_takeAwayFor_3 rfl (lv_at hl 1 rfl)) ?_
    refine z_get (v := .ref (x + ((61 + 6 * i) + 1))) C fd_X7_153 (rd_18 (ck_s hi)) rfl dX7_takeAwayFor_4 ?_
    refine z_get (v := .int (iv1 ((61 + 6 * i) + 1) 2)) C fd_X7_114 (rd_14 (nb_18_1 (ck_s hi))) rfl dX7_takeAwayFor_7 ?_
    refine zval (v' := .int (nI ts.length)) (congrArg Value.int hT1.1) ?_
    refine zb (fun _ _ => lv_icmp_ge (tgt := 36) hx hb dX7_takeAwayFor_10 (by decide)) (fun c_5 => ?_) (fun c_5 => ?_)
    · exact z_vret C hr hlk dX7_takeAwayFor_36 (zpN_mk (a := iv1) (b := av1) (by have h9 := hI1; rw [List.take_length] at h9; exact h9))
    · exact absurd (nI_le (Nat.le_refl _) (by omega)) c_5
set_option maxHeartbeats 2000000 in
set_option maxRecDepth 10000 in
theorem hX7_addFor {l : Launch} {D : va_G} {aC : Nat → ClassId} {b0 sz : Nat} {x : Nat} {iv av : Nat → Nat → Int32} {R : ZM} {i u9 to : Nat} {S : St} {σ : Sg} {ts : List TR} (hi : i < 12) (hto7 : to < 7) (hto : iv (61 + 6 * i) 5 = nI to) (hT : TRc iv av i ts) (hu : u9 < 100) (hV : SV av u9 σ) (hσ : okG σ) (hS : SC iv av S) : Ct l D aC b0 yX7_addFor cX7_addFor 5 (some .boolean) 4 0 0 [.ref (x + 2), .ref (x + (61 + 6 * i)), .int (nI u9)] (cm aC x iv av R) sz (zpI (fun iv av => cm aC x iv av R) (afP iv av to σ ts S)) := by
  refine Ct.of (by decide) (Nat.le_of_ble_eq_true rfl) ?_
  intro p e s m below meth c ls C hr hlk hnm hl
  have hl : lv_has ls 5 [(0, .ref (x + 2)), (1, .ref (x + (61 + 6 * i))), (2, .int (nI u9))] := hl
  obtain ⟨hx, hb, -, -, -⟩ := id C
  have hlen := hT.2.1
  refine zz (fun _ _ => lv_aload_n hx hb dX7_addFor_0 rfl (lv_at hl 0 rfl)) ?_
  refine z_get (v := .ref (x + 28)) C fd_X7_31 (rd_3 (by decide)) rfl dX7_addFor_1 ?_
  refine zz (fun _ _ => lv_iconst (v := (-1)) hx hb dX7_addFor_4 (by decide)) ?_
  refine zqSN (As := [.ref (x + 28), .int ((-1))]) (rest := []) C hl.1 lk_X7_164 (hJ7_fill_53178 (by decide)) rfl rfl (Nat.le_of_ble_eq_true rfl) ⟨by decide, by decide, by decide, by decide⟩ dX7_addFor_5 (fun iv1 av1 sz h1 => ?_)
  refine zeq (M' := (cm aC x iv1 av1 R)) rfl ?_
  refine zz (fun _ _ => lv_iconst (v := 1) hx hb dX7_addFor_8 (by decide)) ?_
  refine zs (fun _ _ => lv_istore_n (lv' := [(3, .int (1)), (0, .ref (x + 2)), (1, .ref (x + (61 + 6 * i))), (2, .int (nI u9))]) hx hb dX7_addFor_9 rfl hl (by decide) rfl) (fun ls hl => ?_)
  refine zz (fun _ _ => lv_iconst (v := 0) hx hb dX7_addFor_10 (by decide)) ?_
  refine zs (fun _ _ => lv_istore (lv' := [(4, .int (0)), (3, .int (1)), (0, .ref (x + 2)), (1, .ref (x + (61 + 6 * i))), (2, .int (nI u9))]) hx hb dX7_addFor_11 hl (by decide) rfl) (fun ls hl => ?_)
  have hl0 := lv_sub hl [2, 3, 4, 1, 0] rfl
  refine z_loop (γ := (Nat → Nat → Int32) × (Nat → Nat → Int32) × Int32) (G := fun a => cm aC x a.1 a.2.1 R) (I := fun j a => afI iv av to σ (ts.take j) S a.2.2 a.1 a.2.1) (lv := fun j a => [(0, .ref (x + 2)), (1, .ref (x + (61 + 6 * i))), (2, .int (nI u9)), (3, .int (a.2.2)), (4, .int (nI (j)))]) (ts.length) ?_ ?_ (iv1, av1, 1) _ _ ⟨fl_FC h1, Or.inr ⟨S, (fun _ => -1), rfl, by rw [List.take_zero]; rfl, fl_SC h1 hS, h1.2.2, okm_0⟩⟩ hl0
  · intro j2 a2 sz ls hj2 hI2 hl ih2
    obtain ⟨iv2, av2, t2_3⟩ := a2
    dsimp only at hI2 hl ih2
    refine zeq (M' := (cm aC x iv2 av2 R)) rfl ?_
    have hT2 : TRc iv2 av2 i ts := hT.kept hI2.1.K
    obtain ⟨t2, et2⟩ : ∃ t, ts[j2]? = some t := ⟨_, List.getElem?_eq_getElem hj2⟩
    have hrow2 := hT2.2.2.2 j2 t2 et2
    refine zz (fun _ _ => lv_iload hx hb dX7_addFor_13 (lv_at hl 4 rfl)) ?_
    refine zz (fun _ _ => lv_aload_n hx hb dX7_addFor_15 rfl (lv_at hl 1 rfl)) ?_
    refine z_get (v := .ref (x + ((61 + 6 * i) + 1))) C fd_X7_153 (rd_18 (ck_s hi)) rfl dX7_addFor_16 ?_
    refine z_get (v := .int (iv2 ((61 + 6 * i) + 1) 2)) C fd_X7_114 (rd_14 (nb_18_1 (ck_s hi))) rfl dX7_addFor_19 ?_
    refine zval (v' := .int (nI ts.length)) (congrArg Value.int hT2.1) ?_
    refine zb (fun _ _ => lv_icmp_ge (tgt := 62) hx hb dX7_addFor_22 (by decide)) (fun c_3 => ?_) (fun c_3 => ?_)
    · exact absurd c_3 (nI_ge (by omega) (by omega))
    · refine zz (fun _ _ => lv_iload_n hx hb dX7_addFor_25 rfl (lv_at hl 3 rfl)) ?_
      refine zb (fun _ _ => lv_if_eq (tgt := 62) hx hb dX7_addFor_26 (by decide)) (fun c_4 => ?_) (fun c_4 => ?_)
      · refine zz (fun _ _ => lv_iload_n hx hb dX7_addFor_62 rfl (lv_at hl 3 rfl)) ?_
        exact z_zret C hr (bz (af_b hI2)) hlk dX7_addFor_63 (zpI_mk (a := iv2) (b := av2) (af_out hI2 c_4))
      · obtain ⟨S8, m8, e8, hS8, hB8, hk8⟩ := af_in hI2 c_4
        refine zz (fun _ _ => lv_aload_n hx hb dX7_addFor_29 rfl (lv_at hl 1 rfl)) ?_
        refine z_get (v := .ref (x + ((61 + 6 * i) + 3))) C fd_X7_156 (rd_18 (ck_s hi)) rfl dX7_addFor_30 ?_
        refine zz (fun _ _ => lv_iload hx hb dX7_addFor_33 (lv_at hl 4 rfl)) ?_
        refine z_zald (f := av2 ((61 + 6 * i) + 3)) C (rd_20 (nb_18_3 (ck_s hi))) (by first | assumption | (apply vp_in_nI <;> omega)) dX7_addFor_35 ?_
        refine zval (v' := .int (tI t2.2.2.2)) (congrArg Value.int (rdI hrow2.2.2.2 (by omega))) ?_
        refine zb (fun _ _ => lv_if_eq (tgt := 50) hx hb dX7_addFor_36 (by decide)) (fun c_5 => ?_) (fun c_5 => ?_)
        · refine zz (fun _ _ => lv_iconst (v := 1) hx hb dX7_addFor_50 (by decide)) ?_
          refine zz (fun _ _ => lv_goto (tgt := 55) hx hb dX7_addFor_51 (by decide)) ?_
          refine zs (fun _ _ => lv_istore_n (lv' := [(3, .int (1)), (0, .ref (x + 2)), (1, .ref (x + (61 + 6 * i))), (2, .int (nI u9)), (4, .int (nI (j2)))]) hx hb dX7_addFor_55 rfl hl (by decide) rfl) (fun ls hl => ?_)
          refine zs (fun _ _ => lv_iinc (v := nI (j2) + 1) (lv' := [(4, .int (nI (j2) + 1)), (3, .int (1)), (0, .ref (x + 2)), (1, .ref (x + (61 + 6 * i))), (2, .int (nI u9))]) hx hb dX7_addFor_56 hl (k := 4) rfl rfl (by decide) rfl) (fun ls hl => ?_)
          refine zz (fun _ _ => lv_goto (tgt := 13) hx hb dX7_addFor_59 (by decide)) ?_
          have hl := lv_sub hl [2, 3, 4, 1, 0] rfl
          try simp only [nI_1] at hl
          exact ih2 (iv2, av2, 1) _ _ (af_skip et2 (tI_0.mp c_5) hI2.1 e8 hS8 hB8 hk8) hl
        · refine zz (fun _ _ => lv_aload_n hx hb dX7_addFor_39 rfl (lv_at hl 0 rfl)) ?_
          refine zz (fun _ _ => lv_aload_n hx hb dX7_addFor_40 rfl (lv_at hl 1 rfl)) ?_
          refine zz (fun _ _ => lv_iload hx hb dX7_addFor_41 (lv_at hl 4 rfl)) ?_
          refine zz (fun _ _ => lv_iload_n hx hb dX7_addFor_43 rfl (lv_at hl 2 rfl)) ?_
          refine zqVI (As := [.ref (x + (61 + 6 * i)), .int (nI (j2)), .int (nI u9)]) (rest := []) C hl.1 lk_X7_160 (hX7_applyRow_a hi hto7 ((hI2.1.1 (61 + 6 * i) 5 (by omega)).trans hto) hT2 et2 hu (hV.kept hI2.1) hσ hS8 hB8 hk8 (tI_1.mp c_5)) (rd_3 (by decide)) rfl rfl rfl (Nat.le_of_ble_eq_true rfl) ⟨by decide, by decide, by decide, by decide⟩ dX7_addFor_44 (fun w6 iv6 av6 sz h6 => ?_)
          refine zeq (M' := (cm aC x iv6 av6 R)) rfl ?_
          refine zb (fun _ _ => lv_if_eq (tgt := 54) hx hb dX7_addFor_47 (by decide)) (fun c_7 => ?_) (fun c_7 => ?_)
          · refine zz (fun _ _ => lv_iconst (v := 0) hx hb dX7_addFor_54 (by decide)) ?_
            refine zs (fun _ _ => lv_istore_n (lv' := [(3, .int (0)), (0, .ref (x + 2)), (1, .ref (x + (61 + 6 * i))), (2, .int (nI u9)), (4, .int (nI (j2)))]) hx hb dX7_addFor_55 rfl hl (by decide) rfl) (fun ls hl => ?_)
            refine zs (fun _ _ => lv_iinc (v := nI (j2) + 1) (lv' := [(4, .int (nI (j2) + 1)), (3, .int (0)), (0, .ref (x + 2)), (1, .ref (x + (61 + 6 * i))), (2, .int (nI u9))]) hx hb dX7_addFor_56 hl (k := 4) rfl rfl (by decide) rfl) (fun ls hl => ?_)
            refine zz (fun _ _ => lv_goto (tgt := 13) hx hb dX7_addFor_59 (by decide)) ?_
            have hl := lv_sub hl [2, 3, 4, 1, 0] rfl
            try simp only [nI_1] at hl
            exact ih2 (iv6, av6, 0) _ _ ((af_next et2 hI2.1 e8 h6).1 c_7) hl
          · refine zz (fun _ _ => lv_iconst (v := 1) hx hb dX7_addFor_50 (by decide)) ?_
            refine zz (fun _ _ => lv_goto (tgt := 55) hx hb dX7_addFor_51 (by decide)) ?_
            refine zs (fun _ _ => lv_istore_n (lv' := [(3, .int (1)), (0, .ref (x + 2)), (1, .ref (x + (61 + 6 * i))), (2, .int (nI u9)), (4, .int (nI (j2)))]) hx hb dX7_addFor_55 rfl hl (by decide) rfl) (fun ls hl => ?_)
            refine zs (fun _ _ => lv_iinc (v := nI (j2) + 1) (lv' := [(4, .int (nI (j2) + 1)), (3, .int (1)), (0, .ref (x + 2)), (1, .ref (x + (61 + 6 * i))), (2, .int (nI u9))]) hx hb dX7_addFor_56 hl (k := 4) rfl rfl (by decide) rfl) (fun ls hl => ?_)
            refine zz (fun _ _ => lv_goto (tgt := 13) hx hb dX7_addFor_59 (by decide)) ?_
            have hl := lv_sub hl [2, 3, 4, 1, 0] rfl
            try simp only [nI_1] at hl
            exact ih2 (iv6, av6, 1) _ _ ((af_next et2 hI2.1 e8 h6).2 c_7) hl
  · intro a2 sz ls hI2 hl
    obtain ⟨iv2, av2, t2_3⟩ := a2
    dsimp only at hI2 hl
    refine zeq (M' := (cm aC x iv2 av2 R)) rfl ?_
    have hT2 : TRc iv2 av2 i ts := hT.kept hI2.1.K
    refine zz (fun _ _ => lv_iload hx hb dX7_addFor_13 (lv_at hl 4 rfl)) ?_
    refine zz (fun _ _ => lv_aload_n hx hb dX7_addFor_15 rfl (lv_at hl 1 rfl)) ?_
    refine z_get (v := .ref (x + ((61 + 6 * i) + 1))) C fd_X7_153 (rd_18 (ck_s hi)) rfl dX7_addFor_16 ?_
    refine z_get (v := .int (iv2 ((61 + 6 * i) + 1) 2)) C fd_X7_114 (rd_14 (nb_18_1 (ck_s hi))) rfl dX7_addFor_19 ?_
    refine zval (v' := .int (nI ts.length)) (congrArg Value.int hT2.1) ?_
    refine zb (fun _ _ => lv_icmp_ge (tgt := 62) hx hb dX7_addFor_22 (by decide)) (fun c_8 => ?_) (fun c_8 => ?_)
    · refine zz (fun _ _ => lv_iload_n hx hb dX7_addFor_62 rfl (lv_at hl 3 rfl)) ?_
      exact z_zret C hr (bz (af_b hI2)) hlk dX7_addFor_63 (zpI_mk (a := iv2) (b := av2) (af_end hI2))
    · exact absurd (nI_le (Nat.le_refl _) (by omega)) c_8
set_option maxHeartbeats 2000000 in
set_option maxRecDepth 10000 in
theorem hX7_rewrite {l : Launch} {D : va_G} {aC : Nat → ClassId} {b0 sz : Nat} {x : Nat} {iv av : Nat → Nat → Int32} {R : ZM} {i k fr to : Nat} {S : St} {ps : List Rw} {ts : List TR} (hi : i < 12) (hk9 : k ≤ 9) (hfr7 : fr < 7) (hto7 : to < 7) (hkd : iv (61 + 6 * i) 3 = nI k) (hfr : iv (61 + 6 * i) 4 = nI fr) (hto : iv (61 + 6 * i) 5 = nI to) (hP : PRc iv av i ps) (hT : TRc iv av i ts) (hS : SC iv av S) : Ct l D aC b0 yX7_rewrite cX7_rewrite 4 (some .int) 11 0 0 [.ref (x + 2), .ref (x + (61 + 6 * i))] (cm aC x iv av R) sz (zpI (fun iv av => cm aC x iv av R) (fun w' iv' av' => AC iv av (aRew fr to ts ps S) w' iv' av')) := by
  refine Ct.of (by decide) (Nat.le_of_ble_eq_true rfl) ?_
  intro p e s m below meth c ls C hr hlk hnm hl
  have hl : lv_has ls 4 [(0, .ref (x + 2)), (1, .ref (x + (61 + 6 * i)))] := hl
  obtain ⟨hx, hb, -, -, -⟩ := id C
  refine zz (fun _ _ => lv_aload_n hx hb dX7_rewrite_0 rfl (lv_at hl 0 rfl)) ?_
  refine z_get (v := .ref (x + 20)) C fd_X7_27 (rd_3 (by decide)) rfl dX7_rewrite_1 ?_
  refine zz (fun _ _ => lv_aload_n hx hb dX7_rewrite_4 rfl (lv_at hl 1 rfl)) ?_
  refine z_get (v := .ref (x + ((61 + 6 * i) + 4))) C fd_X7_133 (rd_18 (ck_s hi)) rfl dX7_rewrite_5 ?_
  refine zz (fun _ _ => lv_aload_n hx hb dX7_rewrite_8 rfl (lv_at hl 0 rfl)) ?_
  refine z_get (v := .ref (x + 3)) C fd_X7_12 (rd_3 (by decide)) rfl dX7_rewrite_9 ?_
  refine z_get (v := .ref (x + 4)) C fd_X7_68 (rd_4 (by decide)) rfl dX7_rewrite_12 ?_
  refine zz (fun _ _ => lv_aload_n hx hb dX7_rewrite_15 rfl (lv_at hl 1 rfl)) ?_
  refine z_get (v := .int (iv (61 + 6 * i) 4)) C fd_X7_85 (rd_18 (ck_s hi)) rfl dX7_rewrite_16 ?_
  refine zval (v' := .int (nI fr)) (congrArg Value.int hfr) ?_
  refine z_aald C 3 rfl (rd_5 (by decide)) (by first | assumption | (apply vp_in_nI <;> omega)) (v := .ref (x + (4 + 1 + 2 * fr))) (rf_if (f := fun q => x + (4 + 1 + 2 * q)) (n := 7) rfl hfr7 (by decide)) dX7_rewrite_19 ?_
  refine zqVI (As := [.ref (x + ((61 + 6 * i) + 4)), .ref (x + (4 + 1 + 2 * fr))]) (rest := []) C hl.1 lk_X7_136 (hX4_find hi hP hfr7 (hS.2.1 fr hfr7) (okP_g hS.1.1 fr) (SC_len hS hfr7)) (rd_9 (by decide)) rfl rfl rfl (Nat.le_of_ble_eq_true rfl) ⟨by decide, by decide, by decide, by decide⟩ dX7_rewrite_20 (fun w1 iv1 av1 sz h1 => ?_)
  refine zeq (M' := (cm aC x iv1 av1 R)) rfl ?_
  refine zs (fun _ _ => lv_istore_n (lv' := [(2, .int (w1)), (0, .ref (x + 2)), (1, .ref (x + (61 + 6 * i)))]) hx hb dX7_rewrite_23 rfl hl (by decide) rfl) (fun ls hl => ?_)
  refine zz (fun _ _ => lv_aload_n hx hb dX7_rewrite_24 rfl (lv_at hl 1 rfl)) ?_
  refine zz (fun _ _ => lv_dup hx hb dX7_rewrite_25 rfl) ?_
  refine z_get (v := .int (iv1 2 4)) C fd_X7_35 (rd_3 (by decide)) rfl dX7_rewrite_26 ?_
  refine zz (fun _ _ => lv_aload_n hx hb dX7_rewrite_29 rfl (lv_at hl 1 rfl)) ?_
  refine z_get (v := .ref (x + 20)) C fd_X7_27 (rd_3 (by decide)) rfl dX7_rewrite_30 ?_
  refine z_get (v := .int (iv1 20 3)) C fd_X7_140 (rd_9 (by decide)) rfl dX7_rewrite_33 ?_
  refine zz (fun _ _ => lv_iadd hx hb dX7_rewrite_36) ?_
  refine z_put C fp_X7_35 (fun h => by cases h) (rd_3 (by decide)) (Nat.le_of_ble_eq_true rfl) rfl rfl dX7_rewrite_37 ?_
  refine zeq (wr_3_4 (by decide)) ?_
  refine zz (fun _ _ => lv_aload_n hx hb dX7_rewrite_40 rfl (lv_at hl 2 rfl)) ?_
  refine z_get (v := .int (iv1 (61 + 6 * i) 3)) C fd_X7_40 (rd_18 (ck_s hi)) (by simp [u2]) dX7_rewrite_41 ?_
  refine zval (v' := .int (nI k)) (congrArg Value.int ((h1.1 (61 + 6 * i) 3 (by omega)).trans hkd)) ?_
  refine zz (fun _ _ => lv_iconst (v := 2) hx hb dX7_rewrite_44 (by decide)) ?_
  refine zval (v' := .int (nI 2)) (congrArg Value.int rfl) ?_
  refine zbn (fun _ _ => lv_icmp_ne (tgt := 59) hx hb dX7_rewrite_45 (by decide)) (fun c_2 => ?_) (fun c_2 => ?_)
  · refine zz (fun _ _ => lv_iload_n hx hb dX7_rewrite_59 rfl (lv_at hl 0 rfl)) ?_
    refine zbn (fun _ _ => lv_if_ne (tgt := 65) hx hb dX7_rewrite_60 (by decide)) (fun c_3 => ?_) (fun c_3 => ?_)
    · have hrw9 : rwF iv av (u2 iv1 2 4 ((iv1 2 4) + (iv1 20 3))) av1 (cds (S.1 fr)) ps := (rw_a h1 c_3 (by rw [h1.1 2 4 (by omega), (fi_ok h1 c_3).2.2.1]))
      have hS9 := rw_SC hrw9 hS
      have hl9 := hrw9.2.2.2.2.2.1
      have hT9 := hT.kept hrw9.1
      have hto9 := (hrw9.1.1 (61 + 6 * i) 5 (by omega) (by omega)).trans hto
      refine zz (fun _ _ => lv_iconst (v := 0) hx hb dX7_rewrite_65 (by decide)) ?_
      refine zs (fun _ _ => lv_istore_n (lv' := [(3, .int (0)), (2, .int (w1)), (0, .ref (x + 2)), (1, .ref (x + (61 + 6 * i)))]) hx hb dX7_rewrite_66 rfl hl (by decide) rfl) (fun ls hl => ?_)
      have hl0 := lv_sub hl [2, 3, 1, 0] rfl
      refine z_loop (γ := (Nat → Nat → Int32) × (Nat → Nat → Int32)) (G := fun a => cm aC x a.1 a.2 R) (I := fun j a => tfI (u2 iv1 2 4 ((iv1 2 4) + (iv1 20 3))) av1 (((sols (cds (S.1 fr)) ps (fun _ => -1)).take j).foldl (takeSol to ts) S) a.1 a.2) (lv := fun j a => [(0, .ref (x + 2)), (1, .ref (x + (61 + 6 * i))), (2, .int (w1)), (3, .int (nI (j)))]) ((sols (cds (S.1 fr)) ps (fun _ => -1)).length) ?_ ?_ ((u2 iv1 2 4 ((iv1 2 4) + (iv1 20 3))), av1) _ _ ⟨FC.refl, by rw [List.take_zero]; exact hS9⟩ hl0
      · intro j4 a4 sz ls hj4 hI4 hl ih4
        obtain ⟨iv4, av4⟩ := a4
        dsimp only at hI4 hl ih4
        refine zeq (M' := (cm aC x iv4 av4 R)) rfl ?_
        obtain ⟨sg4, es4⟩ : ∃ t, (sols (cds (S.1 fr)) ps (fun _ => -1))[j4]? = some t := ⟨_, List.getElem?_eq_getElem hj4⟩
        have hg4 := sols_ok (fun c hc => okP_g hS.1.1 fr c ((cds_mem (okP_g hS.1.1 fr)).mp hc)) ps _ hP.2.2.1 okG_0 sg4 (List.mem_of_getElem? es4)
        refine zz (fun _ _ => lv_iload_n hx hb dX7_rewrite_67 rfl (lv_at hl 3 rfl)) ?_
        refine zz (fun _ _ => lv_aload_n hx hb dX7_rewrite_68 rfl (lv_at hl 0 rfl)) ?_
        refine z_get (v := .ref (x + 20)) C fd_X7_27 (rd_3 (by decide)) rfl dX7_rewrite_69 ?_
        refine z_get (v := .int (iv4 20 2)) C fd_X7_141 (rd_9 (by decide)) rfl dX7_rewrite_72 ?_
        refine zval (v' := .int (nI (sols (cds (S.1 fr)) ps (fun _ => -1)).length)) (congrArg Value.int ((hI4.1.1 20 2 (by omega)).trans hrw9.2.2.2.2.1)) ?_
        refine zb (fun _ _ => lv_icmp_ge (tgt := 90) hx hb dX7_rewrite_75 (by decide)) (fun c_5 => ?_) (fun c_5 => ?_)
        · exact absurd c_5 (nI_ge (by omega) (by omega))
        · refine zz (fun _ _ => lv_aload_n hx hb dX7_rewrite_78 rfl (lv_at hl 0 rfl)) ?_
          refine zz (fun _ _ => lv_aload_n hx hb dX7_rewrite_79 rfl (lv_at hl 1 rfl)) ?_
          refine zz (fun _ _ => lv_iload_n hx hb dX7_rewrite_80 rfl (lv_at hl 3 rfl)) ?_
          refine zqVN (As := [.ref (x + (61 + 6 * i)), .int (nI (j4))]) (rest := []) C hl.1 lk_X7_145 (hX7_takeAwayFor hi hto7 ((hI4.1.1 (61 + 6 * i) 5 (by omega)).trans hto9) (hT9.kept hI4.1.K) (by omega) (SV.kept (hrw9.2.2.2.2.2.2.2.2 _ _ es4) hI4.1) hg4 hI4.2) (rd_3 (by decide)) rfl rfl rfl (Nat.le_of_ble_eq_true rfl) ⟨by decide, by decide, by decide, by decide⟩ dX7_rewrite_81 (fun iv6 av6 sz h6 => ?_)
          refine zeq (M' := (cm aC x iv6 av6 R)) rfl ?_
          refine zs (fun _ _ => lv_iinc (v := nI (j4) + 1) (lv' := [(3, .int (nI (j4) + 1)), (0, .ref (x + 2)), (1, .ref (x + (61 + 6 * i))), (2, .int (w1))]) hx hb dX7_rewrite_84 hl (k := 3) rfl rfl (by decide) rfl) (fun ls hl => ?_)
          refine zz (fun _ _ => lv_goto (tgt := 67) hx hb dX7_rewrite_87 (by decide)) ?_
          have hl := lv_sub hl [1, 2, 3, 0] rfl
          try simp only [nI_1] at hl
          exact ih4 (iv6, av6) _ _ (by show tfI _ _ (((sols (cds (S.1 fr)) ps (fun _ => -1)).take (j4 + 1)).foldl (takeSol to ts) S) _ _; rw [foldl_takeS es4]; exact ⟨hI4.1.trans h6.1, h6.2⟩) hl
      · intro a4 sz ls hI4 hl
        obtain ⟨iv4, av4⟩ := a4
        dsimp only at hI4 hl
        refine zeq (M' := (cm aC x iv4 av4 R)) rfl ?_
        refine zz (fun _ _ => lv_iload_n hx hb dX7_rewrite_67 rfl (lv_at hl 3 rfl)) ?_
        refine zz (fun _ _ => lv_aload_n hx hb dX7_rewrite_68 rfl (lv_at hl 0 rfl)) ?_
        refine z_get (v := .ref (x + 20)) C fd_X7_27 (rd_3 (by decide)) rfl dX7_rewrite_69 ?_
        refine z_get (v := .int (iv4 20 2)) C fd_X7_141 (rd_9 (by decide)) rfl dX7_rewrite_72 ?_
        refine zval (v' := .int (nI (sols (cds (S.1 fr)) ps (fun _ => -1)).length)) (congrArg Value.int ((hI4.1.1 20 2 (by omega)).trans hrw9.2.2.2.2.1)) ?_
        refine zb (fun _ _ => lv_icmp_ge (tgt := 90) hx hb dX7_rewrite_75 (by decide)) (fun c_7 => ?_) (fun c_7 => ?_)
        · refine zz (fun _ _ => lv_iconst (v := 0) hx hb dX7_rewrite_90 (by decide)) ?_
          refine zs (fun _ _ => lv_istore_n (lv' := [(3, .int (0)), (0, .ref (x + 2)), (1, .ref (x + (61 + 6 * i))), (2, .int (w1))]) hx hb dX7_rewrite_91 rfl hl (by decide) rfl) (fun ls hl => ?_)
          have hl0 := lv_sub hl [1, 2, 3, 0] rfl
          refine z_loop (γ := (Nat → Nat → Int32) × (Nat → Nat → Int32)) (G := fun a => cm aC x a.1 a.2 R) (I := fun j a => adI2 (u2 iv1 2 4 ((iv1 2 4) + (iv1 20 3))) av1 to ts ((sols (cds (S.1 fr)) ps (fun _ => -1)).take j) ((sols (cds (S.1 fr)) ps (fun _ => -1)).foldl (takeSol to ts) S) a.1 a.2) (lv := fun j a => [(0, .ref (x + 2)), (1, .ref (x + (61 + 6 * i))), (2, .int (w1)), (3, .int (nI (j)))]) ((sols (cds (S.1 fr)) ps (fun _ => -1)).length) ?_ ?_ (iv4, av4) _ _ ⟨hI4.1, _, by rw [List.take_zero]; rfl, by have h9 := hI4.2; rw [List.take_length] at h9; exact h9⟩ hl0
          · intro j8 a8 sz ls hj8 hI8 hl ih8
            obtain ⟨iv8, av8⟩ := a8
            dsimp only at hI8 hl ih8
            refine zeq (M' := (cm aC x iv8 av8 R)) rfl ?_
            obtain ⟨sg8, es8⟩ : ∃ t, (sols (cds (S.1 fr)) ps (fun _ => -1))[j8]? = some t := ⟨_, List.getElem?_eq_getElem hj8⟩
            have hg8 := sols_ok (fun c hc => okP_g hS.1.1 fr c ((cds_mem (okP_g hS.1.1 fr)).mp hc)) ps _ hP.2.2.1 okG_0 sg8 (List.mem_of_getElem? es8)
            obtain ⟨hf8, S8, e8, hS8⟩ := id hI8
            refine zz (fun _ _ => lv_iload_n hx hb dX7_rewrite_92 rfl (lv_at hl 3 rfl)) ?_
            refine zz (fun _ _ => lv_aload_n hx hb dX7_rewrite_93 rfl (lv_at hl 0 rfl)) ?_
            refine z_get (v := .ref (x + 20)) C fd_X7_27 (rd_3 (by decide)) rfl dX7_rewrite_94 ?_
            refine z_get (v := .int (iv8 20 2)) C fd_X7_141 (rd_9 (by decide)) rfl dX7_rewrite_97 ?_
            refine zval (v' := .int (nI (sols (cds (S.1 fr)) ps (fun _ => -1)).length)) (congrArg Value.int ((hI8.1.1 20 2 (by omega)).trans hrw9.2.2.2.2.1)) ?_
            refine zb (fun _ _ => lv_icmp_ge (tgt := 120) hx hb dX7_rewrite_100 (by decide)) (fun c_9 => ?_) (fun c_9 => ?_)
            · exact absurd c_9 (nI_ge (by omega) (by omega))
            · refine zz (fun _ _ => lv_aload_n hx hb dX7_rewrite_103 rfl (lv_at hl 0 rfl)) ?_
              refine zz (fun _ _ => lv_aload_n hx hb dX7_rewrite_104 rfl (lv_at hl 1 rfl)) ?_
              refine zz (fun _ _ => lv_iload_n hx hb dX7_rewrite_105 rfl (lv_at hl 3 rfl)) ?_
              refine zqVI (As := [.ref (x + (61 + 6 * i)), .int (nI (j8))]) (rest := []) C hl.1 lk_X7_149 (hX7_addFor hi hto7 ((hI8.1.1 (61 + 6 * i) 5 (by omega)).trans hto9) (hT9.kept hI8.1.K) (by omega) (SV.kept (hrw9.2.2.2.2.2.2.2.2 _ _ es8) hI8.1) hg8 hS8) (rd_3 (by decide)) rfl rfl rfl (Nat.le_of_ble_eq_true rfl) ⟨by decide, by decide, by decide, by decide⟩ dX7_rewrite_106 (fun w10 iv10 av10 sz h10 => ?_)
              refine zeq (M' := (cm aC x iv10 av10 R)) rfl ?_
              refine zbn (fun _ _ => lv_if_ne (tgt := 114) hx hb dX7_rewrite_109 (by decide)) (fun c_11 => ?_) (fun c_11 => ?_)
              · refine zs (fun _ _ => lv_iinc (v := nI (j8) + 1) (lv' := [(3, .int (nI (j8) + 1)), (0, .ref (x + 2)), (1, .ref (x + (61 + 6 * i))), (2, .int (w1))]) hx hb dX7_rewrite_114 hl (k := 3) rfl rfl (by decide) rfl) (fun ls hl => ?_)
                refine zz (fun _ _ => lv_goto (tgt := 92) hx hb dX7_rewrite_117 (by decide)) ?_
                have hl := lv_sub hl [1, 2, 3, 0] rfl
                try simp only [nI_1] at hl
                exact ih8 (iv10, av10) _ _ (ad2_next es8 hf8 e8 h10 c_11) hl
              · refine zz (fun _ _ => lv_iconst (v := 4) hx hb dX7_rewrite_112 (by decide)) ?_
                exact z_iret C hr hlk dX7_rewrite_113 (zpI_mk (a := iv10) (b := av10) (rwc_4 hrw9 (hf8.trans h10.1) (ad2_no es8 e8 h10 c_11)))
          · intro a8 sz ls hI8 hl
            obtain ⟨iv8, av8⟩ := a8
            dsimp only at hI8 hl
            refine zeq (M' := (cm aC x iv8 av8 R)) rfl ?_
            refine zz (fun _ _ => lv_iload_n hx hb dX7_rewrite_92 rfl (lv_at hl 3 rfl)) ?_
            refine zz (fun _ _ => lv_aload_n hx hb dX7_rewrite_93 rfl (lv_at hl 0 rfl)) ?_
            refine z_get (v := .ref (x + 20)) C fd_X7_27 (rd_3 (by decide)) rfl dX7_rewrite_94 ?_
            refine z_get (v := .int (iv8 20 2)) C fd_X7_141 (rd_9 (by decide)) rfl dX7_rewrite_97 ?_
            refine zval (v' := .int (nI (sols (cds (S.1 fr)) ps (fun _ => -1)).length)) (congrArg Value.int ((hI8.1.1 20 2 (by omega)).trans hrw9.2.2.2.2.1)) ?_
            refine zb (fun _ _ => lv_icmp_ge (tgt := 120) hx hb dX7_rewrite_100 (by decide)) (fun c_12 => ?_) (fun c_12 => ?_)
            · refine zz (fun _ _ => lv_iconst (v := 0) hx hb dX7_rewrite_120 (by decide)) ?_
              exact z_iret C hr hlk dX7_rewrite_121 (zpI_mk (a := iv8) (b := av8) (rwc_0 hrw9 hI8))
            · exact absurd (nI_le (Nat.le_refl _) (by omega)) c_12
        · exact absurd (nI_le (Nat.le_refl _) (by omega)) c_7
    · refine zz (fun _ _ => lv_iconst (v := 5) hx hb dX7_rewrite_63 (by decide)) ?_
      exact z_iret C hr hlk dX7_rewrite_64 (zpI_mk (a := (u2 iv1 2 4 ((iv1 2 4) + (iv1 20 3)))) (b := av1) (rwc_5 (fi_no h1 c_3) (fi_FK h1)))
  · refine zz (fun _ _ => lv_aload_n hx hb dX7_rewrite_48 rfl (lv_at hl 2 rfl)) ?_
    refine zz (fun _ _ => lv_aload_n hx hb dX7_rewrite_49 rfl (lv_at hl 1 rfl)) ?_
    refine z_get (v := .ref (x + 20)) C fd_X7_27 (rd_3 (by decide)) rfl dX7_rewrite_50 ?_
    refine z_get (v := .int (iv1 20 2)) C fd_X7_141 (rd_9 (by decide)) (by simp [u2]) dX7_rewrite_53 ?_
    refine z_put C fp_X7_144 (fun h => by cases h) (rd_18 (ck_s hi)) (Nat.le_of_ble_eq_true rfl) rfl rfl dX7_rewrite_56 ?_
    refine zeq (wr_18_7 (ck_s hi)) ?_
    refine zz (fun _ _ => lv_iload_n hx hb dX7_rewrite_59 rfl (lv_at hl 0 rfl)) ?_
    refine zbn (fun _ _ => lv_if_ne (tgt := 65) hx hb dX7_rewrite_60 (by decide)) (fun c_13 => ?_) (fun c_13 => ?_)
    · have hrw9 : rwF iv av (u2 (u2 iv1 2 4 ((iv1 2 4) + (iv1 20 3))) (61 + 6 * i) 7 (iv1 20 2)) av1 (cds (S.1 fr)) ps := (rw_b (i := i) (rw_a h1 c_13 (by rw [h1.1 2 4 (by omega), (fi_ok h1 c_13).2.2.1])))
      have hS9 := rw_SC hrw9 hS
      have hl9 := hrw9.2.2.2.2.2.1
      have hT9 := hT.kept hrw9.1
      have hto9 := (hrw9.1.1 (61 + 6 * i) 5 (by omega) (by omega)).trans hto
      refine zz (fun _ _ => lv_iconst (v := 0) hx hb dX7_rewrite_65 (by decide)) ?_
      refine zs (fun _ _ => lv_istore_n (lv' := [(3, .int (0)), (2, .int (w1)), (0, .ref (x + 2)), (1, .ref (x + (61 + 6 * i)))]) hx hb dX7_rewrite_66 rfl hl (by decide) rfl) (fun ls hl => ?_)
      have hl0 := lv_sub hl [2, 3, 1, 0] rfl
      refine z_loop (γ := (Nat → Nat → Int32) × (Nat → Nat → Int32)) (G := fun a => cm aC x a.1 a.2 R) (I := fun j a => tfI (u2 (u2 iv1 2 4 ((iv1 2 4) + (iv1 20 3))) (61 + 6 * i) 7 (iv1 20 2)) av1 (((sols (cds (S.1 fr)) ps (fun _ => -1)).take j).foldl (takeSol to ts) S) a.1 a.2) (lv := fun j a => [(0, .ref (x + 2)), (1, .ref (x + (61 + 6 * i))), (2, .int (w1)), (3, .int (nI (j)))]) ((sols (cds (S.1 fr)) ps (fun _ => -1)).length) ?_ ?_ ((u2 (u2 iv1 2 4 ((iv1 2 4) + (iv1 20 3))) (61 + 6 * i) 7 (iv1 20 2)), av1) _ _ ⟨FC.refl, by rw [List.take_zero]; exact hS9⟩ hl0
      · intro j14 a14 sz ls hj14 hI14 hl ih14
        obtain ⟨iv14, av14⟩ := a14
        dsimp only at hI14 hl ih14
        refine zeq (M' := (cm aC x iv14 av14 R)) rfl ?_
        obtain ⟨sg14, es14⟩ : ∃ t, (sols (cds (S.1 fr)) ps (fun _ => -1))[j14]? = some t := ⟨_, List.getElem?_eq_getElem hj14⟩
        have hg14 := sols_ok (fun c hc => okP_g hS.1.1 fr c ((cds_mem (okP_g hS.1.1 fr)).mp hc)) ps _ hP.2.2.1 okG_0 sg14 (List.mem_of_getElem? es14)
        refine zz (fun _ _ => lv_iload_n hx hb dX7_rewrite_67 rfl (lv_at hl 3 rfl)) ?_
        refine zz (fun _ _ => lv_aload_n hx hb dX7_rewrite_68 rfl (lv_at hl 0 rfl)) ?_
        refine z_get (v := .ref (x + 20)) C fd_X7_27 (rd_3 (by decide)) rfl dX7_rewrite_69 ?_
        refine z_get (v := .int (iv14 20 2)) C fd_X7_141 (rd_9 (by decide)) rfl dX7_rewrite_72 ?_
        refine zval (v' := .int (nI (sols (cds (S.1 fr)) ps (fun _ => -1)).length)) (congrArg Value.int ((hI14.1.1 20 2 (by omega)).trans hrw9.2.2.2.2.1)) ?_
        refine zb (fun _ _ => lv_icmp_ge (tgt := 90) hx hb dX7_rewrite_75 (by decide)) (fun c_15 => ?_) (fun c_15 => ?_)
        · exact absurd c_15 (nI_ge (by omega) (by omega))
        · refine zz (fun _ _ => lv_aload_n hx hb dX7_rewrite_78 rfl (lv_at hl 0 rfl)) ?_
          refine zz (fun _ _ => lv_aload_n hx hb dX7_rewrite_79 rfl (lv_at hl 1 rfl)) ?_
          refine zz (fun _ _ => lv_iload_n hx hb dX7_rewrite_80 rfl (lv_at hl 3 rfl)) ?_
          refine zqVN (As := [.ref (x + (61 + 6 * i)), .int (nI (j14))]) (rest := []) C hl.1 lk_X7_145 (hX7_takeAwayFor hi hto7 ((hI14.1.1 (61 + 6 * i) 5 (by omega)).trans hto9) (hT9.kept hI14.1.K) (by omega) (SV.kept (hrw9.2.2.2.2.2.2.2.2 _ _ es14) hI14.1) hg14 hI14.2) (rd_3 (by decide)) rfl rfl rfl (Nat.le_of_ble_eq_true rfl) ⟨by decide, by decide, by decide, by decide⟩ dX7_rewrite_81 (fun iv16 av16 sz h16 => ?_)
          refine zeq (M' := (cm aC x iv16 av16 R)) rfl ?_
          refine zs (fun _ _ => lv_iinc (v := nI (j14) + 1) (lv' := [(3, .int (nI (j14) + 1)), (0, .ref (x + 2)), (1, .ref (x + (61 + 6 * i))), (2, .int (w1))]) hx hb dX7_rewrite_84 hl (k := 3) rfl rfl (by decide) rfl) (fun ls hl => ?_)
          refine zz (fun _ _ => lv_goto (tgt := 67) hx hb dX7_rewrite_87 (by decide)) ?_
          have hl := lv_sub hl [1, 2, 3, 0] rfl
          try simp only [nI_1] at hl
          exact ih14 (iv16, av16) _ _ (by show tfI _ _ (((sols (cds (S.1 fr)) ps (fun _ => -1)).take (j14 + 1)).foldl (takeSol to ts) S) _ _; rw [foldl_takeS es14]; exact ⟨hI14.1.trans h16.1, h16.2⟩) hl
      · intro a14 sz ls hI14 hl
        obtain ⟨iv14, av14⟩ := a14
        dsimp only at hI14 hl
        refine zeq (M' := (cm aC x iv14 av14 R)) rfl ?_
        refine zz (fun _ _ => lv_iload_n hx hb dX7_rewrite_67 rfl (lv_at hl 3 rfl)) ?_
        refine zz (fun _ _ => lv_aload_n hx hb dX7_rewrite_68 rfl (lv_at hl 0 rfl)) ?_
        refine z_get (v := .ref (x + 20)) C fd_X7_27 (rd_3 (by decide)) rfl dX7_rewrite_69 ?_
        refine z_get (v := .int (iv14 20 2)) C fd_X7_141 (rd_9 (by decide)) rfl dX7_rewrite_72 ?_
        refine zval (v' := .int (nI (sols (cds (S.1 fr)) ps (fun _ => -1)).length)) (congrArg Value.int ((hI14.1.1 20 2 (by omega)).trans hrw9.2.2.2.2.1)) ?_
        refine zb (fun _ _ => lv_icmp_ge (tgt := 90) hx hb dX7_rewrite_75 (by decide)) (fun c_17 => ?_) (fun c_17 => ?_)
        · refine zz (fun _ _ => lv_iconst (v := 0) hx hb dX7_rewrite_90 (by decide)) ?_
          refine zs (fun _ _ => lv_istore_n (lv' := [(3, .int (0)), (0, .ref (x + 2)), (1, .ref (x + (61 + 6 * i))), (2, .int (w1))]) hx hb dX7_rewrite_91 rfl hl (by decide) rfl) (fun ls hl => ?_)
          have hl0 := lv_sub hl [1, 2, 3, 0] rfl
          refine z_loop (γ := (Nat → Nat → Int32) × (Nat → Nat → Int32)) (G := fun a => cm aC x a.1 a.2 R) (I := fun j a => adI2 (u2 (u2 iv1 2 4 ((iv1 2 4) + (iv1 20 3))) (61 + 6 * i) 7 (iv1 20 2)) av1 to ts ((sols (cds (S.1 fr)) ps (fun _ => -1)).take j) ((sols (cds (S.1 fr)) ps (fun _ => -1)).foldl (takeSol to ts) S) a.1 a.2) (lv := fun j a => [(0, .ref (x + 2)), (1, .ref (x + (61 + 6 * i))), (2, .int (w1)), (3, .int (nI (j)))]) ((sols (cds (S.1 fr)) ps (fun _ => -1)).length) ?_ ?_ (iv14, av14) _ _ ⟨hI14.1, _, by rw [List.take_zero]; rfl, by have h9 := hI14.2; rw [List.take_length] at h9; exact h9⟩ hl0
          · intro j18 a18 sz ls hj18 hI18 hl ih18
            obtain ⟨iv18, av18⟩ := a18
            dsimp only at hI18 hl ih18
            refine zeq (M' := (cm aC x iv18 av18 R)) rfl ?_
            obtain ⟨sg18, es18⟩ : ∃ t, (sols (cds (S.1 fr)) ps (fun _ => -1))[j18]? = some t := ⟨_, List.getElem?_eq_getElem hj18⟩
            have hg18 := sols_ok (fun c hc => okP_g hS.1.1 fr c ((cds_mem (okP_g hS.1.1 fr)).mp hc)) ps _ hP.2.2.1 okG_0 sg18 (List.mem_of_getElem? es18)
            obtain ⟨hf8, S8, e8, hS8⟩ := id hI18
            refine zz (fun _ _ => lv_iload_n hx hb dX7_rewrite_92 rfl (lv_at hl 3 rfl)) ?_
            refine zz (fun _ _ => lv_aload_n hx hb dX7_rewrite_93 rfl (lv_at hl 0 rfl)) ?_
            refine z_get (v := .ref (x + 20)) C fd_X7_27 (rd_3 (by decide)) rfl dX7_rewrite_94 ?_
            refine z_get (v := .int (iv18 20 2)) C fd_X7_141 (rd_9 (by decide)) rfl dX7_rewrite_97 ?_
            refine zval (v' := .int (nI (sols (cds (S.1 fr)) ps (fun _ => -1)).length)) (congrArg Value.int ((hI18.1.1 20 2 (by omega)).trans hrw9.2.2.2.2.1)) ?_
            refine zb (fun _ _ => lv_icmp_ge (tgt := 120) hx hb dX7_rewrite_100 (by decide)) (fun c_19 => ?_) (fun c_19 => ?_)
            · exact absurd c_19 (nI_ge (by omega) (by omega))
            · refine zz (fun _ _ => lv_aload_n hx hb dX7_rewrite_103 rfl (lv_at hl 0 rfl)) ?_
              refine zz (fun _ _ => lv_aload_n hx hb dX7_rewrite_104 rfl (lv_at hl 1 rfl)) ?_
              refine zz (fun _ _ => lv_iload_n hx hb dX7_rewrite_105 rfl (lv_at hl 3 rfl)) ?_
              refine zqVI (As := [.ref (x + (61 + 6 * i)), .int (nI (j18))]) (rest := []) C hl.1 lk_X7_149 (hX7_addFor hi hto7 ((hI18.1.1 (61 + 6 * i) 5 (by omega)).trans hto9) (hT9.kept hI18.1.K) (by omega) (SV.kept (hrw9.2.2.2.2.2.2.2.2 _ _ es18) hI18.1) hg18 hS8) (rd_3 (by decide)) rfl rfl rfl (Nat.le_of_ble_eq_true rfl) ⟨by decide, by decide, by decide, by decide⟩ dX7_rewrite_106 (fun w20 iv20 av20 sz h20 => ?_)
              refine zeq (M' := (cm aC x iv20 av20 R)) rfl ?_
              refine zbn (fun _ _ => lv_if_ne (tgt := 114) hx hb dX7_rewrite_109 (by decide)) (fun c_21 => ?_) (fun c_21 => ?_)
              · refine zs (fun _ _ => lv_iinc (v := nI (j18) + 1) (lv' := [(3, .int (nI (j18) + 1)), (0, .ref (x + 2)), (1, .ref (x + (61 + 6 * i))), (2, .int (w1))]) hx hb dX7_rewrite_114 hl (k := 3) rfl rfl (by decide) rfl) (fun ls hl => ?_)
                refine zz (fun _ _ => lv_goto (tgt := 92) hx hb dX7_rewrite_117 (by decide)) ?_
                have hl := lv_sub hl [1, 2, 3, 0] rfl
                try simp only [nI_1] at hl
                exact ih18 (iv20, av20) _ _ (ad2_next es18 hf8 e8 h20 c_21) hl
              · refine zz (fun _ _ => lv_iconst (v := 4) hx hb dX7_rewrite_112 (by decide)) ?_
                exact z_iret C hr hlk dX7_rewrite_113 (zpI_mk (a := iv20) (b := av20) (rwc_4 hrw9 (hf8.trans h20.1) (ad2_no es18 e8 h20 c_21)))
          · intro a18 sz ls hI18 hl
            obtain ⟨iv18, av18⟩ := a18
            dsimp only at hI18 hl
            refine zeq (M' := (cm aC x iv18 av18 R)) rfl ?_
            refine zz (fun _ _ => lv_iload_n hx hb dX7_rewrite_92 rfl (lv_at hl 3 rfl)) ?_
            refine zz (fun _ _ => lv_aload_n hx hb dX7_rewrite_93 rfl (lv_at hl 0 rfl)) ?_
            refine z_get (v := .ref (x + 20)) C fd_X7_27 (rd_3 (by decide)) rfl dX7_rewrite_94 ?_
            refine z_get (v := .int (iv18 20 2)) C fd_X7_141 (rd_9 (by decide)) rfl dX7_rewrite_97 ?_
            refine zval (v' := .int (nI (sols (cds (S.1 fr)) ps (fun _ => -1)).length)) (congrArg Value.int ((hI18.1.1 20 2 (by omega)).trans hrw9.2.2.2.2.1)) ?_
            refine zb (fun _ _ => lv_icmp_ge (tgt := 120) hx hb dX7_rewrite_100 (by decide)) (fun c_22 => ?_) (fun c_22 => ?_)
            · refine zz (fun _ _ => lv_iconst (v := 0) hx hb dX7_rewrite_120 (by decide)) ?_
              exact z_iret C hr hlk dX7_rewrite_121 (zpI_mk (a := iv18) (b := av18) (rwc_0 hrw9 hI18))
            · exact absurd (nI_le (Nat.le_refl _) (by omega)) c_22
        · exact absurd (nI_le (Nat.le_refl _) (by omega)) c_17
    · refine zz (fun _ _ => lv_iconst (v := 5) hx hb dX7_rewrite_63 (by decide)) ?_
      exact z_iret C hr hlk dX7_rewrite_64 (zpI_mk (a := (u2 (u2 iv1 2 4 ((iv1 2 4) + (iv1 20 3))) (61 + 6 * i) 7 (iv1 20 2))) (b := av1) (rwc_5 (fi_no h1 c_13) (FK_7 (fi_FK h1))))
