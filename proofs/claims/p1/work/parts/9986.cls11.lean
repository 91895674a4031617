set_option maxHeartbeats 2000000 in
set_option maxRecDepth 10000 in
theorem hX0_note {l : Launch} {D : va_G} {aC : Nat → ClassId} {b0 sz : Nat} {x : Nat} {iv av : Nat → Nat → Int32} {R : ZM} {g9 c9 : Nat} {b9 : Bool} {L : List Cg} (h : CHc iv av L) (hl4 : L.length < 240) : Ct l D aC b0 yX0_note cX0_note 4 none 0 0 0 [.ref (x + 57), .int (nI g9), .int (nI c9), .int (tI b9)] (cm aC x iv av R) sz (zpN (fun iv av => cm aC x iv av R) (ncP iv av L (g9, c9, b9))) := by
  refine Ct.of (by decide) (Nat.le_of_ble_eq_true rfl) ?_
  intro p e s m below meth c ls C hr hlk hnm hl
  have hl : lv_has ls 4 [(0, .ref (x + 57)), (1, .int (nI g9)), (2, .int (nI c9)), (3, .int (tI b9))] := hl
  obtain ⟨hx, hb, -, -, -⟩ := id C
  refine zz (fun _ _ => lv_aload_n hx hb dX0_note_0 rfl (lv_at hl 0 rfl)) ?_
  refine z_get (v := .int (iv 57 3)) C fd_X0_21 (rd_16 (by decide)) rfl dX0_note_1 ?_
  refine zval (v' := .int (nI L.length)) (congrArg Value.int h.1) ?_
  refine zz (fun _ _ => lv_sipush (v := 240) hx hb dX0_note_4 (by decide)) ?_
  refine zval (v' := .int (nI 240)) (congrArg Value.int rfl) ?_
  refine zb (fun _ _ => lv_icmp_ge (tgt := 50) hx hb dX0_note_7 (by decide)) (fun c_1 => ?_) (fun c_1 => ?_)
  · exact absurd c_1 (nI_ge (by omega) (by omega))
  · refine zz (fun _ _ => lv_aload_n hx hb dX0_note_10 rfl (lv_at hl 0 rfl)) ?_
    refine z_get (v := .ref (x + 58)) C fd_X0_9 (rd_16 (by decide)) rfl dX0_note_11 ?_
    refine zz (fun _ _ => lv_aload_n hx hb dX0_note_14 rfl (lv_at hl 0 rfl)) ?_
    refine z_get (v := .int (iv 57 3)) C fd_X0_21 (rd_16 (by decide)) rfl dX0_note_15 ?_
    refine zval (v' := .int (nI L.length)) (congrArg Value.int h.1) ?_
    refine zz (fun _ _ => lv_iload_n hx hb dX0_note_18 rfl (lv_at hl 1 rfl)) ?_
    refine z_iast (f := av 58) C (rd_17 (by decide)) (by first | assumption | (apply vp_in_nI <;> omega)) dX0_note_19 ?_
    refine zeq (wr_17 (by decide)) ?_
    refine zz (fun _ _ => lv_aload_n hx hb dX0_note_20 rfl (lv_at hl 0 rfl)) ?_
    refine z_get (v := .ref (x + 59)) C fd_X0_15 (rd_16 (by decide)) rfl dX0_note_21 ?_
    refine zz (fun _ _ => lv_aload_n hx hb dX0_note_24 rfl (lv_at hl 0 rfl)) ?_
    refine z_get (v := .int (iv 57 3)) C fd_X0_21 (rd_16 (by decide)) rfl dX0_note_25 ?_
    refine zval (v' := .int (nI L.length)) (congrArg Value.int h.1) ?_
    refine zz (fun _ _ => lv_iload_n hx hb dX0_note_28 rfl (lv_at hl 2 rfl)) ?_
    refine z_iast (n := 240) (f := av 59) C ((rd_17 (by decide)).trans (by simp [u1])) (by first | assumption | (apply vp_in_nI <;> omega)) dX0_note_29 ?_
    refine zeq (wr_17 (by decide)) ?_
    refine zz (fun _ _ => lv_aload_n hx hb dX0_note_30 rfl (lv_at hl 0 rfl)) ?_
    refine z_get (v := .ref (x + 60)) C fd_X0_18 (rd_16 (by decide)) rfl dX0_note_31 ?_
    refine zz (fun _ _ => lv_aload_n hx hb dX0_note_34 rfl (lv_at hl 0 rfl)) ?_
    refine z_get (v := .int (iv 57 3)) C fd_X0_21 (rd_16 (by decide)) rfl dX0_note_35 ?_
    refine zval (v' := .int (nI L.length)) (congrArg Value.int h.1) ?_
    refine zz (fun _ _ => lv_iload_n hx hb dX0_note_38 rfl (lv_at hl 3 rfl)) ?_
    refine z_iast (n := 240) (f := av 60) C ((rd_17 (by decide)).trans (by simp [u1])) (by first | assumption | (apply vp_in_nI <;> omega)) dX0_note_39 ?_
    refine zeq (wr_17 (by decide)) ?_
    refine zz (fun _ _ => lv_aload_n hx hb dX0_note_40 rfl (lv_at hl 0 rfl)) ?_
    refine zz (fun _ _ => lv_dup hx hb dX0_note_41 rfl) ?_
    refine z_get (v := .int (iv 57 3)) C fd_X0_21 (rd_16 (by decide)) rfl dX0_note_42 ?_
    refine zval (v' := .int (nI L.length)) (congrArg Value.int h.1) ?_
    refine zz (fun _ _ => lv_iconst (v := 1) hx hb dX0_note_45 (by decide)) ?_
    refine zz (fun _ _ => lv_iadd hx hb dX0_note_46) ?_
    refine zval (v' := .int (nI (L.length + 1))) (congrArg Value.int (nI_1 _)) ?_
    refine z_put C fp_X0_21 (fun h => by cases h) (rd_16 (by decide)) (Nat.le_of_ble_eq_true rfl) rfl rfl dX0_note_47 ?_
    refine zeq (wr_16_3 (by decide)) ?_
    exact z_vret C hr hlk dX0_note_50 (zpN_mk (a := (u2 iv 57 3 (nI (L.length + 1)))) (b := (u1 (u1 (u1 av 58 (upd (av 58) (Int32.toNatClampNeg (nI L.length)) (nI g9))) 59 (upd (av 59) (Int32.toNatClampNeg (nI L.length)) (nI c9))) 60 (upd (av 60) (Int32.toNatClampNeg (nI L.length)) (tI b9)))) (nc_end h hl4))
theorem ck_b {g : Nat} (h : g < 7) : ck (42 + 1 + 2 * g) = 6 := kp_5 (k := 42) (by decide) h
set_option maxHeartbeats 2000000 in
set_option maxRecDepth 10000 in
theorem hX0_compareGraphs {l : Launch} {D : va_G} {aC : Nat → ClassId} {b0 sz : Nat} {x : Nat} {iv av : Nat → Nat → Int32} {R : ZM} {g9 : Nat} {p8 p9 : Nat → Bool} {t8 t9 : Bool} {L : List Cg} (hg : g9 < 7) (h : CHc iv av L) (hl4 : L.length + ((cds p8).length + (cds p9).length) ≤ 240) (hG1 : GC iv av (42 + 1 + 2 * g9) p8 t8) (hG2 : GC iv av (4 + 1 + 2 * g9) p9 t9) (ho1 : ∀ c, p8 c = true → okc c) (ho2 : ∀ c, p9 c = true → okc c) (hn1 : (cds p8).length ≤ 120) (hn2 : (cds p9).length ≤ 120) : Ct l D aC b0 yX0_compareGraphs cX0_compareGraphs 6 none 1 0 0 [.ref (x + 57), .int (nI g9), .ref (x + (42 + 1 + 2 * g9)), .ref (x + (4 + 1 + 2 * g9))] (cm aC x iv av R) sz (zpN (fun iv av => cm aC x iv av R) (cgP iv av g9 (cds p8) (cds p9) L)) := by
  refine Ct.of (by decide) (Nat.le_of_ble_eq_true rfl) ?_
  intro p e s m below meth c ls C hr hlk hnm hl
  have hl : lv_has ls 6 [(0, .ref (x + 57)), (1, .int (nI g9)), (2, .ref (x + (42 + 1 + 2 * g9))), (3, .ref (x + (4 + 1 + 2 * g9)))] := hl
  obtain ⟨hx, hb, -, -, -⟩ := id C
  have s1 := cds_srt p8
  have s2 := cds_srt p9
  refine zz (fun _ _ => lv_iconst (v := 0) hx hb dX0_compareGraphs_0 (by decide)) ?_
  refine zs (fun _ _ => lv_istore (lv' := [(4, .int (0)), (0, .ref (x + 57)), (1, .int (nI g9)), (2, .ref (x + (42 + 1 + 2 * g9))), (3, .ref (x + (4 + 1 + 2 * g9)))]) hx hb dX0_compareGraphs_1 hl (by decide) rfl) (fun ls hl => ?_)
  refine zz (fun _ _ => lv_iconst (v := 0) hx hb dX0_compareGraphs_3 (by decide)) ?_
  refine zs (fun _ _ => lv_istore (lv' := [(5, .int (0)), (4, .int (0)), (0, .ref (x + 57)), (1, .int (nI g9)), (2, .ref (x + (42 + 1 + 2 * g9))), (3, .ref (x + (4 + 1 + 2 * g9)))]) hx hb dX0_compareGraphs_4 hl (by decide) rfl) (fun ls hl => ?_)
  have hl0 := lv_sub hl [2, 3, 4, 5, 1, 0] rfl
  refine z_loop (γ := (Nat → Nat → Int32) × (Nat → Nat → Int32) × Int32 × Int32) (G := fun a => cm aC x a.1 a.2.1 R) (I := fun j a => mgI iv av g9 (cds p8) (cds p9) L j a.2.2.1 a.2.2.2 a.1 a.2.1) (lv := fun j a => [(0, .ref (x + 57)), (1, .int (nI g9)), (2, .ref (x + (42 + 1 + 2 * g9))), (3, .ref (x + (4 + 1 + 2 * g9))), (4, .int (a.2.2.1)), (5, .int (a.2.2.2))]) ((cds p8).length + (cds p9).length) ?_ ?_ (iv, av, 0, 0) _ _ ⟨FH.refl, 0, 0, [], rfl, rfl, Nat.zero_le _, mg_0, by rw [List.append_nil]; exact h⟩ hl0
  · intro j1 a1 sz ls hj1 hI1 hl ih1
    obtain ⟨iv1, av1, t1_4, t1_5⟩ := a1
    dsimp only at hI1 hl ih1
    refine zeq (M' := (cm aC x iv1 av1 R)) rfl ?_
    obtain ⟨hf8, i9, j9, M9, e4, e5, hn9, hm9, hc9⟩ := id hI1
    have hG11 := hf8.G (by omega) hG1
    have hG21 := hf8.G (by omega) hG2
    have hil9 := hm9.2.2.2.2.2.1
    have hjl9 := hm9.2.2.2.2.2.2.1
    have hml9 := hm9.2.2.2.2.1
    refine zz (fun _ _ => lv_iload hx hb dX0_compareGraphs_6 (lv_at hl 4 rfl)) ?_
    refine zval (v' := .int (nI i9)) (congrArg Value.int e4) ?_
    refine zz (fun _ _ => lv_aload_n hx hb dX0_compareGraphs_8 rfl (lv_at hl 2 rfl)) ?_
    refine z_get (v := .int (iv1 (42 + 1 + 2 * g9) 1)) C fd_X0_35 (rd_6 (ck_b hg)) rfl dX0_compareGraphs_9 ?_
    refine zval (v' := .int (nI (cds p8).length)) (congrArg Value.int hG11.1) ?_
    refine zb (fun _ _ => lv_icmp_lt (tgt := 24) hx hb dX0_compareGraphs_12 (by decide)) (fun c_2 => ?_) (fun c_2 => ?_)
    · have hi9 : i9 < (cds p8).length := (nI_ltI (by omega) (by omega)).mp c_2
      have hb1 := cds_lt ho1 hi9
      have k1 : ¬ nI (cds p8).length ≤ nI i9 := nI_ge hi9 (by omega)
      by_cases hj9 : j9 < (cds p9).length
      · have hb2 := cds_lt ho2 hj9
        have k2 : ¬ nI (cds p9).length ≤ nI j9 := nI_ge hj9 (by omega)
        rcases Nat.lt_trichotomy ((cds p8).getD i9 0) ((cds p9).getD j9 0) with r9 | r9 | r9
        · have ka : ¬ nI ((cds p9).getD j9 0) ≤ nI ((cds p8).getD i9 0) := nI_ge r9 (by omega)
          refine zz (fun _ _ => lv_iload hx hb dX0_compareGraphs_24 (lv_at hl 5 rfl)) ?_
          refine zval (v' := .int (nI j9)) (congrArg Value.int e5) ?_
          refine zz (fun _ _ => lv_aload_n hx hb dX0_compareGraphs_26 rfl (lv_at hl 3 rfl)) ?_
          refine z_get (v := .int (iv1 (4 + 1 + 2 * g9) 1)) C fd_X0_35 (rd_6 (ck_g hg)) rfl dX0_compareGraphs_27 ?_
          refine zval (v' := .int (nI (cds p9).length)) (congrArg Value.int hG21.1) ?_
          refine zb (fun _ _ => lv_icmp_ge (tgt := 59) hx hb dX0_compareGraphs_30 (by decide)) (fun c_3 => ?_) (fun c_3 => ?_)
          · exact absurd c_3 k2
          · refine zz (fun _ _ => lv_iload hx hb dX0_compareGraphs_33 (lv_at hl 4 rfl)) ?_
            refine zval (v' := .int (nI i9)) (congrArg Value.int e4) ?_
            refine zz (fun _ _ => lv_aload_n hx hb dX0_compareGraphs_35 rfl (lv_at hl 2 rfl)) ?_
            refine z_get (v := .int (iv1 (42 + 1 + 2 * g9) 1)) C fd_X0_35 (rd_6 (ck_b hg)) rfl dX0_compareGraphs_36 ?_
            refine zval (v' := .int (nI (cds p8).length)) (congrArg Value.int hG11.1) ?_
            refine zb (fun _ _ => lv_icmp_ge (tgt := 78) hx hb dX0_compareGraphs_39 (by decide)) (fun c_4 => ?_) (fun c_4 => ?_)
            · exact absurd c_4 k1
            · refine zz (fun _ _ => lv_aload_n hx hb dX0_compareGraphs_42 rfl (lv_at hl 2 rfl)) ?_
              refine z_get (v := .ref (x + ((42 + 1 + 2 * g9) + 1))) C fd_X0_40 (rd_6 (ck_b hg)) rfl dX0_compareGraphs_43 ?_
              refine zz (fun _ _ => lv_iload hx hb dX0_compareGraphs_46 (lv_at hl 4 rfl)) ?_
              refine zval (v' := .int (nI i9)) (congrArg Value.int e4) ?_
              refine z_iald (f := av1 ((42 + 1 + 2 * g9) + 1)) C (rd_7 (nb_6_1 (ck_b hg))) (by first | assumption | (apply vp_in_nI <;> omega)) dX0_compareGraphs_48 ?_
              refine zval (v' := .int (nI ((cds p8).getD i9 0))) (congrArg Value.int (rdI (hG11.2.2 i9 hi9) (by omega))) ?_
              refine zz (fun _ _ => lv_aload_n hx hb dX0_compareGraphs_49 rfl (lv_at hl 3 rfl)) ?_
              refine z_get (v := .ref (x + ((4 + 1 + 2 * g9) + 1))) C fd_X0_40 (rd_6 (ck_g hg)) rfl dX0_compareGraphs_50 ?_
              refine zz (fun _ _ => lv_iload hx hb dX0_compareGraphs_53 (lv_at hl 5 rfl)) ?_
              refine zval (v' := .int (nI j9)) (congrArg Value.int e5) ?_
              refine z_iald (f := av1 ((4 + 1 + 2 * g9) + 1)) C (rd_7 (nb_6_1 (ck_g hg))) (by first | assumption | (apply vp_in_nI <;> omega)) dX0_compareGraphs_55 ?_
              refine zval (v' := .int (nI ((cds p9).getD j9 0))) (congrArg Value.int (rdI (hG21.2.2 j9 hj9) (by omega))) ?_
              refine zb (fun _ _ => lv_icmp_ge (tgt := 78) hx hb dX0_compareGraphs_56 (by decide)) (fun c_5 => ?_) (fun c_5 => ?_)
              · exact absurd c_5 ka
              · refine zz (fun _ _ => lv_aload_n hx hb dX0_compareGraphs_59 rfl (lv_at hl 0 rfl)) ?_
                refine zz (fun _ _ => lv_iload_n hx hb dX0_compareGraphs_60 rfl (lv_at hl 1 rfl)) ?_
                refine zz (fun _ _ => lv_aload_n hx hb dX0_compareGraphs_61 rfl (lv_at hl 2 rfl)) ?_
                refine z_get (v := .ref (x + ((42 + 1 + 2 * g9) + 1))) C fd_X0_40 (rd_6 (ck_b hg)) rfl dX0_compareGraphs_62 ?_
                refine zz (fun _ _ => lv_iload hx hb dX0_compareGraphs_65 (lv_at hl 4 rfl)) ?_
                refine zval (v' := .int (nI i9)) (congrArg Value.int e4) ?_
                refine z_iald (f := av1 ((42 + 1 + 2 * g9) + 1)) C (rd_7 (nb_6_1 (ck_b hg))) (by first | assumption | (apply vp_in_nI <;> omega)) dX0_compareGraphs_67 ?_
                refine zval (v' := .int (nI ((cds p8).getD i9 0))) (congrArg Value.int (rdI (hG11.2.2 i9 hi9) (by omega))) ?_
                refine zz (fun _ _ => lv_iconst (v := 0) hx hb dX0_compareGraphs_68 (by decide)) ?_
                refine zval (v' := .int (tI false)) (congrArg Value.int rfl) ?_
                refine zqVN (As := [.int (nI g9), .int (nI ((cds p8).getD i9 0)), .int (tI false)]) (rest := []) C hl.1 lk_X0_43 (hX0_note hc9 (by rw [List.length_append]; omega)) (rd_16 (by decide)) rfl rfl rfl (Nat.le_of_ble_eq_true rfl) ⟨by decide, by decide, by decide, by decide⟩ dX0_compareGraphs_69 (fun iv6 av6 sz h6 => ?_)
                refine zeq (M' := (cm aC x iv6 av6 R)) rfl ?_
                refine zs (fun _ _ => lv_iinc (v := t1_4 + 1) (lv' := [(4, .int (t1_4 + 1)), (0, .ref (x + 57)), (1, .int (nI g9)), (2, .ref (x + (42 + 1 + 2 * g9))), (3, .ref (x + (4 + 1 + 2 * g9))), (5, .int (t1_5))]) hx hb dX0_compareGraphs_72 hl (k := 4) rfl rfl (by decide) rfl) (fun ls hl => ?_)
                refine zz (fun _ _ => lv_goto (tgt := 6) hx hb dX0_compareGraphs_75 (by decide)) ?_
                have hl := lv_sub hl [1, 2, 3, 4, 0, 5] rfl
                try simp only [nI_1] at hl
                exact ih1 (iv6, av6, t1_4 + 1, t1_5) _ _ ⟨hf8.trans h6.1, i9 + 1, j9, M9 ++ [(g9, (cds p8).getD i9 0, false)], by rw [e4, nI_1], e5, by omega, mg_a s1 s2 hm9 hi9 (drop_all s2 (Or.inr r9) hjl9), by rw [← List.append_assoc]; exact h6.2⟩ hl
        · have ka : nI ((cds p9).getD j9 0) ≤ nI ((cds p8).getD i9 0) := nI_le (by omega) (by omega)
          have kb : nI ((cds p8).getD i9 0) ≤ nI ((cds p9).getD j9 0) := nI_le (by omega) (by omega)
          refine zz (fun _ _ => lv_iload hx hb dX0_compareGraphs_24 (lv_at hl 5 rfl)) ?_
          refine zval (v' := .int (nI j9)) (congrArg Value.int e5) ?_
          refine zz (fun _ _ => lv_aload_n hx hb dX0_compareGraphs_26 rfl (lv_at hl 3 rfl)) ?_
          refine z_get (v := .int (iv1 (4 + 1 + 2 * g9) 1)) C fd_X0_35 (rd_6 (ck_g hg)) rfl dX0_compareGraphs_27 ?_
          refine zval (v' := .int (nI (cds p9).length)) (congrArg Value.int hG21.1) ?_
          refine zb (fun _ _ => lv_icmp_ge (tgt := 59) hx hb dX0_compareGraphs_30 (by decide)) (fun c_7 => ?_) (fun c_7 => ?_)
          · exact absurd c_7 k2
          · refine zz (fun _ _ => lv_iload hx hb dX0_compareGraphs_33 (lv_at hl 4 rfl)) ?_
            refine zval (v' := .int (nI i9)) (congrArg Value.int e4) ?_
            refine zz (fun _ _ => lv_aload_n hx hb dX0_compareGraphs_35 rfl (lv_at hl 2 rfl)) ?_
            refine z_get (v := .int (iv1 (42 + 1 + 2 * g9) 1)) C fd_X0_35 (rd_6 (ck_b hg)) rfl dX0_compareGraphs_36 ?_
            refine zval (v' := .int (nI (cds p8).length)) (congrArg Value.int hG11.1) ?_
            refine zb (fun _ _ => lv_icmp_ge (tgt := 78) hx hb dX0_compareGraphs_39 (by decide)) (fun c_8 => ?_) (fun c_8 => ?_)
            · exact absurd c_8 k1
            · refine zz (fun _ _ => lv_aload_n hx hb dX0_compareGraphs_42 rfl (lv_at hl 2 rfl)) ?_
              refine z_get (v := .ref (x + ((42 + 1 + 2 * g9) + 1))) C fd_X0_40 (rd_6 (ck_b hg)) rfl dX0_compareGraphs_43 ?_
              refine zz (fun _ _ => lv_iload hx hb dX0_compareGraphs_46 (lv_at hl 4 rfl)) ?_
              refine zval (v' := .int (nI i9)) (congrArg Value.int e4) ?_
              refine z_iald (f := av1 ((42 + 1 + 2 * g9) + 1)) C (rd_7 (nb_6_1 (ck_b hg))) (by first | assumption | (apply vp_in_nI <;> omega)) dX0_compareGraphs_48 ?_
              refine zval (v' := .int (nI ((cds p8).getD i9 0))) (congrArg Value.int (rdI (hG11.2.2 i9 hi9) (by omega))) ?_
              refine zz (fun _ _ => lv_aload_n hx hb dX0_compareGraphs_49 rfl (lv_at hl 3 rfl)) ?_
              refine z_get (v := .ref (x + ((4 + 1 + 2 * g9) + 1))) C fd_X0_40 (rd_6 (ck_g hg)) rfl dX0_compareGraphs_50 ?_
              refine zz (fun _ _ => lv_iload hx hb dX0_compareGraphs_53 (lv_at hl 5 rfl)) ?_
              refine zval (v' := .int (nI j9)) (congrArg Value.int e5) ?_
              refine z_iald (f := av1 ((4 + 1 + 2 * g9) + 1)) C (rd_7 (nb_6_1 (ck_g hg))) (by first | assumption | (apply vp_in_nI <;> omega)) dX0_compareGraphs_55 ?_
              refine zval (v' := .int (nI ((cds p9).getD j9 0))) (congrArg Value.int (rdI (hG21.2.2 j9 hj9) (by omega))) ?_
              refine zb (fun _ _ => lv_icmp_ge (tgt := 78) hx hb dX0_compareGraphs_56 (by decide)) (fun c_9 => ?_) (fun c_9 => ?_)
              · refine zz (fun _ _ => lv_iload hx hb dX0_compareGraphs_78 (lv_at hl 4 rfl)) ?_
                refine zval (v' := .int (nI i9)) (congrArg Value.int e4) ?_
                refine zz (fun _ _ => lv_aload_n hx hb dX0_compareGraphs_80 rfl (lv_at hl 2 rfl)) ?_
                refine z_get (v := .int (iv1 (42 + 1 + 2 * g9) 1)) C fd_X0_35 (rd_6 (ck_b hg)) rfl dX0_compareGraphs_81 ?_
                refine zval (v' := .int (nI (cds p8).length)) (congrArg Value.int hG11.1) ?_
                refine zb (fun _ _ => lv_icmp_ge (tgt := 104) hx hb dX0_compareGraphs_84 (by decide)) (fun c_10 => ?_) (fun c_10 => ?_)
                · exact absurd c_10 k1
                · refine zz (fun _ _ => lv_aload_n hx hb dX0_compareGraphs_87 rfl (lv_at hl 3 rfl)) ?_
                  refine z_get (v := .ref (x + ((4 + 1 + 2 * g9) + 1))) C fd_X0_40 (rd_6 (ck_g hg)) rfl dX0_compareGraphs_88 ?_
                  refine zz (fun _ _ => lv_iload hx hb dX0_compareGraphs_91 (lv_at hl 5 rfl)) ?_
                  refine zval (v' := .int (nI j9)) (congrArg Value.int e5) ?_
                  refine z_iald (f := av1 ((4 + 1 + 2 * g9) + 1)) C (rd_7 (nb_6_1 (ck_g hg))) (by first | assumption | (apply vp_in_nI <;> omega)) dX0_compareGraphs_93 ?_
                  refine zval (v' := .int (nI ((cds p9).getD j9 0))) (congrArg Value.int (rdI (hG21.2.2 j9 hj9) (by omega))) ?_
                  refine zz (fun _ _ => lv_aload_n hx hb dX0_compareGraphs_94 rfl (lv_at hl 2 rfl)) ?_
                  refine z_get (v := .ref (x + ((42 + 1 + 2 * g9) + 1))) C fd_X0_40 (rd_6 (ck_b hg)) rfl dX0_compareGraphs_95 ?_
                  refine zz (fun _ _ => lv_iload hx hb dX0_compareGraphs_98 (lv_at hl 4 rfl)) ?_
                  refine zval (v' := .int (nI i9)) (congrArg Value.int e4) ?_
                  refine z_iald (f := av1 ((42 + 1 + 2 * g9) + 1)) C (rd_7 (nb_6_1 (ck_b hg))) (by first | assumption | (apply vp_in_nI <;> omega)) dX0_compareGraphs_100 ?_
                  refine zval (v' := .int (nI ((cds p8).getD i9 0))) (congrArg Value.int (rdI (hG11.2.2 i9 hi9) (by omega))) ?_
                  refine zb (fun _ _ => lv_icmp_ge (tgt := 123) hx hb dX0_compareGraphs_101 (by decide)) (fun c_11 => ?_) (fun c_11 => ?_)
                  · refine zs (fun _ _ => lv_iinc (v := t1_4 + 1) (lv' := [(4, .int (t1_4 + 1)), (0, .ref (x + 57)), (1, .int (nI g9)), (2, .ref (x + (42 + 1 + 2 * g9))), (3, .ref (x + (4 + 1 + 2 * g9))), (5, .int (t1_5))]) hx hb dX0_compareGraphs_123 hl (k := 4) rfl rfl (by decide) rfl) (fun ls hl => ?_)
                    refine zs (fun _ _ => lv_iinc (v := t1_5 + 1) (lv' := [(5, .int (t1_5 + 1)), (4, .int (t1_4 + 1)), (0, .ref (x + 57)), (1, .int (nI g9)), (2, .ref (x + (42 + 1 + 2 * g9))), (3, .ref (x + (4 + 1 + 2 * g9)))]) hx hb dX0_compareGraphs_126 hl (k := 5) rfl rfl (by decide) rfl) (fun ls hl => ?_)
                    refine zz (fun _ _ => lv_goto (tgt := 6) hx hb dX0_compareGraphs_129 (by decide)) ?_
                    have hl := lv_sub hl [2, 3, 4, 5, 1, 0] rfl
                    try simp only [nI_1] at hl
                    exact ih1 (iv1, av1, t1_4 + 1, t1_5 + 1) _ _ ⟨hf8, i9 + 1, j9 + 1, M9, by rw [e4, nI_1], by rw [e5, nI_1], by omega, mg_c s1 s2 hm9 hi9 hj9 r9, hc9⟩ hl
                  · exact absurd kb c_11
              · exact absurd ka c_9
        · have ka : nI ((cds p9).getD j9 0) ≤ nI ((cds p8).getD i9 0) := nI_le (by omega) (by omega)
          have kb : ¬ nI ((cds p8).getD i9 0) ≤ nI ((cds p9).getD j9 0) := nI_ge r9 (by omega)
          refine zz (fun _ _ => lv_iload hx hb dX0_compareGraphs_24 (lv_at hl 5 rfl)) ?_
          refine zval (v' := .int (nI j9)) (congrArg Value.int e5) ?_
          refine zz (fun _ _ => lv_aload_n hx hb dX0_compareGraphs_26 rfl (lv_at hl 3 rfl)) ?_
          refine z_get (v := .int (iv1 (4 + 1 + 2 * g9) 1)) C fd_X0_35 (rd_6 (ck_g hg)) rfl dX0_compareGraphs_27 ?_
          refine zval (v' := .int (nI (cds p9).length)) (congrArg Value.int hG21.1) ?_
          refine zb (fun _ _ => lv_icmp_ge (tgt := 59) hx hb dX0_compareGraphs_30 (by decide)) (fun c_12 => ?_) (fun c_12 => ?_)
          · exact absurd c_12 k2
          · refine zz (fun _ _ => lv_iload hx hb dX0_compareGraphs_33 (lv_at hl 4 rfl)) ?_
            refine zval (v' := .int (nI i9)) (congrArg Value.int e4) ?_
            refine zz (fun _ _ => lv_aload_n hx hb dX0_compareGraphs_35 rfl (lv_at hl 2 rfl)) ?_
            refine z_get (v := .int (iv1 (42 + 1 + 2 * g9) 1)) C fd_X0_35 (rd_6 (ck_b hg)) rfl dX0_compareGraphs_36 ?_
            refine zval (v' := .int (nI (cds p8).length)) (congrArg Value.int hG11.1) ?_
            refine zb (fun _ _ => lv_icmp_ge (tgt := 78) hx hb dX0_compareGraphs_39 (by decide)) (fun c_13 => ?_) (fun c_13 => ?_)
            · exact absurd c_13 k1
            · refine zz (fun _ _ => lv_aload_n hx hb dX0_compareGraphs_42 rfl (lv_at hl 2 rfl)) ?_
              refine z_get (v := .ref (x + ((42 + 1 + 2 * g9) + 1))) C fd_X0_40 (rd_6 (ck_b hg)) rfl dX0_compareGraphs_43 ?_
              refine zz (fun _ _ => lv_iload hx hb dX0_compareGraphs_46 (lv_at hl 4 rfl)) ?_
              refine zval (v' := .int (nI i9)) (congrArg Value.int e4) ?_
              refine z_iald (f := av1 ((42 + 1 + 2 * g9) + 1)) C (rd_7 (nb_6_1 (ck_b hg))) (by first | assumption | (apply vp_in_nI <;> omega)) dX0_compareGraphs_48 ?_
              refine zval (v' := .int (nI ((cds p8).getD i9 0))) (congrArg Value.int (rdI (hG11.2.2 i9 hi9) (by omega))) ?_
              refine zz (fun _ _ => lv_aload_n hx hb dX0_compareGraphs_49 rfl (lv_at hl 3 rfl)) ?_
              refine z_get (v := .ref (x + ((4 + 1 + 2 * g9) + 1))) C fd_X0_40 (rd_6 (ck_g hg)) rfl dX0_compareGraphs_50 ?_
              refine zz (fun _ _ => lv_iload hx hb dX0_compareGraphs_53 (lv_at hl 5 rfl)) ?_
              refine zval (v' := .int (nI j9)) (congrArg Value.int e5) ?_
              refine z_iald (f := av1 ((4 + 1 + 2 * g9) + 1)) C (rd_7 (nb_6_1 (ck_g hg))) (by first | assumption | (apply vp_in_nI <;> omega)) dX0_compareGraphs_55 ?_
              refine zval (v' := .int (nI ((cds p9).getD j9 0))) (congrArg Value.int (rdI (hG21.2.2 j9 hj9) (by omega))) ?_
              refine zb (fun _ _ => lv_icmp_ge (tgt := 78) hx hb dX0_compareGraphs_56 (by decide)) (fun c_14 => ?_) (fun c_14 => ?_)
              · refine zz (fun _ _ => lv_iload hx hb dX0_compareGraphs_78 (lv_at hl 4 rfl)) ?_
                refine zval (v' := .int (nI i9)) (congrArg Value.int e4) ?_
                refine zz (fun _ _ => lv_aload_n hx hb dX0_compareGraphs_80 rfl (lv_at hl 2 rfl)) ?_
                refine z_get (v := .int (iv1 (42 + 1 + 2 * g9) 1)) C fd_X0_35 (rd_6 (ck_b hg)) rfl dX0_compareGraphs_81 ?_
                refine zval (v' := .int (nI (cds p8).length)) (congrArg Value.int hG11.1) ?_
                refine zb (fun _ _ => lv_icmp_ge (tgt := 104) hx hb dX0_compareGraphs_84 (by decide)) (fun c_15 => ?_) (fun c_15 => ?_)
                · exact absurd c_15 k1
                · refine zz (fun _ _ => lv_aload_n hx hb dX0_compareGraphs_87 rfl (lv_at hl 3 rfl)) ?_
                  refine z_get (v := .ref (x + ((4 + 1 + 2 * g9) + 1))) C fd_X0_40 (rd_6 (ck_g hg)) rfl dX0_compareGraphs_88 ?_
                  refine zz (fun _ _ => lv_iload hx hb dX0_compareGraphs_91 (lv_at hl 5 rfl)) ?_
                  refine zval (v' := .int (nI j9)) (congrArg Value.int e5) ?_
                  refine z_iald (f := av1 ((4 + 1 + 2 * g9) + 1)) C (rd_7 (nb_6_1 (ck_g hg))) (by first | assumption | (apply vp_in_nI <;> omega)) dX0_compareGraphs_93 ?_
                  refine zval (v' := .int (nI ((cds p9).getD j9 0))) (congrArg Value.int (rdI (hG21.2.2 j9 hj9) (by omega))) ?_
                  refine zz (fun _ _ => lv_aload_n hx hb dX0_compareGraphs_94 rfl (lv_at hl 2 rfl)) ?_
                  refine z_get (v := .ref (x + ((42 + 1 + 2 * g9) + 1))) C fd_X0_40 (rd_6 (ck_b hg)) rfl dX0_compareGraphs_95 ?_
                  refine zz (fun _ _ => lv_iload hx hb dX0_compareGraphs_98 (lv_at hl 4 rfl)) ?_
                  refine zval (v' := .int (nI i9)) (congrArg Value.int e4) ?_
                  refine z_iald (f := av1 ((42 + 1 + 2 * g9) + 1)) C (rd_7 (nb_6_1 (ck_b hg))) (by first | assumption | (apply vp_in_nI <;> omega)) dX0_compareGraphs_100 ?_
                  refine zval (v' := .int (nI ((cds p8).getD i9 0))) (congrArg Value.int (rdI (hG11.2.2 i9 hi9) (by omega))) ?_
                  refine zb (fun _ _ => lv_icmp_ge (tgt := 123) hx hb dX0_compareGraphs_101 (by decide)) (fun c_16 => ?_) (fun c_16 => ?_)
                  · exact absurd c_16 kb
                  · refine zz (fun _ _ => lv_aload_n hx hb dX0_compareGraphs_104 rfl (lv_at hl 0 rfl)) ?_
                    refine zz (fun _ _ => lv_iload_n hx hb dX0_compareGraphs_105 rfl (lv_at hl 1 rfl)) ?_
                    refine zz (fun _ _ => lv_aload_n hx hb dX0_compareGraphs_106 rfl (lv_at hl 3 rfl)) ?_
                    refine z_get (v := .ref (x + ((4 + 1 + 2 * g9) + 1))) C fd_X0_40 (rd_6 (ck_g hg)) rfl dX0_compareGraphs_107 ?_
                    refine zz (fun _ _ => lv_iload hx hb dX0_compareGraphs_110 (lv_at hl 5 rfl)) ?_
                    refine zval (v' := .int (nI j9)) (congrArg Value.int e5) ?_
                    refine z_iald (f := av1 ((4 + 1 + 2 * g9) + 1)) C (rd_7 (nb_6_1 (ck_g hg))) (by first | assumption | (apply vp_in_nI <;> omega)) dX0_compareGraphs_112 ?_
                    refine zval (v' := .int (nI ((cds p9).getD j9 0))) (congrArg Value.int (rdI (hG21.2.2 j9 hj9) (by omega))) ?_
                    refine zz (fun _ _ => lv_iconst (v := 1) hx hb dX0_compareGraphs_113 (by decide)) ?_
                    refine zval (v' := .int (tI true)) (congrArg Value.int rfl) ?_
                    refine zqVN (As := [.int (nI g9), .int (nI ((cds p9).getD j9 0)), .int (tI true)]) (rest := []) C hl.1 lk_X0_43 (hX0_note hc9 (by rw [List.length_append]; omega)) (rd_16 (by decide)) rfl rfl rfl (Nat.le_of_ble_eq_true rfl) ⟨by decide, by decide, by decide, by decide⟩ dX0_compareGraphs_114 (fun iv17 av17 sz h17 => ?_)
                    refine zeq (M' := (cm aC x iv17 av17 R)) rfl ?_
                    refine zs (fun _ _ => lv_iinc (v := t1_5 + 1) (lv' := [(5, .int (t1_5 + 1)), (0, .ref (x + 57)), (1, .int (nI g9)), (2, .ref (x + (42 + 1 + 2 * g9))), (3, .ref (x + (4 + 1 + 2 * g9))), (4, .int (t1_4))]) hx hb dX0_compareGraphs_117 hl (k := 5) rfl rfl (by decide) rfl) (fun ls hl => ?_)
                    refine zz (fun _ _ => lv_goto (tgt := 6) hx hb dX0_compareGraphs_120 (by decide)) ?_
                    have hl := lv_sub hl [1, 2, 3, 4, 5, 0] rfl
                    try simp only [nI_1] at hl
                    exact ih1 (iv17, av17, t1_4, t1_5 + 1) _ _ ⟨hf8.trans h17.1, i9, j9 + 1, M9 ++ [(g9, (cds p9).getD j9 0, true)], e4, by rw [e5, nI_1], by omega, mg_b s1 s2 hm9 hj9 (drop_all s1 (Or.inr r9) hil9), by rw [← List.append_assoc]; exact h17.2⟩ hl
              · exact absurd ka c_14
      · have k2 : nI (cds p9).length ≤ nI j9 := nI_le (by omega) (by omega)
        refine zz (fun _ _ => lv_iload hx hb dX0_compareGraphs_24 (lv_at hl 5 rfl)) ?_
        refine zval (v' := .int (nI j9)) (congrArg Value.int e5) ?_
        refine zz (fun _ _ => lv_aload_n hx hb dX0_compareGraphs_26 rfl (lv_at hl 3 rfl)) ?_
        refine z_get (v := .int (iv1 (4 + 1 + 2 * g9) 1)) C fd_X0_35 (rd_6 (ck_g hg)) rfl dX0_compareGraphs_27 ?_
        refine zval (v' := .int (nI (cds p9).length)) (congrArg Value.int hG21.1) ?_
        refine zb (fun _ _ => lv_icmp_ge (tgt := 59) hx hb dX0_compareGraphs_30 (by decide)) (fun c_18 => ?_) (fun c_18 => ?_)
        · refine zz (fun _ _ => lv_aload_n hx hb dX0_compareGraphs_59 rfl (lv_at hl 0 rfl)) ?_
          refine zz (fun _ _ => lv_iload_n hx hb dX0_compareGraphs_60 rfl (lv_at hl 1 rfl)) ?_
          refine zz (fun _ _ => lv_aload_n hx hb dX0_compareGraphs_61 rfl (lv_at hl 2 rfl)) ?_
          refine z_get (v := .ref (x + ((42 + 1 + 2 * g9) + 1))) C fd_X0_40 (rd_6 (ck_b hg)) rfl dX0_compareGraphs_62 ?_
          refine zz (fun _ _ => lv_iload hx hb dX0_compareGraphs_65 (lv_at hl 4 rfl)) ?_
          refine zval (v' := .int (nI i9)) (congrArg Value.int e4) ?_
          refine z_iald (f := av1 ((42 + 1 + 2 * g9) + 1)) C (rd_7 (nb_6_1 (ck_b hg))) (by first | assumption | (apply vp_in_nI <;> omega)) dX0_compareGraphs_67 ?_
          refine zval (v' := .int (nI ((cds p8).getD i9 0))) (congrArg Value.int (rdI (hG11.2.2 i9 hi9) (by omega))) ?_
          refine zz (fun _ _ => lv_iconst (v := 0) hx hb dX0_compareGraphs_68 (by decide)) ?_
          refine zval (v' := .int (tI false)) (congrArg Value.int rfl) ?_
          refine zqVN (As := [.int (nI g9), .int (nI ((cds p8).getD i9 0)), .int (tI false)]) (rest := []) C hl.1 lk_X0_43 (hX0_note hc9 (by rw [List.length_append]; omega)) (rd_16 (by decide)) rfl rfl rfl (Nat.le_of_ble_eq_true rfl) ⟨by decide, by decide, by decide, by decide⟩ dX0_compareGraphs_69 (fun iv19 av19 sz h19 => ?_)
          refine zeq (M' := (cm aC x iv19 av19 R)) rfl ?_
          refine zs (fun _ _ => lv_iinc (v := t1_4 + 1) (lv' := [(4, .int (t1_4 + 1)), (0, .ref (x + 57)), (1, .int (nI g9)), (2, .ref (x + (42 + 1 + 2 * g9))), (3, .ref (x + (4 + 1 + 2 * g9))), (5, .int (t1_5))]) hx hb dX0_compareGraphs_72 hl (k := 4) rfl rfl (by decide) rfl) (fun ls hl => ?_)
          refine zz (fun _ _ => lv_goto (tgt := 6) hx hb dX0_compareGraphs_75 (by decide)) ?_
          have hl := lv_sub hl [1, 2, 3, 4, 0, 5] rfl
          try simp only [nI_1] at hl
          exact ih1 (iv19, av19, t1_4 + 1, t1_5) _ _ ⟨hf8.trans h19.1, i9 + 1, j9, M9 ++ [(g9, (cds p8).getD i9 0, false)], by rw [e4, nI_1], e5, by omega, mg_a s1 s2 hm9 hi9 (drop_all s2 (Or.inl (by omega)) hjl9), by rw [← List.append_assoc]; exact h19.2⟩ hl
        · exact absurd k2 c_18
    · refine zz (fun _ _ => lv_iload hx hb dX0_compareGraphs_15 (lv_at hl 5 rfl)) ?_
      refine zval (v' := .int (nI j9)) (congrArg Value.int e5) ?_
      refine zz (fun _ _ => lv_aload_n hx hb dX0_compareGraphs_17 rfl (lv_at hl 3 rfl)) ?_
      refine z_get (v := .int (iv1 (4 + 1 + 2 * g9) 1)) C fd_X0_35 (rd_6 (ck_g hg)) rfl dX0_compareGraphs_18 ?_
      refine zval (v' := .int (nI (cds p9).length)) (congrArg Value.int hG21.1) ?_
      refine zb (fun _ _ => lv_icmp_ge (tgt := 132) hx hb dX0_compareGraphs_21 (by decide)) (fun c_20 => ?_) (fun c_20 => ?_)
      · exact z_vret C hr hlk dX0_compareGraphs_132 (zpN_mk (a := iv1) (b := av1) ⟨hf8, M9, by have h9 : i9 = (cds p8).length := Nat.le_antisymm hil9 (Nat.le_of_not_lt (fun q => c_2 (nI_lt q (by omega)))); have h8 : j9 = (cds p9).length := Nat.le_antisymm hjl9 ((nI_leI (by omega) (by omega)).mp c_20); rw [h9, h8] at hm9; exact hm9, hc9⟩)
      · have hj9 : j9 < (cds p9).length := Nat.lt_of_not_le (fun q => c_20 (nI_le q (by omega)))
        have hb2 := cds_lt ho2 hj9
        have hie9 : i9 = (cds p8).length := Nat.le_antisymm hil9 (Nat.le_of_not_lt (fun q => c_2 (nI_lt q (by omega))))
        have k1 : nI (cds p8).length ≤ nI i9 := nI_le (by omega) (by omega)
        refine zz (fun _ _ => lv_iload hx hb dX0_compareGraphs_24 (lv_at hl 5 rfl)) ?_
        refine zval (v' := .int (nI j9)) (congrArg Value.int e5) ?_
        refine zz (fun _ _ => lv_aload_n hx hb dX0_compareGraphs_26 rfl (lv_at hl 3 rfl)) ?_
        refine z_get (v := .int (iv1 (4 + 1 + 2 * g9) 1)) C fd_X0_35 (rd_6 (ck_g hg)) rfl dX0_compareGraphs_27 ?_
        refine zval (v' := .int (nI (cds p9).length)) (congrArg Value.int hG21.1) ?_
        refine zb (fun _ _ => lv_icmp_ge (tgt := 59) hx hb dX0_compareGraphs_30 (by decide)) (fun c_21 => ?_) (fun c_21 => ?_)
        · exact absurd c_21 c_20
        · refine zz (fun _ _ => lv_iload hx hb dX0_compareGraphs_33 (lv_at hl 4 rfl)) ?_
          refine zval (v' := .int (nI i9)) (congrArg Value.int e4) ?_
          refine zz (fun _ _ => lv_aload_n hx hb dX0_compareGraphs_35 rfl (lv_at hl 2 rfl)) ?_
          refine z_get (v := .int (iv1 (42 + 1 + 2 * g9) 1)) C fd_X0_35 (rd_6 (ck_b hg)) rfl dX0_compareGraphs_36 ?_
          refine zval (v' := .int (nI (cds p8).length)) (congrArg Value.int hG11.1) ?_
          refine zb (fun _ _ => lv_icmp_ge (tgt := 78) hx hb dX0_compareGraphs_39 (by decide)) (fun c_22 => ?_) (fun c_22 => ?_)
          · refine zz (fun _ _ => lv_iload hx hb dX0_compareGraphs_78 (lv_at hl 4 rfl)) ?_
            refine zval (v' := .int (nI i9)) (congrArg Value.int e4) ?_
            refine zz (fun _ _ => lv_aload_n hx hb dX0_compareGraphs_80 rfl (lv_at hl 2 rfl)) ?_
            refine z_get (v := .int (iv1 (42 + 1 + 2 * g9) 1)) C fd_X0_35 (rd_6 (ck_b hg)) rfl dX0_compareGraphs_81 ?_
            refine zval (v' := .int (nI (cds p8).length)) (congrArg Value.int hG11.1) ?_
            refine zb (fun _ _ => lv_icmp_ge (tgt := 104) hx hb dX0_compareGraphs_84 (by decide)) (fun c_23 => ?_) (fun c_23 => ?_)
            · refine zz (fun _ _ => lv_aload_n hx hb dX0_compareGraphs_104 rfl (lv_at hl 0 rfl)) ?_
              refine zz (fun _ _ => lv_iload_n hx hb dX0_compareGraphs_105 rfl (lv_at hl 1 rfl)) ?_
              refine zz (fun _ _ => lv_aload_n hx hb dX0_compareGraphs_106 rfl (lv_at hl 3 rfl)) ?_
              refine z_get (v := .ref (x + ((4 + 1 + 2 * g9) + 1))) C fd_X0_40 (rd_6 (ck_g hg)) rfl dX0_compareGraphs_107 ?_
              refine zz (fun _ _ => lv_iload hx hb dX0_compareGraphs_110 (lv_at hl 5 rfl)) ?_
              refine zval (v' := .int (nI j9)) (congrArg Value.int e5) ?_
              refine z_iald (f := av1 ((4 + 1 + 2 * g9) + 1)) C (rd_7 (nb_6_1 (ck_g hg))) (by first | assumption | (apply vp_in_nI <;> omega)) dX0_compareGraphs_112 ?_
              refine zval (v' := .int (nI ((cds p9).getD j9 0))) (congrArg Value.int (rdI (hG21.2.2 j9 hj9) (by omega))) ?_
              refine zz (fun _ _ => lv_iconst (v := 1) hx hb dX0_compareGraphs_113 (by decide)) ?_
              refine zval (v' := .int (tI true)) (congrArg Value.int rfl) ?_
              refine zqVN (As := [.int (nI g9), .int (nI ((cds p9).getD j9 0)), .int (tI true)]) (rest := []) C hl.1 lk_X0_43 (hX0_note hc9 (by rw [List.length_append]; omega)) (rd_16 (by decide)) rfl rfl rfl (Nat.le_of_ble_eq_true rfl) ⟨by decide, by decide, by decide, by decide⟩ dX0_compareGraphs_114 (fun iv24 av24 sz h24 => ?_)
              refine zeq (M' := (cm aC x iv24 av24 R)) rfl ?_
              refine zs (fun _ _ => lv_iinc (v := t1_5 + 1) (lv' := [(5, .int (t1_5 + 1)), (0, .ref (x + 57)), (1, .int (nI g9)), (2, .ref (x + (42 + 1 + 2 * g9))), (3, .ref (x + (4 + 1 + 2 * g9))), (4, .int (t1_4))]) hx hb dX0_compareGraphs_117 hl (k := 5) rfl rfl (by decide) rfl) (fun ls hl => ?_)
              refine zz (fun _ _ => lv_goto (tgt := 6) hx hb dX0_compareGraphs_120 (by decide)) ?_
              have hl := lv_sub hl [1, 2, 3, 4, 5, 0] rfl
              try simp only [nI_1] at hl
              exact ih1 (iv24, av24, t1_4, t1_5 + 1) _ _ ⟨hf8.trans h24.1, i9, j9 + 1, M9 ++ [(g9, (cds p9).getD j9 0, true)], e4, by rw [e5, nI_1], by omega, mg_b s1 s2 hm9 hj9 (drop_all s1 (Or.inl hie9) hil9), by rw [← List.append_assoc]; exact h24.2⟩ hl
            · exact absurd k1 c_23
          · exact absurd k1 c_22
  · intro a1 sz ls hI1 hl
    obtain ⟨iv1, av1, t1_4, t1_5⟩ := a1
    dsimp only at hI1 hl
    refine zeq (M' := (cm aC x iv1 av1 R)) rfl ?_
    obtain ⟨hf8, i9, j9, M9, e4, e5, hn9, hm9, hc9⟩ := id hI1
    have hG11 := hf8.G (by omega) hG1
    have hG21 := hf8.G (by omega) hG2
    have hil9 := hm9.2.2.2.2.2.1
    have hjl9 := hm9.2.2.2.2.2.2.1
    have hml9 := hm9.2.2.2.2.1
    refine zz (fun _ _ => lv_iload hx hb dX0_compareGraphs_6 (lv_at hl 4 rfl)) ?_
    refine zval (v' := .int (nI i9)) (congrArg Value.int e4) ?_
    refine zz (fun _ _ => lv_aload_n hx hb dX0_compareGraphs_8 rfl (lv_at hl 2 rfl)) ?_
    refine z_get (v := .int (iv1 (42 + 1 + 2 * g9) 1)) C fd_X0_35 (rd_6 (ck_b hg)) rfl dX0_compareGraphs_9 ?_
    refine zval (v' := .int (nI (cds p8).length)) (congrArg Value.int hG11.1) ?_
    refine zb (fun _ _ => lv_icmp_lt (tgt := 24) hx hb dX0_compareGraphs_12 (by decide)) (fun c_25 => ?_) (fun c_25 => ?_)
    · exact absurd c_25 (nI_nlt (by omega) (by omega))
    · refine zz (fun _ _ => lv_iload hx hb dX0_compareGraphs_15 (lv_at hl 5 rfl)) ?_
      refine zval (v' := .int (nI j9)) (congrArg Value.int e5) ?_
      refine zz (fun _ _ => lv_aload_n hx hb dX0_compareGraphs_17 rfl (lv_at hl 3 rfl)) ?_
      refine z_get (v := .int (iv1 (4 + 1 + 2 * g9) 1)) C fd_X0_35 (rd_6 (ck_g hg)) rfl dX0_compareGraphs_18 ?_
      refine zval (v' := .int (nI (cds p9).length)) (congrArg Value.int hG21.1) ?_
      refine zb (fun _ _ => lv_icmp_ge (tgt := 132) hx hb dX0_compareGraphs_21 (by decide)) (fun c_26 => ?_) (fun c_26 => ?_)
      · exact z_vret C hr hlk dX0_compareGraphs_132 (zpN_mk (a := iv1) (b := av1) ⟨hf8, M9, by have h9 : i9 = (cds p8).length := Nat.le_antisymm hil9 (Nat.le_of_not_lt (fun q => c_25 (nI_lt q (by omega)))); have h8 : j9 = (cds p9).length := Nat.le_antisymm hjl9 ((nI_leI (by omega) (by omega)).mp c_26); rw [h9, h8] at hm9; exact hm9, hc9⟩)
      · exact absurd (nI_le (by omega) (by omega)) c_26
