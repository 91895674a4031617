theorem rn_z {w : Int32} {n : Nat} (h : w = nI n) (hn : n ≤ 5) (hz : w ≤ 0) : n = 0 := by
  rcases Nat.eq_zero_or_pos n with q | q
  · exact q
  · rw [h] at hz; exact absurd hz (nI_nle q (by omega))
theorem rn_4 {w : Int32} {n : Nat} (h : w = nI n) (hn : n ≤ 5) (hz : w < 4) : n < 4 := by
  rw [h] at hz; exact (nI_ltI (b := 4) (by omega) (by decide)).mp hz
theorem rn_n1 {w : Int32} {n : Nat} {b : Bool} (h : w = nI n) (hn : n ≤ 5) (h0 : ¬ w ≤ 0) (hb : b = false) : ¬ (n = 0 ∨ (b = true ∧ n < 4)) := by
  rintro (q | q)
  · exact h0 (by rw [h, q]; decide)
  · rw [hb] at q; cases q.1
theorem rn_n2 {w : Int32} {n : Nat} {b : Bool} (h : w = nI n) (hn : n ≤ 5) (h0 : ¬ w ≤ 0) (h4 : ¬ w < 4) : ¬ (n = 0 ∨ (b = true ∧ n < 4)) := by
  rintro (q | q)
  · exact h0 (by rw [h, q]; decide)
  · exact h4 (by rw [h]; exact (nI_ltI (b := 4) (by omega) (by decide)).mpr q.2)
set_option maxHeartbeats 2000000 in
set_option maxRecDepth 10000 in
theorem hX9_run {l : Launch} {D : va_G} {aC : Nat → ClassId} {b0 sz : Nat} {r : Nat} {v : Nat → Int32} {A : Nat → Nat → Int32} {R : ZM} {Q : List Sq} {S : St} {TN : Nat → Bool} {FL : Nat → List Nat} (hQ : QR v A Q) (hL : FLr A TN FL) (hR : RC v A S) : Ct l D aC b0 yX9_run cX9_run 3 (some .int) 7 0 0 [.ref (r)] (mm aC r v A R) sz (zpI (fun v A => mm aC r v A R) (fun w' v' A' => rnP TN FL v A S Q w' v' A')) := by
  refine Ct.of (by decide) (Nat.le_of_ble_eq_true rfl) ?_
  intro p e s m below meth c ls C hr hlk hnm hl
  have hl : lv_has ls 3 [(0, .ref (r))] := hl
  obtain ⟨hx, hb, -, -, -⟩ := id C
  have hQl := hQ.2.1
  refine zz (fun _ _ => lv_aload_n hx hb dX9_run_0 rfl (lv_at hl 0 rfl)) ?_
  refine zz (fun _ _ => lv_iconst (v := 0) hx hb dX9_run_1 (by decide)) ?_
  refine z_put C fp_X9_129 (fun h => by cases h) rm_0 (Nat.le_of_ble_eq_true rfl) rfl rfl dX9_run_2 ?_
  refine zeq wm_f0 ?_
  refine zz (fun _ _ => lv_aload_n hx hb dX9_run_5 rfl (lv_at hl 0 rfl)) ?_
  refine zqVN (As := []) (rest := []) C hl.1 lk_X9_264 (hX9_keep (RC_v hR (by simp [upd]) (by simp [upd]) (fun _ _ _ => rfl))) rm_0 rfl rfl rfl (Nat.le_of_ble_eq_true rfl) ⟨by decide, by decide, by decide, by decide⟩ dX9_run_6 (fun v1 A1 sz h1 => ?_)
  refine zeq (M' := (mm aC r v1 A1 R)) rfl ?_
  refine zz (fun _ _ => lv_aload_n hx hb dX9_run_9 rfl (lv_at hl 0 rfl)) ?_
  refine zz (fun _ _ => lv_iconst (v := 0) hx hb dX9_run_10 (by decide)) ?_
  refine z_put C fp_X9_196 (fun h => by cases h) rm_0 (Nat.le_of_ble_eq_true rfl) rfl rfl dX9_run_11 ?_
  refine zeq wm_f41 ?_
  refine zz (fun _ _ => lv_aload_n hx hb dX9_run_14 rfl (lv_at hl 0 rfl)) ?_
  refine zz (fun _ _ => lv_iconst (v := (-1)) hx hb dX9_run_15 (by decide)) ?_
  refine z_put C fp_X9_113 (fun h => by cases h) rm_0 (Nat.le_of_ble_eq_true rfl) rfl rfl dX9_run_16 ?_
  refine zeq wm_f42 ?_
  refine zz (fun _ _ => lv_iconst (v := 0) hx hb dX9_run_19 (by decide)) ?_
  refine zs (fun _ _ => lv_istore_n (lv' := [(1, .int (0)), (0, .ref (r))]) hx hb dX9_run_20 rfl hl (by decide) rfl) (fun ls hl => ?_)
  have hl0 := lv_sub hl [1, 0] rfl
  refine z_loop (γ := (Nat → Int32) × (Nat → Nat → Int32)) (G := fun a => mm aC r a.1 a.2 R) (I := fun j a => rn0 v A S a.1 a.2) (lv := fun j a => [(0, .ref (r)), (1, .int (nI (j)))]) (12) ?_ ?_ ((upd (upd v1 41 0) 42 (-1)), A1) _ _ (rn0_0 hR h1) hl0
  · intro j2 a2 sz ls hj2 hI2 hl ih2
    obtain ⟨v2, A2⟩ := a2
    dsimp only at hI2 hl ih2
    refine zeq (M' := (mm aC r v2 A2 R)) rfl ?_
    refine zz (fun _ _ => lv_iload_n hx hb dX9_run_21 rfl (lv_at hl 1 rfl)) ?_
    refine zz (fun _ _ => lv_bipush (v := 12) hx hb dX9_run_22 (by decide)) ?_
    refine zval (v' := .int (nI 12)) (congrArg Value.int rfl) ?_
    refine zb (fun _ _ => lv_icmp_ge (tgt := 40) hx hb dX9_run_24 (by decide)) (fun c_3 => ?_) (fun c_3 => ?_)
    · exact absurd c_3 (nI_ge (by omega) (by omega))
    · refine zz (fun _ _ => lv_aload_n hx hb dX9_run_27 rfl (lv_at hl 0 rfl)) ?_
      refine z_get (v := .ref (r + 34)) C fd_X9_110 rm_0 rfl dX9_run_28 ?_
      refine zz (fun _ _ => lv_iload_n hx hb dX9_run_31 rfl (lv_at hl 1 rfl)) ?_
      refine zz (fun _ _ => lv_iconst (v := (-1)) hx hb dX9_run_32 (by decide)) ?_
      refine z_iast (f := A2 34) C rm_34 (by first | assumption | (apply vp_in_nI <;> omega)) dX9_run_33 ?_
      refine zeq wm_34 ?_
      refine zs (fun _ _ => lv_iinc (v := nI (j2) + 1) (lv' := [(1, .int (nI (j2) + 1)), (0, .ref (r))]) hx hb dX9_run_34 hl (k := 1) rfl rfl (by decide) rfl) (fun ls hl => ?_)
      refine zz (fun _ _ => lv_goto (tgt := 21) hx hb dX9_run_37 (by decide)) ?_
      have hl := lv_sub hl [1, 0] rfl
      try simp only [nI_1] at hl
      exact ih2 (v2, (u1 A2 34 (upd (A2 34) (Int32.toNatClampNeg (nI (j2))) ((-1))))) _ _ (rn0_34 hI2) hl
  · intro a2 sz ls hI2 hl
    obtain ⟨v2, A2⟩ := a2
    dsimp only at hI2 hl
    refine zeq (M' := (mm aC r v2 A2 R)) rfl ?_
    refine zz (fun _ _ => lv_iload_n hx hb dX9_run_21 rfl (lv_at hl 1 rfl)) ?_
    refine zz (fun _ _ => lv_bipush (v := 12) hx hb dX9_run_22 (by decide)) ?_
    refine zval (v' := .int (nI 12)) (congrArg Value.int rfl) ?_
    refine zb (fun _ _ => lv_icmp_ge (tgt := 40) hx hb dX9_run_24 (by decide)) (fun c_4 => ?_) (fun c_4 => ?_)
    · refine zz (fun _ _ => lv_iconst (v := 0) hx hb dX9_run_40 (by decide)) ?_
      refine zs (fun _ _ => lv_istore_n (lv' := [(1, .int (0)), (0, .ref (r))]) hx hb dX9_run_41 rfl hl (by decide) rfl) (fun ls hl => ?_)
      have hl0 := lv_sub hl [1, 0] rfl
      refine z_loop (γ := (Nat → Int32) × (Nat → Nat → Int32)) (G := fun a => mm aC r a.1 a.2 R) (I := fun j a => rn1 TN FL v A S Q j a.1 a.2) (lv := fun j a => [(0, .ref (r)), (1, .int (nI (j)))]) (Q.length) ?_ ?_ (v2, A2) _ _ (rn1_0 hI2) hl0
      · intro j5 a5 sz ls hj5 hI5 hl ih5
        obtain ⟨v5, A5⟩ := a5
        dsimp only at hI5 hl ih5
        refine zeq (M' := (mm aC r v5 A5 R)) rfl ?_
        obtain ⟨q5, eq5⟩ : ∃ t, Q[j5]? = some t := ⟨_, List.getElem?_eq_getElem hj5⟩
        obtain ⟨hF8, h42, hO8, S8, w8, e8, hR8, h41⟩ := id hI5
        have hE5 := (hQ.2.2 j5 q5 eq5).1.kept (A' := A5) (fun q hq => hF8.2.2.2 q (Or.inl hq))
        have hq5 := (hQ.2.2 j5 q5 eq5).2
        refine zz (fun _ _ => lv_iload_n hx hb dX9_run_42 rfl (lv_at hl 1 rfl)) ?_
        refine zz (fun _ _ => lv_aload_n hx hb dX9_run_43 rfl (lv_at hl 0 rfl)) ?_
        refine z_get (v := .int (v5 1)) C fd_X9_132 rm_0 rfl dX9_run_44 ?_
        refine zval (v' := .int (nI Q.length)) (congrArg Value.int (hI5.1.2.1.trans hQ.1)) ?_
        refine zb (fun _ _ => lv_icmp_ge (tgt := 98) hx hb dX9_run_47 (by decide)) (fun c_6 => ?_) (fun c_6 => ?_)
        · exact absurd c_6 (nI_ge (by omega) (by omega))
        · refine zz (fun _ _ => lv_aload_n hx hb dX9_run_50 rfl (lv_at hl 0 rfl)) ?_
          refine zz (fun _ _ => lv_iload_n hx hb dX9_run_51 rfl (lv_at hl 1 rfl)) ?_
          refine zqVI (As := [.int (nI (j5))]) (rest := []) C hl.1 lk_X9_267 (hX9_act (by omega) hE5 hq5 (hL.kept (fun q hq => hF8.2.2.2 q (Or.inl hq))) hR8) rm_0 rfl rfl rfl (Nat.le_of_ble_eq_true rfl) ⟨by decide, by decide, by decide, by decide⟩ dX9_run_52 (fun w7 v7 A7 sz h7 => ?_)
          refine zeq (M' := (mm aC r v7 A7 R)) rfl ?_
          have hle8 := aAct_le (TN := TN) (FL := FL) (q := q5) (S := S8)
          refine zs (fun _ _ => lv_istore_n (lv' := [(2, .int (w7)), (0, .ref (r)), (1, .int (nI (j5)))]) hx hb dX9_run_55 rfl hl (by decide) rfl) (fun ls hl => ?_)
          refine zz (fun _ _ => lv_iload_n hx hb dX9_run_56 rfl (lv_at hl 0 rfl)) ?_
          refine zb (fun _ _ => lv_if_le (tgt := 92) hx hb dX9_run_57 (by decide)) (fun c_8 => ?_) (fun c_8 => ?_)
          · refine zs (fun _ _ => lv_iinc (v := nI (j5) + 1) (lv' := [(1, .int (nI (j5) + 1)), (2, .int (w7)), (0, .ref (r))]) hx hb dX9_run_92 hl (k := 2) rfl rfl (by decide) rfl) (fun ls hl => ?_)
            refine zz (fun _ _ => lv_goto (tgt := 42) hx hb dX9_run_95 (by decide)) ?_
            have hl := lv_sub hl [2, 0] rfl
            try simp only [nI_1] at hl
            exact ih5 (v7, A7) _ _ (rn1_next eq5 hF8 h42 hO8 e8 h41 h7 (Or.inl (rn_z h7.1 hle8 c_8))) hl
          · refine zz (fun _ _ => lv_aload_n hx hb dX9_run_60 rfl (lv_at hl 1 rfl)) ?_
            refine z_get (v := .ref (r + 4)) C fd_X9_19 rm_0 rfl dX9_run_61 ?_
            refine zz (fun _ _ => lv_iload_n hx hb dX9_run_64 rfl (lv_at hl 2 rfl)) ?_
            refine z_zald (f := A7 4) C rm_4 (by first | assumption | (apply vp_in_nI <;> omega)) dX9_run_65 ?_
            refine zval (v' := .int (tI q5.2.2.2.1)) (congrArg Value.int (rdI ((congrFun (h7.2.1.low 4 (by decide)) _).trans (hE5).2.2.2.1) (by omega))) ?_
            refine zb (fun _ _ => lv_if_eq (tgt := 74) hx hb dX9_run_66 (by decide)) (fun c_9 => ?_) (fun c_9 => ?_)
            · refine zz (fun _ _ => lv_aload_n hx hb dX9_run_74 rfl (lv_at hl 1 rfl)) ?_
              refine zqVN (As := []) (rest := []) C hl.1 lk_X9_270 (hX9_goBack (rn1_O hO8 h7.2.1)) rm_0 rfl rfl rfl (Nat.le_of_ble_eq_true rfl) ⟨by decide, by decide, by decide, by decide⟩ dX9_run_75 (fun v10 A10 sz h10 => ?_)
              refine zeq (M' := (mm aC r v10 A10 R)) rfl ?_
              refine zz (fun _ _ => lv_aload_n hx hb dX9_run_78 rfl (lv_at hl 1 rfl)) ?_
              refine zz (fun _ _ => lv_iload_n hx hb dX9_run_79 rfl (lv_at hl 2 rfl)) ?_
              refine z_put C fp_X9_113 (fun h => by cases h) rm_0 (Nat.le_of_ble_eq_true rfl) rfl rfl dX9_run_80 ?_
              refine zeq wm_f42 ?_
              refine zz (fun _ _ => lv_aload_n hx hb dX9_run_83 rfl (lv_at hl 1 rfl)) ?_
              refine zz (fun _ _ => lv_iconst (v := 0) hx hb dX9_run_84 (by decide)) ?_
              refine z_put C fp_X9_196 (fun h => by cases h) rm_0 (Nat.le_of_ble_eq_true rfl) rfl rfl dX9_run_85 ?_
              refine zeq wm_f41 ?_
              refine zz (fun _ _ => lv_iconst (v := (-1)) hx hb dX9_run_88 (by decide)) ?_
              refine zz (fun _ _ => lv_iload_n hx hb dX9_run_89 rfl (lv_at hl 0 rfl)) ?_
              refine zz (fun _ _ => lv_isub hx hb dX9_run_90) ?_
              exact z_iret C hr hlk dX9_run_91 (zpI_mk (a := (upd (upd v10 42 (nI (j5))) 41 0)) (b := A10) (rn_fail eq5 hF8 e8 h7 (rn_n1 h7.1 hle8 c_8 (tI_0.mp c_9)) h10))
            · refine zz (fun _ _ => lv_iload_n hx hb dX9_run_69 rfl (lv_at hl 0 rfl)) ?_
              refine zz (fun _ _ => lv_iconst (v := 4) hx hb dX9_run_70 (by decide)) ?_
              refine zb (fun _ _ => lv_icmp_lt (tgt := 92) hx hb dX9_run_71 (by decide)) (fun c_11 => ?_) (fun c_11 => ?_)
              · refine zs (fun _ _ => lv_iinc (v := nI (j5) + 1) (lv' := [(1, .int (nI (j5) + 1)), (2, .int (w7)), (0, .ref (r))]) hx hb dX9_run_92 hl (k := 2) rfl rfl (by decide) rfl) (fun ls hl => ?_)
                refine zz (fun _ _ => lv_goto (tgt := 42) hx hb dX9_run_95 (by decide)) ?_
                have hl := lv_sub hl [2, 0] rfl
                try simp only [nI_1] at hl
                exact ih5 (v7, A7) _ _ (rn1_next eq5 hF8 h42 hO8 e8 h41 h7 (Or.inr ⟨tI_1.mp c_9, rn_4 h7.1 hle8 c_11⟩)) hl
              · refine zz (fun _ _ => lv_aload_n hx hb dX9_run_74 rfl (lv_at hl 1 rfl)) ?_
                refine zqVN (As := []) (rest := []) C hl.1 lk_X9_270 (hX9_goBack (rn1_O hO8 h7.2.1)) rm_0 rfl rfl rfl (Nat.le_of_ble_eq_true rfl) ⟨by decide, by decide, by decide, by decide⟩ dX9_run_75 (fun v12 A12 sz h12 => ?_)
                refine zeq (M' := (mm aC r v12 A12 R)) rfl ?_
                refine zz (fun _ _ => lv_aload_n hx hb dX9_run_78 rfl (lv_at hl 1 rfl)) ?_
                refine zz (fun _ _ => lv_iload_n hx hb dX9_run_79 rfl (lv_at hl 2 rfl)) ?_
                refine z_put C fp_X9_113 (fun h => by cases h) rm_0 (Nat.le_of_ble_eq_true rfl) rfl rfl dX9_run_80 ?_
                refine zeq wm_f42 ?_
                refine zz (fun _ _ => lv_aload_n hx hb dX9_run_83 rfl (lv_at hl 1 rfl)) ?_
                refine zz (fun _ _ => lv_iconst (v := 0) hx hb dX9_run_84 (by decide)) ?_
                refine z_put C fp_X9_196 (fun h => by cases h) rm_0 (Nat.le_of_ble_eq_true rfl) rfl rfl dX9_run_85 ?_
                refine zeq wm_f41 ?_
                refine zz (fun _ _ => lv_iconst (v := (-1)) hx hb dX9_run_88 (by decide)) ?_
                refine zz (fun _ _ => lv_iload_n hx hb dX9_run_89 rfl (lv_at hl 0 rfl)) ?_
                refine zz (fun _ _ => lv_isub hx hb dX9_run_90) ?_
                exact z_iret C hr hlk dX9_run_91 (zpI_mk (a := (upd (upd v12 42 (nI (j5))) 41 0)) (b := A12) (rn_fail eq5 hF8 e8 h7 (rn_n2 h7.1 hle8 c_8 c_11) h12))
      · intro a5 sz ls hI5 hl
        obtain ⟨v5, A5⟩ := a5
        dsimp only at hI5 hl
        refine zeq (M' := (mm aC r v5 A5 R)) rfl ?_
        obtain ⟨hF8, h42, hO8, S8, w8, e8, hR8, h41⟩ := id hI5
        obtain ⟨ho8, n8, f8, hL8⟩ := id hR8
        obtain ⟨ho9, n9, f9, hO9⟩ := id hO8
        refine zz (fun _ _ => lv_iload_n hx hb dX9_run_42 rfl (lv_at hl 1 rfl)) ?_
        refine zz (fun _ _ => lv_aload_n hx hb dX9_run_43 rfl (lv_at hl 0 rfl)) ?_
        refine z_get (v := .int (v5 1)) C fd_X9_132 rm_0 rfl dX9_run_44 ?_
        refine zval (v' := .int (nI Q.length)) (congrArg Value.int (hI5.1.2.1.trans hQ.1)) ?_
        refine zb (fun _ _ => lv_icmp_ge (tgt := 98) hx hb dX9_run_47 (by decide)) (fun c_13 => ?_) (fun c_13 => ?_)
        · refine zz (fun _ _ => lv_aload_n hx hb dX9_run_98 rfl (lv_at hl 0 rfl)) ?_
          refine zqVN (As := []) (rest := []) C hl.1 lk_X9_273 (hX9_noteAll ho8 ho9 hL8 hO9) rm_0 rfl rfl rfl (Nat.le_of_ble_eq_true rfl) ⟨by decide, by decide, by decide, by decide⟩ dX9_run_99 (fun v14 A14 sz h14 => ?_)
          refine zeq (M' := (mm aC r v14 A14 R)) rfl ?_
          refine zz (fun _ _ => lv_aload_n hx hb dX9_run_102 rfl (lv_at hl 0 rfl)) ?_
          refine z_get (v := .int (v14 34)) C fd_X9_250 rm_0 rfl dX9_run_103 ?_
          exact z_iret C hr hlk dX9_run_106 (zpI_mk (a := v14) (b := A14) (rn_end hF8 h42 e8 hR8 h41 h14))
        · exact absurd (nI_le (Nat.le_refl _) (by omega)) c_13
    · exact absurd (nI_le (Nat.le_refl _) (by omega)) c_4
