set_option maxHeartbeats 2000000 in
set_option maxRecDepth 10000 in
theorem hX9_act {l : Launch} {D : va_G} {aC : Nat → ClassId} {b0 sz : Nat} {r : Nat} {v : Nat → Int32} {A : Nat → Nat → Int32} {R : ZM} {i : Nat} {q : Sq} {S : St} {TN : Nat → Bool} {FL : Nat → List Nat} (hi : i < 12) (hE : ER A i q) (hq : okQ q) (hL : FLr A TN FL) (hR : RC v A S) : Ct l D aC b0 yX9_act cX9_act 3 (some .int) 6 0 0 [.ref (r), .int (nI i)] (mm aC r v A R) sz (zpI (fun v A => mm aC r v A R) (fun w' v' A' => AR v A (aAct TN FL q S) w' v' A')) := by
  refine Ct.of (by decide) (Nat.le_of_ble_eq_true rfl) ?_
  intro p e s m below meth c ls C hr hlk hnm hl
  have hl : lv_has ls 3 [(0, .ref (r)), (1, .int (nI i))] := hl
  obtain ⟨hx, hb, -, -, -⟩ := id C
  refine zz (fun _ _ => lv_aload_n hx hb dX9_act_0 rfl (lv_at hl 0 rfl)) ?_
  refine zz (fun _ _ => lv_iconst (v := 1) hx hb dX9_act_1 (by decide)) ?_
  refine z_put C fp_X9_190 (fun h => by cases h) rm_0 (Nat.le_of_ble_eq_true rfl) rfl rfl dX9_act_2 ?_
  refine zeq wm_f43 ?_
  refine zz (fun _ _ => lv_iconst (v := 0) hx hb dX9_act_5 (by decide)) ?_
  refine zs (fun _ _ => lv_istore_n (lv' := [(2, .int (0)), (0, .ref (r)), (1, .int (nI i))]) hx hb dX9_act_6 rfl hl (by decide) rfl) (fun ls hl => ?_)
  have hl0 := lv_sub hl [1, 2, 0] rfl
  refine z_loop (γ := (Nat → Int32) × (Nat → Nat → Int32)) (G := fun a => mm aC r a.1 a.2 R) (I := fun j a => ac0 v A j a.1 a.2) (lv := fun j a => [(0, .ref (r)), (1, .int (nI i)), (2, .int (nI (j)))]) (4) ?_ ?_ ((upd v 43 1), A) _ _ ⟨rfl, fun _ _ => rfl, fun k hk => absurd hk (Nat.not_lt_zero _)⟩ hl0
  · intro j1 a1 sz ls hj1 hI1 hl ih1
    obtain ⟨v1, A1⟩ := a1
    dsimp only at hI1 hl ih1
    refine zeq (M' := (mm aC r v1 A1 R)) rfl ?_
    refine zz (fun _ _ => lv_iload_n hx hb dX9_act_7 rfl (lv_at hl 2 rfl)) ?_
    refine zz (fun _ _ => lv_iconst (v := 4) hx hb dX9_act_8 (by decide)) ?_
    refine zval (v' := .int (nI 4)) (congrArg Value.int rfl) ?_
    refine zb (fun _ _ => lv_icmp_ge (tgt := 25) hx hb dX9_act_9 (by decide)) (fun c_2 => ?_) (fun c_2 => ?_)
    · exact absurd c_2 (nI_ge (by omega) (by omega))
    · refine zz (fun _ _ => lv_aload_n hx hb dX9_act_12 rfl (lv_at hl 0 rfl)) ?_
      refine z_get (v := .ref (r + 35)) C fd_X9_117 rm_0 rfl dX9_act_13 ?_
      refine zz (fun _ _ => lv_iload_n hx hb dX9_act_16 rfl (lv_at hl 2 rfl)) ?_
      refine zz (fun _ _ => lv_iconst (v := (-1)) hx hb dX9_act_17 (by decide)) ?_
      refine z_iast (f := A1 35) C rm_35 (by first | assumption | (apply vp_in_nI <;> omega)) dX9_act_18 ?_
      refine zeq wm_35 ?_
      refine zs (fun _ _ => lv_iinc (v := nI (j1) + 1) (lv' := [(2, .int (nI (j1) + 1)), (0, .ref (r)), (1, .int (nI i))]) hx hb dX9_act_19 hl (k := 2) rfl rfl (by decide) rfl) (fun ls hl => ?_)
      refine zz (fun _ _ => lv_goto (tgt := 7) hx hb dX9_act_22 (by decide)) ?_
      have hl := lv_sub hl [1, 2, 0] rfl
      try simp only [nI_1] at hl
      exact ih1 (v1, (u1 A1 35 (upd (A1 35) (Int32.toNatClampNeg (nI (j1))) ((-1))))) _ _ (by dsimp only; rw [nI_clamp (n := j1) (by omega)]; exact ac0_next hI1) hl
  · intro a1 sz ls hI1 hl
    obtain ⟨v1, A1⟩ := a1
    dsimp only at hI1 hl
    refine zeq (M' := (mm aC r v1 A1 R)) rfl ?_
    have hF9 := ac0_FS hI1
    have hR9 := ac0_RC hI1 hR
    have hE9 := hE.kept hF9.1.low
    have hL9 := hL.kept hF9.1.low
    have hV9 := ac0_VW hI1
    have hk9 := hq.1
    refine zz (fun _ _ => lv_iload_n hx hb dX9_act_7 rfl (lv_at hl 2 rfl)) ?_
    refine zz (fun _ _ => lv_iconst (v := 4) hx hb dX9_act_8 (by decide)) ?_
    refine zval (v' := .int (nI 4)) (congrArg Value.int rfl) ?_
    refine zb (fun _ _ => lv_icmp_ge (tgt := 25) hx hb dX9_act_9 (by decide)) (fun c_3 => ?_) (fun c_3 => ?_)
    · refine zz (fun _ _ => lv_aload_n hx hb dX9_act_25 rfl (lv_at hl 0 rfl)) ?_
      refine z_get (v := .ref (r + 1)) C fd_X9_7 rm_0 rfl dX9_act_26 ?_
      refine zz (fun _ _ => lv_iload_n hx hb dX9_act_29 rfl (lv_at hl 1 rfl)) ?_
      refine z_iald (f := A1 1) C rm_1 (by first | assumption | (apply vp_in_nI <;> omega)) dX9_act_30 ?_
      refine zval (v' := .int (nI q.1)) (congrArg Value.int (rdI hE9.1 (by omega))) ?_
      by_cases c_4 : nI q.1 = 0
      · refine zz (fun _ _ => lv_tableIn (tgt := 84) (off := (53)) hx hb dX9_act_31 (by rw [c_4]; decide) (by rw [c_4]; decide) (by rw [c_4]; rfl) (by decide)) ?_
        have hkd9 : q.1 = 0 := kd hq.1 (by decide) rfl c_4
        obtain ⟨t9, ht9, et9, en9⟩ := okQ_to hq (by omega)
        refine zz (fun _ _ => lv_aload_n hx hb dX9_act_84 rfl (lv_at hl 0 rfl)) ?_
        refine zz (fun _ _ => lv_iload_n hx hb dX9_act_85 rfl (lv_at hl 1 rfl)) ?_
        refine zz (fun _ _ => lv_iconst (v := 0) hx hb dX9_act_86 (by decide)) ?_
        refine zval (v' := .int (nI 0)) (congrArg Value.int rfl) ?_
        refine zqVI (As := [.int (nI i), .int (nI 0)]) (rest := []) C hl.1 lk_X9_225 (hX9_add hi (by decide) ht9 (hE9.2.2.1.trans et9) (hE9.T hq) hV9 okG_0 hR9) rm_0 rfl rfl rfl (Nat.le_of_ble_eq_true rfl) ⟨by decide, by decide, by decide, by decide⟩ dX9_act_87 (fun w5 v5 A5 sz h5 => ?_)
        refine zeq (M' := (mm aC r v5 A5 R)) rfl ?_
        refine zb (fun _ _ => lv_if_eq (tgt := 97) hx hb dX9_act_90 (by decide)) (fun c_6 => ?_) (fun c_6 => ?_)
        · refine zz (fun _ _ => lv_iconst (v := 4) hx hb dX9_act_97 (by decide)) ?_
          exact z_iret C hr hlk dX9_act_98 (zpI_mk (a := v5) (b := A5) (AR_act hF9 ((ad_AR (hq.2.2.2.2.2.2.1 hkd9) h5).1 c_6) (by rw [aAct_0 (by omega), (show q.2.2.2.2.2 = [] from hq.2.2.2.2.2.2.2.2.2.2.2 (by omega)), en9])))
        · refine zz (fun _ _ => lv_iconst (v := 0) hx hb dX9_act_93 (by decide)) ?_
          refine zz (fun _ _ => lv_goto (tgt := 98) hx hb dX9_act_94 (by decide)) ?_
          exact z_iret C hr hlk dX9_act_98 (zpI_mk (a := v5) (b := A5) (AR_act hF9 ((ad_AR (hq.2.2.2.2.2.2.1 hkd9) h5).2 c_6) (by rw [aAct_0 (by omega), (show q.2.2.2.2.2 = [] from hq.2.2.2.2.2.2.2.2.2.2.2 (by omega)), en9])))
      · skip
        by_cases c_7 : nI q.1 = 1
        · refine zz (fun _ _ => lv_tableIn (tgt := 99) (off := (68)) hx hb dX9_act_31 (by rw [c_7]; decide) (by rw [c_7]; decide) (by rw [c_7]; rfl) (by decide)) ?_
          have hkd9 : q.1 = 1 := kd hq.1 (by decide) rfl c_7
          obtain ⟨t9, ht9, et9, en9⟩ := okQ_to hq (by omega)
          refine zz (fun _ _ => lv_aload_n hx hb dX9_act_99 rfl (lv_at hl 0 rfl)) ?_
          refine zz (fun _ _ => lv_iload_n hx hb dX9_act_100 rfl (lv_at hl 1 rfl)) ?_
          refine zz (fun _ _ => lv_iconst (v := 0) hx hb dX9_act_101 (by decide)) ?_
          refine zval (v' := .int (nI 0)) (congrArg Value.int rfl) ?_
          refine zqVN (As := [.int (nI i), .int (nI 0)]) (rest := []) C hl.1 lk_X9_221 (hX9_takeAway hi (by decide) ht9 (hE9.2.2.1.trans et9) (hE9.T hq) hV9 okG_0 hR9) rm_0 rfl rfl rfl (Nat.le_of_ble_eq_true rfl) ⟨by decide, by decide, by decide, by decide⟩ dX9_act_102 (fun v8 A8 sz h8 => ?_)
          refine zeq (M' := (mm aC r v8 A8 R)) rfl ?_
          refine zz (fun _ _ => lv_iconst (v := 0) hx hb dX9_act_105 (by decide)) ?_
          exact z_iret C hr hlk dX9_act_106 (zpI_mk (a := v8) (b := A8) (AR_act hF9 (tk_AR (hq.2.2.2.2.2.2.2.1 hkd9) h8) (by rw [aAct_0 (by omega), (show q.2.2.2.2.2 = [] from hq.2.2.2.2.2.2.2.2.2.2.2 (by omega)), en9])))
        · skip
          by_cases c_9 : nI q.1 = 2
          · refine zz (fun _ _ => lv_tableIn (tgt := 107) (off := (76)) hx hb dX9_act_31 (by rw [c_9]; decide) (by rw [c_9]; decide) (by rw [c_9]; rfl) (by decide)) ?_
            have hkd9 : q.1 = 2 := kd hq.1 (by decide) rfl c_9
            obtain ⟨t9, ht9, et9, en9⟩ := okQ_to hq (by omega)
            refine zz (fun _ _ => lv_aload_n hx hb dX9_act_107 rfl (lv_at hl 0 rfl)) ?_
            refine zz (fun _ _ => lv_iload_n hx hb dX9_act_108 rfl (lv_at hl 1 rfl)) ?_
            refine zqVI (As := [.int (nI i)]) (rest := []) C hl.1 lk_X9_231 (hX9_change hi hq.2.1 ht9 (hE9.2.1 (by omega)) (hE9.2.2.1.trans et9) (hE9.P hq) (hE9.T hq) hR9) rm_0 rfl rfl rfl (Nat.le_of_ble_eq_true rfl) ⟨by decide, by decide, by decide, by decide⟩ dX9_act_109 (fun w10 v10 A10 sz h10 => ?_)
            refine zeq (M' := (mm aC r v10 A10 R)) rfl ?_
            exact z_iret C hr hlk dX9_act_112 (zpI_mk (a := v10) (b := A10) (AR_act hF9 h10 (by rw [aAct_0 (by omega), en9])))
          · skip
            by_cases c_11 : nI q.1 = 3
            · refine zz (fun _ _ => lv_tableIn (tgt := 113) (off := (82)) hx hb dX9_act_31 (by rw [c_11]; decide) (by rw [c_11]; decide) (by rw [c_11]; rfl) (by decide)) ?_
              have hkd9 : q.1 = 3 := kd hq.1 (by decide) rfl c_11
              refine zz (fun _ _ => lv_aload_n hx hb dX9_act_113 rfl (lv_at hl 0 rfl)) ?_
              refine zz (fun _ _ => lv_iload_n hx hb dX9_act_114 rfl (lv_at hl 1 rfl)) ?_
              refine zz (fun _ _ => lv_iconst (v := 0) hx hb dX9_act_115 (by decide)) ?_
              refine zval (v' := .int (tI false)) (congrArg Value.int rfl) ?_
              refine zqVI (As := [.int (nI i), .int (tI false)]) (rest := []) C hl.1 lk_X9_234 (hX9_wipe hi hE9.2.2.1 (hq.2.2.2.1 (by omega)).2 hR9) rm_0 rfl rfl rfl (Nat.le_of_ble_eq_true rfl) ⟨by decide, by decide, by decide, by decide⟩ dX9_act_116 (fun w12 v12 A12 sz h12 => ?_)
              refine zeq (M' := (mm aC r v12 A12 R)) rfl ?_
              exact z_iret C hr hlk dX9_act_119 (zpI_mk (a := v12) (b := A12) (AR_act hF9 h12 (by rw [aAct_3 (by omega), show decide (q.1 = 5) = false by rw [hkd9]; rfl])))
            · skip
              by_cases c_13 : nI q.1 = 4
              · refine zz (fun _ _ => lv_tableIn (tgt := 120) (off := (89)) hx hb dX9_act_31 (by rw [c_13]; decide) (by rw [c_13]; decide) (by rw [c_13]; rfl) (by decide)) ?_
                have hkd9 : q.1 = 4 := kd hq.1 (by decide) rfl c_13
                obtain ⟨t9, ht9, et9, en9⟩ := okQ_to hq (by omega)
                refine zz (fun _ _ => lv_aload_n hx hb dX9_act_120 rfl (lv_at hl 0 rfl)) ?_
                refine z_get (v := .ref (r + 23)) C fd_X9_77 rm_0 rfl dX9_act_121 ?_
                refine zz (fun _ _ => lv_aload_n hx hb dX9_act_124 rfl (lv_at hl 0 rfl)) ?_
                refine z_get (v := .ref (r + 3)) C fd_X9_16 rm_0 rfl dX9_act_125 ?_
                refine zz (fun _ _ => lv_iload_n hx hb dX9_act_128 rfl (lv_at hl 1 rfl)) ?_
                refine z_iald (f := A1 3) C rm_3 (by first | assumption | (apply vp_in_nI <;> omega)) dX9_act_129 ?_
                refine zval (v' := .int (nI t9)) (congrArg Value.int (rdI (hE9.2.2.1.trans et9) (by omega))) ?_
                refine z_zald (f := A1 23) C rm_23 (by first | assumption | (apply vp_in_nI <;> omega)) dX9_act_130 ?_
                refine zval (v' := .int (tI (S.2.1 t9))) (congrArg Value.int (rdI (RC_there hR9 ht9) (by omega))) ?_
                refine zb (fun _ _ => lv_if_eq (tgt := 136) hx hb dX9_act_131 (by decide)) (fun c_14 => ?_) (fun c_14 => ?_)
                · refine zz (fun _ _ => lv_aload_n hx hb dX9_act_136 rfl (lv_at hl 0 rfl)) ?_
                  refine z_get (v := .ref (r + 23)) C fd_X9_77 rm_0 rfl dX9_act_137 ?_
                  refine zz (fun _ _ => lv_aload_n hx hb dX9_act_140 rfl (lv_at hl 0 rfl)) ?_
                  refine z_get (v := .ref (r + 3)) C fd_X9_16 rm_0 rfl dX9_act_141 ?_
                  refine zz (fun _ _ => lv_iload_n hx hb dX9_act_144 rfl (lv_at hl 1 rfl)) ?_
                  refine z_iald (f := A1 3) C rm_3 (by first | assumption | (apply vp_in_nI <;> omega)) dX9_act_145 ?_
                  refine zval (v' := .int (nI t9)) (congrArg Value.int (rdI (hE9.2.2.1.trans et9) (by omega))) ?_
                  refine zz (fun _ _ => lv_iconst (v := 1) hx hb dX9_act_146 (by decide)) ?_
                  refine z_zast (f := A1 23) C rm_23 (by first | assumption | (apply vp_in_nI <;> omega)) rfl dX9_act_147 ?_
                  refine zeq wm_23 ?_
                  refine zz (fun _ _ => lv_iconst (v := 0) hx hb dX9_act_148 (by decide)) ?_
                  exact z_iret C hr hlk dX9_act_149 (zpI_mk (a := v1) (b := (u1 A1 23 (upd (A1 23) (Int32.toNatClampNeg (nI t9)) (1)))) (AR_act hF9 (by rw [nI_clamp (by omega)]; exact mk_AR0 hR9 c_14) (by rw [aAct_4 hkd9, en9])))
                · refine zz (fun _ _ => lv_iconst (v := 1) hx hb dX9_act_134 (by decide)) ?_
                  exact z_iret C hr hlk dX9_act_135 (zpI_mk (a := v1) (b := A1) (AR_act hF9 (mk_AR1 hR9 c_14) (by rw [aAct_4 hkd9, en9])))
              · skip
                by_cases c_15 : nI q.1 = 5
                · refine zz (fun _ _ => lv_tableIn (tgt := 150) (off := (119)) hx hb dX9_act_31 (by rw [c_15]; decide) (by rw [c_15]; decide) (by rw [c_15]; rfl) (by decide)) ?_
                  have hkd9 : q.1 = 5 := kd hq.1 (by decide) rfl c_15
                  refine zz (fun _ _ => lv_aload_n hx hb dX9_act_150 rfl (lv_at hl 0 rfl)) ?_
                  refine zz (fun _ _ => lv_iload_n hx hb dX9_act_151 rfl (lv_at hl 1 rfl)) ?_
                  refine zz (fun _ _ => lv_iconst (v := 1) hx hb dX9_act_152 (by decide)) ?_
                  refine zval (v' := .int (tI true)) (congrArg Value.int rfl) ?_
                  refine zqVI (As := [.int (nI i), .int (tI true)]) (rest := []) C hl.1 lk_X9_234 (hX9_wipe hi hE9.2.2.1 (hq.2.2.2.1 (by omega)).2 hR9) rm_0 rfl rfl rfl (Nat.le_of_ble_eq_true rfl) ⟨by decide, by decide, by decide, by decide⟩ dX9_act_153 (fun w16 v16 A16 sz h16 => ?_)
                  refine zeq (M' := (mm aC r v16 A16 R)) rfl ?_
                  exact z_iret C hr hlk dX9_act_156 (zpI_mk (a := v16) (b := A16) (AR_act hF9 h16 (by rw [aAct_3 (by omega), show decide (q.1 = 5) = true by rw [hkd9]; rfl])))
                · skip
                  by_cases c_17 : nI q.1 = 6
                  · refine zz (fun _ _ => lv_tableIn (tgt := 163) (off := (132)) hx hb dX9_act_31 (by rw [c_17]; decide) (by rw [c_17]; decide) (by rw [c_17]; rfl) (by decide)) ?_
                    have hkd9 : q.1 = 6 := kd hq.1 (by decide) rfl c_17
                    obtain ⟨t9, ht9, et9, en9⟩ := okQ_to hq (by omega)
                    refine zz (fun _ _ => lv_aload_n hx hb dX9_act_163 rfl (lv_at hl 0 rfl)) ?_
                    refine zz (fun _ _ => lv_iload_n hx hb dX9_act_164 rfl (lv_at hl 1 rfl)) ?_
                    refine zqVI (As := [.int (nI i)]) (rest := []) C hl.1 lk_X9_241 (hX9_copy hi hq.1 hq.2.1 ht9 hE9.1 (hE9.2.1 (by omega)) (hE9.2.2.1.trans et9) hR9) rm_0 rfl rfl rfl (Nat.le_of_ble_eq_true rfl) ⟨by decide, by decide, by decide, by decide⟩ dX9_act_165 (fun w18 v18 A18 sz h18 => ?_)
                    refine zeq (M' := (mm aC r v18 A18 R)) rfl ?_
                    exact z_iret C hr hlk dX9_act_168 (zpI_mk (a := v18) (b := A18) (AR_act hF9 h18 (by rw [aAct_6 (by omega) (by omega), en9])))
                  · skip
                    by_cases c_19 : nI q.1 = 7
                    · refine zz (fun _ _ => lv_tableIn (tgt := 163) (off := (132)) hx hb dX9_act_31 (by rw [c_19]; decide) (by rw [c_19]; decide) (by rw [c_19]; rfl) (by decide)) ?_
                      have hkd9 : q.1 = 7 := kd hq.1 (by decide) rfl c_19
                      obtain ⟨t9, ht9, et9, en9⟩ := okQ_to hq (by omega)
                      refine zz (fun _ _ => lv_aload_n hx hb dX9_act_163 rfl (lv_at hl 0 rfl)) ?_
                      refine zz (fun _ _ => lv_iload_n hx hb dX9_act_164 rfl (lv_at hl 1 rfl)) ?_
                      refine zqVI (As := [.int (nI i)]) (rest := []) C hl.1 lk_X9_241 (hX9_copy hi hq.1 hq.2.1 ht9 hE9.1 (hE9.2.1 (by omega)) (hE9.2.2.1.trans et9) hR9) rm_0 rfl rfl rfl (Nat.le_of_ble_eq_true rfl) ⟨by decide, by decide, by decide, by decide⟩ dX9_act_165 (fun w20 v20 A20 sz h20 => ?_)
                      refine zeq (M' := (mm aC r v20 A20 R)) rfl ?_
                      exact z_iret C hr hlk dX9_act_168 (zpI_mk (a := v20) (b := A20) (AR_act hF9 h20 (by rw [aAct_6 (by omega) (by omega), en9])))
                    · skip
                      by_cases c_21 : nI q.1 = 8
                      · refine zz (fun _ _ => lv_tableIn (tgt := 163) (off := (132)) hx hb dX9_act_31 (by rw [c_21]; decide) (by rw [c_21]; decide) (by rw [c_21]; rfl) (by decide)) ?_
                        have hkd9 : q.1 = 8 := kd hq.1 (by decide) rfl c_21
                        obtain ⟨t9, ht9, et9, en9⟩ := okQ_to hq (by omega)
                        refine zz (fun _ _ => lv_aload_n hx hb dX9_act_163 rfl (lv_at hl 0 rfl)) ?_
                        refine zz (fun _ _ => lv_iload_n hx hb dX9_act_164 rfl (lv_at hl 1 rfl)) ?_
                        refine zqVI (As := [.int (nI i)]) (rest := []) C hl.1 lk_X9_241 (hX9_copy hi hq.1 hq.2.1 ht9 hE9.1 (hE9.2.1 (by omega)) (hE9.2.2.1.trans et9) hR9) rm_0 rfl rfl rfl (Nat.le_of_ble_eq_true rfl) ⟨by decide, by decide, by decide, by decide⟩ dX9_act_165 (fun w22 v22 A22 sz h22 => ?_)
                        refine zeq (M' := (mm aC r v22 A22 R)) rfl ?_
                        exact z_iret C hr hlk dX9_act_168 (zpI_mk (a := v22) (b := A22) (AR_act hF9 h22 (by rw [aAct_6 (by omega) (by omega), en9])))
                      · skip
                        by_cases c_23 : nI q.1 = 9
                        · refine zz (fun _ _ => lv_tableIn (tgt := 157) (off := (126)) hx hb dX9_act_31 (by rw [c_23]; decide) (by rw [c_23]; decide) (by rw [c_23]; rfl) (by decide)) ?_
                          have hkd9 : q.1 = 9 := kd hq.1 (by decide) rfl c_23
                          obtain ⟨t9, ht9, et9, en9⟩ := okQ_to hq (by omega)
                          refine zz (fun _ _ => lv_aload_n hx hb dX9_act_157 rfl (lv_at hl 0 rfl)) ?_
                          refine zz (fun _ _ => lv_iload_n hx hb dX9_act_158 rfl (lv_at hl 1 rfl)) ?_
                          refine zqVI (As := [.int (nI i)]) (rest := []) C hl.1 lk_X9_238 (hX9_readFile hi (hq.2.2.1 hkd9) ht9 (hE9.2.1 (by omega)) (hE9.2.2.1.trans et9) hL9 hR9) rm_0 rfl rfl rfl (Nat.le_of_ble_eq_true rfl) ⟨by decide, by decide, by decide, by decide⟩ dX9_act_159 (fun w24 v24 A24 sz h24 => ?_)
                          refine zeq (M' := (mm aC r v24 A24 R)) rfl ?_
                          exact z_iret C hr hlk dX9_act_162 (zpI_mk (a := v24) (b := A24) (AR_act hF9 h24 (by rw [aAct_9 hkd9, en9])))
                        · skip
                          refine zz (fun _ _ => lv_tableOut (tgt := 163) hx hb dX9_act_31 (sw_out (fun n h1 h2 => by rcases (show n = 0 ∨ n = 1 ∨ n = 2 ∨ n = 3 ∨ n = 4 ∨ n = 5 ∨ n = 6 ∨ n = 7 ∨ n = 8 ∨ n = 9 by omega) with rfl | rfl | rfl | rfl | rfl | rfl | rfl | rfl | rfl | rfl <;> assumption)) (by decide)) ?_
                          exact (out9 hq.1 c_4 c_7 c_9 c_11 c_13 c_15 c_17 c_19 c_21 c_23).elim
    · exact absurd (nI_le (Nat.le_refl _) (by omega)) c_3
