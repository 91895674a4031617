set_option maxHeartbeats 2000000 in
set_option maxRecDepth 10000 in
theorem hX7_perform {l : Launch} {D : va_G} {aC : Nat → ClassId} {b0 sz : Nat} {x : Nat} {iv av : Nat → Nat → Int32} {R : ZM} {i : Nat} {q : Sq} {S : St} {TN : Nat → Bool} {FL : Nat → List Nat} (hi : i < 12) (hE : EC iv av i q) (hq : okQ q) (hF : FLc iv av TN FL) (hS : SC iv av S) : Ct l D aC b0 yX7_perform cX7_perform 2 (some .int) 12 0 0 [.ref (x + 2), .ref (x + (61 + 6 * i))] (cm aC x iv av R) sz (zpI (fun iv av => cm aC x iv av R) (fun w' iv' av' => AC iv av (aAct TN FL q S) w' iv' av')) := by
  refine Ct.of (by decide) (Nat.le_of_ble_eq_true rfl) ?_
  intro p e s m below meth c ls C hr hlk hnm hl
  have hl : lv_has ls 2 [(0, .ref (x + 2)), (1, .ref (x + (61 + 6 * i)))] := hl
  obtain ⟨hx, hb, -, -, -⟩ := id C
  refine zz (fun _ _ => lv_aload_n hx hb dX7_perform_0 rfl (lv_at hl 1 rfl)) ?_
  refine z_get (v := .int (iv (61 + 6 * i) 3)) C fd_X7_40 (rd_18 (ck_s hi)) rfl dX7_perform_1 ?_
  refine zval (v' := .int (nI q.1)) (congrArg Value.int hE.1) ?_
  by_cases c_1 : nI q.1 = 3
  · refine zz (fun _ _ => lv_tableIn (tgt := 48) (off := (44)) hx hb dX7_perform_4 (by rw [c_1]; decide) (by rw [c_1]; decide) (by rw [c_1]; rfl) (by decide)) ?_
    have hkd9 : q.1 = 3 := kd hq.1 (by decide) rfl c_1
    refine zz (fun _ _ => lv_aload_n hx hb dX7_perform_48 rfl (lv_at hl 0 rfl)) ?_
    refine zz (fun _ _ => lv_aload_n hx hb dX7_perform_49 rfl (lv_at hl 1 rfl)) ?_
    refine zqVI (As := [.ref (x + (61 + 6 * i))]) (rest := []) C hl.1 lk_X7_45 (hX7_takeAllFacts hi hq.1 hE.1 hE.2.2.1 (hq.2.2.2.1 (by omega)).1 (hq.2.2.2.1 (by omega)).2 hS) (rd_3 (by decide)) rfl rfl rfl (Nat.le_of_ble_eq_true rfl) ⟨by decide, by decide, by decide, by decide⟩ dX7_perform_50 (fun w2 iv2 av2 sz h2 => ?_)
    refine zeq (M' := (cm aC x iv2 av2 R)) rfl ?_
    exact z_iret C hr hlk dX7_perform_53 (zpI_mk (a := iv2) (b := av2) (AC_eq h2 (by rw [aAct_3 (by omega)])))
  · skip
    by_cases c_3 : nI q.1 = 4
    · refine zz (fun _ _ => lv_tableIn (tgt := 54) (off := (50)) hx hb dX7_perform_4 (by rw [c_3]; decide) (by rw [c_3]; decide) (by rw [c_3]; rfl) (by decide)) ?_
      have hkd9 : q.1 = 4 := kd hq.1 (by decide) rfl c_3
      obtain ⟨t9, ht9, et9, en9⟩ := okQ_to hq (by omega)
      refine zz (fun _ _ => lv_aload_n hx hb dX7_perform_54 rfl (lv_at hl 0 rfl)) ?_
      refine zz (fun _ _ => lv_aload_n hx hb dX7_perform_55 rfl (lv_at hl 1 rfl)) ?_
      refine zqVI (As := [.ref (x + (61 + 6 * i))]) (rest := []) C hl.1 lk_X7_49 (hX7_makeGraph hi ht9 (hE.2.2.1.trans et9) hS) (rd_3 (by decide)) rfl rfl rfl (Nat.le_of_ble_eq_true rfl) ⟨by decide, by decide, by decide, by decide⟩ dX7_perform_56 (fun w4 iv4 av4 sz h4 => ?_)
      refine zeq (M' := (cm aC x iv4 av4 R)) rfl ?_
      exact z_iret C hr hlk dX7_perform_59 (zpI_mk (a := iv4) (b := av4) (AC_eq h4 (by rw [aAct_4 hkd9, en9])))
    · skip
      by_cases c_5 : nI q.1 = 5
      · refine zz (fun _ _ => lv_tableIn (tgt := 48) (off := (44)) hx hb dX7_perform_4 (by rw [c_5]; decide) (by rw [c_5]; decide) (by rw [c_5]; rfl) (by decide)) ?_
        have hkd9 : q.1 = 5 := kd hq.1 (by decide) rfl c_5
        refine zz (fun _ _ => lv_aload_n hx hb dX7_perform_48 rfl (lv_at hl 0 rfl)) ?_
        refine zz (fun _ _ => lv_aload_n hx hb dX7_perform_49 rfl (lv_at hl 1 rfl)) ?_
        refine zqVI (As := [.ref (x + (61 + 6 * i))]) (rest := []) C hl.1 lk_X7_45 (hX7_takeAllFacts hi hq.1 hE.1 hE.2.2.1 (hq.2.2.2.1 (by omega)).1 (hq.2.2.2.1 (by omega)).2 hS) (rd_3 (by decide)) rfl rfl rfl (Nat.le_of_ble_eq_true rfl) ⟨by decide, by decide, by decide, by decide⟩ dX7_perform_50 (fun w6 iv6 av6 sz h6 => ?_)
        refine zeq (M' := (cm aC x iv6 av6 R)) rfl ?_
        exact z_iret C hr hlk dX7_perform_53 (zpI_mk (a := iv6) (b := av6) (AC_eq h6 (by rw [aAct_3 (by omega)])))
      · skip
        by_cases c_7 : nI q.1 = 6
        · refine zz (fun _ _ => lv_tableIn (tgt := 60) (off := (56)) hx hb dX7_perform_4 (by rw [c_7]; decide) (by rw [c_7]; decide) (by rw [c_7]; rfl) (by decide)) ?_
          have hkd9 : q.1 = 6 := kd hq.1 (by decide) rfl c_7
          obtain ⟨t9, ht9, et9, en9⟩ := okQ_to hq (by omega)
          refine zz (fun _ _ => lv_aload_n hx hb dX7_perform_60 rfl (lv_at hl 0 rfl)) ?_
          refine zz (fun _ _ => lv_aload_n hx hb dX7_perform_61 rfl (lv_at hl 1 rfl)) ?_
          refine zqVI (As := [.ref (x + (61 + 6 * i))]) (rest := []) C hl.1 lk_X7_52 (hX7_bringGraph hi (by omega) (by omega) hq.2.1 ht9 hE.1 hE.2.1 (hE.2.2.1.trans et9) hS) (rd_3 (by decide)) rfl rfl rfl (Nat.le_of_ble_eq_true rfl) ⟨by decide, by decide, by decide, by decide⟩ dX7_perform_62 (fun w8 iv8 av8 sz h8 => ?_)
          refine zeq (M' := (cm aC x iv8 av8 R)) rfl ?_
          exact z_iret C hr hlk dX7_perform_65 (zpI_mk (a := iv8) (b := av8) (AC_eq h8 (by rw [aAct_6 (by omega) (by omega), en9])))
        · skip
          by_cases c_9 : nI q.1 = 7
          · refine zz (fun _ _ => lv_tableIn (tgt := 60) (off := (56)) hx hb dX7_perform_4 (by rw [c_9]; decide) (by rw [c_9]; decide) (by rw [c_9]; rfl) (by decide)) ?_
            have hkd9 : q.1 = 7 := kd hq.1 (by decide) rfl c_9
            obtain ⟨t9, ht9, et9, en9⟩ := okQ_to hq (by omega)
            refine zz (fun _ _ => lv_aload_n hx hb dX7_perform_60 rfl (lv_at hl 0 rfl)) ?_
            refine zz (fun _ _ => lv_aload_n hx hb dX7_perform_61 rfl (lv_at hl 1 rfl)) ?_
            refine zqVI (As := [.ref (x + (61 + 6 * i))]) (rest := []) C hl.1 lk_X7_52 (hX7_bringGraph hi (by omega) (by omega) hq.2.1 ht9 hE.1 hE.2.1 (hE.2.2.1.trans et9) hS) (rd_3 (by decide)) rfl rfl rfl (Nat.le_of_ble_eq_true rfl) ⟨by decide, by decide, by decide, by decide⟩ dX7_perform_62 (fun w10 iv10 av10 sz h10 => ?_)
            refine zeq (M' := (cm aC x iv10 av10 R)) rfl ?_
            exact z_iret C hr hlk dX7_perform_65 (zpI_mk (a := iv10) (b := av10) (AC_eq h10 (by rw [aAct_6 (by omega) (by omega), en9])))
          · skip
            by_cases c_11 : nI q.1 = 8
            · refine zz (fun _ _ => lv_tableIn (tgt := 60) (off := (56)) hx hb dX7_perform_4 (by rw [c_11]; decide) (by rw [c_11]; decide) (by rw [c_11]; rfl) (by decide)) ?_
              have hkd9 : q.1 = 8 := kd hq.1 (by decide) rfl c_11
              obtain ⟨t9, ht9, et9, en9⟩ := okQ_to hq (by omega)
              refine zz (fun _ _ => lv_aload_n hx hb dX7_perform_60 rfl (lv_at hl 0 rfl)) ?_
              refine zz (fun _ _ => lv_aload_n hx hb dX7_perform_61 rfl (lv_at hl 1 rfl)) ?_
              refine zqVI (As := [.ref (x + (61 + 6 * i))]) (rest := []) C hl.1 lk_X7_52 (hX7_bringGraph hi (by omega) (by omega) hq.2.1 ht9 hE.1 hE.2.1 (hE.2.2.1.trans et9) hS) (rd_3 (by decide)) rfl rfl rfl (Nat.le_of_ble_eq_true rfl) ⟨by decide, by decide, by decide, by decide⟩ dX7_perform_62 (fun w12 iv12 av12 sz h12 => ?_)
              refine zeq (M' := (cm aC x iv12 av12 R)) rfl ?_
              exact z_iret C hr hlk dX7_perform_65 (zpI_mk (a := iv12) (b := av12) (AC_eq h12 (by rw [aAct_6 (by omega) (by omega), en9])))
            · skip
              by_cases c_13 : nI q.1 = 9
              · refine zz (fun _ _ => lv_tableIn (tgt := 66) (off := (62)) hx hb dX7_perform_4 (by rw [c_13]; decide) (by rw [c_13]; decide) (by rw [c_13]; rfl) (by decide)) ?_
                have hkd9 : q.1 = 9 := kd hq.1 (by decide) rfl c_13
                obtain ⟨t9, ht9, et9, en9⟩ := okQ_to hq (by omega)
                refine zz (fun _ _ => lv_aload_n hx hb dX7_perform_66 rfl (lv_at hl 0 rfl)) ?_
                refine zz (fun _ _ => lv_aload_n hx hb dX7_perform_67 rfl (lv_at hl 1 rfl)) ?_
                refine zqVI (As := [.ref (x + (61 + 6 * i))]) (rest := []) C hl.1 lk_X7_55 (hX7_readFile hi (hq.2.2.1 hkd9) ht9 hE.2.1 (hE.2.2.1.trans et9) hF hS) (rd_3 (by decide)) rfl rfl rfl (Nat.le_of_ble_eq_true rfl) ⟨by decide, by decide, by decide, by decide⟩ dX7_perform_68 (fun w14 iv14 av14 sz h14 => ?_)
                refine zeq (M' := (cm aC x iv14 av14 R)) rfl ?_
                exact z_iret C hr hlk dX7_perform_71 (zpI_mk (a := iv14) (b := av14) (AC_eq h14 (by rw [aAct_9 hkd9, en9])))
              · skip
                refine zz (fun _ _ => lv_tableOut (tgt := 72) hx hb dX7_perform_4 (sw_out (fun n h1 h2 => by rcases (show n = 3 ∨ n = 4 ∨ n = 5 ∨ n = 6 ∨ n = 7 ∨ n = 8 ∨ n = 9 by omega) with rfl | rfl | rfl | rfl | rfl | rfl | rfl <;> assumption)) (by decide)) ?_
                have hkd9 := out39 hq.1 c_1 c_3 c_5 c_7 c_9 c_11 c_13
                obtain ⟨t9, ht9, et9, en9⟩ := okQ_to hq (by omega)
                refine zz (fun _ _ => lv_aload_n hx hb dX7_perform_72 rfl (lv_at hl 0 rfl)) ?_
                refine zz (fun _ _ => lv_aload_n hx hb dX7_perform_73 rfl (lv_at hl 1 rfl)) ?_
                refine zqVI (As := [.ref (x + (61 + 6 * i))]) (rest := []) C hl.1 lk_X7_58 (hX7_rewrite hi hq.1 hq.2.1 ht9 hE.1 hE.2.1 (hE.2.2.1.trans et9) (hE.P hq) (hE.T hq) hS) (rd_3 (by decide)) rfl rfl rfl (Nat.le_of_ble_eq_true rfl) ⟨by decide, by decide, by decide, by decide⟩ dX7_perform_74 (fun w15 iv15 av15 sz h15 => ?_)
                refine zeq (M' := (cm aC x iv15 av15 R)) rfl ?_
                exact z_iret C hr hlk dX7_perform_77 (zpI_mk (a := iv15) (b := av15) (AC_eq h15 (by rw [aAct_0 hkd9, en9])))
