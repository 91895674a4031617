set_option maxHeartbeats 1000000 in
set_option maxRecDepth 10000 in
theorem ctX9_atR {l : Launch} {D : va_G} {aC : Nat → ClassId} {b0 sz : Nat} {r : Nat} {v : Nat → Int32} {A : Nat → Nat → Int32} {R : ZM} {a_ : Int32} {b_ : Int32} {c_ : Int32} {n_ : Nat} (hs : v 20 = nI n_) (hn : n_ ≤ 120) (hO : ¬ fX9_isIn a_ 0 6 = 0 → ¬ b_ < 0 → b_ < (fX9_lineUp (upd v 0 1) A a_).1 47 → vp_in ((fX9_lineUp (upd v 0 1) A a_).2 37 (Int32.toNatClampNeg b_)) 120) : Ct l D aC b0 yX9_at cX9_at 4 (some .int) 2 0 0 [.ref (r), .int (a_), .int (b_), .int (c_)] (mm aC r v A R) sz (zd (some (.int (fX9_at v A a_ b_ c_).1)) (mm aC r (fX9_at v A a_ b_ c_).2.1 (fX9_at v A a_ b_ c_).2.2 R)) := by
  refine Ct.of (by decide) (Nat.le_of_ble_eq_true rfl) ?_
  intro p e s m below meth c ls C hr hlk hnm hl
  have hl : lv_has ls 4 [(0, .ref (r)), (1, .int (a_)), (2, .int (b_)), (3, .int (c_))] := hl
  obtain ⟨hx, hb, -, -, -⟩ := id C
  refine zz (fun _ _ => lv_aload_n hx hb dX9_at_0 rfl (lv_at hl 0 rfl)) ?_
  refine zz (fun _ _ => lv_iconst (v := 1) hx hb dX9_at_1 (by decide)) ?_
  refine z_put C fp_X9_129 (fun h => by cases h) rm_0 (Nat.le_of_ble_eq_true rfl) rfl rfl dX9_at_2 ?_
  refine zeq wm_f0 ?_
  refine zz (fun _ _ => lv_iload_n hx hb dX9_at_5 rfl (lv_at hl 1 rfl)) ?_
  refine zz (fun _ _ => lv_iconst (v := 0) hx hb dX9_at_6 (by decide)) ?_
  refine zz (fun _ _ => lv_bipush (v := 6) hx hb dX9_at_7 (by decide)) ?_
  refine zdS (As := [.int (a_), .int (0), .int (6)]) (rest := []) (st' := [.int ((fX9_isIn a_ 0 6))]) C hl.1 lk_X9_135 (ctX9_isIn ) rfl rfl (Nat.le_of_ble_eq_true rfl) ⟨by decide, by decide, by decide, by decide⟩ dX9_at_9 rfl (fun sz => ?_)
  refine zb (fun _ _ => lv_if_eq (tgt := 54) hx hb dX9_at_12 (by decide)) (fun c_1 => ?_) (fun c_1 => ?_)
  · refine zz (fun _ _ => lv_aload_n hx hb dX9_at_54 rfl (lv_at hl 0 rfl)) ?_
    refine z_get (v := .int (1)) C fd_X9_129 rm_0 rfl dX9_at_55 ?_
    refine zb (fun _ _ => lv_if_le (tgt := 63) hx hb dX9_at_58 (by decide)) (fun c_2 => ?_) (fun c_2 => ?_)
    · exact absurd c_2 (by decide)
    · refine zz (fun _ _ => lv_iconst (v := 0) hx hb dX9_at_61 (by decide)) ?_
      exact z_iret C hr hlk dX9_at_62 (by simp only [zd, fX9_at, if_pos c_1, and_self])
  · refine zz (fun _ _ => lv_aload_n hx hb dX9_at_15 rfl (lv_at hl 0 rfl)) ?_
    refine zz (fun _ _ => lv_iload_n hx hb dX9_at_16 rfl (lv_at hl 1 rfl)) ?_
    refine zdV (As := [.int (a_)]) (rest := []) (st' := []) C hl.1 lk_X9_187 (ctX9_lineUp hs hn) rm_0 rfl rfl rfl (Nat.le_of_ble_eq_true rfl) ⟨by decide, by decide, by decide, by decide⟩ dX9_at_17 rfl (fun sz => ?_)
    refine zz (fun _ _ => lv_aload_n hx hb dX9_at_20 rfl (lv_at hl 0 rfl)) ?_
    refine zz (fun _ _ => lv_iload_n hx hb dX9_at_21 rfl (lv_at hl 2 rfl)) ?_
    refine zb (fun _ _ => lv_if_lt (tgt := 33) hx hb dX9_at_22 (by decide)) (fun c_3 => ?_) (fun c_3 => ?_)
    · refine zz (fun _ _ => lv_iconst (v := 1) hx hb dX9_at_33 (by decide)) ?_
      refine zz (fun _ _ => lv_goto (tgt := 51) hx hb dX9_at_34 (by decide)) ?_
      refine z_put C fp_X9_129 (fun h => by cases h) rm_0 (Nat.le_of_ble_eq_true rfl) rfl rfl dX9_at_51 ?_
      refine zeq wm_f0 ?_
      refine zz (fun _ _ => lv_aload_n hx hb dX9_at_54 rfl (lv_at hl 0 rfl)) ?_
      refine z_get (v := .int (1)) C fd_X9_129 rm_0 rfl dX9_at_55 ?_
      refine zb (fun _ _ => lv_if_le (tgt := 63) hx hb dX9_at_58 (by decide)) (fun c_4 => ?_) (fun c_4 => ?_)
      · exact absurd c_4 (by decide)
      · refine zz (fun _ _ => lv_iconst (v := 0) hx hb dX9_at_61 (by decide)) ?_
        exact z_iret C hr hlk dX9_at_62 (by simp only [zd, fX9_at, if_neg c_1, if_pos c_3, and_self])
    · refine zz (fun _ _ => lv_iload_n hx hb dX9_at_25 rfl (lv_at hl 2 rfl)) ?_
      refine zz (fun _ _ => lv_aload_n hx hb dX9_at_26 rfl (lv_at hl 0 rfl)) ?_
      refine z_get (v := .int ((fX9_lineUp (upd v 0 1) A a_).1 47)) C fd_X9_174 rm_0 rfl dX9_at_27 ?_
      refine zb (fun _ _ => lv_icmp_lt (tgt := 37) hx hb dX9_at_30 (by decide)) (fun c_5 => ?_) (fun c_5 => ?_)
      · refine zz (fun _ _ => lv_iload_n hx hb dX9_at_37 rfl (lv_at hl 3 rfl)) ?_
        refine zz (fun _ _ => lv_iconst (v := 0) hx hb dX9_at_38 (by decide)) ?_
        refine zz (fun _ _ => lv_iconst (v := 2) hx hb dX9_at_39 (by decide)) ?_
        refine zdS (As := [.int (c_), .int (0), .int (2)]) (rest := [.ref (r)]) (st' := [.int ((fX9_isIn c_ 0 2)), .ref (r)]) C hl.1 lk_X9_135 (ctX9_isIn ) rfl rfl (Nat.le_of_ble_eq_true rfl) ⟨by decide, by decide, by decide, by decide⟩ dX9_at_40 rfl (fun sz => ?_)
        refine zbn (fun _ _ => lv_if_ne (tgt := 50) hx hb dX9_at_43 (by decide)) (fun c_6 => ?_) (fun c_6 => ?_)
        · refine zz (fun _ _ => lv_iconst (v := 0) hx hb dX9_at_50 (by decide)) ?_
          refine z_put C fp_X9_129 (fun h => by cases h) rm_0 (Nat.le_of_ble_eq_true rfl) rfl rfl dX9_at_51 ?_
          refine zeq wm_f0 ?_
          refine zz (fun _ _ => lv_aload_n hx hb dX9_at_54 rfl (lv_at hl 0 rfl)) ?_
          refine z_get (v := .int (0)) C fd_X9_129 rm_0 rfl dX9_at_55 ?_
          refine zb (fun _ _ => lv_if_le (tgt := 63) hx hb dX9_at_58 (by decide)) (fun c_7 => ?_) (fun c_7 => ?_)
          · refine zz (fun _ _ => lv_iload_n hx hb dX9_at_63 rfl (lv_at hl 3 rfl)) ?_
            refine zbn (fun _ _ => lv_if_ne (tgt := 81) hx hb dX9_at_64 (by decide)) (fun c_8 => ?_) (fun c_8 => ?_)
            · refine zz (fun _ _ => lv_iload_n hx hb dX9_at_81 rfl (lv_at hl 3 rfl)) ?_
              refine zz (fun _ _ => lv_iconst (v := 1) hx hb dX9_at_82 (by decide)) ?_
              refine zbn (fun _ _ => lv_icmp_ne (tgt := 100) hx hb dX9_at_83 (by decide)) (fun c_9 => ?_) (fun c_9 => ?_)
              · refine zz (fun _ _ => lv_aload_n hx hb dX9_at_100 rfl (lv_at hl 0 rfl)) ?_
                refine z_get (v := .ref (r + 22)) C fd_X9_74 rm_0 rfl dX9_at_101 ?_
                refine zz (fun _ _ => lv_aload_n hx hb dX9_at_104 rfl (lv_at hl 0 rfl)) ?_
                refine z_get (v := .ref (r + 37)) C fd_X9_123 rm_0 rfl dX9_at_105 ?_
                refine zz (fun _ _ => lv_iload_n hx hb dX9_at_108 rfl (lv_at hl 2 rfl)) ?_
                refine z_iald (f := (fX9_lineUp (upd v 0 1) A a_).2 37) C rm_37 (at_ix (v := upd v 0 1) (A := A) (a := a_) hs hn c_3 c_5) dX9_at_109 ?_
                refine z_iald (f := (fX9_lineUp (upd v 0 1) A a_).2 22) C rm_22 (hO c_1 c_3 c_5) dX9_at_110 ?_
                exact z_iret C hr hlk dX9_at_111 (by simp only [zd, fX9_at, if_neg c_1, if_neg c_3, if_pos c_5, if_neg c_6, if_neg c_8, if_neg c_9, and_self])
              · refine zz (fun _ _ => lv_aload_n hx hb dX9_at_86 rfl (lv_at hl 0 rfl)) ?_
                refine z_get (v := .ref (r + 21)) C fd_X9_71 rm_0 rfl dX9_at_87 ?_
                refine zz (fun _ _ => lv_aload_n hx hb dX9_at_90 rfl (lv_at hl 0 rfl)) ?_
                refine z_get (v := .ref (r + 37)) C fd_X9_123 rm_0 rfl dX9_at_91 ?_
                refine zz (fun _ _ => lv_iload_n hx hb dX9_at_94 rfl (lv_at hl 2 rfl)) ?_
                refine z_iald (f := (fX9_lineUp (upd v 0 1) A a_).2 37) C rm_37 (at_ix (v := upd v 0 1) (A := A) (a := a_) hs hn c_3 c_5) dX9_at_95 ?_
                refine z_iald (f := (fX9_lineUp (upd v 0 1) A a_).2 21) C rm_21 (hO c_1 c_3 c_5) dX9_at_96 ?_
                refine zz (fun _ _ => lv_goto (tgt := 111) hx hb dX9_at_97 (by decide)) ?_
                exact z_iret C hr hlk dX9_at_111 (by simp only [zd, fX9_at, if_neg c_1, if_neg c_3, if_pos c_5, if_neg c_6, if_neg c_8, if_pos c_9, and_self])
            · refine zz (fun _ _ => lv_aload_n hx hb dX9_at_67 rfl (lv_at hl 0 rfl)) ?_
              refine z_get (v := .ref (r + 20)) C fd_X9_68 rm_0 rfl dX9_at_68 ?_
              refine zz (fun _ _ => lv_aload_n hx hb dX9_at_71 rfl (lv_at hl 0 rfl)) ?_
              refine z_get (v := .ref (r + 37)) C fd_X9_123 rm_0 rfl dX9_at_72 ?_
              refine zz (fun _ _ => lv_iload_n hx hb dX9_at_75 rfl (lv_at hl 2 rfl)) ?_
              refine z_iald (f := (fX9_lineUp (upd v 0 1) A a_).2 37) C rm_37 (at_ix (v := upd v 0 1) (A := A) (a := a_) hs hn c_3 c_5) dX9_at_76 ?_
              refine z_iald (f := (fX9_lineUp (upd v 0 1) A a_).2 20) C rm_20 (hO c_1 c_3 c_5) dX9_at_77 ?_
              refine zz (fun _ _ => lv_goto (tgt := 111) hx hb dX9_at_78 (by decide)) ?_
              exact z_iret C hr hlk dX9_at_111 (by simp only [zd, fX9_at, if_neg c_1, if_neg c_3, if_pos c_5, if_neg c_6, if_pos c_8, and_self])
          · exact absurd (by decide) c_7
        · refine zz (fun _ _ => lv_iconst (v := 2) hx hb dX9_at_46 (by decide)) ?_
          refine zz (fun _ _ => lv_goto (tgt := 51) hx hb dX9_at_47 (by decide)) ?_
          refine z_put C fp_X9_129 (fun h => by cases h) rm_0 (Nat.le_of_ble_eq_true rfl) rfl rfl dX9_at_51 ?_
          refine zeq wm_f0 ?_
          refine zz (fun _ _ => lv_aload_n hx hb dX9_at_54 rfl (lv_at hl 0 rfl)) ?_
          refine z_get (v := .int (2)) C fd_X9_129 rm_0 rfl dX9_at_55 ?_
          refine zb (fun _ _ => lv_if_le (tgt := 63) hx hb dX9_at_58 (by decide)) (fun c_10 => ?_) (fun c_10 => ?_)
          · exact absurd c_10 (by decide)
          · refine zz (fun _ _ => lv_iconst (v := 0) hx hb dX9_at_61 (by decide)) ?_
            exact z_iret C hr hlk dX9_at_62 (by simp only [zd, fX9_at, if_neg c_1, if_neg c_3, if_pos c_5, if_pos c_6, and_self])
      · refine zz (fun _ _ => lv_iconst (v := 1) hx hb dX9_at_33 (by decide)) ?_
        refine zz (fun _ _ => lv_goto (tgt := 51) hx hb dX9_at_34 (by decide)) ?_
        refine z_put C fp_X9_129 (fun h => by cases h) rm_0 (Nat.le_of_ble_eq_true rfl) rfl rfl dX9_at_51 ?_
        refine zeq wm_f0 ?_
        refine zz (fun _ _ => lv_aload_n hx hb dX9_at_54 rfl (lv_at hl 0 rfl)) ?_
        refine z_get (v := .int (1)) C fd_X9_129 rm_0 rfl dX9_at_55 ?_
        refine zb (fun _ _ => lv_if_le (tgt := 63) hx hb dX9_at_58 (by decide)) (fun c_11 => ?_) (fun c_11 => ?_)
        · exact absurd c_11 (by decide)
        · refine zz (fun _ _ => lv_iconst (v := 0) hx hb dX9_at_61 (by decide)) ?_
          exact z_iret C hr hlk dX9_at_62 (by simp only [zd, fX9_at, if_neg c_1, if_neg c_3, if_neg c_5, and_self])
