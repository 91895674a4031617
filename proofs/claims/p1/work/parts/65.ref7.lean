def fX9_dropOne (v : Nat → Int32) (A : Nat → Nat → Int32) (a_ : Int32) : (Nat → Int32) × (Nat → Nat → Int32) := if a_ = 0 then ((fX9_empty v A a_).1, (u1 (fX9_empty v A a_).2 23 (upd ((fX9_empty v A a_).2 23) (Int32.toNatClampNeg (a_)) (1)))) else ((fX9_empty v A a_).1, (u1 (fX9_empty v A a_).2 23 (upd ((fX9_empty v A a_).2 23) (Int32.toNatClampNeg (a_)) (0))))
set_option maxHeartbeats 1000000 in
set_option maxRecDepth 10000 in
theorem ctX9_dropOne {l : Launch} {D : va_G} {aC : Nat → ClassId} {b0 sz : Nat} {r : Nat} {v : Nat → Int32} {A : Nat → Nat → Int32} {R : ZM} {a_ : Int32} {n_ : Nat} (hs : v 20 = nI n_) (hn : n_ ≤ 120) (hig : vp_in a_ 7) : Ct l D aC b0 yX9_dropOne cX9_dropOne 2 none 2 0 0 [.ref (r), .int (a_)] (mm aC r v A R) sz (zd none (mm aC r (fX9_dropOne v A a_).1 (fX9_dropOne v A a_).2 R)) := by
  refine Ct.of (by decide) (Nat.le_of_ble_eq_true rfl) ?_
  intro p e s m below meth c ls C hr hlk hnm hl
  have hl : lv_has ls 2 [(0, .ref (r)), (1, .int (a_))] := hl
  obtain ⟨hx, hb, -, -, -⟩ := id C
  refine zz (fun _ _ => lv_aload_n hx hb dX9_dropOne_0 rfl (lv_at hl 0 rfl)) ?_
  refine zz (fun _ _ => lv_iload_n hx hb dX9_dropOne_1 rfl (lv_at hl 1 rfl)) ?_
  refine zdV (As := [.int (a_)]) (rest := []) (st' := []) C hl.1 lk_X9_171 (ctX9_empty hs hn) rm_0 rfl rfl rfl (Nat.le_of_ble_eq_true rfl) ⟨by decide, by decide, by decide, by decide⟩ dX9_dropOne_2 rfl (fun sz => ?_)
  refine zz (fun _ _ => lv_aload_n hx hb dX9_dropOne_5 rfl (lv_at hl 0 rfl)) ?_
  refine z_get (v := .ref (r + 23)) C fd_X9_77 rm_0 rfl dX9_dropOne_6 ?_
  refine zz (fun _ _ => lv_iload_n hx hb dX9_dropOne_9 rfl (lv_at hl 1 rfl)) ?_
  refine zz (fun _ _ => lv_iload_n hx hb dX9_dropOne_10 rfl (lv_at hl 1 rfl)) ?_
  refine zbn (fun _ _ => lv_if_ne (tgt := 18) hx hb dX9_dropOne_11 (by decide)) (fun c_1 => ?_) (fun c_1 => ?_)
  · refine zz (fun _ _ => lv_iconst (v := 0) hx hb dX9_dropOne_18 (by decide)) ?_
    refine z_zast (f := (fX9_empty v A a_).2 23) C rm_23 (by first | assumption | (apply vp_in_nI <;> omega)) rfl dX9_dropOne_19 ?_
    refine zeq wm_23 ?_
    exact z_vret C hr hlk dX9_dropOne_20 (by simp only [zd, fX9_dropOne, if_neg c_1, and_self])
  · refine zz (fun _ _ => lv_iconst (v := 1) hx hb dX9_dropOne_14 (by decide)) ?_
    refine zz (fun _ _ => lv_goto (tgt := 19) hx hb dX9_dropOne_15 (by decide)) ?_
    refine z_zast (f := (fX9_empty v A a_).2 23) C rm_23 (by first | assumption | (apply vp_in_nI <;> omega)) rfl dX9_dropOne_19 ?_
    refine zeq wm_23 ?_
    exact z_vret C hr hlk dX9_dropOne_20 (by simp only [zd, fX9_dropOne, if_pos c_1, and_self])
def fX9_isLeftOut (A : Nat → Nat → Int32) (a_ : Int32) (b_ : Int32) : Int32 := if (fX9_valueInV A b_ (A 6 (Int32.toNatClampNeg (a_)))) = (-1) then (1) else if (fX9_valueInV A b_ (A 7 (Int32.toNatClampNeg (a_)))) = (-1) then (1) else if (fX9_valueInV A b_ (A 8 (Int32.toNatClampNeg (a_)))) = (-1) then (1) else if (fX9_valueInV A b_ (A 7 (Int32.toNatClampNeg (a_)))) ≤ 99 then (0) else (1)
theorem nbfX9_isLeftOut {A : Nat → Nat → Int32} {a_ : Int32} {b_ : Int32} : narrow .boolean (.int (fX9_isLeftOut A a_ b_)) = .int (fX9_isLeftOut A a_ b_) := by
  unfold fX9_isLeftOut
  repeat' split
  all_goals try dsimp only
  all_goals first | rfl | assumption
set_option maxHeartbeats 1000000 in
set_option maxRecDepth 10000 in
theorem ctX9_isLeftOut {l : Launch} {D : va_G} {aC : Nat → ClassId} {b0 sz : Nat} {r : Nat} {v : Nat → Int32} {A : Nat → Nat → Int32} {R : ZM} {a_ : Int32} {b_ : Int32} (hit : vp_in a_ 72) (hv6 : ¬ fX9_isVariable (A 6 (Int32.toNatClampNeg (a_))) = 0 → vp_in (4 * b_ - 1 - A 6 (Int32.toNatClampNeg (a_))) 20400) (hv7 : ¬ fX9_isVariable (A 7 (Int32.toNatClampNeg (a_))) = 0 → vp_in (4 * b_ - 1 - A 7 (Int32.toNatClampNeg (a_))) 20400) (hv8 : ¬ fX9_isVariable (A 8 (Int32.toNatClampNeg (a_))) = 0 → vp_in (4 * b_ - 1 - A 8 (Int32.toNatClampNeg (a_))) 20400) : Ct l D aC b0 yX9_isLeftOut cX9_isLeftOut 6 (some .boolean) 3 0 0 [.ref (r), .int (a_), .int (b_)] (mm aC r v A R) sz (zd (some (.int (fX9_isLeftOut A a_ b_))) (mm aC r v A R)) := by
  refine Ct.of (by decide) (Nat.le_of_ble_eq_true rfl) ?_
  intro p e s m below meth c ls C hr hlk hnm hl
  have hl : lv_has ls 6 [(0, .ref (r)), (1, .int (a_)), (2, .int (b_))] := hl
  obtain ⟨hx, hb, -, -, -⟩ := id C
  refine zz (fun _ _ => lv_aload_n hx hb dX9_isLeftOut_0 rfl (lv_at hl 0 rfl)) ?_
  refine zz (fun _ _ => lv_aload_n hx hb dX9_isLeftOut_1 rfl (lv_at hl 0 rfl)) ?_
  refine z_get (v := .ref (r + 35)) C fd_X9_117 rm_0 rfl dX9_isLeftOut_2 ?_
  refine zz (fun _ _ => lv_iload_n hx hb dX9_isLeftOut_5 rfl (lv_at hl 2 rfl)) ?_
  refine zz (fun _ _ => lv_aload_n hx hb dX9_isLeftOut_6 rfl (lv_at hl 0 rfl)) ?_
  refine z_get (v := .ref (r + 6)) C fd_X9_26 rm_0 rfl dX9_isLeftOut_7 ?_
  refine zz (fun _ _ => lv_iload_n hx hb dX9_isLeftOut_10 rfl (lv_at hl 1 rfl)) ?_
  refine z_iald (f := A 6) C rm_6 (by first | assumption | (apply vp_in_nI <;> omega)) dX9_isLeftOut_11 ?_
  refine zdV (As := [.ref (r + 35), .int (b_), .int (A 6 (Int32.toNatClampNeg (a_)))]) (rest := []) (st' := [.int ((fX9_valueInV A b_ (A 6 (Int32.toNatClampNeg (a_)))))]) C hl.1 lk_X9_183 (ctX9_valueInV hv6) rm_0 rfl rfl rfl (Nat.le_of_ble_eq_true rfl) ⟨by decide, by decide, by decide, by decide⟩ dX9_isLeftOut_12 rfl (fun sz => ?_)
  refine zs (fun _ _ => lv_istore_n (lv' := [(3, .int ((fX9_valueInV A b_ (A 6 (Int32.toNatClampNeg (a_)))))), (0, .ref (r)), (1, .int (a_)), (2, .int (b_))]) hx hb dX9_isLeftOut_15 rfl hl (by decide) rfl) (fun ls hl => ?_)
  refine zz (fun _ _ => lv_aload_n hx hb dX9_isLeftOut_16 rfl (lv_at hl 1 rfl)) ?_
  refine zz (fun _ _ => lv_aload_n hx hb dX9_isLeftOut_17 rfl (lv_at hl 1 rfl)) ?_
  refine z_get (v := .ref (r + 35)) C fd_X9_117 rm_0 rfl dX9_isLeftOut_18 ?_
  refine zz (fun _ _ => lv_iload_n hx hb dX9_isLeftOut_21 rfl (lv_at hl 3 rfl)) ?_
  refine zz (fun _ _ => lv_aload_n hx hb dX9_isLeftOut_22 rfl (lv_at hl 1 rfl)) ?_
  refine z_get (v := .ref (r + 7)) C fd_X9_29 rm_0 rfl dX9_isLeftOut_23 ?_
  refine zz (fun _ _ => lv_iload_n hx hb dX9_isLeftOut_26 rfl (lv_at hl 2 rfl)) ?_
  refine z_iald (f := A 7) C rm_7 (by first | assumption | (apply vp_in_nI <;> omega)) dX9_isLeftOut_27 ?_
  refine zdV (As := [.ref (r + 35), .int (b_), .int (A 7 (Int32.toNatClampNeg (a_)))]) (rest := []) (st' := [.int ((fX9_valueInV A b_ (A 7 (Int32.toNatClampNeg (a_)))))]) C hl.1 lk_X9_183 (ctX9_valueInV hv7) rm_0 rfl rfl rfl (Nat.le_of_ble_eq_true rfl) ⟨by decide, by decide, by decide, by decide⟩ dX9_isLeftOut_28 rfl (fun sz => ?_)
  refine zs (fun _ _ => lv_istore (lv' := [(4, .int ((fX9_valueInV A b_ (A 7 (Int32.toNatClampNeg (a_)))))), (3, .int ((fX9_valueInV A b_ (A 6 (Int32.toNatClampNeg (a_)))))), (0, .ref (r)), (1, .int (a_)), (2, .int (b_))]) hx hb dX9_isLeftOut_31 hl (by decide) rfl) (fun ls hl => ?_)
  refine zz (fun _ _ => lv_aload_n hx hb dX9_isLeftOut_33 rfl (lv_at hl 2 rfl)) ?_
  refine zz (fun _ _ => lv_aload_n hx hb dX9_isLeftOut_34 rfl (lv_at hl 2 rfl)) ?_
  refine z_get (v := .ref (r + 35)) C fd_X9_117 rm_0 rfl dX9_isLeftOut_35 ?_
  refine zz (fun _ _ => lv_iload_n hx hb dX9_isLeftOut_38 rfl (lv_at hl 4 rfl)) ?_
  refine zz (fun _ _ => lv_aload_n hx hb dX9_isLeftOut_39 rfl (lv_at hl 2 rfl)) ?_
  refine z_get (v := .ref (r + 8)) C fd_X9_32 rm_0 rfl dX9_isLeftOut_40 ?_
  refine zz (fun _ _ => lv_iload_n hx hb dX9_isLeftOut_43 rfl (lv_at hl 3 rfl)) ?_
  refine z_iald (f := A 8) C rm_8 (by first | assumption | (apply vp_in_nI <;> omega)) dX9_isLeftOut_44 ?_
  refine zdV (As := [.ref (r + 35), .int (b_), .int (A 8 (Int32.toNatClampNeg (a_)))]) (rest := []) (st' := [.int ((fX9_valueInV A b_ (A 8 (Int32.toNatClampNeg (a_)))))]) C hl.1 lk_X9_183 (ctX9_valueInV hv8) rm_0 rfl rfl rfl (Nat.le_of_ble_eq_true rfl) ⟨by decide, by decide, by decide, by decide⟩ dX9_isLeftOut_45 rfl (fun sz => ?_)
  refine zs (fun _ _ => lv_istore (lv' := [(5, .int ((fX9_valueInV A b_ (A 8 (Int32.toNatClampNeg (a_)))))), (4, .int ((fX9_valueInV A b_ (A 7 (Int32.toNatClampNeg (a_)))))), (3, .int ((fX9_valueInV A b_ (A 6 (Int32.toNatClampNeg (a_)))))), (0, .ref (r)), (1, .int (a_)), (2, .int (b_))]) hx hb dX9_isLeftOut_48 hl (by decide) rfl) (fun ls hl => ?_)
  refine zz (fun _ _ => lv_iload_n hx hb dX9_isLeftOut_50 rfl (lv_at hl 2 rfl)) ?_
  refine zz (fun _ _ => lv_iconst (v := (-1)) hx hb dX9_isLeftOut_51 (by decide)) ?_
  refine zb (fun _ _ => lv_icmp_eq (tgt := 74) hx hb dX9_isLeftOut_52 (by decide)) (fun c_1 => ?_) (fun c_1 => ?_)
  · refine zz (fun _ _ => lv_iconst (v := 1) hx hb dX9_isLeftOut_74 (by decide)) ?_
    refine zz (fun _ _ => lv_goto (tgt := 79) hx hb dX9_isLeftOut_75 (by decide)) ?_
    exact z_zret C hr rfl hlk dX9_isLeftOut_79 (by simp only [zd, fX9_isLeftOut, if_pos c_1, and_self])
  · refine zz (fun _ _ => lv_iload hx hb dX9_isLeftOut_55 (lv_at hl 1 rfl)) ?_
    refine zz (fun _ _ => lv_iconst (v := (-1)) hx hb dX9_isLeftOut_57 (by decide)) ?_
    refine zb (fun _ _ => lv_icmp_eq (tgt := 74) hx hb dX9_isLeftOut_58 (by decide)) (fun c_2 => ?_) (fun c_2 => ?_)
    · refine zz (fun _ _ => lv_iconst (v := 1) hx hb dX9_isLeftOut_74 (by decide)) ?_
      refine zz (fun _ _ => lv_goto (tgt := 79) hx hb dX9_isLeftOut_75 (by decide)) ?_
      exact z_zret C hr rfl hlk dX9_isLeftOut_79 (by simp only [zd, fX9_isLeftOut, if_neg c_1, if_pos c_2, and_self])
    · refine zz (fun _ _ => lv_iload hx hb dX9_isLeftOut_61 (lv_at hl 0 rfl)) ?_
      refine zz (fun _ _ => lv_iconst (v := (-1)) hx hb dX9_isLeftOut_63 (by decide)) ?_
      refine zb (fun _ _ => lv_icmp_eq (tgt := 74) hx hb dX9_isLeftOut_64 (by decide)) (fun c_3 => ?_) (fun c_3 => ?_)
      · refine zz (fun _ _ => lv_iconst (v := 1) hx hb dX9_isLeftOut_74 (by decide)) ?_
        refine zz (fun _ _ => lv_goto (tgt := 79) hx hb dX9_isLeftOut_75 (by decide)) ?_
        exact z_zret C hr rfl hlk dX9_isLeftOut_79 (by simp only [zd, fX9_isLeftOut, if_neg c_1, if_neg c_2, if_pos c_3, and_self])
      · refine zz (fun _ _ => lv_iload hx hb dX9_isLeftOut_67 (lv_at hl 1 rfl)) ?_
        refine zz (fun _ _ => lv_bipush (v := 99) hx hb dX9_isLeftOut_69 (by decide)) ?_
        refine zb (fun _ _ => lv_icmp_le (tgt := 78) hx hb dX9_isLeftOut_71 (by decide)) (fun c_4 => ?_) (fun c_4 => ?_)
        · refine zz (fun _ _ => lv_iconst (v := 0) hx hb dX9_isLeftOut_78 (by decide)) ?_
          exact z_zret C hr rfl hlk dX9_isLeftOut_79 (by simp only [zd, fX9_isLeftOut, if_neg c_1, if_neg c_2, if_neg c_3, if_pos c_4, and_self])
        · refine zz (fun _ _ => lv_iconst (v := 1) hx hb dX9_isLeftOut_74 (by decide)) ?_
          refine zz (fun _ _ => lv_goto (tgt := 79) hx hb dX9_isLeftOut_75 (by decide)) ?_
          exact z_zret C hr rfl hlk dX9_isLeftOut_79 (by simp only [zd, fX9_isLeftOut, if_neg c_1, if_neg c_2, if_neg c_3, if_neg c_4, and_self])
def fX9_comes (v : Nat → Int32) (A : Nat → Nat → Int32) (a_ : Int32) (b_ : Int32) : Int32 × (Nat → Int32) × (Nat → Nat → Int32) := if (fX9_isNew a_) = 0 then ((fX9_valueInV A b_ a_), v, A) else if A 38 (Int32.toNatClampNeg (((-11)) - (a_))) = (-1) then if 60 ≤ v 26 then (A 38 (Int32.toNatClampNeg (((-11)) - (a_))), v, A) else ((upd (A 38) (Int32.toNatClampNeg (((-11)) - (a_))) ((100) + (v 26))) (Int32.toNatClampNeg (((-11)) - (a_))), (upd v 26 ((v 26) + (1))), (u1 A 38 (upd (A 38) (Int32.toNatClampNeg (((-11)) - (a_))) ((100) + (v 26))))) else (A 38 (Int32.toNatClampNeg (((-11)) - (a_))), v, A)
set_option maxHeartbeats 1000000 in
set_option maxRecDepth 10000 in
theorem ctX9_comes {l : Launch} {D : va_G} {aC : Nat → ClassId} {b0 sz : Nat} {r : Nat} {v : Nat → Int32} {A : Nat → Nat → Int32} {R : ZM} {a_ : Int32} {b_ : Int32} (hm : ¬ fX9_isNew a_ = 0 → vp_in ((-11) - (a_)) 4) (hv : ¬ fX9_isVariable a_ = 0 → vp_in (4 * b_ - 1 - a_) 20400) : Ct l D aC b0 yX9_comes cX9_comes 4 (some .int) 3 0 0 [.ref (r), .int (a_), .int (b_)] (mm aC r v A R) sz (zd (some (.int (fX9_comes v A a_ b_).1)) (mm aC r (fX9_comes v A a_ b_).2.1 (fX9_comes v A a_ b_).2.2 R)) := by
  refine Ct.of (by decide) (Nat.le_of_ble_eq_true rfl) ?_
  intro p e s m below meth c ls C hr hlk hnm hl
  have hl : lv_has ls 4 [(0, .ref (r)), (1, .int (a_)), (2, .int (b_))] := hl
  obtain ⟨hx, hb, -, -, -⟩ := id C
  refine zz (fun _ _ => lv_iload_n hx hb dX9_comes_0 rfl (lv_at hl 1 rfl)) ?_
  refine zdS (As := [.int (a_)]) (rest := []) (st' := [.int ((fX9_isNew a_))]) C hl.1 lk_X9_153 (ctX9_isNew ) rfl rfl (Nat.le_of_ble_eq_true rfl) ⟨by decide, by decide, by decide, by decide⟩ dX9_comes_1 rfl (fun sz => ?_)
  refine zbn (fun _ _ => lv_if_ne (tgt := 18) hx hb dX9_comes_4 (by decide)) (fun c_1 => ?_) (fun c_1 => ?_)
  · refine zz (fun _ _ => lv_bipush (v := (-11)) hx hb dX9_comes_18 (by decide)) ?_
    refine zz (fun _ _ => lv_iload_n hx hb dX9_comes_20 rfl (lv_at hl 1 rfl)) ?_
    refine zz (fun _ _ => lv_isub hx hb dX9_comes_21) ?_
    refine zs (fun _ _ => lv_istore_n (lv' := [(3, .int (((-11)) - (a_))), (0, .ref (r)), (1, .int (a_)), (2, .int (b_))]) hx hb dX9_comes_22 rfl hl (by decide) rfl) (fun ls hl => ?_)
    refine zz (fun _ _ => lv_aload_n hx hb dX9_comes_23 rfl (lv_at hl 1 rfl)) ?_
    refine z_get (v := .ref (r + 38)) C fd_X9_126 rm_0 rfl dX9_comes_24 ?_
    refine zz (fun _ _ => lv_iload_n hx hb dX9_comes_27 rfl (lv_at hl 0 rfl)) ?_
    refine z_iald (f := A 38) C rm_38 (hm c_1) dX9_comes_28 ?_
    refine zz (fun _ _ => lv_iconst (v := (-1)) hx hb dX9_comes_29 (by decide)) ?_
    refine zbn (fun _ _ => lv_icmp_ne (tgt := 65) hx hb dX9_comes_30 (by decide)) (fun c_2 => ?_) (fun c_2 => ?_)
    · refine zz (fun _ _ => lv_aload_n hx hb dX9_comes_65 rfl (lv_at hl 1 rfl)) ?_
      refine z_get (v := .ref (r + 38)) C fd_X9_126 rm_0 rfl dX9_comes_66 ?_
      refine zz (fun _ _ => lv_iload_n hx hb dX9_comes_69 rfl (lv_at hl 0 rfl)) ?_
      refine z_iald (f := A 38) C rm_38 (hm c_1) dX9_comes_70 ?_
      exact z_iret C hr hlk dX9_comes_71 (by simp only [zd, fX9_comes, if_neg c_1, if_neg c_2, and_self])
    · refine zz (fun _ _ => lv_aload_n hx hb dX9_comes_33 rfl (lv_at hl 1 rfl)) ?_
      refine z_get (v := .int (v 26)) C fd_X9_199 rm_0 rfl dX9_comes_34 ?_
      refine zz (fun _ _ => lv_bipush (v := 60) hx hb dX9_comes_37 (by decide)) ?_
      refine zb (fun _ _ => lv_icmp_ge (tgt := 65) hx hb dX9_comes_39 (by decide)) (fun c_3 => ?_) (fun c_3 => ?_)
      · refine zz (fun _ _ => lv_aload_n hx hb dX9_comes_65 rfl (lv_at hl 1 rfl)) ?_
        refine z_get (v := .ref (r + 38)) C fd_X9_126 rm_0 rfl dX9_comes_66 ?_
        refine zz (fun _ _ => lv_iload_n hx hb dX9_comes_69 rfl (lv_at hl 0 rfl)) ?_
        refine z_iald (f := A 38) C rm_38 (hm c_1) dX9_comes_70 ?_
        exact z_iret C hr hlk dX9_comes_71 (by simp only [zd, fX9_comes, if_neg c_1, if_pos c_2, if_pos c_3, and_self])
      · refine zz (fun _ _ => lv_aload_n hx hb dX9_comes_42 rfl (lv_at hl 1 rfl)) ?_
        refine z_get (v := .ref (r + 38)) C fd_X9_126 rm_0 rfl dX9_comes_43 ?_
        refine zz (fun _ _ => lv_iload_n hx hb dX9_comes_46 rfl (lv_at hl 0 rfl)) ?_
        refine zz (fun _ _ => lv_bipush (v := 100) hx hb dX9_comes_47 (by decide)) ?_
        refine zz (fun _ _ => lv_aload_n hx hb dX9_comes_49 rfl (lv_at hl 1 rfl)) ?_
        refine z_get (v := .int (v 26)) C fd_X9_199 rm_0 rfl dX9_comes_50 ?_
        refine zz (fun _ _ => lv_iadd hx hb dX9_comes_53) ?_
        refine z_iast (f := A 38) C rm_38 (hm c_1) dX9_comes_54 ?_
        refine zeq wm_38 ?_
        refine zz (fun _ _ => lv_aload_n hx hb dX9_comes_55 rfl (lv_at hl 1 rfl)) ?_
        refine zz (fun _ _ => lv_dup hx hb dX9_comes_56 rfl) ?_
        refine z_get (v := .int (v 26)) C fd_X9_199 rm_0 rfl dX9_comes_57 ?_
        refine zz (fun _ _ => lv_iconst (v := 1) hx hb dX9_comes_60 (by decide)) ?_
        refine zz (fun _ _ => lv_iadd hx hb dX9_comes_61) ?_
        refine z_put C fp_X9_199 (fun h => by cases h) rm_0 (Nat.le_of_ble_eq_true rfl) rfl rfl dX9_comes_62 ?_
        refine zeq wm_f26 ?_
        refine zz (fun _ _ => lv_aload_n hx hb dX9_comes_65 rfl (lv_at hl 1 rfl)) ?_
        refine z_get (v := .ref (r + 38)) C fd_X9_126 rm_0 rfl dX9_comes_66 ?_
        refine zz (fun _ _ => lv_iload_n hx hb dX9_comes_69 rfl (lv_at hl 0 rfl)) ?_
        refine z_iald (f := (upd (A 38) (Int32.toNatClampNeg (((-11)) - (a_))) ((100) + (v 26)))) C rm_38 (hm c_1) dX9_comes_70 ?_
        exact z_iret C hr hlk dX9_comes_71 (by simp only [zd, fX9_comes, if_neg c_1, if_pos c_2, if_neg c_3, and_self])
  · refine zz (fun _ _ => lv_aload_n hx hb dX9_comes_7 rfl (lv_at hl 0 rfl)) ?_
    refine zz (fun _ _ => lv_aload_n hx hb dX9_comes_8 rfl (lv_at hl 0 rfl)) ?_
    refine z_get (v := .ref (r + 35)) C fd_X9_117 rm_0 rfl dX9_comes_9 ?_
    refine zz (fun _ _ => lv_iload_n hx hb dX9_comes_12 rfl (lv_at hl 2 rfl)) ?_
    refine zz (fun _ _ => lv_iload_n hx hb dX9_comes_13 rfl (lv_at hl 1 rfl)) ?_
    refine zdV (As := [.ref (r + 35), .int (b_), .int (a_)]) (rest := []) (st' := [.int ((fX9_valueInV A b_ a_))]) C hl.1 lk_X9_183 (ctX9_valueInV hv) rm_0 rfl rfl rfl (Nat.le_of_ble_eq_true rfl) ⟨by decide, by decide, by decide, by decide⟩ dX9_comes_14 rfl (fun sz => ?_)
    exact z_iret C hr hlk dX9_comes_17 (by simp only [zd, fX9_comes, if_pos c_1, and_self])
