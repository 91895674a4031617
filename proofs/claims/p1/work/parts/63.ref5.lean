def fX9_isAfter (A : Nat → Nat → Int32) (a_ : Int32) (b_ : Int32) (c_ : Int32) (d_ : Int32) (e_ : Int32) : Int32 := if A 29 (Int32.toNatClampNeg (a_)) = b_ then if A 30 (Int32.toNatClampNeg (a_)) = c_ then if A 31 (Int32.toNatClampNeg (a_)) = d_ then if A 32 (Int32.toNatClampNeg (a_)) ≤ e_ then (0) else (1) else if A 31 (Int32.toNatClampNeg (a_)) ≤ d_ then (0) else (1) else if A 30 (Int32.toNatClampNeg (a_)) ≤ c_ then (0) else (1) else if A 29 (Int32.toNatClampNeg (a_)) ≤ b_ then (0) else (1)
theorem nbfX9_isAfter {A : Nat → Nat → Int32} {a_ : Int32} {b_ : Int32} {c_ : Int32} {d_ : Int32} {e_ : Int32} : narrow .boolean (.int (fX9_isAfter A a_ b_ c_ d_ e_)) = .int (fX9_isAfter A a_ b_ c_ d_ e_) := by
  unfold fX9_isAfter
  repeat' split
  all_goals try dsimp only
  all_goals first | rfl | assumption
set_option maxHeartbeats 1000000 in
set_option maxRecDepth 10000 in
theorem ctX9_isAfter {l : Launch} {D : va_G} {aC : Nat → ClassId} {b0 sz : Nat} {r : Nat} {v : Nat → Int32} {A : Nat → Nat → Int32} {R : ZM} {a_ : Int32} {b_ : Int32} {c_ : Int32} {d_ : Int32} {e_ : Int32} (hia : vp_in a_ 240) : Ct l D aC b0 yX9_isAfter cX9_isAfter 6 (some .boolean) 0 0 0 [.ref (r), .int (a_), .int (b_), .int (c_), .int (d_), .int (e_)] (mm aC r v A R) sz (zd (some (.int (fX9_isAfter A a_ b_ c_ d_ e_))) (mm aC r v A R)) := by
  refine Ct.of (by decide) (Nat.le_of_ble_eq_true rfl) ?_
  intro p e s m below meth c ls C hr hlk hnm hl
  have hl : lv_has ls 6 [(0, .ref (r)), (1, .int (a_)), (2, .int (b_)), (3, .int (c_)), (4, .int (d_)), (5, .int (e_))] := hl
  obtain ⟨hx, hb, -, -, -⟩ := id C
  refine zz (fun _ _ => lv_aload_n hx hb dX9_isAfter_0 rfl (lv_at hl 0 rfl)) ?_
  refine z_get (v := .ref (r + 29)) C fd_X9_95 rm_0 rfl dX9_isAfter_1 ?_
  refine zz (fun _ _ => lv_iload_n hx hb dX9_isAfter_4 rfl (lv_at hl 1 rfl)) ?_
  refine z_iald (f := A 29) C rm_29 (by first | assumption | (apply vp_in_nI <;> omega)) dX9_isAfter_5 ?_
  refine zz (fun _ _ => lv_iload_n hx hb dX9_isAfter_6 rfl (lv_at hl 2 rfl)) ?_
  refine zb (fun _ _ => lv_icmp_eq (tgt := 26) hx hb dX9_isAfter_7 (by decide)) (fun c_1 => ?_) (fun c_1 => ?_)
  · refine zz (fun _ _ => lv_aload_n hx hb dX9_isAfter_26 rfl (lv_at hl 0 rfl)) ?_
    refine z_get (v := .ref (r + 30)) C fd_X9_98 rm_0 rfl dX9_isAfter_27 ?_
    refine zz (fun _ _ => lv_iload_n hx hb dX9_isAfter_30 rfl (lv_at hl 1 rfl)) ?_
    refine z_iald (f := A 30) C rm_30 (by first | assumption | (apply vp_in_nI <;> omega)) dX9_isAfter_31 ?_
    refine zz (fun _ _ => lv_iload_n hx hb dX9_isAfter_32 rfl (lv_at hl 3 rfl)) ?_
    refine zb (fun _ _ => lv_icmp_eq (tgt := 52) hx hb dX9_isAfter_33 (by decide)) (fun c_2 => ?_) (fun c_2 => ?_)
    · refine zz (fun _ _ => lv_aload_n hx hb dX9_isAfter_52 rfl (lv_at hl 0 rfl)) ?_
      refine z_get (v := .ref (r + 31)) C fd_X9_101 rm_0 rfl dX9_isAfter_53 ?_
      refine zz (fun _ _ => lv_iload_n hx hb dX9_isAfter_56 rfl (lv_at hl 1 rfl)) ?_
      refine z_iald (f := A 31) C rm_31 (by first | assumption | (apply vp_in_nI <;> omega)) dX9_isAfter_57 ?_
      refine zz (fun _ _ => lv_iload hx hb dX9_isAfter_58 (lv_at hl 4 rfl)) ?_
      refine zb (fun _ _ => lv_icmp_eq (tgt := 82) hx hb dX9_isAfter_60 (by decide)) (fun c_3 => ?_) (fun c_3 => ?_)
      · refine zz (fun _ _ => lv_aload_n hx hb dX9_isAfter_82 rfl (lv_at hl 0 rfl)) ?_
        refine z_get (v := .ref (r + 32)) C fd_X9_104 rm_0 rfl dX9_isAfter_83 ?_
        refine zz (fun _ _ => lv_iload_n hx hb dX9_isAfter_86 rfl (lv_at hl 1 rfl)) ?_
        refine z_iald (f := A 32) C rm_32 (by first | assumption | (apply vp_in_nI <;> omega)) dX9_isAfter_87 ?_
        refine zz (fun _ _ => lv_iload hx hb dX9_isAfter_88 (lv_at hl 5 rfl)) ?_
        refine zb (fun _ _ => lv_icmp_le (tgt := 97) hx hb dX9_isAfter_90 (by decide)) (fun c_4 => ?_) (fun c_4 => ?_)
        · refine zz (fun _ _ => lv_iconst (v := 0) hx hb dX9_isAfter_97 (by decide)) ?_
          exact z_zret C hr rfl hlk dX9_isAfter_98 (by simp only [zd, fX9_isAfter, if_pos c_1, if_pos c_2, if_pos c_3, if_pos c_4, and_self])
        · refine zz (fun _ _ => lv_iconst (v := 1) hx hb dX9_isAfter_93 (by decide)) ?_
          refine zz (fun _ _ => lv_goto (tgt := 98) hx hb dX9_isAfter_94 (by decide)) ?_
          exact z_zret C hr rfl hlk dX9_isAfter_98 (by simp only [zd, fX9_isAfter, if_pos c_1, if_pos c_2, if_pos c_3, if_neg c_4, and_self])
      · refine zz (fun _ _ => lv_aload_n hx hb dX9_isAfter_63 rfl (lv_at hl 0 rfl)) ?_
        refine z_get (v := .ref (r + 31)) C fd_X9_101 rm_0 rfl dX9_isAfter_64 ?_
        refine zz (fun _ _ => lv_iload_n hx hb dX9_isAfter_67 rfl (lv_at hl 1 rfl)) ?_
        refine z_iald (f := A 31) C rm_31 (by first | assumption | (apply vp_in_nI <;> omega)) dX9_isAfter_68 ?_
        refine zz (fun _ _ => lv_iload hx hb dX9_isAfter_69 (lv_at hl 4 rfl)) ?_
        refine zb (fun _ _ => lv_icmp_le (tgt := 78) hx hb dX9_isAfter_71 (by decide)) (fun c_5 => ?_) (fun c_5 => ?_)
        · refine zz (fun _ _ => lv_iconst (v := 0) hx hb dX9_isAfter_78 (by decide)) ?_
          refine zz (fun _ _ => lv_goto (tgt := 98) hx hb dX9_isAfter_79 (by decide)) ?_
          exact z_zret C hr rfl hlk dX9_isAfter_98 (by simp only [zd, fX9_isAfter, if_pos c_1, if_pos c_2, if_neg c_3, if_pos c_5, and_self])
        · refine zz (fun _ _ => lv_iconst (v := 1) hx hb dX9_isAfter_74 (by decide)) ?_
          refine zz (fun _ _ => lv_goto (tgt := 98) hx hb dX9_isAfter_75 (by decide)) ?_
          exact z_zret C hr rfl hlk dX9_isAfter_98 (by simp only [zd, fX9_isAfter, if_pos c_1, if_pos c_2, if_neg c_3, if_neg c_5, and_self])
    · refine zz (fun _ _ => lv_aload_n hx hb dX9_isAfter_36 rfl (lv_at hl 0 rfl)) ?_
      refine z_get (v := .ref (r + 30)) C fd_X9_98 rm_0 rfl dX9_isAfter_37 ?_
      refine zz (fun _ _ => lv_iload_n hx hb dX9_isAfter_40 rfl (lv_at hl 1 rfl)) ?_
      refine z_iald (f := A 30) C rm_30 (by first | assumption | (apply vp_in_nI <;> omega)) dX9_isAfter_41 ?_
      refine zz (fun _ _ => lv_iload_n hx hb dX9_isAfter_42 rfl (lv_at hl 3 rfl)) ?_
      refine zb (fun _ _ => lv_icmp_le (tgt := 50) hx hb dX9_isAfter_43 (by decide)) (fun c_6 => ?_) (fun c_6 => ?_)
      · refine zz (fun _ _ => lv_iconst (v := 0) hx hb dX9_isAfter_50 (by decide)) ?_
        exact z_zret C hr rfl hlk dX9_isAfter_51 (by simp only [zd, fX9_isAfter, if_pos c_1, if_neg c_2, if_pos c_6, and_self])
      · refine zz (fun _ _ => lv_iconst (v := 1) hx hb dX9_isAfter_46 (by decide)) ?_
        refine zz (fun _ _ => lv_goto (tgt := 51) hx hb dX9_isAfter_47 (by decide)) ?_
        exact z_zret C hr rfl hlk dX9_isAfter_51 (by simp only [zd, fX9_isAfter, if_pos c_1, if_neg c_2, if_neg c_6, and_self])
  · refine zz (fun _ _ => lv_aload_n hx hb dX9_isAfter_10 rfl (lv_at hl 0 rfl)) ?_
    refine z_get (v := .ref (r + 29)) C fd_X9_95 rm_0 rfl dX9_isAfter_11 ?_
    refine zz (fun _ _ => lv_iload_n hx hb dX9_isAfter_14 rfl (lv_at hl 1 rfl)) ?_
    refine z_iald (f := A 29) C rm_29 (by first | assumption | (apply vp_in_nI <;> omega)) dX9_isAfter_15 ?_
    refine zz (fun _ _ => lv_iload_n hx hb dX9_isAfter_16 rfl (lv_at hl 2 rfl)) ?_
    refine zb (fun _ _ => lv_icmp_le (tgt := 24) hx hb dX9_isAfter_17 (by decide)) (fun c_7 => ?_) (fun c_7 => ?_)
    · refine zz (fun _ _ => lv_iconst (v := 0) hx hb dX9_isAfter_24 (by decide)) ?_
      exact z_zret C hr rfl hlk dX9_isAfter_25 (by simp only [zd, fX9_isAfter, if_neg c_1, if_pos c_7, and_self])
    · refine zz (fun _ _ => lv_iconst (v := 1) hx hb dX9_isAfter_20 (by decide)) ?_
      refine zz (fun _ _ => lv_goto (tgt := 25) hx hb dX9_isAfter_21 (by decide)) ?_
      exact z_zret C hr rfl hlk dX9_isAfter_25 (by simp only [zd, fX9_isAfter, if_neg c_1, if_neg c_7, and_self])
def fX9_valueInV (A : Nat → Nat → Int32) (b_ : Int32) (c_ : Int32) : Int32 := if (fX9_isVariable c_) = 0 then (c_) else (A 35 (Int32.toNatClampNeg ((((4) * (b_)) - (1)) - (c_))))
set_option maxHeartbeats 1000000 in
set_option maxRecDepth 10000 in
theorem ctX9_valueInV {l : Launch} {D : va_G} {aC : Nat → ClassId} {b0 sz : Nat} {r : Nat} {v : Nat → Int32} {A : Nat → Nat → Int32} {R : ZM} {b_ : Int32} {c_ : Int32} (hi : ¬ fX9_isVariable c_ = 0 → vp_in (4 * b_ - 1 - c_) 20400) : Ct l D aC b0 yX9_valueIn cX9_valueIn 4 (some .int) 2 0 0 [.ref (r), .ref (r + 35), .int (b_), .int (c_)] (mm aC r v A R) sz (zd (some (.int (fX9_valueInV A b_ c_))) (mm aC r v A R)) := by
  refine Ct.of (by decide) (Nat.le_of_ble_eq_true rfl) ?_
  intro p e s m below meth c ls C hr hlk hnm hl
  have hl : lv_has ls 4 [(0, .ref (r)), (1, .ref (r + 35)), (2, .int (b_)), (3, .int (c_))] := hl
  obtain ⟨hx, hb, -, -, -⟩ := id C
  refine zz (fun _ _ => lv_iload_n hx hb dX9_valueIn_0 rfl (lv_at hl 3 rfl)) ?_
  refine zdS (As := [.int (c_)]) (rest := []) (st' := [.int ((fX9_isVariable c_))]) C hl.1 lk_X9_150 (ctX9_isVariable) rfl rfl (Nat.le_of_ble_eq_true rfl) ⟨by decide, by decide, by decide, by decide⟩ dX9_valueIn_1 rfl (fun sz => ?_)
  refine zb (fun _ _ => lv_if_eq (tgt := 19) hx hb dX9_valueIn_4 (by decide)) (fun c_1 => ?_) (fun c_1 => ?_)
  · refine zz (fun _ _ => lv_iload_n hx hb dX9_valueIn_19 rfl (lv_at hl 3 rfl)) ?_
    exact z_iret C hr hlk dX9_valueIn_20 (by simp only [zd, fX9_valueInV, if_pos c_1, and_self])
  · refine zz (fun _ _ => lv_aload_n hx hb dX9_valueIn_7 rfl (lv_at hl 1 rfl)) ?_
    refine zz (fun _ _ => lv_iconst (v := 4) hx hb dX9_valueIn_8 (by decide)) ?_
    refine zz (fun _ _ => lv_iload_n hx hb dX9_valueIn_9 rfl (lv_at hl 2 rfl)) ?_
    refine zz (fun _ _ => lv_imul hx hb dX9_valueIn_10) ?_
    refine zz (fun _ _ => lv_iconst (v := 1) hx hb dX9_valueIn_11 (by decide)) ?_
    refine zz (fun _ _ => lv_isub hx hb dX9_valueIn_12) ?_
    refine zz (fun _ _ => lv_iload_n hx hb dX9_valueIn_13 rfl (lv_at hl 3 rfl)) ?_
    refine zz (fun _ _ => lv_isub hx hb dX9_valueIn_14) ?_
    refine z_iald (f := A 35) C rm_35 (hi c_1) dX9_valueIn_15 ?_
    refine zz (fun _ _ => lv_goto (tgt := 20) hx hb dX9_valueIn_16 (by decide)) ?_
    exact z_iret C hr hlk dX9_valueIn_20 (by simp only [zd, fX9_valueInV, if_neg c_1, and_self])
def fX9_valueInN (A : Nat → Nat → Int32) (b_ : Int32) (c_ : Int32) : Int32 := if (fX9_isVariable c_) = 0 then (c_) else (A 36 (Int32.toNatClampNeg ((((4) * (b_)) - (1)) - (c_))))
set_option maxHeartbeats 1000000 in
set_option maxRecDepth 10000 in
theorem ctX9_valueInN {l : Launch} {D : va_G} {aC : Nat → ClassId} {b0 sz : Nat} {r : Nat} {v : Nat → Int32} {A : Nat → Nat → Int32} {R : ZM} {b_ : Int32} {c_ : Int32} (hi : ¬ fX9_isVariable c_ = 0 → vp_in (4 * b_ - 1 - c_) 20400) : Ct l D aC b0 yX9_valueIn cX9_valueIn 4 (some .int) 2 0 0 [.ref (r), .ref (r + 36), .int (b_), .int (c_)] (mm aC r v A R) sz (zd (some (.int (fX9_valueInN A b_ c_))) (mm aC r v A R)) := by
  refine Ct.of (by decide) (Nat.le_of_ble_eq_true rfl) ?_
  intro p e s m below meth c ls C hr hlk hnm hl
  have hl : lv_has ls 4 [(0, .ref (r)), (1, .ref (r + 36)), (2, .int (b_)), (3, .int (c_))] := hl
  obtain ⟨hx, hb, -, -, -⟩ := id C
  refine zz (fun _ _ => lv_iload_n hx hb dX9_valueIn_0 rfl (lv_at hl 3 rfl)) ?_
  refine zdS (As := [.int (c_)]) (rest := []) (st' := [.int ((fX9_isVariable c_))]) C hl.1 lk_X9_150 (ctX9_isVariable) rfl rfl (Nat.le_of_ble_eq_true rfl) ⟨by decide, by decide, by decide, by decide⟩ dX9_valueIn_1 rfl (fun sz => ?_)
  refine zb (fun _ _ => lv_if_eq (tgt := 19) hx hb dX9_valueIn_4 (by decide)) (fun c_1 => ?_) (fun c_1 => ?_)
  · refine zz (fun _ _ => lv_iload_n hx hb dX9_valueIn_19 rfl (lv_at hl 3 rfl)) ?_
    exact z_iret C hr hlk dX9_valueIn_20 (by simp only [zd, fX9_valueInN, if_pos c_1, and_self])
  · refine zz (fun _ _ => lv_aload_n hx hb dX9_valueIn_7 rfl (lv_at hl 1 rfl)) ?_
    refine zz (fun _ _ => lv_iconst (v := 4) hx hb dX9_valueIn_8 (by decide)) ?_
    refine zz (fun _ _ => lv_iload_n hx hb dX9_valueIn_9 rfl (lv_at hl 2 rfl)) ?_
    refine zz (fun _ _ => lv_imul hx hb dX9_valueIn_10) ?_
    refine zz (fun _ _ => lv_iconst (v := 1) hx hb dX9_valueIn_11 (by decide)) ?_
    refine zz (fun _ _ => lv_isub hx hb dX9_valueIn_12) ?_
    refine zz (fun _ _ => lv_iload_n hx hb dX9_valueIn_13 rfl (lv_at hl 3 rfl)) ?_
    refine zz (fun _ _ => lv_isub hx hb dX9_valueIn_14) ?_
    refine z_iald (f := A 36) C rm_36 (hi c_1) dX9_valueIn_15 ?_
    refine zz (fun _ _ => lv_goto (tgt := 20) hx hb dX9_valueIn_16 (by decide)) ?_
    exact z_iret C hr hlk dX9_valueIn_20 (by simp only [zd, fX9_valueInN, if_neg c_1, and_self])
