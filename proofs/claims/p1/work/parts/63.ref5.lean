def fX9_isAfter (A : Nat → Nat → Int32) (a_ : Int32) (b_ : Int32) (c_ : Int32) (d_ : Int32) (e_ : Int32) : Int32 := if A 29 (Int32.toNatClampNeg (a_)) = b_ then if A 30 (Int32.toNatClampNeg (a_)) = c_ then if A 31 (Int32.toNatClampNeg (a_)) = d_ then if A 32 (Int32.toNatClampNeg (a_)) ≤ e_ then (0) else (1) else if A 31 (Int32.toNatClampNeg (a_)) ≤ d_ then (0) else (1) else if A 30 (Int32.toNatClampNeg (a_)) ≤ c_ then (0) else (1) else if A 29 (Int32.toNatClampNeg (a_)) ≤ b_ then (0) else (1)
theorem nbfX9_isAfter {A : Nat → Nat → Int32} {a_ : Int32} {b_ : Int32} {c_ : Int32} {d_ : Int32} {e_ : Int32} : narrow .boolean (.int (fX9_isAfter A a_ b_ c_ d_ e_)) = .int (fX9_isAfter A a_ b_ c_ d_ e_) := by
  unfold fX9_isAfter
  repeat' split
  all_goals try dsimp only
  all_goals first | rfl | assumption
set_option maxHeartbeats 1000000 in
set_option maxRecDepth 10000 in
theorem ctX9_isAfter {l : Launch} {D : va_G} {aC : Nat → ClassId} {b0 sz : Nat} {r : Nat} {v : Nat → Int32} {A : Nat → Nat → Int32} {R : ZM} {a_ : Int32} {b_ : Int32} {c_ : Int32} {d_ : Int32} {e_ : Int32} (hia : vp_in a_ 240) : Ct l D aC b0 yX9_isAfter cX9_isAfter 6 (some .boolean) 0 0 0 [.ref (r), .int (a_), .int (b_), .int (c_), .int (d_), .int (e_)] (mm aC r v A R) sz (zd (some (.int (fX9_isAfter A a_ b_ c_ d_ e_))) (mm aC r v A R)) := by
  refine Ct.of (by decide) (Nat.le_of_ble_eq_true rfl) ?_
  intro p e s m below meth c ls C hr hlk hnm hl
  have hl : lv_has ls 6 [(0, .ref (r)), (1, .int (a_)), (2, .int (b_)), (3, .int (c_)), (4, .int (d_)), (5, .int (e_))] := hl
  obtain ⟨hx, hb, -, -, -⟩ := id C
  refine zz (fun _ _ => lv_aload_n hx hb dX9_isAfter_0 rfl (lv_at hl 0 rfl)) ?_
  refine z_get (v := .ref (r + 29)) C fd_X9_95 rm_0 rfl dX9_isAfter_1 ?_
  refine zz (fun _ _ => lv_iload_n hx hb dX9_isAfter_4 rfl (lv_at hl 1 rfl)) ?_
  refine z_iald (f := A 29) C rm_29 (by first | assumption | (apply vp_in_nI <;> omega)) dX9_isAfter_5 ?_
  refine zz (fun _ _ => lv_iload_n hx hb dX9_isAfter_6 rfl (lv_at hl 2 rfl)) ?_
  refine zb (fun _ _ => lv_icmp_eq (tgt := 26) hx hb dX9_isAfter_7 (by decide)) (fun c_1 => ?_) (fun c_1 => ?_)
  · refine zz (fun _ _ => lv_aload_n hx hb dX9_isAfter_26 rfl (lv_at hl 0 rfl)) ?_
    refine z_get (v := .ref (r + 30)) C fd_X9_98 rm_0 rfl dX9_isAfter_27 ?_
    refine zz (fun _ _ => lv_iload_n hx hb dX9_isAfter_30 rfl (lv_at hl 1 rfl)) ?_
    refine z_iald (f := A 30) C rm_30 (by first | assumption | (apply vp_in_nI <;> omega)) dX9_isAfter_31 ?_
    refine zz (fun _ _ => lv_iload_n hx hb dX9_isAfter_32 rfl (lv_at hl 3 rfl)) ?_
    refine zb (fun _ _ => lv_icmp_eq (tgt := 52) hx hb dX9_isAfter_33 (by decide)) (fun c_2 => ?_) (fun c_2 => ?_)
    · refine zz (fun _ _ => lv_aload_n hx hb dX9_isAfter_52 rfl (lv_at hl 0 rfl)) ?_
      refine z_get (v := .ref (r + 31)) C fd_X9_101 rm_0 rfl dX9_isAfter_53 ?_
      refine zz (fun _ _ => lv_iload_n hx hb dX9_isAfter_56 rfl (lv_at hl 1 rfl)) ?_
      refine z_iald (f := A 31) C rm_31 (by first | assumption | (apply vp_in_nI <;> omega)) dX9_isAfter_57 ?_
      refine zz (fun _ _ => lv_iload hx hb dX9_isAfter_58 (lv_at hl 4 rfl)) ?_
      refine zb (fun _ _ => lv_icmp_eq (tgt := 82) hx hb dX9_isAfter_60 (by decide)) (fun c_3 => ?_) (fun c_3 => ?_)
      · refine zz (fun _ _ => lv_aload_n hx hb dX9_isAfter_82 rfl (lv_at hl 0 rfl)) ?_
        refine z_get (v := .ref (r + 32)) C fd_X9_104 rm_0 rfl dX9_isAfter_83 ?_
        refine zz (fun _ _ => lv_iload_n hx hb dX9_isAfter_86 rfl (lv_at hl 1 rfl)) ?_
        refine z_iald (f := A 32) C rm_32 (by first | assumption | (apply vp_in_nI <;> omega)) dX9_isAfter_87 ?_
        refine zz (fun _ _ => lv_iload hx hb dX9_isAfter_88 (lv_at hl 5 rfl)) ?_
        refine zb (fun _ _ => lv_icmp_le (tgt := 97) hx hb dX9_isAfter_90 (by decide)) (fun c_4 => ?_) (fun c_4 => ?_)
        · refine zz (fun _ _ => lv_iconst (v := 0) hx hb dX9_isAfter_97 (by decide)) ?_
          exact z_zret C hr rfl hlk dX9_isAfter_98 (by simp only [zd, fX9_isAfter, if_pos c_1, if_pos c_2, if_pos c_3, if_pos c_4, and_self])
        · refine zz (fun _ _ => lv_iconst (v := 1) hx hb dX9_isAfter_93 (by decide)) ?_
          refine zz (fun _ _ => lv_goto (tgt := 98) hx hb dX9_isAfter_94 (by decide)) ?_
          exact z_zret C hr rfl hlk dX9_isAfter_98 (by simp only [zd, fX9_isAfter, if_pos c_1, if_pos c_2, if_pos c_3, if_neg c_4, and_self])
      · refine zz (fun _ _ => lv_aload_n hx hb dX9_isAfter_63 rfl (lv_at hl 0 rfl)) ?_
        refine z_get (v := .ref (r + 31)) C fd_X9_101 rm_0 rfl dX9_isAfter_64 ?_
        refine zz (fun _ _ => lv_iload_n hx hb dX9_isAfter_67 rfl (lv_at hl 1 rfl)) ?_
        refine z_iald (f := A 31) C rm_31 (by first | assumption | (apply vp_in_nI <;> omega)) dX9_isAfter_68 ?_
        refine zz (fun _ _ => lv_iload hx hb dX9_isAfter_69 (lv_at hl 4 rfl)) ?_
        refine zb (fun _ _ => lv_icmp_le (tgt := 78) hx hb dX9_isAfter_71 (by decide)) (fun c_5 => ?_) (fun c_5 => ?_)
        · refine zz (fun _ _ => lv_iconst (v := 0) hx hb dX9_isAfter_78 (by decide)) ?_
          refine zz (fun _ _ => lv_goto (tgt := 98) hx hb dX9_isAfter_79 (by decide)) ?_
          exact z_zret C hr rfl hlk dX9_isAfter_98 (by simp only [zd, fX9_isAfter, if_pos c_1, if_pos c_2, if_neg c_3, if_pos c_5, and_self])
        · refine zz (fun _ _ => lv_iconst (v := 1) hx hb dX9_isAfter_74 (by decide)) ?_
          refine zz (fun _ _ => lv_goto (tgt := 98) hx hb dX9_isAfter_75 (by decide)) ?_
          exact z_zret C hr rfl hlk dX9_isAfter_98 (by simp only [zd, fX9_isAfter, if_pos c_1, if_pos c_2, if_neg c_3, if_neg c_5, and_self])
    · refine zz (fun _ _ => lv_aload_n hx hb dX9_isAfter_36 rfl (lv_at hl 0 rfl)) ?_
      refine z_get (v := .ref (r + 30)) C fd_X9_98 rm_0 rfl dX9_isAfter_37 ?_
      refine zz (fun _ _ => lv_iload_n hx hb dX9_isAfter_40 rfl (lv_at hl 1 rfl)) ?_
      refine z_iald (f := A 30) C rm_30 (by first | assumption | (apply vp_in_nI <;> omega)) dX9_isAfter_41 ?_
      refine zz (fun _ _ => lv_iload_n hx hb dX9_isAfter_42 rfl (lv_at hl 3 rfl)) ?_
      refine zb (fun _ _ => lv_icmp_le (tgt := 50) hx hb dX9_isAfter_43 (by decide)) (fun c_6 => ?_) (fun c_6 => ?_)
      · refine zz (fun _ _ => lv_iconst (v := 0) hx hb dX9_isAfter_50 (by decide)) ?_
        exact z_zret C hr rfl hlk dX9_isAfter_51 (by simp only [zd, fX9_isAfter, if_pos c_1, if_neg c_2, if_pos c_6, and_self])
      · refine zz (fun _ _ => lv_iconst (v := 1) hx hb dX9_isAfter_46 (by decide)) ?_
        refine zz (fun _ _ => lv_goto (tgt := 51) hx hb dX9_isAfter_47 (by decide)) ?_
        exact z_zret C hr rfl hlk dX9_isAfter_51 (by simp only [zd, fX9_isAfter, if_pos c_1, if_neg c_2, if_neg c_6, and_self])
  · refine zz (fun _ _ => lv_aload_n hx hb dX9_isAfter_10 rfl (lv_at hl 0 rfl)) ?_
    refine z_get (v := .ref (r + 29)) C fd_X9_95 rm_0 rfl dX9_isAfter_11 ?_
    refine zz (fun _ _ => lv_iload_n hx hb dX9_isAfter_14 rfl (lv_at hl 1 rfl)) ?_
    refine z_iald (f := A 29) C rm_29 (by first | assumption | (apply vp_in_nI <;> omega)) dX9_isAfter_15 ?_
    refine zz (fun _ _ => lv_iload_n hx hb dX9_isAfter_16 rfl (lv_at hl 2 rfl)) ?_
    refine zb (fun _ _ => lv_icmp_le (tgt := 24) hx hb dX9_isAfter_17 (by decide)) (fun c_7 => ?_) (fun c_7 => ?_)
    · refine zz (fun _ _ => lv_iconst (v := 0) hx hb dX9_isAfter_24 (by decide)) ?_
      exact z_zret C hr rfl hlk dX9_isAfter_25 (by simp only [zd, fX9_isAfter, if_neg c_1, if_pos c_7, and_self])
    · refine zz (fun _ _ => lv_iconst (v := 1) hx hb dX9_isAfter_20 (by decide)) ?_
      refine zz (fun _ _ => lv_goto (tgt := 25) hx hb dX9_isAfter_21 (by decide)) ?_
      exact z_zret C hr rfl hlk dX9_isAfter_25 (by simp only [zd, fX9_isAfter, if_neg c_1, if_neg c_7, and_self])
def fX9_valueInV (A : Nat → Nat → Int32) (b_ : Int32) (c_ : Int32) : Int32 := if (fX9_isVariable c_) = 0 then (c_) else (A 35 (Int32.toNatClampNeg ((((4) * (b_)) - (1)) - (c_))))
set_option maxHeartbeats 1000000 in
set_option maxRecDepth 10000 in
theorem ctX9_valueInV {l : Launch} {D : va_G} {aC : Nat → ClassId} {b0 sz : Nat} {r : Nat} {v : Nat → Int32} {A : Nat → Nat → Int32} {R : ZM} {b_ : Int32} {c_ : Int32} (hi : ¬ fX9_isVariable c_ = 0 → vp_in (4 * b_ - 1 - c_) 20400) : Ct l D aC b0 yX9_valueIn cX9_valueIn 4 (some .int) 2 0 0 [.ref (r), .ref (r + 35), .int (b_), .int (c_)] (mm aC r v A R) sz (zd (some (.int (fX9_valueInV A b_ c_))) (mm aC r v A R)) := by
  refine Ct.of (by decide) (Nat.le_of_ble_eq_true rfl) ?_
  intro p e s m below meth c ls C hr hlk hnm hl
  have hl : lv_has ls 4 [(0, .ref (r)), (1, .ref (r + 35)), (2, .int (b_)), (3, .int (c_))] := hl
  obtain ⟨hx, hb, -, -, -⟩ := id C
  refine zz (fun _ _ => lv_iload_n hx hb dX9_valueIn_0 rfl (lv_at hl 3 rfl)) ?_
  refine zdS (As := [.int (c_)]) (rest := []) (st' := [.int ((fX9_isVariable c_))]) C hl.1 lk_X9_150 (ctX9_isVariable) rfl rfl (Nat.le_of_ble_eq_true rfl) ⟨by decide, by decide, by decide, by decide⟩ dX9_valueIn_1 rfl (fun sz => ?_)
  refine zb (fun _ _ => lv_if_eq (tgt := 19) hx hb dX9_valueIn_4 (by decide)) (fun c_1 => ?_) (fun c_1 => ?_)
  · refine zz (fun _ _ => lv_iload_n hx hb dX9_valueIn_19 rfl (lv_at hl 3 rfl)) ?_
    exact z_iret C hr hlk dX9_valueIn_20 (by simp only [zd, fX9_valueInV, if_pos c_1, and_self])
  · refine zz (fun _ _ => lv_aload_n hx hb dX9_valueIn_7 rfl (lv_at hl 1 rfl)) ?_
    refine zz (fun _ _ => lv_iconst (v := 4) hx hb dX9_valueIn_8 (by decide)) ?_
    refine zz (fun _ _ => lv_iload_n hx hb dX9_valueIn_9 rfl (lv_at hl 2 rfl)) ?_
    refine zz (fun _ _ => lv_imul hx hb dX9_valueIn_10) ?_
    refine zz (fun _ _ => lv_iconst (v := 1) hx hb dX9_valueIn_11 (by decide)) ?_
    refine zz (fun _ _ => lv_isub hx hb dX9_valueIn_12) ?_
    refine zz (fun _ _ => lv_iload_n hx hb dX9_valueIn_13 rfl (lv_at hl 3 rfl)) ?_
    refine zz (fun _ _ => lv_isub hx hb dX9_valueIn_14) ?_
    refine z_iald (f := A 35) C rm_35 (hi c_1) dX9_valueIn_15 ?_
    refine zz (fun _ _ => lv_goto (tgt := 20) hx hb dX9_valueIn_16 (by decide)) ?_
    exact z_iret C hr hlk dX9_valueIn_20 (by simp only [zd, fX9_valueInV, if_neg c_1, and_self])
def fX9_valueInN (A : Nat → Nat → Int32) (b_ : Int32) (c_ : Int32) : Int32 := if (fX9_isVariable c_) = 0 then (c_) else (A 36 (Int32.toNatClampNeg ((((4) * (b_)) - (1)) - (c_))))
set_option maxHeartbeats 1000000 in
set_option maxRecDepth 10000 in
theorem ctX9_valueInN {l : Launch} {D : va_G} {aC : Nat → ClassId} {b0 sz : Nat} {r : Nat} {v : Nat → Int32} {A : Nat → Nat → Int32} {R : ZM} {b_ : Int32} {c_ : Int32} (hi : ¬ fX9_isVariable c_ = 0 → vp_in (4 * b_ - 1 - c_) 20400) : Ct l D aC b0 yX9_valueIn cX9_valueIn 4 (some .int) 2 0 0 [.ref (r), .ref (r + 36), .int (b_), .int (c_)] (mm aC r v A R) sz (zd (some (.int (fX9_valueInN A b_ c_))) (mm aC r v A R)) := by
  refine Ct.of (by decide) (Nat.le_of_ble_eq_true rfl) ?_
  intro p e s m below meth c ls C hr hlk hnm hl
  have hl : lv_has ls 4 [(0, .ref (r)), (1, .ref (r + 36)), (2, .int (b_)), (3, .int (c_))] := hl
  obtain ⟨hx, hb, -, -, -⟩ := id C
  refine zz (fun _ _ => lv_iload_n hx hb dX9_valueIn_0 rfl (lv_at hl 3 rfl)) ?_
  refine zdS (As := [.int (c_)]) (rest := []) (st' := [.int ((fX9_isVariable c_))]) C hl.1 lk_X9_150 (ctX9_isVariable) rfl rfl (Nat.le_of_ble_eq_true rfl) ⟨by decide, by decide, by decide, by decide⟩ dX9_valueIn_1 rfl (fun sz => ?_)
  refine zb (fun _ _ => lv_if_eq (tgt := 19) hx hb dX9_valueIn_4 (by decide)) (fun c_1 => ?_) (fun c_1 => ?_)
  · refine zz (fun _ _ => lv_iload_n hx hb dX9_valueIn_19 rfl (lv_at hl 3 rfl)) ?_
    exact z_iret C hr hlk dX9_valueIn_20 (by simp only [zd, fX9_valueInN, if_pos c_1, and_self])
  · refine zz (fun _ _ => lv_aload_n hx hb dX9_valueIn_7 rfl (lv_at hl 1 rfl)) ?_
    refine zz (fun _ _ => lv_iconst (v := 4) hx hb dX9_valueIn_8 (by decide)) ?_
    refine zz (fun _ _ => lv_iload_n hx hb dX9_valueIn_9 rfl (lv_at hl 2 rfl)) ?_
    refine zz (fun _ _ => lv_imul hx hb dX9_valueIn_10) ?_
    refine zz (fun _ _ => lv_iconst (v := 1) hx hb dX9_valueIn_11 (by decide)) ?_
    refine zz (fun _ _ => lv_isub hx hb dX9_valueIn_12) ?_
    refine zz (fun _ _ => lv_iload_n hx hb dX9_valueIn_13 rfl (lv_at hl 3 rfl)) ?_
    refine zz (fun _ _ => lv_isub hx hb dX9_valueIn_14) ?_
    refine z_iald (f := A 36) C rm_36 (hi c_1) dX9_valueIn_15 ?_
    refine zz (fun _ _ => lv_goto (tgt := 20) hx hb dX9_valueIn_16 (by decide)) ?_
    exact z_iret C hr hlk dX9_valueIn_20 (by simp only [zd, fX9_valueInN, if_neg c_1, and_self])
def fX9_come (v : Nat → Int32) (A : Nat → Nat → Int32) (a_ : Int32) (b_ : Int32) (c_ : Int32) (d_ : Int32) : Int32 × (Nat → Int32) × (Nat → Nat → Int32) := if (fX9_find v A a_ b_ c_ d_) < 0 then if v 20 = 120 then (0, v, A) else (1, (upd v 20 ((v 20) + (1))), (u1 (u1 (u1 (u1 A 19 (upd (A 19) (Int32.toNatClampNeg (v 20)) (a_))) 20 (upd (A 20) (Int32.toNatClampNeg (v 20)) (b_))) 21 (upd (A 21) (Int32.toNatClampNeg (v 20)) (c_))) 22 (upd (A 22) (Int32.toNatClampNeg (v 20)) (d_)))) else (1, v, A)
theorem nbfX9_come {v : Nat → Int32} {A : Nat → Nat → Int32} {a_ : Int32} {b_ : Int32} {c_ : Int32} {d_ : Int32} : narrow .boolean (.int (fX9_come v A a_ b_ c_ d_).1) = .int (fX9_come v A a_ b_ c_ d_).1 := by
  unfold fX9_come
  repeat' split
  all_goals try dsimp only
  all_goals first | rfl | assumption
set_option maxHeartbeats 1000000 in
set_option maxRecDepth 10000 in
theorem ctX9_come {l : Launch} {D : va_G} {aC : Nat → ClassId} {b0 sz : Nat} {r : Nat} {v : Nat → Int32} {A : Nat → Nat → Int32} {R : ZM} {a_ : Int32} {b_ : Int32} {c_ : Int32} {d_ : Int32} {n_ : Nat} (hs : v 20 = nI n_) (hn : n_ ≤ 120) : Ct l D aC b0 yX9_come cX9_come 5 (some .boolean) 1 0 0 [.ref (r), .int (a_), .int (b_), .int (c_), .int (d_)] (mm aC r v A R) sz (zd (some (.int (fX9_come v A a_ b_ c_ d_).1)) (mm aC r (fX9_come v A a_ b_ c_ d_).2.1 (fX9_come v A a_ b_ c_ d_).2.2 R)) := by
  refine Ct.of (by decide) (Nat.le_of_ble_eq_true rfl) ?_
  intro p e s m below meth c ls C hr hlk hnm hl
  have hl : lv_has ls 5 [(0, .ref (r)), (1, .int (a_)), (2, .int (b_)), (3, .int (c_)), (4, .int (d_))] := hl
  obtain ⟨hx, hb, -, -, -⟩ := id C
  refine zz (fun _ _ => lv_aload_n hx hb dX9_come_0 rfl (lv_at hl 0 rfl)) ?_
  refine zz (fun _ _ => lv_iload_n hx hb dX9_come_1 rfl (lv_at hl 1 rfl)) ?_
  refine zz (fun _ _ => lv_iload_n hx hb dX9_come_2 rfl (lv_at hl 2 rfl)) ?_
  refine zz (fun _ _ => lv_iload_n hx hb dX9_come_3 rfl (lv_at hl 3 rfl)) ?_
  refine zz (fun _ _ => lv_iload hx hb dX9_come_4 (lv_at hl 4 rfl)) ?_
  refine zdV (As := [.int (a_), .int (b_), .int (c_), .int (d_)]) (rest := []) (st' := [.int ((fX9_find v A a_ b_ c_ d_))]) C hl.1 lk_X9_163 (ctX9_find hs hn) rm_0 rfl rfl rfl (Nat.le_of_ble_eq_true rfl) ⟨by decide, by decide, by decide, by decide⟩ dX9_come_6 rfl (fun sz => ?_)
  refine zb (fun _ _ => lv_if_lt (tgt := 14) hx hb dX9_come_9 (by decide)) (fun c_1 => ?_) (fun c_1 => ?_)
  · refine zz (fun _ _ => lv_aload_n hx hb dX9_come_14 rfl (lv_at hl 0 rfl)) ?_
    refine z_get (v := .int (v 20)) C fd_X9_160 rm_0 rfl dX9_come_15 ?_
    refine zz (fun _ _ => lv_bipush (v := 120) hx hb dX9_come_18 (by decide)) ?_
    refine zbn (fun _ _ => lv_icmp_ne (tgt := 25) hx hb dX9_come_20 (by decide)) (fun c_2 => ?_) (fun c_2 => ?_)
    · refine zz (fun _ _ => lv_aload_n hx hb dX9_come_25 rfl (lv_at hl 0 rfl)) ?_
      refine z_get (v := .ref (r + 19)) C fd_X9_65 rm_0 rfl dX9_come_26 ?_
      refine zz (fun _ _ => lv_aload_n hx hb dX9_come_29 rfl (lv_at hl 0 rfl)) ?_
      refine z_get (v := .int (v 20)) C fd_X9_160 rm_0 rfl dX9_come_30 ?_
      refine zz (fun _ _ => lv_iload_n hx hb dX9_come_33 rfl (lv_at hl 1 rfl)) ?_
      refine z_iast (f := A 19) C rm_19 (in_nI hs (ne_lt (m := 120) hs hn c_2) (by decide)) dX9_come_34 ?_
      refine zeq wm_19 ?_
      refine zz (fun _ _ => lv_aload_n hx hb dX9_come_35 rfl (lv_at hl 0 rfl)) ?_
      refine z_get (v := .ref (r + 20)) C fd_X9_68 rm_0 rfl dX9_come_36 ?_
      refine zz (fun _ _ => lv_aload_n hx hb dX9_come_39 rfl (lv_at hl 0 rfl)) ?_
      refine z_get (v := .int (v 20)) C fd_X9_160 rm_0 rfl dX9_come_40 ?_
      refine zz (fun _ _ => lv_iload_n hx hb dX9_come_43 rfl (lv_at hl 2 rfl)) ?_
      refine z_iast (f := A 20) C rm_20 (in_nI hs (ne_lt (m := 120) hs hn c_2) (by decide)) dX9_come_44 ?_
      refine zeq wm_20 ?_
      refine zz (fun _ _ => lv_aload_n hx hb dX9_come_45 rfl (lv_at hl 0 rfl)) ?_
      refine z_get (v := .ref (r + 21)) C fd_X9_71 rm_0 rfl dX9_come_46 ?_
      refine zz (fun _ _ => lv_aload_n hx hb dX9_come_49 rfl (lv_at hl 0 rfl)) ?_
      refine z_get (v := .int (v 20)) C fd_X9_160 rm_0 rfl dX9_come_50 ?_
      refine zz (fun _ _ => lv_iload_n hx hb dX9_come_53 rfl (lv_at hl 3 rfl)) ?_
      refine z_iast (f := A 21) C rm_21 (in_nI hs (ne_lt (m := 120) hs hn c_2) (by decide)) dX9_come_54 ?_
      refine zeq wm_21 ?_
      refine zz (fun _ _ => lv_aload_n hx hb dX9_come_55 rfl (lv_at hl 0 rfl)) ?_
      refine z_get (v := .ref (r + 22)) C fd_X9_74 rm_0 rfl dX9_come_56 ?_
      refine zz (fun _ _ => lv_aload_n hx hb dX9_come_59 rfl (lv_at hl 0 rfl)) ?_
      refine z_get (v := .int (v 20)) C fd_X9_160 rm_0 rfl dX9_come_60 ?_
      refine zz (fun _ _ => lv_iload hx hb dX9_come_63 (lv_at hl 4 rfl)) ?_
      refine z_iast (f := A 22) C rm_22 (in_nI hs (ne_lt (m := 120) hs hn c_2) (by decide)) dX9_come_65 ?_
      refine zeq wm_22 ?_
      refine zz (fun _ _ => lv_aload_n hx hb dX9_come_66 rfl (lv_at hl 0 rfl)) ?_
      refine zz (fun _ _ => lv_dup hx hb dX9_come_67 rfl) ?_
      refine z_get (v := .int (v 20)) C fd_X9_160 rm_0 rfl dX9_come_68 ?_
      refine zz (fun _ _ => lv_iconst (v := 1) hx hb dX9_come_71 (by decide)) ?_
      refine zz (fun _ _ => lv_iadd hx hb dX9_come_72) ?_
      refine z_put C fp_X9_160 (fun h => by cases h) rm_0 (Nat.le_of_ble_eq_true rfl) rfl rfl dX9_come_73 ?_
      refine zeq wm_f20 ?_
      refine zz (fun _ _ => lv_iconst (v := 1) hx hb dX9_come_76 (by decide)) ?_
      exact z_zret C hr rfl hlk dX9_come_77 (by simp only [zd, fX9_come, if_pos c_1, if_neg c_2, and_self])
    · refine zz (fun _ _ => lv_iconst (v := 0) hx hb dX9_come_23 (by decide)) ?_
      exact z_zret C hr rfl hlk dX9_come_24 (by simp only [zd, fX9_come, if_pos c_1, if_pos c_2, and_self])
  · refine zz (fun _ _ => lv_iconst (v := 1) hx hb dX9_come_12 (by decide)) ?_
    exact z_zret C hr rfl hlk dX9_come_13 (by simp only [zd, fX9_come, if_neg c_1, and_self])
def fX9_leave (v : Nat → Int32) (A : Nat → Nat → Int32) (a_ : Int32) : (Nat → Int32) × (Nat → Nat → Int32) := ((upd v 20 ((v 20) - (1))), (u1 (u1 (u1 (u1 A 19 (upd (A 19) (Int32.toNatClampNeg (a_)) (A 19 (Int32.toNatClampNeg ((v 20) - (1)))))) 20 (upd (A 20) (Int32.toNatClampNeg (a_)) (A 20 (Int32.toNatClampNeg ((v 20) - (1)))))) 21 (upd (A 21) (Int32.toNatClampNeg (a_)) (A 21 (Int32.toNatClampNeg ((v 20) - (1)))))) 22 (upd (A 22) (Int32.toNatClampNeg (a_)) (A 22 (Int32.toNatClampNeg ((v 20) - (1)))))))
set_option maxHeartbeats 1000000 in
set_option maxRecDepth 10000 in
theorem ctX9_leave {l : Launch} {D : va_G} {aC : Nat → ClassId} {b0 sz : Nat} {r : Nat} {v : Nat → Int32} {A : Nat → Nat → Int32} {R : ZM} {a_ : Int32} (hia : vp_in a_ 120) (hib : vp_in ((v 20) - (1)) 120) : Ct l D aC b0 yX9_leave cX9_leave 2 none 0 0 0 [.ref (r), .int (a_)] (mm aC r v A R) sz (zd none (mm aC r (fX9_leave v A a_).1 (fX9_leave v A a_).2 R)) := by
  refine Ct.of (by decide) (Nat.le_of_ble_eq_true rfl) ?_
  intro p e s m below meth c ls C hr hlk hnm hl
  have hl : lv_has ls 2 [(0, .ref (r)), (1, .int (a_))] := hl
  obtain ⟨hx, hb, -, -, -⟩ := id C
  refine zz (fun _ _ => lv_aload_n hx hb dX9_leave_0 rfl (lv_at hl 0 rfl)) ?_
  refine zz (fun _ _ => lv_dup hx hb dX9_leave_1 rfl) ?_
  refine z_get (v := .int (v 20)) C fd_X9_160 rm_0 rfl dX9_leave_2 ?_
  refine zz (fun _ _ => lv_iconst (v := 1) hx hb dX9_leave_5 (by decide)) ?_
  refine zz (fun _ _ => lv_isub hx hb dX9_leave_6) ?_
  refine z_put C fp_X9_160 (fun h => by cases h) rm_0 (Nat.le_of_ble_eq_true rfl) rfl rfl dX9_leave_7 ?_
  refine zeq wm_f20 ?_
  refine zz (fun _ _ => lv_aload_n hx hb dX9_leave_10 rfl (lv_at hl 0 rfl)) ?_
  refine z_get (v := .ref (r + 19)) C fd_X9_65 rm_0 rfl dX9_leave_11 ?_
  refine zz (fun _ _ => lv_iload_n hx hb dX9_leave_14 rfl (lv_at hl 1 rfl)) ?_
  refine zz (fun _ _ => lv_aload_n hx hb dX9_leave_15 rfl (lv_at hl 0 rfl)) ?_
  refine z_get (v := .ref (r + 19)) C fd_X9_65 rm_0 rfl dX9_leave_16 ?_
  refine zz (fun _ _ => lv_aload_n hx hb dX9_leave_19 rfl (lv_at hl 0 rfl)) ?_
  refine z_get (v := .int ((v 20) - (1))) C fd_X9_160 rm_0 rfl dX9_leave_20 ?_
  refine z_iald (f := A 19) C rm_19 (by first | assumption | (apply vp_in_nI <;> omega)) dX9_leave_23 ?_
  refine z_iast (f := A 19) C rm_19 (by first | assumption | (apply vp_in_nI <;> omega)) dX9_leave_24 ?_
  refine zeq wm_19 ?_
  refine zz (fun _ _ => lv_aload_n hx hb dX9_leave_25 rfl (lv_at hl 0 rfl)) ?_
  refine z_get (v := .ref (r + 20)) C fd_X9_68 rm_0 rfl dX9_leave_26 ?_
  refine zz (fun _ _ => lv_iload_n hx hb dX9_leave_29 rfl (lv_at hl 1 rfl)) ?_
  refine zz (fun _ _ => lv_aload_n hx hb dX9_leave_30 rfl (lv_at hl 0 rfl)) ?_
  refine z_get (v := .ref (r + 20)) C fd_X9_68 rm_0 rfl dX9_leave_31 ?_
  refine zz (fun _ _ => lv_aload_n hx hb dX9_leave_34 rfl (lv_at hl 0 rfl)) ?_
  refine z_get (v := .int ((v 20) - (1))) C fd_X9_160 rm_0 rfl dX9_leave_35 ?_
  refine z_iald (f := A 20) C rm_20 (by first | assumption | (apply vp_in_nI <;> omega)) dX9_leave_38 ?_
  refine z_iast (f := A 20) C rm_20 (by first | assumption | (apply vp_in_nI <;> omega)) dX9_leave_39 ?_
  refine zeq wm_20 ?_
  refine zz (fun _ _ => lv_aload_n hx hb dX9_leave_40 rfl (lv_at hl 0 rfl)) ?_
  refine z_get (v := .ref (r + 21)) C fd_X9_71 rm_0 rfl dX9_leave_41 ?_
  refine zz (fun _ _ => lv_iload_n hx hb dX9_leave_44 rfl (lv_at hl 1 rfl)) ?_
  refine zz (fun _ _ => lv_aload_n hx hb dX9_leave_45 rfl (lv_at hl 0 rfl)) ?_
  refine z_get (v := .ref (r + 21)) C fd_X9_71 rm_0 rfl dX9_leave_46 ?_
  refine zz (fun _ _ => lv_aload_n hx hb dX9_leave_49 rfl (lv_at hl 0 rfl)) ?_
  refine z_get (v := .int ((v 20) - (1))) C fd_X9_160 rm_0 rfl dX9_leave_50 ?_
  refine z_iald (f := A 21) C rm_21 (by first | assumption | (apply vp_in_nI <;> omega)) dX9_leave_53 ?_
  refine z_iast (f := A 21) C rm_21 (by first | assumption | (apply vp_in_nI <;> omega)) dX9_leave_54 ?_
  refine zeq wm_21 ?_
  refine zz (fun _ _ => lv_aload_n hx hb dX9_leave_55 rfl (lv_at hl 0 rfl)) ?_
  refine z_get (v := .ref (r + 22)) C fd_X9_74 rm_0 rfl dX9_leave_56 ?_
  refine zz (fun _ _ => lv_iload_n hx hb dX9_leave_59 rfl (lv_at hl 1 rfl)) ?_
  refine zz (fun _ _ => lv_aload_n hx hb dX9_leave_60 rfl (lv_at hl 0 rfl)) ?_
  refine z_get (v := .ref (r + 22)) C fd_X9_74 rm_0 rfl dX9_leave_61 ?_
  refine zz (fun _ _ => lv_aload_n hx hb dX9_leave_64 rfl (lv_at hl 0 rfl)) ?_
  refine z_get (v := .int ((v 20) - (1))) C fd_X9_160 rm_0 rfl dX9_leave_65 ?_
  refine z_iald (f := A 22) C rm_22 (by first | assumption | (apply vp_in_nI <;> omega)) dX9_leave_68 ?_
  refine z_iast (f := A 22) C rm_22 (by first | assumption | (apply vp_in_nI <;> omega)) dX9_leave_69 ?_
  refine zeq wm_22 ?_
  exact z_vret C hr hlk dX9_leave_70 (by simp only [zd, fX9_leave, and_self])
theorem find_r (A : Nat → Nat → Int32) (a b c d : Int32) : ∀ n, stX9_find_6 A a b c d (-1) n = -1 ∨ ∃ j, j < n ∧ stX9_find_6 A a b c d (-1) n = nI j := by
  intro n
  induction n with
  | zero => exact Or.inl rfl
  | succ n ih =>
    have up : stX9_find_6 A a b c d (-1) n = -1 ∨ ∃ j, j < n + 1 ∧ stX9_find_6 A a b c d (-1) n = nI j := by
      rcases ih with h | ⟨j, hj, h⟩
      · exact Or.inl h
      · exact Or.inr ⟨j, by omega, h⟩
    simp only [stX9_find_6]
    repeat' split
    all_goals first | exact up | exact Or.inr ⟨n, by omega, rfl⟩
theorem find_in {v : Nat → Int32} {A : Nat → Nat → Int32} {a b c d : Int32} {n : Nat} (hs : v 20 = nI n) (hn : n ≤ 120) (h : ¬ fX9_find v A a b c d < 0) : vp_in (fX9_find v A a b c d) 120 ∧ vp_in ((v 20) - (1)) 120 := by
  unfold fX9_find at h ⊢
  rw [hs, nI_clamp (by omega)] at h ⊢
  rcases find_r A a b c d n with q | ⟨j, hj, q⟩
  · rw [q] at h
    exact absurd (by decide) h
  · rw [q]
    refine ⟨vp_in_nI (by omega) (by decide), ?_⟩
    obtain ⟨k, rfl⟩ : ∃ k, n = k + 1 := ⟨n - 1, by omega⟩
    rw [show nI (k + 1) - 1 = nI k by rw [← nI_1]; simp]
    exact vp_in_nI (by omega) (by decide)
def fX9_take (v : Nat → Int32) (A : Nat → Nat → Int32) (a_ : Int32) (b_ : Int32) (c_ : Int32) (d_ : Int32) : (Nat → Int32) × (Nat → Nat → Int32) := if (fX9_find v A a_ b_ c_ d_) < 0 then (v, A) else ((fX9_leave v A (fX9_find v A a_ b_ c_ d_)).1, (fX9_leave v A (fX9_find v A a_ b_ c_ d_)).2)
set_option maxHeartbeats 1000000 in
set_option maxRecDepth 10000 in
theorem ctX9_take {l : Launch} {D : va_G} {aC : Nat → ClassId} {b0 sz : Nat} {r : Nat} {v : Nat → Int32} {A : Nat → Nat → Int32} {R : ZM} {a_ : Int32} {b_ : Int32} {c_ : Int32} {d_ : Int32} {n_ : Nat} (hs : v 20 = nI n_) (hn : n_ ≤ 120) : Ct l D aC b0 yX9_take cX9_take 6 none 1 0 0 [.ref (r), .int (a_), .int (b_), .int (c_), .int (d_)] (mm aC r v A R) sz (zd none (mm aC r (fX9_take v A a_ b_ c_ d_).1 (fX9_take v A a_ b_ c_ d_).2 R)) := by
  refine Ct.of (by decide) (Nat.le_of_ble_eq_true rfl) ?_
  intro p e s m below meth c ls C hr hlk hnm hl
  have hl : lv_has ls 6 [(0, .ref (r)), (1, .int (a_)), (2, .int (b_)), (3, .int (c_)), (4, .int (d_))] := hl
  obtain ⟨hx, hb, -, -, -⟩ := id C
  refine zz (fun _ _ => lv_aload_n hx hb dX9_take_0 rfl (lv_at hl 0 rfl)) ?_
  refine zz (fun _ _ => lv_iload_n hx hb dX9_take_1 rfl (lv_at hl 1 rfl)) ?_
  refine zz (fun _ _ => lv_iload_n hx hb dX9_take_2 rfl (lv_at hl 2 rfl)) ?_
  refine zz (fun _ _ => lv_iload_n hx hb dX9_take_3 rfl (lv_at hl 3 rfl)) ?_
  refine zz (fun _ _ => lv_iload hx hb dX9_take_4 (lv_at hl 4 rfl)) ?_
  refine zdV (As := [.int (a_), .int (b_), .int (c_), .int (d_)]) (rest := []) (st' := [.int ((fX9_find v A a_ b_ c_ d_))]) C hl.1 lk_X9_163 (ctX9_find hs hn) rm_0 rfl rfl rfl (Nat.le_of_ble_eq_true rfl) ⟨by decide, by decide, by decide, by decide⟩ dX9_take_6 rfl (fun sz => ?_)
  refine zs (fun _ _ => lv_istore (lv' := [(5, .int ((fX9_find v A a_ b_ c_ d_))), (0, .ref (r)), (1, .int (a_)), (2, .int (b_)), (3, .int (c_)), (4, .int (d_))]) hx hb dX9_take_9 hl (by decide) rfl) (fun ls hl => ?_)
  refine zz (fun _ _ => lv_iload hx hb dX9_take_11 (lv_at hl 0 rfl)) ?_
  refine zb (fun _ _ => lv_if_lt (tgt := 22) hx hb dX9_take_13 (by decide)) (fun c_1 => ?_) (fun c_1 => ?_)
  · exact z_vret C hr hlk dX9_take_22 (by simp only [zd, fX9_take, if_pos c_1, and_self])
  · refine zz (fun _ _ => lv_aload_n hx hb dX9_take_16 rfl (lv_at hl 1 rfl)) ?_
    refine zz (fun _ _ => lv_iload hx hb dX9_take_17 (lv_at hl 0 rfl)) ?_
    obtain ⟨h91, h92⟩ := find_in hs hn c_1
    refine zdV (As := [.int ((fX9_find v A a_ b_ c_ d_))]) (rest := []) (st' := []) C hl.1 lk_X9_167 (ctX9_leave h91 h92) rm_0 rfl rfl rfl (Nat.le_of_ble_eq_true rfl) ⟨by decide, by decide, by decide, by decide⟩ dX9_take_19 rfl (fun sz => ?_)
    exact z_vret C hr hlk dX9_take_22 (by simp only [zd, fX9_take, if_neg c_1, and_self])
