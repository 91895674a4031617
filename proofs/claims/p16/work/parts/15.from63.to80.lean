section
def fX9_isAfter (A : Nat → Nat → Int32) (a_ : Int32) (b_ : Int32) (c_ : Int32) (d_ : Int32) (e_ : Int32) : Int32 := if A 29 (Int32.toNatClampNeg (a_)) = b_ then if A 30 (Int32.toNatClampNeg (a_)) = c_ then if A 31 (Int32.toNatClampNeg (a_)) = d_ then if A 32 (Int32.toNatClampNeg (a_)) ≤ e_ then (0) else (1) else if A 31 (Int32.toNatClampNeg (a_)) ≤ d_ then (0) else (1) else if A 30 (Int32.toNatClampNeg (a_)) ≤ c_ then (0) else (1) else if A 29 (Int32.toNatClampNeg (a_)) ≤ b_ then (0) else (1)
theorem nbfX9_isAfter {A : Nat → Nat → Int32} {a_ : Int32} {b_ : Int32} {c_ : Int32} {d_ : Int32} {e_ : Int32} : narrow .boolean (.int (fX9_isAfter A a_ b_ c_ d_ e_)) = .int (fX9_isAfter A a_ b_ c_ d_ e_) := by
  unfold fX9_isAfter
  repeat' split
  all_goals try dsimp only
  all_goals first | rfl | assumption
set_option maxHeartbeats 1000000 in
set_option maxRecDepth 10000 in
theorem ctX9_isAfter {l : Launch} {D : va_G} {aC : Nat → ClassId} {b0 sz : Nat} {r : Nat} {v : Nat → Int32} {A : Nat → Nat → Int32} {R : ZM} {a_ : Int32} {b_ : Int32} {c_ : Int32} {d_ : Int32} {e_ : Int32} (hia : vp_in a_ 240) : Ct l D aC b0 yX9_isAfter cX9_isAfter 6 (some .boolean) 0 0 0 [.ref (r), .int (a_), .int (b_), .int (c_), .int (d_), .int (e_)] (mm aC r v A R) sz (zd (some (.int (fX9_isAfter A a_ b_ c_ d_ e_))) (mm aC r v A R)) := by
  refine Ct.of (by decide) (Nat.le_of_ble_eq_true rfl) ?_
  intro p e s m below meth c ls C hr hlk hnm hl
  have hl : lv_has ls 6 [(0, .ref (r)), (1, .int (a_)), (2, .int (b_)), (3, .int (c_)), (4, .int (d_)), (5, .int (e_))] := hl
  obtain ⟨hx, hb, -, -, -⟩ := id C
  refine zz (fun _ _ => lv_aload_n hx hb dX9_isAfter_0 rfl (lv_at hl 0 rfl)) ?_
  refine z_get (v := .ref (r + 29)) C fd_X9_95 rm_0 rfl dX9_isAfter_1 ?_
  refine zz (fun _ _ => lv_iload_n hx hb dX9_isAfter_4 rfl (lv_at hl 1 rfl)) ?_
  refine z_iald (f := A 29) C rm_29 (by first | assumption | (apply vp_in_nI <;> omega)) dX9_isAfter_5 ?_
  refine zz (fun _ _ => lv_iload_n hx hb dX9_isAfter_6 rfl (lv_at hl 2 rfl)) ?_
  refine zb (fun _ _ => lv_icmp_eq (tgt := 26) hx hb dX9_isAfter_7 (by decide)) (fun c_1 => ?_) (fun c_1 => ?_)
  · refine zz (fun _ _ => lv_aload_n hx hb dX9_isAfter_26 rfl (lv_at hl 0 rfl)) ?_
    refine z_get (v := .ref (r + 30)) C fd_X9_98 rm_0 rfl dX9_isAfter_27 ?_
    refine zz (fun _ _ => lv_iload_n hx hb dX9_isAfter_30 rfl (lv_at hl 1 rfl)) ?_
    refine z_iald (f := A 30) C rm_30 (by first | assumption | (apply vp_in_nI <;> omega)) dX9_isAfter_31 ?_
    refine zz (fun _ _ => lv_iload_n hx hb dX9_isAfter_32 rfl (lv_at hl 3 rfl)) ?_
    refine zb (fun _ _ => lv_icmp_eq (tgt := 52) hx hb dX9_isAfter_33 (by decide)) (fun c_2 => ?_) (fun c_2 => ?_)
    · refine zz (fun _ _ => lv_aload_n hx hb dX9_isAfter_52 rfl (lv_at hl 0 rfl)) ?_
      refine z_get (v := .ref (r + 31)) C fd_X9_101 rm_0 rfl dX9_isAfter_53 ?_
      refine zz (fun _ _ => lv_iload_n hx hb dX9_isAfter_56 rfl (lv_at hl 1 rfl)) ?_
      refine z_iald (f := A 31) C rm_31 (by first | assumption | (apply vp_in_nI <;> omega)) dX9_isAfter_57 ?_
      refine zz (fun _ _ => lv_iload hx hb dX9_isAfter_58 (lv_at hl 4 rfl)) ?_
      refine zb (fun _ _ => lv_icmp_eq (tgt := 82) hx hb dX9_isAfter_60 (by decide)) (fun c_3 => ?_) (fun c_3 => ?_)
      · refine zz (fun _ _ => lv_aload_n hx hb dX9_isAfter_82 rfl (lv_at hl 0 rfl)) ?_
        refine z_get (v := .ref (r + 32)) C fd_X9_104 rm_0 rfl dX9_isAfter_83 ?_
        refine zz (fun _ _ => lv_iload_n hx hb dX9_isAfter_86 rfl (lv_at hl 1 rfl)) ?_
        refine z_iald (f := A 32) C rm_32 (by first | assumption | (apply vp_in_nI <;> omega)) dX9_isAfter_87 ?_
        refine zz (fun _ _ => lv_iload hx hb dX9_isAfter_88 (lv_at hl 5 rfl)) ?_
        refine zb (fun _ _ => lv_icmp_le (tgt := 97) hx hb dX9_isAfter_90 (by decide)) (fun c_4 => ?_) (fun c_4 => ?_)
        · refine zz (fun _ _ => lv_iconst (v := 0) hx hb dX9_isAfter_97 (by decide)) ?_
          exact z_zret C hr rfl hlk dX9_isAfter_98 (by simp only [zd, fX9_isAfter, if_pos c_1, if_pos c_2, if_pos c_3, if_pos c_4, and_self])
        · refine zz (fun _ _ => lv_iconst (v := 1) hx hb dX9_isAfter_93 (by decide)) ?_
          refine zz (fun _ _ => lv_goto (tgt := 98) hx hb dX9_isAfter_94 (by decide)) ?_
          exact z_zret C hr rfl hlk dX9_isAfter_98 (by simp only [zd, fX9_isAfter, if_pos c_1, if_pos c_2, if_pos c_3, if_neg c_4, and_self])
      · refine zz (fun _ _ => lv_aload_n hx hb dX9_isAfter_63 rfl (lv_at hl 0 rfl)) ?_
        refine z_get (v := .ref (r + 31)) C fd_X9_101 rm_0 rfl dX9_isAfter_64 ?_
        refine zz (fun _ _ => lv_iload_n hx hb dX9_isAfter_67 rfl (lv_at hl 1 rfl)) ?_
        refine z_iald (f := A 31) C rm_31 (by first | assumption | (apply vp_in_nI <;> omega)) dX9_isAfter_68 ?_
        refine zz (fun _ _ => lv_iload hx hb dX9_isAfter_69 (lv_at hl 4 rfl)) ?_
        refine zb (fun _ _ => lv_icmp_le (tgt := 78) hx hb dX9_isAfter_71 (by decide)) (fun c_5 => ?_) (fun c_5 => ?_)
        · refine zz (fun _ _ => lv_iconst (v := 0) hx hb dX9_isAfter_78 (by decide)) ?_
          refine zz (fun _ _ => lv_goto (tgt := 98) hx hb dX9_isAfter_79 (by decide)) ?_
          exact z_zret C hr rfl hlk dX9_isAfter_98 (by simp only [zd, fX9_isAfter, if_pos c_1, if_pos c_2, if_neg c_3, if_pos c_5, and_self])
        · refine zz (fun _ _ => lv_iconst (v := 1) hx hb dX9_isAfter_74 (by decide)) ?_
          refine zz (fun _ _ => lv_goto (tgt := 98) hx hb dX9_isAfter_75 (by decide)) ?_
          exact z_zret C hr rfl hlk dX9_isAfter_98 (by simp only [zd, fX9_isAfter, if_pos c_1, if_pos c_2, if_neg c_3, if_neg c_5, and_self])
    · refine zz (fun _ _ => lv_aload_n hx hb dX9_isAfter_36 rfl (lv_at hl 0 rfl)) ?_
      refine z_get (v := .ref (r + 30)) C fd_X9_98 rm_0 rfl dX9_isAfter_37 ?_
      refine zz (fun _ _ => lv_iload_n hx hb dX9_isAfter_40 rfl (lv_at hl 1 rfl)) ?_
      refine z_iald (f := A 30) C rm_30 (by first | assumption | (apply vp_in_nI <;> omega)) dX9_isAfter_41 ?_
      refine zz (fun _ _ => lv_iload_n hx hb dX9_isAfter_42 rfl (lv_at hl 3 rfl)) ?_
      refine zb (fun _ _ => lv_icmp_le (tgt := 50) hx hb dX9_isAfter_43 (by decide)) (fun c_6 => ?_) (fun c_6 => ?_)
      · refine zz (fun _ _ => lv_iconst (v := 0) hx hb dX9_isAfter_50 (by decide)) ?_
        exact z_zret C hr rfl hlk dX9_isAfter_51 (by simp only [zd, fX9_isAfter, if_pos c_1, if_neg c_2, if_pos c_6, and_self])
      · refine zz (fun _ _ => lv_iconst (v := 1) hx hb dX9_isAfter_46 (by decide)) ?_
        refine zz (fun _ _ => lv_goto (tgt := 51) hx hb dX9_isAfter_47 (by decide)) ?_
        exact z_zret C hr rfl hlk dX9_isAfter_51 (by simp only [zd, fX9_isAfter, if_pos c_1, if_neg c_2, if_neg c_6, and_self])
  · refine zz (fun _ _ => lv_aload_n hx hb dX9_isAfter_10 rfl (lv_at hl 0 rfl)) ?_
    refine z_get (v := .ref (r + 29)) C fd_X9_95 rm_0 rfl dX9_isAfter_11 ?_
    refine zz (fun _ _ => lv_iload_n hx hb dX9_isAfter_14 rfl (lv_at hl 1 rfl)) ?_
    refine z_iald (f := A 29) C rm_29 (by first | assumption | (apply vp_in_nI <;> omega)) dX9_isAfter_15 ?_
    refine zz (fun _ _ => lv_iload_n hx hb dX9_isAfter_16 rfl (lv_at hl 2 rfl)) ?_
    refine zb (fun _ _ => lv_icmp_le (tgt := 24) hx hb dX9_isAfter_17 (by decide)) (fun c_7 => ?_) (fun c_7 => ?_)
    · refine zz (fun _ _ => lv_iconst (v := 0) hx hb dX9_isAfter_24 (by decide)) ?_
      exact z_zret C hr rfl hlk dX9_isAfter_25 (by simp only [zd, fX9_isAfter, if_neg c_1, if_pos c_7, and_self])
    · refine zz (fun _ _ => lv_iconst (v := 1) hx hb dX9_isAfter_20 (by decide)) ?_
      refine zz (fun _ _ => lv_goto (tgt := 25) hx hb dX9_isAfter_21 (by decide)) ?_
      exact z_zret C hr rfl hlk dX9_isAfter_25 (by simp only [zd, fX9_isAfter, if_neg c_1, if_neg c_7, and_self])
def fX9_valueInV (A : Nat → Nat → Int32) (b_ : Int32) (c_ : Int32) : Int32 := if (fX9_isVariable c_) = 0 then (c_) else (A 35 (Int32.toNatClampNeg ((((4) * (b_)) - (1)) - (c_))))
set_option maxHeartbeats 1000000 in
set_option maxRecDepth 10000 in
theorem ctX9_valueInV {l : Launch} {D : va_G} {aC : Nat → ClassId} {b0 sz : Nat} {r : Nat} {v : Nat → Int32} {A : Nat → Nat → Int32} {R : ZM} {b_ : Int32} {c_ : Int32} (hi : ¬ fX9_isVariable c_ = 0 → vp_in (4 * b_ - 1 - c_) 20400) : Ct l D aC b0 yX9_valueIn cX9_valueIn 4 (some .int) 2 0 0 [.ref (r), .ref (r + 35), .int (b_), .int (c_)] (mm aC r v A R) sz (zd (some (.int (fX9_valueInV A b_ c_))) (mm aC r v A R)) := by
  refine Ct.of (by decide) (Nat.le_of_ble_eq_true rfl) ?_
  intro p e s m below meth c ls C hr hlk hnm hl
  have hl : lv_has ls 4 [(0, .ref (r)), (1, .ref (r + 35)), (2, .int (b_)), (3, .int (c_))] := hl
  obtain ⟨hx, hb, -, -, -⟩ := id C
  refine zz (fun _ _ => lv_iload_n hx hb dX9_valueIn_0 rfl (lv_at hl 3 rfl)) ?_
  refine zdS (As := [.int (c_)]) (rest := []) (st' := [.int ((fX9_isVariable c_))]) C hl.1 lk_X9_150 (ctX9_isVariable) rfl rfl (Nat.le_of_ble_eq_true rfl) ⟨by decide, by decide, by decide, by decide⟩ dX9_valueIn_1 rfl (fun sz => ?_)
  refine zb (fun _ _ => lv_if_eq (tgt := 19) hx hb dX9_valueIn_4 (by decide)) (fun c_1 => ?_) (fun c_1 => ?_)
  · refine zz (fun _ _ => lv_iload_n hx hb dX9_valueIn_19 rfl (lv_at hl 3 rfl)) ?_
    exact z_iret C hr hlk dX9_valueIn_20 (by simp only [zd, fX9_valueInV, if_pos c_1, and_self])
  · refine zz (fun _ _ => lv_aload_n hx hb dX9_valueIn_7 rfl (lv_at hl 1 rfl)) ?_
    refine zz (fun _ _ => lv_iconst (v := 4) hx hb dX9_valueIn_8 (by decide)) ?_
    refine zz (fun _ _ => lv_iload_n hx hb dX9_valueIn_9 rfl (lv_at hl 2 rfl)) ?_
    refine zz (fun _ _ => lv_imul hx hb dX9_valueIn_10) ?_
    refine zz (fun _ _ => lv_iconst (v := 1) hx hb dX9_valueIn_11 (by decide)) ?_
    refine zz (fun _ _ => lv_isub hx hb dX9_valueIn_12) ?_
    refine zz (fun _ _ => lv_iload_n hx hb dX9_valueIn_13 rfl (lv_at hl 3 rfl)) ?_
    refine zz (fun _ _ => lv_isub hx hb dX9_valueIn_14) ?_
    refine z_iald (f := A 35) C rm_35 (hi c_1) dX9_valueIn_15 ?_
    refine zz (fun _ _ => lv_goto (tgt := 20) hx hb dX9_valueIn_16 (by decide)) ?_
    exact z_iret C hr hlk dX9_valueIn_20 (by simp only [zd, fX9_valueInV, if_neg c_1, and_self])
def fX9_valueInN (A : Nat → Nat → Int32) (b_ : Int32) (c_ : Int32) : Int32 := if (fX9_isVariable c_) = 0 then (c_) else (A 36 (Int32.toNatClampNeg ((((4) * (b_)) - (1)) - (c_))))
set_option maxHeartbeats 1000000 in
set_option maxRecDepth 10000 in
theorem ctX9_valueInN {l : Launch} {D : va_G} {aC : Nat → ClassId} {b0 sz : Nat} {r : Nat} {v : Nat → Int32} {A : Nat → Nat → Int32} {R : ZM} {b_ : Int32} {c_ : Int32} (hi : ¬ fX9_isVariable c_ = 0 → vp_in (4 * b_ - 1 - c_) 20400) : Ct l D aC b0 yX9_valueIn cX9_valueIn 4 (some .int) 2 0 0 [.ref (r), .ref (r + 36), .int (b_), .int (c_)] (mm aC r v A R) sz (zd (some (.int (fX9_valueInN A b_ c_))) (mm aC r v A R)) := by
  refine Ct.of (by decide) (Nat.le_of_ble_eq_true rfl) ?_
  intro p e s m below meth c ls C hr hlk hnm hl
  have hl : lv_has ls 4 [(0, .ref (r)), (1, .ref (r + 36)), (2, .int (b_)), (3, .int (c_))] := hl
  obtain ⟨hx, hb, -, -, -⟩ := id C
  refine zz (fun _ _ => lv_iload_n hx hb dX9_valueIn_0 rfl (lv_at hl 3 rfl)) ?_
  refine zdS (As := [.int (c_)]) (rest := []) (st' := [.int ((fX9_isVariable c_))]) C hl.1 lk_X9_150 (ctX9_isVariable) rfl rfl (Nat.le_of_ble_eq_true rfl) ⟨by decide, by decide, by decide, by decide⟩ dX9_valueIn_1 rfl (fun sz => ?_)
  refine zb (fun _ _ => lv_if_eq (tgt := 19) hx hb dX9_valueIn_4 (by decide)) (fun c_1 => ?_) (fun c_1 => ?_)
  · refine zz (fun _ _ => lv_iload_n hx hb dX9_valueIn_19 rfl (lv_at hl 3 rfl)) ?_
    exact z_iret C hr hlk dX9_valueIn_20 (by simp only [zd, fX9_valueInN, if_pos c_1, and_self])
  · refine zz (fun _ _ => lv_aload_n hx hb dX9_valueIn_7 rfl (lv_at hl 1 rfl)) ?_
    refine zz (fun _ _ => lv_iconst (v := 4) hx hb dX9_valueIn_8 (by decide)) ?_
    refine zz (fun _ _ => lv_iload_n hx hb dX9_valueIn_9 rfl (lv_at hl 2 rfl)) ?_
    refine zz (fun _ _ => lv_imul hx hb dX9_valueIn_10) ?_
    refine zz (fun _ _ => lv_iconst (v := 1) hx hb dX9_valueIn_11 (by decide)) ?_
    refine zz (fun _ _ => lv_isub hx hb dX9_valueIn_12) ?_
    refine zz (fun _ _ => lv_iload_n hx hb dX9_valueIn_13 rfl (lv_at hl 3 rfl)) ?_
    refine zz (fun _ _ => lv_isub hx hb dX9_valueIn_14) ?_
    refine z_iald (f := A 36) C rm_36 (hi c_1) dX9_valueIn_15 ?_
    refine zz (fun _ _ => lv_goto (tgt := 20) hx hb dX9_valueIn_16 (by decide)) ?_
    exact z_iret C hr hlk dX9_valueIn_20 (by simp only [zd, fX9_valueInN, if_neg c_1, and_self])
def fX9_come (v : Nat → Int32) (A : Nat → Nat → Int32) (a_ : Int32) (b_ : Int32) (c_ : Int32) (d_ : Int32) : Int32 × (Nat → Int32) × (Nat → Nat → Int32) := if (fX9_find v A a_ b_ c_ d_) < 0 then if v 20 = 120 then (0, v, A) else (1, (upd v 20 ((v 20) + (1))), (u1 (u1 (u1 (u1 A 19 (upd (A 19) (Int32.toNatClampNeg (v 20)) (a_))) 20 (upd (A 20) (Int32.toNatClampNeg (v 20)) (b_))) 21 (upd (A 21) (Int32.toNatClampNeg (v 20)) (c_))) 22 (upd (A 22) (Int32.toNatClampNeg (v 20)) (d_)))) else (1, v, A)
theorem nbfX9_come {v : Nat → Int32} {A : Nat → Nat → Int32} {a_ : Int32} {b_ : Int32} {c_ : Int32} {d_ : Int32} : narrow .boolean (.int (fX9_come v A a_ b_ c_ d_).1) = .int (fX9_come v A a_ b_ c_ d_).1 := by
  unfold fX9_come
  repeat' split
  all_goals try dsimp only
  all_goals first | rfl | assumption
set_option maxHeartbeats 1000000 in
set_option maxRecDepth 10000 in
theorem ctX9_come {l : Launch} {D : va_G} {aC : Nat → ClassId} {b0 sz : Nat} {r : Nat} {v : Nat → Int32} {A : Nat → Nat → Int32} {R : ZM} {a_ : Int32} {b_ : Int32} {c_ : Int32} {d_ : Int32} {n_ : Nat} (hs : v 20 = nI n_) (hn : n_ ≤ 120) : Ct l D aC b0 yX9_come cX9_come 5 (some .boolean) 1 0 0 [.ref (r), .int (a_), .int (b_), .int (c_), .int (d_)] (mm aC r v A R) sz (zd (some (.int (fX9_come v A a_ b_ c_ d_).1)) (mm aC r (fX9_come v A a_ b_ c_ d_).2.1 (fX9_come v A a_ b_ c_ d_).2.2 R)) := by
  refine Ct.of (by decide) (Nat.le_of_ble_eq_true rfl) ?_
  intro p e s m below meth c ls C hr hlk hnm hl
  have hl : lv_has ls 5 [(0, .ref (r)), (1, .int (a_)), (2, .int (b_)), (3, .int (c_)), (4, .int (d_))] := hl
  obtain ⟨hx, hb, -, -, -⟩ := id C
  refine zz (fun _ _ => lv_aload_n hx hb dX9_come_0 rfl (lv_at hl 0 rfl)) ?_
  refine zz (fun _ _ => lv_iload_n hx hb dX9_come_1 rfl (lv_at hl 1 rfl)) ?_
  refine zz (fun _ _ => lv_iload_n hx hb dX9_come_2 rfl (lv_at hl 2 rfl)) ?_
  refine zz (fun _ _ => lv_iload_n hx hb dX9_come_3 rfl (lv_at hl 3 rfl)) ?_
  refine zz (fun _ _ => lv_iload hx hb dX9_come_4 (lv_at hl 4 rfl)) ?_
  refine zdV (As := [.int (a_), .int (b_), .int (c_), .int (d_)]) (rest := []) (st' := [.int ((fX9_find v A a_ b_ c_ d_))]) C hl.1 lk_X9_163 (ctX9_find hs hn) rm_0 rfl rfl rfl (Nat.le_of_ble_eq_true rfl) ⟨by decide, by decide, by decide, by decide⟩ dX9_come_6 rfl (fun sz => ?_)
  refine zb (fun _ _ => lv_if_lt (tgt := 14) hx hb dX9_come_9 (by decide)) (fun c_1 => ?_) (fun c_1 => ?_)
  · refine zz (fun _ _ => lv_aload_n hx hb dX9_come_14 rfl (lv_at hl 0 rfl)) ?_
    refine z_get (v := .int (v 20)) C fd_X9_160 rm_0 rfl dX9_come_15 ?_
    refine zz (fun _ _ => lv_bipush (v := 120) hx hb dX9_come_18 (by decide)) ?_
    refine zbn (fun _ _ => lv_icmp_ne (tgt := 25) hx hb dX9_come_20 (by decide)) (fun c_2 => ?_) (fun c_2 => ?_)
    · refine zz (fun _ _ => lv_aload_n hx hb dX9_come_25 rfl (lv_at hl 0 rfl)) ?_
      refine z_get (v := .ref (r + 19)) C fd_X9_65 rm_0 rfl dX9_come_26 ?_
      refine zz (fun _ _ => lv_aload_n hx hb dX9_come_29 rfl (lv_at hl 0 rfl)) ?_
      refine z_get (v := .int (v 20)) C fd_X9_160 rm_0 rfl dX9_come_30 ?_
      refine zz (fun _ _ => lv_iload_n hx hb dX9_come_33 rfl (lv_at hl 1 rfl)) ?_
      refine z_iast (f := A 19) C rm_19 (in_nI hs (ne_lt (m := 120) hs hn c_2) (by decide)) dX9_come_34 ?_
      refine zeq wm_19 ?_
      refine zz (fun _ _ => lv_aload_n hx hb dX9_come_35 rfl (lv_at hl 0 rfl)) ?_
      refine z_get (v := .ref (r + 20)) C fd_X9_68 rm_0 rfl dX9_come_36 ?_
      refine zz (fun _ _ => lv_aload_n hx hb dX9_come_39 rfl (lv_at hl 0 rfl)) ?_
      refine z_get (v := .int (v 20)) C fd_X9_160 rm_0 rfl dX9_come_40 ?_
      refine zz (fun _ _ => lv_iload_n hx hb dX9_come_43 rfl (lv_at hl 2 rfl)) ?_
      refine z_iast (f := A 20) C rm_20 (in_nI hs (ne_lt (m := 120) hs hn c_2) (by decide)) dX9_come_44 ?_
      refine zeq wm_20 ?_
      refine zz (fun _ _ => lv_aload_n hx hb dX9_come_45 rfl (lv_at hl 0 rfl)) ?_
      refine z_get (v := .ref (r + 21)) C fd_X9_71 rm_0 rfl dX9_come_46 ?_
      refine zz (fun _ _ => lv_aload_n hx hb dX9_come_49 rfl (lv_at hl 0 rfl)) ?_
      refine z_get (v := .int (v 20)) C fd_X9_160 rm_0 rfl dX9_come_50 ?_
      refine zz (fun _ _ => lv_iload_n hx hb dX9_come_53 rfl (lv_at hl 3 rfl)) ?_
      refine z_iast (f := A 21) C rm_21 (in_nI hs (ne_lt (m := 120) hs hn c_2) (by decide)) dX9_come_54 ?_
      refine zeq wm_21 ?_
      refine zz (fun _ _ => lv_aload_n hx hb dX9_come_55 rfl (lv_at hl 0 rfl)) ?_
      refine z_get (v := .ref (r + 22)) C fd_X9_74 rm_0 rfl dX9_come_56 ?_
      refine zz (fun _ _ => lv_aload_n hx hb dX9_come_59 rfl (lv_at hl 0 rfl)) ?_
      refine z_get (v := .int (v 20)) C fd_X9_160 rm_0 rfl dX9_come_60 ?_
      refine zz (fun _ _ => lv_iload hx hb dX9_come_63 (lv_at hl 4 rfl)) ?_
      refine z_iast (f := A 22) C rm_22 (in_nI hs (ne_lt (m := 120) hs hn c_2) (by decide)) dX9_come_65 ?_
      refine zeq wm_22 ?_
      refine zz (fun _ _ => lv_aload_n hx hb dX9_come_66 rfl (lv_at hl 0 rfl)) ?_
      refine zz (fun _ _ => lv_dup hx hb dX9_come_67 rfl) ?_
      refine z_get (v := .int (v 20)) C fd_X9_160 rm_0 rfl dX9_come_68 ?_
      refine zz (fun _ _ => lv_iconst (v := 1) hx hb dX9_come_71 (by decide)) ?_
      refine zz (fun _ _ => lv_iadd hx hb dX9_come_72) ?_
      refine z_put C fp_X9_160 (fun h => by cases h) rm_0 (Nat.le_of_ble_eq_true rfl) rfl rfl dX9_come_73 ?_
      refine zeq wm_f20 ?_
      refine zz (fun _ _ => lv_iconst (v := 1) hx hb dX9_come_76 (by decide)) ?_
      exact z_zret C hr rfl hlk dX9_come_77 (by simp only [zd, fX9_come, if_pos c_1, if_neg c_2, and_self])
    · refine zz (fun _ _ => lv_iconst (v := 0) hx hb dX9_come_23 (by decide)) ?_
      exact z_zret C hr rfl hlk dX9_come_24 (by simp only [zd, fX9_come, if_pos c_1, if_pos c_2, and_self])
  · refine zz (fun _ _ => lv_iconst (v := 1) hx hb dX9_come_12 (by decide)) ?_
    exact z_zret C hr rfl hlk dX9_come_13 (by simp only [zd, fX9_come, if_neg c_1, and_self])
def fX9_leave (v : Nat → Int32) (A : Nat → Nat → Int32) (a_ : Int32) : (Nat → Int32) × (Nat → Nat → Int32) := ((upd v 20 ((v 20) - (1))), (u1 (u1 (u1 (u1 A 19 (upd (A 19) (Int32.toNatClampNeg (a_)) (A 19 (Int32.toNatClampNeg ((v 20) - (1)))))) 20 (upd (A 20) (Int32.toNatClampNeg (a_)) (A 20 (Int32.toNatClampNeg ((v 20) - (1)))))) 21 (upd (A 21) (Int32.toNatClampNeg (a_)) (A 21 (Int32.toNatClampNeg ((v 20) - (1)))))) 22 (upd (A 22) (Int32.toNatClampNeg (a_)) (A 22 (Int32.toNatClampNeg ((v 20) - (1)))))))
set_option maxHeartbeats 1000000 in
set_option maxRecDepth 10000 in
theorem ctX9_leave {l : Launch} {D : va_G} {aC : Nat → ClassId} {b0 sz : Nat} {r : Nat} {v : Nat → Int32} {A : Nat → Nat → Int32} {R : ZM} {a_ : Int32} (hia : vp_in a_ 120) (hib : vp_in ((v 20) - (1)) 120) : Ct l D aC b0 yX9_leave cX9_leave 2 none 0 0 0 [.ref (r), .int (a_)] (mm aC r v A R) sz (zd none (mm aC r (fX9_leave v A a_).1 (fX9_leave v A a_).2 R)) := by
  refine Ct.of (by decide) (Nat.le_of_ble_eq_true rfl) ?_
  intro p e s m below meth c ls C hr hlk hnm hl
  have hl : lv_has ls 2 [(0, .ref (r)), (1, .int (a_))] := hl
  obtain ⟨hx, hb, -, -, -⟩ := id C
  refine zz (fun _ _ => lv_aload_n hx hb dX9_leave_0 rfl (lv_at hl 0 rfl)) ?_
  refine zz (fun _ _ => lv_dup hx hb dX9_leave_1 rfl) ?_
  refine z_get (v := .int (v 20)) C fd_X9_160 rm_0 rfl dX9_leave_2 ?_
  refine zz (fun _ _ => lv_iconst (v := 1) hx hb dX9_leave_5 (by decide)) ?_
  refine zz (fun _ _ => lv_isub hx hb dX9_leave_6) ?_
  refine z_put C fp_X9_160 (fun h => by cases h) rm_0 (Nat.le_of_ble_eq_true rfl) rfl rfl dX9_leave_7 ?_
  refine zeq wm_f20 ?_
  refine zz (fun _ _ => lv_aload_n hx hb dX9_leave_10 rfl (lv_at hl 0 rfl)) ?_
  refine z_get (v := .ref (r + 19)) C fd_X9_65 rm_0 rfl dX9_leave_11 ?_
  refine zz (fun _ _ => lv_iload_n hx hb dX9_leave_14 rfl (lv_at hl 1 rfl)) ?_
  refine zz (fun _ _ => lv_aload_n hx hb dX9_leave_15 rfl (lv_at hl 0 rfl)) ?_
  refine z_get (v := .ref (r + 19)) C fd_X9_65 rm_0 rfl dX9_leave_16 ?_
  refine zz (fun _ _ => lv_aload_n hx hb dX9_leave_19 rfl (lv_at hl 0 rfl)) ?_
  refine z_get (v := .int ((v 20) - (1))) C fd_X9_160 rm_0 rfl dX9_leave_20 ?_
  refine z_iald (f := A 19) C rm_19 (by first | assumption | (apply vp_in_nI <;> omega)) dX9_leave_23 ?_
  refine z_iast (f := A 19) C rm_19 (by first | assumption | (apply vp_in_nI <;> omega)) dX9_leave_24 ?_
  refine zeq wm_19 ?_
  refine zz (fun _ _ => lv_aload_n hx hb dX9_leave_25 rfl (lv_at hl 0 rfl)) ?_
  refine z_get (v := .ref (r + 20)) C fd_X9_68 rm_0 rfl dX9_leave_26 ?_
  refine zz (fun _ _ => lv_iload_n hx hb dX9_leave_29 rfl (lv_at hl 1 rfl)) ?_
  refine zz (fun _ _ => lv_aload_n hx hb dX9_leave_30 rfl (lv_at hl 0 rfl)) ?_
  refine z_get (v := .ref (r + 20)) C fd_X9_68 rm_0 rfl dX9_leave_31 ?_
  refine zz (fun _ _ => lv_aload_n hx hb dX9_leave_34 rfl (lv_at hl 0 rfl)) ?_
  refine z_get (v := .int ((v 20) - (1))) C fd_X9_160 rm_0 rfl dX9_leave_35 ?_
  refine z_iald (f := A 20) C rm_20 (by first | assumption | (apply vp_in_nI <;> omega)) dX9_leave_38 ?_
  refine z_iast (f := A 20) C rm_20 (by first | assumption | (apply vp_in_nI <;> omega)) dX9_leave_39 ?_
  refine zeq wm_20 ?_
  refine zz (fun _ _ => lv_aload_n hx hb dX9_leave_40 rfl (lv_at hl 0 rfl)) ?_
  refine z_get (v := .ref (r + 21)) C fd_X9_71 rm_0 rfl dX9_leave_41 ?_
  refine zz (fun _ _ => lv_iload_n hx hb dX9_leave_44 rfl (lv_at hl 1 rfl)) ?_
  refine zz (fun _ _ => lv_aload_n hx hb dX9_leave_45 rfl (lv_at hl 0 rfl)) ?_
  refine z_get (v := .ref (r + 21)) C fd_X9_71 rm_0 rfl dX9_leave_46 ?_
  refine zz (fun _ _ => lv_aload_n hx hb dX9_leave_49 rfl (lv_at hl 0 rfl)) ?_
  refine z_get (v := .int ((v 20) - (1))) C fd_X9_160 rm_0 rfl dX9_leave_50 ?_
  refine z_iald (f := A 21) C rm_21 (by first | assumption | (apply vp_in_nI <;> omega)) dX9_leave_53 ?_
  refine z_iast (f := A 21) C rm_21 (by first | assumption | (apply vp_in_nI <;> omega)) dX9_leave_54 ?_
  refine zeq wm_21 ?_
  refine zz (fun _ _ => lv_aload_n hx hb dX9_leave_55 rfl (lv_at hl 0 rfl)) ?_
  refine z_get (v := .ref (r + 22)) C fd_X9_74 rm_0 rfl dX9_leave_56 ?_
  refine zz (fun _ _ => lv_iload_n hx hb dX9_leave_59 rfl (lv_at hl 1 rfl)) ?_
  refine zz (fun _ _ => lv_aload_n hx hb dX9_leave_60 rfl (lv_at hl 0 rfl)) ?_
  refine z_get (v := .ref (r + 22)) C fd_X9_74 rm_0 rfl dX9_leave_61 ?_
  refine zz (fun _ _ => lv_aload_n hx hb dX9_leave_64 rfl (lv_at hl 0 rfl)) ?_
  refine z_get (v := .int ((v 20) - (1))) C fd_X9_160 rm_0 rfl dX9_leave_65 ?_
  refine z_iald (f := A 22) C rm_22 (by first | assumption | (apply vp_in_nI <;> omega)) dX9_leave_68 ?_
  refine z_iast (f := A 22) C rm_22 (by first | assumption | (apply vp_in_nI <;> omega)) dX9_leave_69 ?_
  refine zeq wm_22 ?_
  exact z_vret C hr hlk dX9_leave_70 (by simp only [zd, fX9_leave, and_self])
theorem find_r (A : Nat → Nat → Int32) (a b c d : Int32) : ∀ n, stX9_find_6 A a b c d (-1) n = -1 ∨ ∃ j, j < n ∧ stX9_find_6 A a b c d (-1) n = nI j := by
  intro n
  induction n with
  | zero => exact Or.inl rfl
  | succ n ih =>
    have up : stX9_find_6 A a b c d (-1) n = -1 ∨ ∃ j, j < n + 1 ∧ stX9_find_6 A a b c d (-1) n = nI j := by
      rcases ih with h | ⟨j, hj, h⟩
      · exact Or.inl h
      · exact Or.inr ⟨j, by omega, h⟩
    simp only [stX9_find_6]
    repeat' split
    all_goals first | exact up | exact Or.inr ⟨n, by omega, rfl⟩
theorem find_in {v : Nat → Int32} {A : Nat → Nat → Int32} {a b c d : Int32} {n : Nat} (hs : v 20 = nI n) (hn : n ≤ 120) (h : ¬ fX9_find v A a b c d < 0) : vp_in (fX9_find v A a b c d) 120 ∧ vp_in ((v 20) - (1)) 120 := by
  unfold fX9_find at h ⊢
  rw [hs, nI_clamp (by omega)] at h ⊢
  rcases find_r A a b c d n with q | ⟨j, hj, q⟩
  · rw [q] at h
    exact absurd (by decide) h
  · rw [q]
    refine ⟨vp_in_nI (by omega) (by decide), ?_⟩
    obtain ⟨k, rfl⟩ : ∃ k, n = k + 1 := ⟨n - 1, by omega⟩
    rw [show nI (k + 1) - 1 = nI k by rw [← nI_1]; simp]
    exact vp_in_nI (by omega) (by decide)
def fX9_take (v : Nat → Int32) (A : Nat → Nat → Int32) (a_ : Int32) (b_ : Int32) (c_ : Int32) (d_ : Int32) : (Nat → Int32) × (Nat → Nat → Int32) := if (fX9_find v A a_ b_ c_ d_) < 0 then (v, A) else ((fX9_leave v A (fX9_find v A a_ b_ c_ d_)).1, (fX9_leave v A (fX9_find v A a_ b_ c_ d_)).2)
set_option maxHeartbeats 1000000 in
set_option maxRecDepth 10000 in
theorem ctX9_take {l : Launch} {D : va_G} {aC : Nat → ClassId} {b0 sz : Nat} {r : Nat} {v : Nat → Int32} {A : Nat → Nat → Int32} {R : ZM} {a_ : Int32} {b_ : Int32} {c_ : Int32} {d_ : Int32} {n_ : Nat} (hs : v 20 = nI n_) (hn : n_ ≤ 120) : Ct l D aC b0 yX9_take cX9_take 6 none 1 0 0 [.ref (r), .int (a_), .int (b_), .int (c_), .int (d_)] (mm aC r v A R) sz (zd none (mm aC r (fX9_take v A a_ b_ c_ d_).1 (fX9_take v A a_ b_ c_ d_).2 R)) := by
  refine Ct.of (by decide) (Nat.le_of_ble_eq_true rfl) ?_
  intro p e s m below meth c ls C hr hlk hnm hl
  have hl : lv_has ls 6 [(0, .ref (r)), (1, .int (a_)), (2, .int (b_)), (3, .int (c_)), (4, .int (d_))] := hl
  obtain ⟨hx, hb, -, -, -⟩ := id C
  refine zz (fun _ _ => lv_aload_n hx hb dX9_take_0 rfl (lv_at hl 0 rfl)) ?_
  refine zz (fun _ _ => lv_iload_n hx hb dX9_take_1 rfl (lv_at hl 1 rfl)) ?_
  refine zz (fun _ _ => lv_iload_n hx hb dX9_take_2 rfl (lv_at hl 2 rfl)) ?_
  refine zz (fun _ _ => lv_iload_n hx hb dX9_take_3 rfl (lv_at hl 3 rfl)) ?_
  refine zz (fun _ _ => lv_iload hx hb dX9_take_4 (lv_at hl 4 rfl)) ?_
  refine zdV (As := [.int (a_), .int (b_), .int (c_), .int (d_)]) (rest := []) (st' := [.int ((fX9_find v A a_ b_ c_ d_))]) C hl.1 lk_X9_163 (ctX9_find hs hn) rm_0 rfl rfl rfl (Nat.le_of_ble_eq_true rfl) ⟨by decide, by decide, by decide, by decide⟩ dX9_take_6 rfl (fun sz => ?_)
  refine zs (fun _ _ => lv_istore (lv' := [(5, .int ((fX9_find v A a_ b_ c_ d_))), (0, .ref (r)), (1, .int (a_)), (2, .int (b_)), (3, .int (c_)), (4, .int (d_))]) hx hb dX9_take_9 hl (by decide) rfl) (fun ls hl => ?_)
  refine zz (fun _ _ => lv_iload hx hb dX9_take_11 (lv_at hl 0 rfl)) ?_
  refine zb (fun _ _ => lv_if_lt (tgt := 22) hx hb dX9_take_13 (by decide)) (fun c_1 => ?_) (fun c_1 => ?_)
  · exact z_vret C hr hlk dX9_take_22 (by simp only [zd, fX9_take, if_pos c_1, and_self])
  · refine zz (fun _ _ => lv_aload_n hx hb dX9_take_16 rfl (lv_at hl 1 rfl)) ?_
    refine zz (fun _ _ => lv_iload hx hb dX9_take_17 (lv_at hl 0 rfl)) ?_
    obtain ⟨h91, h92⟩ := find_in hs hn c_1
    refine zdV (As := [.int ((fX9_find v A a_ b_ c_ d_))]) (rest := []) (st' := []) C hl.1 lk_X9_167 (ctX9_leave h91 h92) rm_0 rfl rfl rfl (Nat.le_of_ble_eq_true rfl) ⟨by decide, by decide, by decide, by decide⟩ dX9_take_19 rfl (fun sz => ?_)
    exact z_vret C hr hlk dX9_take_22 (by simp only [zd, fX9_take, if_neg c_1, and_self])
end
section
theorem leave_20 {v : Nat → Int32} {A : Nat → Nat → Int32} {a : Int32} {n : Nat} (h : v 20 = nI (n + 1)) : (fX9_leave v A a).1 20 = nI n := by
  simp only [fX9_leave]
  simp [upd, h, ← nI_1]
/-- what empty does, from the place k on, d places left -/
def emS (a : Int32) : Nat → Nat → (Nat → Int32) → (Nat → Nat → Int32) → (Nat → Int32) × (Nat → Nat → Int32)
  | 0, _, v, A => (v, A)
  | d + 1, k, v, A => if A 19 (Int32.toNatClampNeg (nI k)) = a then emS a d k (fX9_leave v A (nI k)).1 (fX9_leave v A (nI k)).2 else emS a d (k + 1) v A
set_option maxHeartbeats 1000000 in
set_option maxRecDepth 10000 in
theorem lpX9_empty {p : Program} {l : Launch} {e : Env} {s : State} {m : MethodId} {args : Array Value} {below : List Frame} {meth : Method} {c : Code} {D : va_G} {aC : Nat → ClassId} {b0 r : Nat} {Q : State → Prop} {R : ZM} {a_ : Int32} (C : zC p l s m c D aC b0 RX9 cX9_empty 3) :
    ∀ (d k : Nat) (v : Nat → Int32) (A : Nat → Nat → Int32), v 20 = nI (k + d) → k + d ≤ 120 → ∀ (sz : Nat) (ls : Array Slot), lv_has ls 3 [(0, .ref r), (1, .int a_), (2, .int (nI k))] → (∀ (sz : Nat) (ls : Array Slot), lv_has ls 3 [(0, .ref r), (1, .int a_)] → Z p l e (rz 1 0 0) s m args below meth c D b0 (mm aC r (emS a_ d k v A).1 (emS a_ d k v A).2 R) sz 0 0 Q (F0 m 34 ls [])) → Z p l e (rz 1 0 0) s m args below meth c D b0 (mm aC r v A R) sz 0 0 Q (F0 m 2 ls []) := by
  obtain ⟨hx, hb, -, -, -⟩ := id C
  intro d
  induction d with
  | zero =>
    intro k v A h20 hle sz ls hl K
    refine zz (fun _ _ => lv_iload_n hx hb dX9_empty_2 rfl (lv_at hl 2 rfl)) ?_
    refine zz (fun _ _ => lv_aload_n hx hb dX9_empty_3 rfl (lv_at hl 0 rfl)) ?_
    refine z_get (v := .int (v 20)) C fd_X9_160 rm_0 rfl dX9_empty_4 ?_
    refine zb (fun _ _ => lv_icmp_ge (tgt := 34) hx hb dX9_empty_7 (by decide)) (fun c_1 => ?_) (fun c_1 => ?_)
    · exact K _ _ (lv_sub hl [0, 1] rfl)
    · exact absurd (by rw [h20]; exact nI_le (Nat.le_refl _) (by omega)) c_1
  | succ d ih =>
    intro k v A h20 hle sz ls hl K
    have h92 : vp_in ((v 20) - (1)) 120 := by
      rw [h20, show nI (k + (d + 1)) - 1 = nI (k + d) by rw [show k + (d + 1) = k + d + 1 by omega, ← nI_1]; simp]
      exact vp_in_nI (by omega) (by decide)
    refine zz (fun _ _ => lv_iload_n hx hb dX9_empty_2 rfl (lv_at hl 2 rfl)) ?_
    refine zz (fun _ _ => lv_aload_n hx hb dX9_empty_3 rfl (lv_at hl 0 rfl)) ?_
    refine z_get (v := .int (v 20)) C fd_X9_160 rm_0 rfl dX9_empty_4 ?_
    refine zb (fun _ _ => lv_icmp_ge (tgt := 34) hx hb dX9_empty_7 (by decide)) (fun c_1 => ?_) (fun c_1 => ?_)
    · exact absurd c_1 (by rw [h20]; exact nI_ge (by omega) (by omega))
    · refine zz (fun _ _ => lv_aload_n hx hb dX9_empty_10 rfl (lv_at hl 0 rfl)) ?_
      refine z_get (v := .ref (r + 19)) C fd_X9_65 rm_0 rfl dX9_empty_11 ?_
      refine zz (fun _ _ => lv_iload_n hx hb dX9_empty_14 rfl (lv_at hl 2 rfl)) ?_
      refine z_iald (f := A 19) C rm_19 (in_nI (j := k) rfl (by omega) (by decide)) dX9_empty_15 ?_
      refine zz (fun _ _ => lv_iload_n hx hb dX9_empty_16 rfl (lv_at hl 1 rfl)) ?_
      refine zbn (fun _ _ => lv_icmp_ne (tgt := 28) hx hb dX9_empty_17 (by decide)) (fun c_2 => ?_) (fun c_2 => ?_)
      · refine zs (fun _ _ => lv_iinc (v := nI k + 1) (lv' := [(2, .int (nI k + 1)), (0, .ref (r)), (1, .int (a_))]) hx hb dX9_empty_28 hl (k := 2) rfl rfl (by decide) rfl) (fun ls hl => ?_)
        refine zz (fun _ _ => lv_goto (tgt := 2) hx hb dX9_empty_31 (by decide)) ?_
        have hl := lv_sub hl [1, 2, 0] rfl
        simp only [nI_1] at hl
        exact ih (k + 1) _ _ (by rw [h20]; congr 1; omega) (by omega) _ _ hl (by simpa only [emS, if_neg c_2] using K)
      · refine zz (fun _ _ => lv_aload_n hx hb dX9_empty_20 rfl (lv_at hl 0 rfl)) ?_
        refine zz (fun _ _ => lv_iload_n hx hb dX9_empty_21 rfl (lv_at hl 2 rfl)) ?_
        refine zdV (As := [.int (nI k)]) (rest := []) (st' := []) C hl.1 lk_X9_167 (ctX9_leave (in_nI (j := k) rfl (by omega) (by decide)) h92) rm_0 rfl rfl rfl (Nat.le_of_ble_eq_true rfl) ⟨by decide, by decide, by decide, by decide⟩ dX9_empty_22 rfl (fun sz => ?_)
        refine zz (fun _ _ => lv_goto (tgt := 2) hx hb dX9_empty_25 (by decide)) ?_
        exact ih k _ _ (leave_20 (n := k + d) h20) (by omega) _ _ (lv_sub hl [0, 1, 2] rfl) (by simpa only [emS, if_pos c_2] using K)
def fX9_empty (v : Nat → Int32) (A : Nat → Nat → Int32) (a_ : Int32) : (Nat → Int32) × (Nat → Nat → Int32) := ((emS a_ (Int32.toNatClampNeg (v 20)) 0 v A).1, (emS a_ (Int32.toNatClampNeg (v 20)) 0 v A).2)
set_option maxHeartbeats 1000000 in
set_option maxRecDepth 10000 in
theorem ctX9_empty {l : Launch} {D : va_G} {aC : Nat → ClassId} {b0 sz : Nat} {r : Nat} {v : Nat → Int32} {A : Nat → Nat → Int32} {R : ZM} {a_ : Int32} {n_ : Nat} (hs : v 20 = nI n_) (hn : n_ ≤ 120) : Ct l D aC b0 yX9_empty cX9_empty 3 none 1 0 0 [.ref (r), .int (a_)] (mm aC r v A R) sz (zd none (mm aC r (fX9_empty v A a_).1 (fX9_empty v A a_).2 R)) := by
  refine Ct.of (by decide) (Nat.le_of_ble_eq_true rfl) ?_
  intro p e s m below meth c ls C hr hlk hnm hl
  have hl : lv_has ls 3 [(0, .ref (r)), (1, .int (a_))] := hl
  obtain ⟨hx, hb, -, -, -⟩ := id C
  refine zz (fun _ _ => lv_iconst (v := 0) hx hb dX9_empty_0 (by decide)) ?_
  refine zs (fun _ _ => lv_istore_n (lv' := [(2, .int (0)), (0, .ref (r)), (1, .int (a_))]) hx hb dX9_empty_1 rfl hl (by decide) rfl) (fun ls hl => ?_)
  refine lpX9_empty C (Int32.toNatClampNeg (v 20)) 0 v A (by rw [Nat.zero_add]; exact nI_sn hs hn (by decide)) (by rw [Nat.zero_add]; exact nI_sle hs hn (by decide)) _ _ (lv_sub hl [1, 2, 0] rfl) (fun sz ls hl => ?_)
  exact z_vret C hr hlk dX9_empty_34 (by simp only [zd, fX9_empty, and_self])
end
section
def fX9_dropOne (v : Nat → Int32) (A : Nat → Nat → Int32) (a_ : Int32) : (Nat → Int32) × (Nat → Nat → Int32) := if a_ = 0 then ((fX9_empty v A a_).1, (u1 (fX9_empty v A a_).2 23 (upd ((fX9_empty v A a_).2 23) (Int32.toNatClampNeg (a_)) (1)))) else ((fX9_empty v A a_).1, (u1 (fX9_empty v A a_).2 23 (upd ((fX9_empty v A a_).2 23) (Int32.toNatClampNeg (a_)) (0))))
set_option maxHeartbeats 1000000 in
set_option maxRecDepth 10000 in
theorem ctX9_dropOne {l : Launch} {D : va_G} {aC : Nat → ClassId} {b0 sz : Nat} {r : Nat} {v : Nat → Int32} {A : Nat → Nat → Int32} {R : ZM} {a_ : Int32} {n_ : Nat} (hs : v 20 = nI n_) (hn : n_ ≤ 120) (hig : vp_in a_ 7) : Ct l D aC b0 yX9_dropOne cX9_dropOne 2 none 2 0 0 [.ref (r), .int (a_)] (mm aC r v A R) sz (zd none (mm aC r (fX9_dropOne v A a_).1 (fX9_dropOne v A a_).2 R)) := by
  refine Ct.of (by decide) (Nat.le_of_ble_eq_true rfl) ?_
  intro p e s m below meth c ls C hr hlk hnm hl
  have hl : lv_has ls 2 [(0, .ref (r)), (1, .int (a_))] := hl
  obtain ⟨hx, hb, -, -, -⟩ := id C
  refine zz (fun _ _ => lv_aload_n hx hb dX9_dropOne_0 rfl (lv_at hl 0 rfl)) ?_
  refine zz (fun _ _ => lv_iload_n hx hb dX9_dropOne_1 rfl (lv_at hl 1 rfl)) ?_
  refine zdV (As := [.int (a_)]) (rest := []) (st' := []) C hl.1 lk_X9_171 (ctX9_empty hs hn) rm_0 rfl rfl rfl (Nat.le_of_ble_eq_true rfl) ⟨by decide, by decide, by decide, by decide⟩ dX9_dropOne_2 rfl (fun sz => ?_)
  refine zz (fun _ _ => lv_aload_n hx hb dX9_dropOne_5 rfl (lv_at hl 0 rfl)) ?_
  refine z_get (v := .ref (r + 23)) C fd_X9_77 rm_0 rfl dX9_dropOne_6 ?_
  refine zz (fun _ _ => lv_iload_n hx hb dX9_dropOne_9 rfl (lv_at hl 1 rfl)) ?_
  refine zz (fun _ _ => lv_iload_n hx hb dX9_dropOne_10 rfl (lv_at hl 1 rfl)) ?_
  refine zbn (fun _ _ => lv_if_ne (tgt := 18) hx hb dX9_dropOne_11 (by decide)) (fun c_1 => ?_) (fun c_1 => ?_)
  · refine zz (fun _ _ => lv_iconst (v := 0) hx hb dX9_dropOne_18 (by decide)) ?_
    refine z_zast (f := (fX9_empty v A a_).2 23) C rm_23 (by first | assumption | (apply vp_in_nI <;> omega)) rfl dX9_dropOne_19 ?_
    refine zeq wm_23 ?_
    exact z_vret C hr hlk dX9_dropOne_20 (by simp only [zd, fX9_dropOne, if_neg c_1, and_self])
  · refine zz (fun _ _ => lv_iconst (v := 1) hx hb dX9_dropOne_14 (by decide)) ?_
    refine zz (fun _ _ => lv_goto (tgt := 19) hx hb dX9_dropOne_15 (by decide)) ?_
    refine z_zast (f := (fX9_empty v A a_).2 23) C rm_23 (by first | assumption | (apply vp_in_nI <;> omega)) rfl dX9_dropOne_19 ?_
    refine zeq wm_23 ?_
    exact z_vret C hr hlk dX9_dropOne_20 (by simp only [zd, fX9_dropOne, if_pos c_1, and_self])
def fX9_isLeftOut (A : Nat → Nat → Int32) (a_ : Int32) (b_ : Int32) : Int32 := if (fX9_valueInV A b_ (A 6 (Int32.toNatClampNeg (a_)))) = (-1) then (1) else if (fX9_valueInV A b_ (A 7 (Int32.toNatClampNeg (a_)))) = (-1) then (1) else if (fX9_valueInV A b_ (A 8 (Int32.toNatClampNeg (a_)))) = (-1) then (1) else if (fX9_valueInV A b_ (A 7 (Int32.toNatClampNeg (a_)))) ≤ 99 then (0) else (1)
theorem nbfX9_isLeftOut {A : Nat → Nat → Int32} {a_ : Int32} {b_ : Int32} : narrow .boolean (.int (fX9_isLeftOut A a_ b_)) = .int (fX9_isLeftOut A a_ b_) := by
  unfold fX9_isLeftOut
  repeat' split
  all_goals try dsimp only
  all_goals first | rfl | assumption
set_option maxHeartbeats 1000000 in
set_option maxRecDepth 10000 in
theorem ctX9_isLeftOut {l : Launch} {D : va_G} {aC : Nat → ClassId} {b0 sz : Nat} {r : Nat} {v : Nat → Int32} {A : Nat → Nat → Int32} {R : ZM} {a_ : Int32} {b_ : Int32} (hit : vp_in a_ 72) (hv6 : ¬ fX9_isVariable (A 6 (Int32.toNatClampNeg (a_))) = 0 → vp_in (4 * b_ - 1 - A 6 (Int32.toNatClampNeg (a_))) 20400) (hv7 : ¬ fX9_isVariable (A 7 (Int32.toNatClampNeg (a_))) = 0 → vp_in (4 * b_ - 1 - A 7 (Int32.toNatClampNeg (a_))) 20400) (hv8 : ¬ fX9_isVariable (A 8 (Int32.toNatClampNeg (a_))) = 0 → vp_in (4 * b_ - 1 - A 8 (Int32.toNatClampNeg (a_))) 20400) : Ct l D aC b0 yX9_isLeftOut cX9_isLeftOut 6 (some .boolean) 3 0 0 [.ref (r), .int (a_), .int (b_)] (mm aC r v A R) sz (zd (some (.int (fX9_isLeftOut A a_ b_))) (mm aC r v A R)) := by
  refine Ct.of (by decide) (Nat.le_of_ble_eq_true rfl) ?_
  intro p e s m below meth c ls C hr hlk hnm hl
  have hl : lv_has ls 6 [(0, .ref (r)), (1, .int (a_)), (2, .int (b_))] := hl
  obtain ⟨hx, hb, -, -, -⟩ := id C
  refine zz (fun _ _ => lv_aload_n hx hb dX9_isLeftOut_0 rfl (lv_at hl 0 rfl)) ?_
  refine zz (fun _ _ => lv_aload_n hx hb dX9_isLeftOut_1 rfl (lv_at hl 0 rfl)) ?_
  refine z_get (v := .ref (r + 35)) C fd_X9_117 rm_0 rfl dX9_isLeftOut_2 ?_
  refine zz (fun _ _ => lv_iload_n hx hb dX9_isLeftOut_5 rfl (lv_at hl 2 rfl)) ?_
  refine zz (fun _ _ => lv_aload_n hx hb dX9_isLeftOut_6 rfl (lv_at hl 0 rfl)) ?_
  refine z_get (v := .ref (r + 6)) C fd_X9_26 rm_0 rfl dX9_isLeftOut_7 ?_
  refine zz (fun _ _ => lv_iload_n hx hb dX9_isLeftOut_10 rfl (lv_at hl 1 rfl)) ?_
  refine z_iald (f := A 6) C rm_6 (by first | assumption | (apply vp_in_nI <;> omega)) dX9_isLeftOut_11 ?_
  refine zdV (As := [.ref (r + 35), .int (b_), .int (A 6 (Int32.toNatClampNeg (a_)))]) (rest := []) (st' := [.int ((fX9_valueInV A b_ (A 6 (Int32.toNatClampNeg (a_)))))]) C hl.1 lk_X9_183 (ctX9_valueInV hv6) rm_0 rfl rfl rfl (Nat.le_of_ble_eq_true rfl) ⟨by decide, by decide, by decide, by decide⟩ dX9_isLeftOut_12 rfl (fun sz => ?_)
  refine zs (fun _ _ => lv_istore_n (lv' := [(3, .int ((fX9_valueInV A b_ (A 6 (Int32.toNatClampNeg (a_)))))), (0, .ref (r)), (1, .int (a_)), (2, .int (b_))]) hx hb dX9_isLeftOut_15 rfl hl (by decide) rfl) (fun ls hl => ?_)
  refine zz (fun _ _ => lv_aload_n hx hb dX9_isLeftOut_16 rfl (lv_at hl 1 rfl)) ?_
  refine zz (fun _ _ => lv_aload_n hx hb dX9_isLeftOut_17 rfl (lv_at hl 1 rfl)) ?_
  refine z_get (v := .ref (r + 35)) C fd_X9_117 rm_0 rfl dX9_isLeftOut_18 ?_
  refine zz (fun _ _ => lv_iload_n hx hb dX9_isLeftOut_21 rfl (lv_at hl 3 rfl)) ?_
  refine zz (fun _ _ => lv_aload_n hx hb dX9_isLeftOut_22 rfl (lv_at hl 1 rfl)) ?_
  refine z_get (v := .ref (r + 7)) C fd_X9_29 rm_0 rfl dX9_isLeftOut_23 ?_
  refine zz (fun _ _ => lv_iload_n hx hb dX9_isLeftOut_26 rfl (lv_at hl 2 rfl)) ?_
  refine z_iald (f := A 7) C rm_7 (by first | assumption | (apply vp_in_nI <;> omega)) dX9_isLeftOut_27 ?_
  refine zdV (As := [.ref (r + 35), .int (b_), .int (A 7 (Int32.toNatClampNeg (a_)))]) (rest := []) (st' := [.int ((fX9_valueInV A b_ (A 7 (Int32.toNatClampNeg (a_)))))]) C hl.1 lk_X9_183 (ctX9_valueInV hv7) rm_0 rfl rfl rfl (Nat.le_of_ble_eq_true rfl) ⟨by decide, by decide, by decide, by decide⟩ dX9_isLeftOut_28 rfl (fun sz => ?_)
  refine zs (fun _ _ => lv_istore (lv' := [(4, .int ((fX9_valueInV A b_ (A 7 (Int32.toNatClampNeg (a_)))))), (3, .int ((fX9_valueInV A b_ (A 6 (Int32.toNatClampNeg (a_)))))), (0, .ref (r)), (1, .int (a_)), (2, .int (b_))]) hx hb dX9_isLeftOut_31 hl (by decide) rfl) (fun ls hl => ?_)
  refine zz (fun _ _ => lv_aload_n hx hb dX9_isLeftOut_33 rfl (lv_at hl 2 rfl)) ?_
  refine zz (fun _ _ => lv_aload_n hx hb dX9_isLeftOut_34 rfl (lv_at hl 2 rfl)) ?_
  refine z_get (v := .ref (r + 35)) C fd_X9_117 rm_0 rfl dX9_isLeftOut_35 ?_
  refine zz (fun _ _ => lv_iload_n hx hb dX9_isLeftOut_38 rfl (lv_at hl 4 rfl)) ?_
  refine zz (fun _ _ => lv_aload_n hx hb dX9_isLeftOut_39 rfl (lv_at hl 2 rfl)) ?_
  refine z_get (v := .ref (r + 8)) C fd_X9_32 rm_0 rfl dX9_isLeftOut_40 ?_
  refine zz (fun _ _ => lv_iload_n hx hb dX9_isLeftOut_43 rfl (lv_at hl 3 rfl)) ?_
  refine z_iald (f := A 8) C rm_8 (by first | assumption | (apply vp_in_nI <;> omega)) dX9_isLeftOut_44 ?_
  refine zdV (As := [.ref (r + 35), .int (b_), .int (A 8 (Int32.toNatClampNeg (a_)))]) (rest := []) (st' := [.int ((fX9_valueInV A b_ (A 8 (Int32.toNatClampNeg (a_)))))]) C hl.1 lk_X9_183 (ctX9_valueInV hv8) rm_0 rfl rfl rfl (Nat.le_of_ble_eq_true rfl) ⟨by decide, by decide, by decide, by decide⟩ dX9_isLeftOut_45 rfl (fun sz => ?_)
  refine zs (fun _ _ => lv_istore (lv' := [(5, .int ((fX9_valueInV A b_ (A 8 (Int32.toNatClampNeg (a_)))))), (4, .int ((fX9_valueInV A b_ (A 7 (Int32.toNatClampNeg (a_)))))), (3, .int ((fX9_valueInV A b_ (A 6 (Int32.toNatClampNeg (a_)))))), (0, .ref (r)), (1, .int (a_)), (2, .int (b_))]) hx hb dX9_isLeftOut_48 hl (by decide) rfl) (fun ls hl => ?_)
  refine zz (fun _ _ => lv_iload_n hx hb dX9_isLeftOut_50 rfl (lv_at hl 2 rfl)) ?_
  refine zz (fun _ _ => lv_iconst (v := (-1)) hx hb dX9_isLeftOut_51 (by decide)) ?_
  refine zb (fun _ _ => lv_icmp_eq (tgt := 74) hx hb dX9_isLeftOut_52 (by decide)) (fun c_1 => ?_) (fun c_1 => ?_)
  · refine zz (fun _ _ => lv_iconst (v := 1) hx hb dX9_isLeftOut_74 (by decide)) ?_
    refine zz (fun _ _ => lv_goto (tgt := 79) hx hb dX9_isLeftOut_75 (by decide)) ?_
    exact z_zret C hr rfl hlk dX9_isLeftOut_79 (by simp only [zd, fX9_isLeftOut, if_pos c_1, and_self])
  · refine zz (fun _ _ => lv_iload hx hb dX9_isLeftOut_55 (lv_at hl 1 rfl)) ?_
    refine zz (fun _ _ => lv_iconst (v := (-1)) hx hb dX9_isLeftOut_57 (by decide)) ?_
    refine zb (fun _ _ => lv_icmp_eq (tgt := 74) hx hb dX9_isLeftOut_58 (by decide)) (fun c_2 => ?_) (fun c_2 => ?_)
    · refine zz (fun _ _ => lv_iconst (v := 1) hx hb dX9_isLeftOut_74 (by decide)) ?_
      refine zz (fun _ _ => lv_goto (tgt := 79) hx hb dX9_isLeftOut_75 (by decide)) ?_
      exact z_zret C hr rfl hlk dX9_isLeftOut_79 (by simp only [zd, fX9_isLeftOut, if_neg c_1, if_pos c_2, and_self])
    · refine zz (fun _ _ => lv_iload hx hb dX9_isLeftOut_61 (lv_at hl 0 rfl)) ?_
      refine zz (fun _ _ => lv_iconst (v := (-1)) hx hb dX9_isLeftOut_63 (by decide)) ?_
      refine zb (fun _ _ => lv_icmp_eq (tgt := 74) hx hb dX9_isLeftOut_64 (by decide)) (fun c_3 => ?_) (fun c_3 => ?_)
      · refine zz (fun _ _ => lv_iconst (v := 1) hx hb dX9_isLeftOut_74 (by decide)) ?_
        refine zz (fun _ _ => lv_goto (tgt := 79) hx hb dX9_isLeftOut_75 (by decide)) ?_
        exact z_zret C hr rfl hlk dX9_isLeftOut_79 (by simp only [zd, fX9_isLeftOut, if_neg c_1, if_neg c_2, if_pos c_3, and_self])
      · refine zz (fun _ _ => lv_iload hx hb dX9_isLeftOut_67 (lv_at hl 1 rfl)) ?_
        refine zz (fun _ _ => lv_bipush (v := 99) hx hb dX9_isLeftOut_69 (by decide)) ?_
        refine zb (fun _ _ => lv_icmp_le (tgt := 78) hx hb dX9_isLeftOut_71 (by decide)) (fun c_4 => ?_) (fun c_4 => ?_)
        · refine zz (fun _ _ => lv_iconst (v := 0) hx hb dX9_isLeftOut_78 (by decide)) ?_
          exact z_zret C hr rfl hlk dX9_isLeftOut_79 (by simp only [zd, fX9_isLeftOut, if_neg c_1, if_neg c_2, if_neg c_3, if_pos c_4, and_self])
        · refine zz (fun _ _ => lv_iconst (v := 1) hx hb dX9_isLeftOut_74 (by decide)) ?_
          refine zz (fun _ _ => lv_goto (tgt := 79) hx hb dX9_isLeftOut_75 (by decide)) ?_
          exact z_zret C hr rfl hlk dX9_isLeftOut_79 (by simp only [zd, fX9_isLeftOut, if_neg c_1, if_neg c_2, if_neg c_3, if_neg c_4, and_self])
def fX9_comes (v : Nat → Int32) (A : Nat → Nat → Int32) (a_ : Int32) (b_ : Int32) : Int32 × (Nat → Int32) × (Nat → Nat → Int32) := if (fX9_isNew a_) = 0 then ((fX9_valueInV A b_ a_), v, A) else if A 38 (Int32.toNatClampNeg (((-11)) - (a_))) = (-1) then if 60 ≤ v 26 then (A 38 (Int32.toNatClampNeg (((-11)) - (a_))), v, A) else ((upd (A 38) (Int32.toNatClampNeg (((-11)) - (a_))) ((100) + (v 26))) (Int32.toNatClampNeg (((-11)) - (a_))), (upd v 26 ((v 26) + (1))), (u1 A 38 (upd (A 38) (Int32.toNatClampNeg (((-11)) - (a_))) ((100) + (v 26))))) else (A 38 (Int32.toNatClampNeg (((-11)) - (a_))), v, A)
set_option maxHeartbeats 1000000 in
set_option maxRecDepth 10000 in
theorem ctX9_comes {l : Launch} {D : va_G} {aC : Nat → ClassId} {b0 sz : Nat} {r : Nat} {v : Nat → Int32} {A : Nat → Nat → Int32} {R : ZM} {a_ : Int32} {b_ : Int32} (hm : ¬ fX9_isNew a_ = 0 → vp_in ((-11) - (a_)) 4) (hv : ¬ fX9_isVariable a_ = 0 → vp_in (4 * b_ - 1 - a_) 20400) : Ct l D aC b0 yX9_comes cX9_comes 4 (some .int) 3 0 0 [.ref (r), .int (a_), .int (b_)] (mm aC r v A R) sz (zd (some (.int (fX9_comes v A a_ b_).1)) (mm aC r (fX9_comes v A a_ b_).2.1 (fX9_comes v A a_ b_).2.2 R)) := by
  refine Ct.of (by decide) (Nat.le_of_ble_eq_true rfl) ?_
  intro p e s m below meth c ls C hr hlk hnm hl
  have hl : lv_has ls 4 [(0, .ref (r)), (1, .int (a_)), (2, .int (b_))] := hl
  obtain ⟨hx, hb, -, -, -⟩ := id C
  refine zz (fun _ _ => lv_iload_n hx hb dX9_comes_0 rfl (lv_at hl 1 rfl)) ?_
  refine zdS (As := [.int (a_)]) (rest := []) (st' := [.int ((fX9_isNew a_))]) C hl.1 lk_X9_153 (ctX9_isNew ) rfl rfl (Nat.le_of_ble_eq_true rfl) ⟨by decide, by decide, by decide, by decide⟩ dX9_comes_1 rfl (fun sz => ?_)
  refine zbn (fun _ _ => lv_if_ne (tgt := 18) hx hb dX9_comes_4 (by decide)) (fun c_1 => ?_) (fun c_1 => ?_)
  · refine zz (fun _ _ => lv_bipush (v := (-11)) hx hb dX9_comes_18 (by decide)) ?_
    refine zz (fun _ _ => lv_iload_n hx hb dX9_comes_20 rfl (lv_at hl 1 rfl)) ?_
    refine zz (fun _ _ => lv_isub hx hb dX9_comes_21) ?_
    refine zs (fun _ _ => lv_istore_n (lv' := [(3, .int (((-11)) - (a_))), (0, .ref (r)), (1, .int (a_)), (2, .int (b_))]) hx hb dX9_comes_22 rfl hl (by decide) rfl) (fun ls hl => ?_)
    refine zz (fun _ _ => lv_aload_n hx hb dX9_comes_23 rfl (lv_at hl 1 rfl)) ?_
    refine z_get (v := .ref (r + 38)) C fd_X9_126 rm_0 rfl dX9_comes_24 ?_
    refine zz (fun _ _ => lv_iload_n hx hb dX9_comes_27 rfl (lv_at hl 0 rfl)) ?_
    refine z_iald (f := A 38) C rm_38 (hm c_1) dX9_comes_28 ?_
    refine zz (fun _ _ => lv_iconst (v := (-1)) hx hb dX9_comes_29 (by decide)) ?_
    refine zbn (fun _ _ => lv_icmp_ne (tgt := 65) hx hb dX9_comes_30 (by decide)) (fun c_2 => ?_) (fun c_2 => ?_)
    · refine zz (fun _ _ => lv_aload_n hx hb dX9_comes_65 rfl (lv_at hl 1 rfl)) ?_
      refine z_get (v := .ref (r + 38)) C fd_X9_126 rm_0 rfl dX9_comes_66 ?_
      refine zz (fun _ _ => lv_iload_n hx hb dX9_comes_69 rfl (lv_at hl 0 rfl)) ?_
      refine z_iald (f := A 38) C rm_38 (hm c_1) dX9_comes_70 ?_
      exact z_iret C hr hlk dX9_comes_71 (by simp only [zd, fX9_comes, if_neg c_1, if_neg c_2, and_self])
    · refine zz (fun _ _ => lv_aload_n hx hb dX9_comes_33 rfl (lv_at hl 1 rfl)) ?_
      refine z_get (v := .int (v 26)) C fd_X9_199 rm_0 rfl dX9_comes_34 ?_
      refine zz (fun _ _ => lv_bipush (v := 60) hx hb dX9_comes_37 (by decide)) ?_
      refine zb (fun _ _ => lv_icmp_ge (tgt := 65) hx hb dX9_comes_39 (by decide)) (fun c_3 => ?_) (fun c_3 => ?_)
      · refine zz (fun _ _ => lv_aload_n hx hb dX9_comes_65 rfl (lv_at hl 1 rfl)) ?_
        refine z_get (v := .ref (r + 38)) C fd_X9_126 rm_0 rfl dX9_comes_66 ?_
        refine zz (fun _ _ => lv_iload_n hx hb dX9_comes_69 rfl (lv_at hl 0 rfl)) ?_
        refine z_iald (f := A 38) C rm_38 (hm c_1) dX9_comes_70 ?_
        exact z_iret C hr hlk dX9_comes_71 (by simp only [zd, fX9_comes, if_neg c_1, if_pos c_2, if_pos c_3, and_self])
      · refine zz (fun _ _ => lv_aload_n hx hb dX9_comes_42 rfl (lv_at hl 1 rfl)) ?_
        refine z_get (v := .ref (r + 38)) C fd_X9_126 rm_0 rfl dX9_comes_43 ?_
        refine zz (fun _ _ => lv_iload_n hx hb dX9_comes_46 rfl (lv_at hl 0 rfl)) ?_
        refine zz (fun _ _ => lv_bipush (v := 100) hx hb dX9_comes_47 (by decide)) ?_
        refine zz (fun _ _ => lv_aload_n hx hb dX9_comes_49 rfl (lv_at hl 1 rfl)) ?_
        refine z_get (v := .int (v 26)) C fd_X9_199 rm_0 rfl dX9_comes_50 ?_
        refine zz (fun _ _ => lv_iadd hx hb dX9_comes_53) ?_
        refine z_iast (f := A 38) C rm_38 (hm c_1) dX9_comes_54 ?_
        refine zeq wm_38 ?_
        refine zz (fun _ _ => lv_aload_n hx hb dX9_comes_55 rfl (lv_at hl 1 rfl)) ?_
        refine zz (fun _ _ => lv_dup hx hb dX9_comes_56 rfl) ?_
        refine z_get (v := .int (v 26)) C fd_X9_199 rm_0 rfl dX9_comes_57 ?_
        refine zz (fun _ _ => lv_iconst (v := 1) hx hb dX9_comes_60 (by decide)) ?_
        refine zz (fun _ _ => lv_iadd hx hb dX9_comes_61) ?_
        refine z_put C fp_X9_199 (fun h => by cases h) rm_0 (Nat.le_of_ble_eq_true rfl) rfl rfl dX9_comes_62 ?_
        refine zeq wm_f26 ?_
        refine zz (fun _ _ => lv_aload_n hx hb dX9_comes_65 rfl (lv_at hl 1 rfl)) ?_
        refine z_get (v := .ref (r + 38)) C fd_X9_126 rm_0 rfl dX9_comes_66 ?_
        refine zz (fun _ _ => lv_iload_n hx hb dX9_comes_69 rfl (lv_at hl 0 rfl)) ?_
        refine z_iald (f := (upd (A 38) (Int32.toNatClampNeg (((-11)) - (a_))) ((100) + (v 26)))) C rm_38 (hm c_1) dX9_comes_70 ?_
        exact z_iret C hr hlk dX9_comes_71 (by simp only [zd, fX9_comes, if_neg c_1, if_pos c_2, if_neg c_3, and_self])
  · refine zz (fun _ _ => lv_aload_n hx hb dX9_comes_7 rfl (lv_at hl 0 rfl)) ?_
    refine zz (fun _ _ => lv_aload_n hx hb dX9_comes_8 rfl (lv_at hl 0 rfl)) ?_
    refine z_get (v := .ref (r + 35)) C fd_X9_117 rm_0 rfl dX9_comes_9 ?_
    refine zz (fun _ _ => lv_iload_n hx hb dX9_comes_12 rfl (lv_at hl 2 rfl)) ?_
    refine zz (fun _ _ => lv_iload_n hx hb dX9_comes_13 rfl (lv_at hl 1 rfl)) ?_
    refine zdV (As := [.ref (r + 35), .int (b_), .int (a_)]) (rest := []) (st' := [.int ((fX9_valueInV A b_ a_))]) C hl.1 lk_X9_183 (ctX9_valueInV hv) rm_0 rfl rfl rfl (Nat.le_of_ble_eq_true rfl) ⟨by decide, by decide, by decide, by decide⟩ dX9_comes_14 rfl (fun sz => ?_)
    exact z_iret C hr hlk dX9_comes_17 (by simp only [zd, fX9_comes, if_pos c_1, and_self])
end
section
theorem nI_p1 (k : Nat) : (nI (k + 1)) - (1) = nI k := by rw [← nI_1]; simp
theorem nI_m1 (k : Nat) : nI (k + 1) + (-1) = nI k := by rw [← nI_1, Int32.add_assoc]; simp
theorem hz_upd {f : Nat → Int32} {k q : Nat} (h : ∀ j, j < 240 → f j = 0 ∨ f j = 1) (hk : k < 240) : ∀ j, j < 240 → upd f q (f (Int32.toNatClampNeg (nI k))) j = 0 ∨ upd f q (f (Int32.toNatClampNeg (nI k))) j = 1 := by
  intro j hj
  unfold upd
  split
  · exact h _ (by rw [nI_clamp (by omega)]; omega)
  · exact h j hj
/-- the places of the changes behind the new one, moved up by one -/
def noS (a_ b_ c_ d_ : Int32) : Nat → (Nat → Nat → Int32) → (Nat → Nat → Int32) × Nat
  | 0, A => (A, 0)
  | k + 1, A => if (fX9_isAfter A (nI k) a_ b_ c_ d_) = 0 then (A, k + 1) else noS a_ b_ c_ d_ k (u1 (u1 (u1 (u1 (u1 A 29 (upd (A 29) (Int32.toNatClampNeg (nI (k + 1))) (A 29 (Int32.toNatClampNeg (nI k))))) 30 (upd (A 30) (Int32.toNatClampNeg (nI (k + 1))) (A 30 (Int32.toNatClampNeg (nI k))))) 31 (upd (A 31) (Int32.toNatClampNeg (nI (k + 1))) (A 31 (Int32.toNatClampNeg (nI k))))) 32 (upd (A 32) (Int32.toNatClampNeg (nI (k + 1))) (A 32 (Int32.toNatClampNeg (nI k))))) 33 (upd (A 33) (Int32.toNatClampNeg (nI (k + 1))) (A 33 (Int32.toNatClampNeg (nI k)))))
set_option maxHeartbeats 1000000 in
set_option maxRecDepth 10000 in
theorem lpX9_note {p : Program} {l : Launch} {e : Env} {s : State} {m : MethodId} {args : Array Value} {below : List Frame} {meth : Method} {c : Code} {D : va_G} {aC : Nat → ClassId} {b0 r : Nat} {Q : State → Prop} {v : Nat → Int32} {R : ZM} {a_ b_ c_ d_ e_ : Int32} (C : zC p l s m c D aC b0 RX9 cX9_note 7) :
    ∀ (k : Nat) (A : Nat → Nat → Int32), k < 240 → (∀ j, j < 240 → A 33 j = 0 ∨ A 33 j = 1) → ∀ (sz : Nat) (ls : Array Slot), lv_has ls 7 [(0, .ref (r)), (1, .int (a_)), (2, .int (b_)), (3, .int (c_)), (4, .int (d_)), (5, .int (e_)), (6, .int (nI k))] → (∀ (sz : Nat) (ls : Array Slot), lv_has ls 7 [(0, .ref (r)), (1, .int (a_)), (2, .int (b_)), (3, .int (c_)), (4, .int (d_)), (5, .int (e_)), (6, .int (nI (noS a_ b_ c_ d_ k A).2))] → Z p l e (rz 1 0 0) s m args below meth c D b0 (mm aC r v (noS a_ b_ c_ d_ k A).1 R) sz 0 0 Q (F0 m 113 ls [])) → Z p l e (rz 1 0 0) s m args below meth c D b0 (mm aC r v A R) sz 0 0 Q (F0 m 6 ls []) := by
  obtain ⟨hx, hb, -, -, -⟩ := id C
  intro k
  induction k with
  | zero =>
    intro A hk hz sz ls hl K
    refine zz (fun _ _ => lv_iload hx hb dX9_note_6 (lv_at hl 6 rfl)) ?_
    refine zb (fun _ _ => lv_if_le (tgt := 113) hx hb dX9_note_8 (by decide)) (fun c_1 => ?_) (fun c_1 => ?_)
    · exact K _ _ (lv_sub hl [0, 1, 2, 3, 4, 5, 6] rfl)
    · exact absurd (by decide) c_1
  | succ k ih =>
    intro A hk hz sz ls hl K
    refine zz (fun _ _ => lv_iload hx hb dX9_note_6 (lv_at hl 6 rfl)) ?_
    refine zb (fun _ _ => lv_if_le (tgt := 113) hx hb dX9_note_8 (by decide)) (fun c_1 => ?_) (fun c_1 => ?_)
    · exact absurd c_1 (show ¬ nI (k + 1) ≤ nI 0 from nI_ge (by omega) (by omega))
    · refine zz (fun _ _ => lv_aload_n hx hb dX9_note_11 rfl (lv_at hl 0 rfl)) ?_
      refine zz (fun _ _ => lv_iload hx hb dX9_note_12 (lv_at hl 6 rfl)) ?_
      refine zz (fun _ _ => lv_iconst (v := 1) hx hb dX9_note_14 (by decide)) ?_
      refine zz (fun _ _ => lv_isub hx hb dX9_note_15) ?_
      refine zval (v' := .int (nI k)) (congrArg Value.int (nI_p1 k)) ?_
      refine zz (fun _ _ => lv_iload_n hx hb dX9_note_16 rfl (lv_at hl 1 rfl)) ?_
      refine zz (fun _ _ => lv_iload_n hx hb dX9_note_17 rfl (lv_at hl 2 rfl)) ?_
      refine zz (fun _ _ => lv_iload_n hx hb dX9_note_18 rfl (lv_at hl 3 rfl)) ?_
      refine zz (fun _ _ => lv_iload hx hb dX9_note_19 (lv_at hl 4 rfl)) ?_
      refine zdV (As := [.int (nI k), .int (a_), .int (b_), .int (c_), .int (d_)]) (rest := []) (st' := [.int ((fX9_isAfter A (nI k) a_ b_ c_ d_))]) C hl.1 lk_X9_253 (ctX9_isAfter (in_nI (j := k) rfl (by omega) (by decide))) rm_0 rfl rfl rfl (Nat.le_of_ble_eq_true rfl) ⟨by decide, by decide, by decide, by decide⟩ dX9_note_21 rfl (fun sz => ?_)
      refine zb (fun _ _ => lv_if_eq (tgt := 113) hx hb dX9_note_24 (by decide)) (fun c_2 => ?_) (fun c_2 => ?_)
      · simp only [noS, if_pos c_2] at K
        exact K _ _ (lv_sub hl [0, 1, 2, 3, 4, 5, 6] rfl)
      · refine zz (fun _ _ => lv_aload_n hx hb dX9_note_27 rfl (lv_at hl 0 rfl)) ?_
        refine z_get (v := .ref (r + 29)) C fd_X9_95 rm_0 rfl dX9_note_28 ?_
        refine zz (fun _ _ => lv_iload hx hb dX9_note_31 (lv_at hl 6 rfl)) ?_
        refine zz (fun _ _ => lv_aload_n hx hb dX9_note_33 rfl (lv_at hl 0 rfl)) ?_
        refine z_get (v := .ref (r + 29)) C fd_X9_95 rm_0 rfl dX9_note_34 ?_
        refine zz (fun _ _ => lv_iload hx hb dX9_note_37 (lv_at hl 6 rfl)) ?_
        refine zz (fun _ _ => lv_iconst (v := 1) hx hb dX9_note_39 (by decide)) ?_
        refine zz (fun _ _ => lv_isub hx hb dX9_note_40) ?_
        refine zval (v' := .int (nI k)) (congrArg Value.int (nI_p1 k)) ?_
        refine z_iald (f := A 29) C rm_29 (in_nI (j := k) rfl (by omega) (by decide)) dX9_note_41 ?_
        refine z_iast (f := A 29) C rm_29 (in_nI (j := k + 1) rfl (by omega) (by decide)) dX9_note_42 ?_
        refine zeq wm_29 ?_
        refine zz (fun _ _ => lv_aload_n hx hb dX9_note_43 rfl (lv_at hl 0 rfl)) ?_
        refine z_get (v := .ref (r + 30)) C fd_X9_98 rm_0 rfl dX9_note_44 ?_
        refine zz (fun _ _ => lv_iload hx hb dX9_note_47 (lv_at hl 6 rfl)) ?_
        refine zz (fun _ _ => lv_aload_n hx hb dX9_note_49 rfl (lv_at hl 0 rfl)) ?_
        refine z_get (v := .ref (r + 30)) C fd_X9_98 rm_0 rfl dX9_note_50 ?_
        refine zz (fun _ _ => lv_iload hx hb dX9_note_53 (lv_at hl 6 rfl)) ?_
        refine zz (fun _ _ => lv_iconst (v := 1) hx hb dX9_note_55 (by decide)) ?_
        refine zz (fun _ _ => lv_isub hx hb dX9_note_56) ?_
        refine zval (v' := .int (nI k)) (congrArg Value.int (nI_p1 k)) ?_
        refine z_iald (f := A 30) C rm_30 (in_nI (j := k) rfl (by omega) (by decide)) dX9_note_57 ?_
        refine z_iast (f := A 30) C rm_30 (in_nI (j := k + 1) rfl (by omega) (by decide)) dX9_note_58 ?_
        refine zeq wm_30 ?_
        refine zz (fun _ _ => lv_aload_n hx hb dX9_note_59 rfl (lv_at hl 0 rfl)) ?_
        refine z_get (v := .ref (r + 31)) C fd_X9_101 rm_0 rfl dX9_note_60 ?_
        refine zz (fun _ _ => lv_iload hx hb dX9_note_63 (lv_at hl 6 rfl)) ?_
        refine zz (fun _ _ => lv_aload_n hx hb dX9_note_65 rfl (lv_at hl 0 rfl)) ?_
        refine z_get (v := .ref (r + 31)) C fd_X9_101 rm_0 rfl dX9_note_66 ?_
        refine zz (fun _ _ => lv_iload hx hb dX9_note_69 (lv_at hl 6 rfl)) ?_
        refine zz (fun _ _ => lv_iconst (v := 1) hx hb dX9_note_71 (by decide)) ?_
        refine zz (fun _ _ => lv_isub hx hb dX9_note_72) ?_
        refine zval (v' := .int (nI k)) (congrArg Value.int (nI_p1 k)) ?_
        refine z_iald (f := A 31) C rm_31 (in_nI (j := k) rfl (by omega) (by decide)) dX9_note_73 ?_
        refine z_iast (f := A 31) C rm_31 (in_nI (j := k + 1) rfl (by omega) (by decide)) dX9_note_74 ?_
        refine zeq wm_31 ?_
        refine zz (fun _ _ => lv_aload_n hx hb dX9_note_75 rfl (lv_at hl 0 rfl)) ?_
        refine z_get (v := .ref (r + 32)) C fd_X9_104 rm_0 rfl dX9_note_76 ?_
        refine zz (fun _ _ => lv_iload hx hb dX9_note_79 (lv_at hl 6 rfl)) ?_
        refine zz (fun _ _ => lv_aload_n hx hb dX9_note_81 rfl (lv_at hl 0 rfl)) ?_
        refine z_get (v := .ref (r + 32)) C fd_X9_104 rm_0 rfl dX9_note_82 ?_
        refine zz (fun _ _ => lv_iload hx hb dX9_note_85 (lv_at hl 6 rfl)) ?_
        refine zz (fun _ _ => lv_iconst (v := 1) hx hb dX9_note_87 (by decide)) ?_
        refine zz (fun _ _ => lv_isub hx hb dX9_note_88) ?_
        refine zval (v' := .int (nI k)) (congrArg Value.int (nI_p1 k)) ?_
        refine z_iald (f := A 32) C rm_32 (in_nI (j := k) rfl (by omega) (by decide)) dX9_note_89 ?_
        refine z_iast (f := A 32) C rm_32 (in_nI (j := k + 1) rfl (by omega) (by decide)) dX9_note_90 ?_
        refine zeq wm_32 ?_
        refine zz (fun _ _ => lv_aload_n hx hb dX9_note_91 rfl (lv_at hl 0 rfl)) ?_
        refine z_get (v := .ref (r + 33)) C fd_X9_107 rm_0 rfl dX9_note_92 ?_
        refine zz (fun _ _ => lv_iload hx hb dX9_note_95 (lv_at hl 6 rfl)) ?_
        refine zz (fun _ _ => lv_aload_n hx hb dX9_note_97 rfl (lv_at hl 0 rfl)) ?_
        refine z_get (v := .ref (r + 33)) C fd_X9_107 rm_0 rfl dX9_note_98 ?_
        refine zz (fun _ _ => lv_iload hx hb dX9_note_101 (lv_at hl 6 rfl)) ?_
        refine zz (fun _ _ => lv_iconst (v := 1) hx hb dX9_note_103 (by decide)) ?_
        refine zz (fun _ _ => lv_isub hx hb dX9_note_104) ?_
        refine zval (v' := .int (nI k)) (congrArg Value.int (nI_p1 k)) ?_
        refine z_zald (f := A 33) C rm_33 (in_nI (j := k) rfl (by omega) (by decide)) dX9_note_105 ?_
        refine z_zast (f := A 33) C rm_33 (in_nI (j := k + 1) rfl (by omega) (by decide)) (bz (hz _ (by rw [nI_clamp (by omega)]; omega))) dX9_note_106 ?_
        refine zeq wm_33 ?_
        refine zs (fun _ _ => lv_iinc (v := nI (k + 1) + (-1)) (lv' := [(6, .int (nI (k + 1) + (-1))), (0, .ref (r)), (1, .int (a_)), (2, .int (b_)), (3, .int (c_)), (4, .int (d_)), (5, .int (e_))]) hx hb dX9_note_107 hl (k := 6) rfl rfl (by decide) rfl) (fun ls hl => ?_)
        refine zz (fun _ _ => lv_goto (tgt := 6) hx hb dX9_note_110 (by decide)) ?_
        simp only [noS, if_neg c_2] at K
        have hl := lv_sub hl [1, 2, 3, 4, 5, 6, 0] rfl
        simp only [nI_m1] at hl
        exact ih _ (by omega) (hz_upd hz (by omega)) _ _ hl K
end
section
/-! A fact is one number; a graph is a predicate on facts; lists that are sorted are unique. -/
def pt (c : Nat) : Nat → Nat
  | 0 => c / 65536
  | 1 => c / 256 % 256
  | _ => c % 256
def cd (s p o : Nat) : Nat := s * 65536 + p * 256 + o
def okc (c : Nat) : Prop := pt c 0 < 160 ∧ pt c 1 < 100 ∧ pt c 2 < 160
theorem cd_pt (c : Nat) : cd (pt c 0) (pt c 1) (pt c 2) = c := by simp only [cd, pt]; omega
theorem pt_cd0 {s p o : Nat} (hp : p < 256) (ho : o < 256) : pt (cd s p o) 0 = s := by simp only [cd, pt]; omega
theorem pt_cd1 {s p o : Nat} (hp : p < 256) (ho : o < 256) : pt (cd s p o) 1 = p := by simp only [cd, pt]; omega
theorem pt_cd2 {s p o : Nat} (hp : p < 256) (ho : o < 256) : pt (cd s p o) 2 = o := by simp only [cd, pt]; omega
theorem okc_cd {s p o : Nat} (hs : s < 160) (hp : p < 100) (ho : o < 160) : okc (cd s p o) := by
  unfold okc
  rw [pt_cd0 (by omega) (by omega), pt_cd1 (by omega) (by omega), pt_cd2 (by omega) (by omega)]
  exact ⟨hs, hp, ho⟩
theorem okc_lt {c : Nat} (h : okc c) : c < 10485760 := by
  simp only [okc, pt] at h; omega
theorem pt_lt {c : Nat} (h : okc c) (k : Nat) : pt c k < 256 := by
  obtain ⟨h0, h1, h2⟩ := h
  match k with
  | 0 => omega
  | 1 => omega
  | n + 2 => show pt c 2 < 256; omega
theorem cd_inj {s p o s' p' o' : Nat} (hp : p < 256) (ho : o < 256) (hp' : p' < 256) (ho' : o' < 256) (h : cd s p o = cd s' p' o') : s = s' ∧ p = p' ∧ o = o' := by
  simp only [cd] at h; omega
theorem pt_inj {c c' : Nat} (h0 : pt c 0 = pt c' 0) (h1 : pt c 1 = pt c' 1) (h2 : pt c 2 = pt c' 2) : c = c' := by
  rw [← cd_pt c, ← cd_pt c', h0, h1, h2]
/-- the order of facts, by their parts -/
theorem pt_lex {c c' : Nat} : c < c' ↔ (if pt c 0 = pt c' 0 then (if pt c 1 = pt c' 1 then pt c 2 < pt c' 2 else pt c 1 < pt c' 1) else pt c 0 < pt c' 0) := by
  simp only [pt]
  split
  · split <;> omega
  · omega
abbrev srt (l : List Nat) : Prop := l.Pairwise (· < ·)
theorem srt_nodup {l : List Nat} (h : srt l) : l.Nodup := h.imp (fun h => Nat.ne_of_lt h)
theorem srt_uniq : ∀ {l l' : List Nat}, srt l → srt l' → (∀ x, x ∈ l ↔ x ∈ l') → l = l'
  | [], [], _, _, _ => rfl
  | [], b :: l', _, _, h => absurd ((h b).mpr (by simp)) (by simp)
  | a :: l, [], _, _, h => absurd ((h a).mp (by simp)) (by simp)
  | a :: l, b :: l', h1, h2, h => by
    have h1 := List.pairwise_cons.mp h1
    have h2 := List.pairwise_cons.mp h2
    have hab : a = b := by
      have ha := (h a).mp (by simp)
      have hb := (h b).mpr (by simp)
      rw [List.mem_cons] at ha hb
      rcases ha with ha | ha
      · exact ha
      · rcases hb with hb | hb
        · exact hb.symm
        · have := h1.1 b hb; have := h2.1 a ha; omega
    subst hab
    congr 1
    refine srt_uniq h1.2 h2.2 (fun x => ?_)
    have hx := h x
    rw [List.mem_cons, List.mem_cons] at hx
    constructor
    · intro q
      rcases hx.mp (Or.inr q) with r | r
      · have := h1.1 x q; omega
      · exact r
    · intro q
      rcases hx.mpr (Or.inr q) with r | r
      · have := h2.1 x q; omega
      · exact r
theorem nodup_len {α : Type} {l l' : List α} (h1 : l.Nodup) (h2 : l'.Nodup) (h : ∀ x, x ∈ l ↔ x ∈ l') : l.length = l'.length :=
  ((List.perm_ext_iff_of_nodup h1 h2).mpr h).length_eq
/-- the facts of a graph, in their order -/
theorem cds_ex (p : Nat → Bool) : ∃ l : List Nat, srt l ∧ ∀ c, c ∈ l ↔ c < 10485760 ∧ p c = true :=
  ⟨(List.range 10485760).filter p, List.Pairwise.filter _ List.pairwise_lt_range, fun c => by rw [List.mem_filter, List.mem_range]⟩
noncomputable def cds (p : Nat → Bool) : List Nat := Classical.choose (cds_ex p)
theorem cds_srt (p : Nat → Bool) : srt (cds p) := (Classical.choose_spec (cds_ex p)).1
theorem cds_mem {p : Nat → Bool} (h : ∀ c, p c = true → okc c) {c : Nat} : c ∈ cds p ↔ p c = true := by
  rw [show c ∈ cds p ↔ _ from (Classical.choose_spec (cds_ex p)).2 c]
  exact ⟨fun q => q.2, fun q => ⟨okc_lt (h c q), q⟩⟩
theorem cds_eq {p : Nat → Bool} (h : ∀ c, p c = true → okc c) {l : List Nat} (hs : srt l) (hm : ∀ c, c ∈ l ↔ p c = true) : l = cds p :=
  srt_uniq hs (cds_srt p) (fun x => by rw [cds_mem h, hm])
abbrev Pd := Nat → Nat → Bool
def okP (P : Pd) : Prop := ∀ g c, P g c = true → g < 7 ∧ okc c
/-- how many facts all graphs have together -/
noncomputable def card (P : Pd) : Nat := ((List.range 7).map fun g => (cds (P g)).length).sum
noncomputable def rowsOf (P : Pd) : List (Nat × Nat) := (List.range 7).flatMap fun g => (cds (P g)).map fun c => (g, c)
theorem rowsOf_mem {P : Pd} (h : okP P) {g c : Nat} : (g, c) ∈ rowsOf P ↔ P g c = true := by
  unfold rowsOf
  simp only [List.mem_flatMap, List.mem_range, List.mem_map, Prod.mk.injEq]
  constructor
  · rintro ⟨g', _, c', hc', rfl, rfl⟩
    exact (cds_mem (fun c q => (h g' c q).2)).mp hc'
  · intro q
    exact ⟨g, (h g c q).1, c, (cds_mem (fun c q => (h g c q).2)).mpr q, rfl, rfl⟩
theorem rowsOf_nodup (P : Pd) : (rowsOf P).Nodup := by
  unfold rowsOf List.Nodup
  rw [List.pairwise_flatMap]
  refine ⟨fun g _ => ?_, ?_⟩
  · rw [List.pairwise_map]
    exact (cds_srt (P g)).imp (fun hlt he => by cases he; omega)
  · exact List.pairwise_lt_range.imp (fun {a b} hlt x hx y hy he => by
      simp only [List.mem_map] at hx hy
      obtain ⟨_, _, rfl⟩ := hx
      obtain ⟨_, _, rfl⟩ := hy
      cases he; omega)
theorem rowsOf_len (P : Pd) : (rowsOf P).length = card P := by
  unfold rowsOf card
  rw [List.length_flatMap]
  simp only [List.length_map]
theorem card_eq {P : Pd} (h : okP P) {L : List (Nat × Nat)} (hn : L.Nodup) (hm : ∀ g c, (g, c) ∈ L ↔ P g c = true) : L.length = card P := by
  rw [← rowsOf_len]
  exact nodup_len hn (rowsOf_nodup P) (fun ⟨g, c⟩ => by rw [hm, rowsOf_mem h])
theorem sum7 (f : Nat → Nat) : ((List.range 7).map f).sum = f 0 + f 1 + f 2 + f 3 + f 4 + f 5 + f 6 := by
  rw [show List.range 7 = [0, 1, 2, 3, 4, 5, 6] from rfl]
  simp only [List.map_cons, List.map_nil, List.sum_cons, List.sum_nil]
  omega
theorem card_sum (P : Pd) : card P = (cds (P 0)).length + (cds (P 1)).length + (cds (P 2)).length + (cds (P 3)).length + (cds (P 4)).length + (cds (P 5)).length + (cds (P 6)).length := sum7 _
theorem cds_le_card (P : Pd) {g : Nat} (hg : g < 7) : (cds (P g)).length ≤ card P := by
  rw [card_sum]
  rcases (show g = 0 ∨ g = 1 ∨ g = 2 ∨ g = 3 ∨ g = 4 ∨ g = 5 ∨ g = 6 by omega) with rfl | rfl | rfl | rfl | rfl | rfl | rfl <;> omega
/-- a predicate changed at one graph, at one fact -/
def pG (P : Pd) (g : Nat) (p : Nat → Bool) : Pd := fun g' => if g' = g then p else P g'
def pS (P : Pd) (g c : Nat) (b : Bool) : Pd := fun g' c' => if g' = g ∧ c' = c then b else P g' c'
def tS (T : Nat → Bool) (g : Nat) (b : Bool) : Nat → Bool := fun g' => if g' = g then b else T g'
theorem pG_s (P : Pd) (g : Nat) (p : Nat → Bool) : pG P g p g = p := by simp [pG]
theorem pG_k (P : Pd) {g g' : Nat} (p : Nat → Bool) (h : g' ≠ g) : pG P g p g' = P g' := by simp [pG, h]
theorem pS_k (P : Pd) {g g' : Nat} (c : Nat) (b : Bool) (h : g' ≠ g) : pS P g c b g' = P g' := by funext c'; simp [pS, h]
theorem pS_same {P : Pd} {g c : Nat} {b : Bool} (h : P g c = b) : pS P g c b = P := by
  funext g' c'
  unfold pS
  split
  · rename_i q; rw [q.1, q.2, h]
  · rfl
theorem okP_pS {P : Pd} (h : okP P) {g c : Nat} (hg : g < 7) (hc : okc c) (b : Bool) : okP (pS P g c b) := by
  intro g' c' q
  unfold pS at q
  split at q
  · rename_i e; rw [e.1, e.2]; exact ⟨hg, hc⟩
  · exact h g' c' q
theorem okP_pG {P : Pd} (h : okP P) {g : Nat} (hg : g < 7) {p : Nat → Bool} (hp : ∀ c, p c = true → okc c) : okP (pG P g p) := by
  intro g' c' q
  unfold pG at q
  split at q
  · rename_i e; rw [e]; exact ⟨hg, hp c' q⟩
  · exact h g' c' q
theorem okP_g {P : Pd} (h : okP P) (g : Nat) : ∀ c, P g c = true → okc c := fun c q => (h g c q).2
theorem cds_none : cds (fun _ => false) = [] := by
  refine (cds_eq (l := []) (by simp) List.Pairwise.nil (by simp)).symm
theorem cds_len0 {p : Nat → Bool} (h : ∀ c, p c = false) : cds p = [] := by
  rw [show p = fun _ => false from funext h, cds_none]
end
section
/-! Solutions: by depth and by breadth. -/
abbrev Sg := Nat → Int32
abbrev Rw := Int32 × Int32 × Int32
def sl (t : Int32) : Nat := Int32.toNatClampNeg (-1 - t)
def agr (σ : Sg) (t q : Int32) : Option Sg :=
  if 0 ≤ t then (if t = q then some σ else none)
  else if σ (sl t) = -1 then some (upd σ (sl t) q)
  else if σ (sl t) = q then some σ else none
def mtc (r : Rw) (σ : Sg) (c : Nat) : Option Sg :=
  (agr σ r.1 (nI (pt c 0))).bind fun σ => (agr σ r.2.1 (nI (pt c 1))).bind fun σ => agr σ r.2.2 (nI (pt c 2))
def sols (fs : List Nat) : List Rw → Sg → List Sg
  | [], σ => [σ]
  | r :: rs, σ => (fs.filterMap (mtc r σ)).flatMap (sols fs rs)
def wk (fs : List Nat) : List Rw → Sg → Nat
  | [], _ => 0
  | r :: rs, σ => fs.length + ((fs.filterMap (mtc r σ)).map (wk fs rs)).sum
/-- of some facts of a row -/
def solP (fs : List Nat) (r : Rw) (rs : List Rw) (σ : Sg) (l : List Nat) : List Sg := (l.filterMap (mtc r σ)).flatMap (sols fs rs)
def wkP (fs : List Nat) (r : Rw) (rs : List Rw) (σ : Sg) (l : List Nat) : Nat := l.length + ((l.filterMap (mtc r σ)).map (wk fs rs)).sum
def lim (n w : Nat) : Prop := n ≤ 100 ∧ w ≤ 5000
theorem lim_mono {n w n' w' : Nat} (h : lim n' w') (h1 : n ≤ n') (h2 : w ≤ w') : lim n w := ⟨Nat.le_trans h1 h.1, Nat.le_trans h2 h.2⟩
theorem solP_append (fs : List Nat) (r : Rw) (rs : List Rw) (σ : Sg) (l l' : List Nat) : solP fs r rs σ (l ++ l') = solP fs r rs σ l ++ solP fs r rs σ l' := by
  simp only [solP, List.filterMap_append, List.flatMap_append]
theorem wkP_append (fs : List Nat) (r : Rw) (rs : List Rw) (σ : Sg) (l l' : List Nat) : wkP fs r rs σ (l ++ l') = wkP fs r rs σ l + wkP fs r rs σ l' := by
  simp only [wkP, List.filterMap_append, List.map_append, List.sum_append, List.length_append]
  omega
theorem solP_one_n {fs : List Nat} {r : Rw} {rs : List Rw} {σ : Sg} {c : Nat} (h : mtc r σ c = none) : solP fs r rs σ [c] = [] := by
  simp [solP, h]
theorem solP_one_s {fs : List Nat} {r : Rw} {rs : List Rw} {σ σ' : Sg} {c : Nat} (h : mtc r σ c = some σ') : solP fs r rs σ [c] = sols fs rs σ' := by
  simp [solP, h]
theorem wkP_one_n {fs : List Nat} {r : Rw} {rs : List Rw} {σ : Sg} {c : Nat} (h : mtc r σ c = none) : wkP fs r rs σ [c] = 1 := by
  simp [wkP, h]
theorem wkP_one_s {fs : List Nat} {r : Rw} {rs : List Rw} {σ σ' : Sg} {c : Nat} (h : mtc r σ c = some σ') : wkP fs r rs σ [c] = 1 + wk fs rs σ' := by
  simp [wkP, h]
theorem sols_P (fs : List Nat) (r : Rw) (rs : List Rw) (σ : Sg) : sols fs (r :: rs) σ = solP fs r rs σ fs := rfl
theorem wk_P (fs : List Nat) (r : Rw) (rs : List Rw) (σ : Sg) : wk fs (r :: rs) σ = wkP fs r rs σ fs := rfl
theorem take_succ_of {l : List Nat} {i : Nat} (h : i < l.length) : l.take (i + 1) = l.take i ++ [l[i]] := by
  rw [List.take_succ_eq_append_getElem h]
theorem P_take_le (fs : List Nat) (r : Rw) (rs : List Rw) (σ : Sg) (l : List Nat) (i : Nat) : (solP fs r rs σ (l.take i)).length ≤ (solP fs r rs σ l).length ∧ wkP fs r rs σ (l.take i) ≤ wkP fs r rs σ l := by
  have h1 := solP_append fs r rs σ (l.take i) (l.drop i)
  have h2 := wkP_append fs r rs σ (l.take i) (l.drop i)
  rw [List.take_append_drop] at h1 h2
  rw [h1, h2, List.length_append]
  exact ⟨Nat.le_add_right _ _, Nat.le_add_right _ _⟩
/-- by breadth -/
def lev (fs : List Nat) (r : Rw) (ws : List Sg) : List Sg := ws.flatMap fun σ => fs.filterMap (mtc r σ)
def bfsW (fs : List Nat) : List Rw → List Sg → List Sg
  | [], ws => ws
  | r :: rs, ws => bfsW fs rs (lev fs r ws)
def bfsN (fs : List Nat) : List Rw → List Sg → Nat
  | [], _ => 0
  | r :: rs, ws => ws.length * fs.length + bfsN fs rs (lev fs r ws)
theorem bfsW_eq (fs : List Nat) : ∀ (rs : List Rw) (ws : List Sg), bfsW fs rs ws = ws.flatMap (sols fs rs)
  | [], ws => by simp [bfsW, sols]
  | r :: rs, ws => by
    rw [bfsW, bfsW_eq fs rs, lev, List.flatMap_assoc]
    rfl
theorem sum_flatMap (f : Sg → List Sg) (g : Sg → Nat) : ∀ (ws : List Sg), ((ws.flatMap f).map g).sum = (ws.map fun σ => ((f σ).map g).sum).sum
  | [] => rfl
  | w :: ws => by simp [sum_flatMap f g ws]
theorem sum_add (f g : Sg → Nat) : ∀ (ws : List Sg), (ws.map fun σ => f σ + g σ).sum = (ws.map f).sum + (ws.map g).sum
  | [] => rfl
  | w :: ws => by simp [sum_add f g ws]; omega
theorem sum_const (n : Nat) : ∀ (ws : List Sg), (ws.map fun _ => n).sum = ws.length * n
  | [] => by simp
  | w :: ws => by
    rw [List.map_cons, List.sum_cons, sum_const n ws, List.length_cons, Nat.add_mul]; omega
theorem bfsN_eq (fs : List Nat) : ∀ (rs : List Rw) (ws : List Sg), bfsN fs rs ws = (ws.map (wk fs rs)).sum
  | [], ws => by simp [bfsN, wk, sum_const]
  | r :: rs, ws => by
    rw [bfsN, bfsN_eq fs rs, lev, sum_flatMap]
    have : (ws.map (wk fs (r :: rs))).sum = (ws.map fun σ => fs.length + ((fs.filterMap (mtc r σ)).map (wk fs rs)).sum).sum := rfl
    rw [this, sum_add, sum_const]
theorem bfs_one (fs : List Nat) (rs : List Rw) (σ : Sg) : bfsW fs rs [σ] = sols fs rs σ ∧ bfsN fs rs [σ] = wk fs rs σ := by
  rw [bfsW_eq, bfsN_eq]
  simp
theorem bfsW_append (fs : List Nat) : ∀ (rs rs' : List Rw) (ws : List Sg), bfsW fs (rs ++ rs') ws = bfsW fs rs' (bfsW fs rs ws)
  | [], _, _ => rfl
  | r :: rs, rs', ws => bfsW_append fs rs rs' (lev fs r ws)
theorem bfsN_append (fs : List Nat) : ∀ (rs rs' : List Rw) (ws : List Sg), bfsN fs (rs ++ rs') ws = bfsN fs rs ws + bfsN fs rs' (bfsW fs rs ws)
  | [], _, _ => by simp [bfsN, bfsW]
  | r :: rs, rs', ws => by
    show ws.length * fs.length + bfsN fs (rs ++ rs') (lev fs r ws) = ws.length * fs.length + bfsN fs rs (lev fs r ws) + bfsN fs rs' (bfsW fs rs (lev fs r ws))
    rw [bfsN_append fs rs rs']; omega
theorem lev_len (fs : List Nat) (r : Rw) : ∀ (ws : List Sg), (lev fs r ws).length ≤ ws.length * fs.length
  | [] => by simp [lev]
  | w :: ws => by
    have h := lev_len fs r ws
    have h2 : (fs.filterMap (mtc r w)).length ≤ fs.length := List.length_filterMap_le _ _
    simp only [lev, List.flatMap_cons, List.length_append, List.length_cons, Nat.add_mul, Nat.one_mul] at h ⊢
    omega
/-- what has been found of a row, at way w and fact i -/
def nxt (fs : List Nat) (r : Rw) (ws : List Sg) (w i : Nat) : List Sg := lev fs r (ws.take w) ++ ((fs.take i).filterMap (mtc r (ws.getD w (fun _ => -1))))
theorem nxt_len {fs : List Nat} {r : Rw} {ws : List Sg} {w i : Nat} : (nxt fs r ws w i).length ≤ w * fs.length + i := by
  unfold nxt
  have h1 := lev_len fs r (ws.take w)
  have h2 : ((fs.take i).filterMap (mtc r (ws.getD w (fun _ => -1)))).length ≤ (fs.take i).length := List.length_filterMap_le _ _
  have h3 : (ws.take w).length ≤ w := List.length_take_le _ _
  have h4 : (fs.take i).length ≤ i := List.length_take_le _ _
  have h5 : (ws.take w).length * fs.length ≤ w * fs.length := Nat.mul_le_mul_right _ h3
  rw [List.length_append]
  omega
theorem nxt_row {fs : List Nat} {r : Rw} {ws : List Sg} {w : Nat} (h : w < ws.length) : nxt fs r ws w fs.length = nxt fs r ws (w + 1) 0 := by
  unfold nxt
  rw [List.take_length, List.take_succ_eq_append_getElem h, show ws.getD w (fun _ => -1) = ws[w] by rw [List.getD_eq_getElem?_getD, List.getElem?_eq_getElem h]; rfl]
  simp only [lev, List.flatMap_append, List.flatMap_cons, List.flatMap_nil, List.take_zero, List.filterMap_nil, List.append_nil]
theorem nxt_all {fs : List Nat} {r : Rw} {ws : List Sg} : nxt fs r ws ws.length 0 = lev fs r ws := by
  simp [nxt]
theorem nxt_0 {fs : List Nat} {r : Rw} {ws : List Sg} : nxt fs r ws 0 0 = [] := by
  simp [nxt, lev]
theorem nxt_n {fs : List Nat} {r : Rw} {ws : List Sg} {w i : Nat} (h : i < fs.length) (hm : mtc r (ws.getD w (fun _ => -1)) fs[i] = none) : nxt fs r ws w (i + 1) = nxt fs r ws w i := by
  unfold nxt
  rw [take_succ_of h, List.filterMap_append, List.filterMap_cons_none hm, List.filterMap_nil, List.append_nil]
theorem nxt_s {fs : List Nat} {r : Rw} {ws : List Sg} {w i : Nat} {σ : Sg} (h : i < fs.length) (hm : mtc r (ws.getD w (fun _ => -1)) fs[i] = some σ) : nxt fs r ws w (i + 1) = nxt fs r ws w i ++ [σ] := by
  unfold nxt
  rw [take_succ_of h, List.filterMap_append, ← List.append_assoc, List.filterMap_cons_some hm, List.filterMap_nil]
end
section
/-! What the steps do, of facts, graphs that are there, and blanks. -/
abbrev St := Pd × (Nat → Bool) × Nat
def okS (S : St) : Prop := okP S.1 ∧ card S.1 ≤ 120 ∧ S.2.2 ≤ 60 ∧ S.2.1 0 = true ∧ (∀ g c, S.1 g c = true → S.2.1 g = true)
abbrev isV (t : Int32) : Prop := -4 ≤ t.toInt ∧ t.toInt ≤ -1
abbrev isNm (t : Int32) : Prop := 0 ≤ t.toInt ∧ t.toInt ≤ 99
abbrev isNw (t : Int32) : Prop := -14 ≤ t.toInt ∧ t.toInt ≤ -11
/-- a name or a blank -/
abbrev isPn (t : Int32) : Prop := 0 ≤ t.toInt ∧ t.toInt ≤ 159
abbrev TR := Int32 × Int32 × Int32 × Bool
def vl (σ : Sg) (t : Int32) : Int32 := if isV t then σ (sl t) else t
abbrev lo (σ : Sg) (t : TR) : Prop := vl σ t.1 = -1 ∨ vl σ t.2.2.1 = -1 ∨ ¬ isNm (vl σ t.2.1)
def nn (t : Int32) : Nat := Int32.toNatClampNeg t
def nsl (t : Int32) : Nat := Int32.toNatClampNeg (-11 - t)
noncomputable def stPut (S : St) (g c : Nat) : Option St :=
  if S.1 g c = true then some (S.1, tS S.2.1 g true, S.2.2) else if 120 ≤ card S.1 then none else some (pS S.1 g c true, tS S.2.1 g true, S.2.2)
def stDel (S : St) (g c : Nat) : St := (pS S.1 g c false, S.2)
def takeRow (to : Nat) (σ : Sg) (S : St) (t : TR) : St := if t.2.2.2 = true ∨ lo σ t then S else stDel S to (cd (nn (vl σ t.1)) (nn (vl σ t.2.1)) (nn (vl σ t.2.2.1)))
def takeSol (to : Nat) (ts : List TR) (S : St) (σ : Sg) : St := ts.foldl (takeRow to σ) S
def blk (σ : Sg) (b : Nat) (m : Sg) (t : Int32) : Option (Nat × Sg × Nat) :=
  if isNw t then (if m (nsl t) = -1 then (if b < 60 then some (b + 1, upd m (nsl t) (nI (100 + b)), 100 + b) else none) else some (b, m, nn (m (nsl t)))) else some (b, m, nn (vl σ t))
noncomputable def addRow (to : Nat) (σ : Sg) (S : St) (m : Sg) (t : TR) : Option (St × Sg) :=
  if t.2.2.2 = false ∨ lo σ t then some (S, m) else
    match blk σ S.2.2 m t.1 with
    | none => none
    | some (b1, m1, x) => match blk σ b1 m1 t.2.2.1 with
      | none => none
      | some (b2, m2, y) => match stPut (S.1, S.2.1, b2) to (cd x (nn (vl σ t.2.1)) y) with
        | none => none
        | some S' => some (S', m2)
noncomputable def addRows (to : Nat) (σ : Sg) : List TR → St → Sg → Option (St × Sg)
  | [], S, m => some (S, m)
  | t :: ts, S, m => match addRow to σ S m t with
    | none => none
    | some (S', m') => addRows to σ ts S' m'
noncomputable def addSol (to : Nat) (ts : List TR) (S : St) (σ : Sg) : Option St := (addRows to σ ts S (fun _ => -1)).map (·.1)
noncomputable def addSols (to : Nat) (ts : List TR) : List Sg → St → Option St
  | [], S => some S
  | σ :: σs, S => match addSol to ts S σ with
    | none => none
    | some S' => addSols to ts σs S'
noncomputable def putAll (to : Nat) : List Nat → St → Option St
  | [], S => some S
  | c :: cs, S => match stPut S to c with
    | none => none
    | some S' => putAll to cs S'
abbrev Sq := Nat × Nat × Int32 × Bool × List TR × List Rw
/-- kinds 0 to 2 -/
noncomputable def aRew (fr to : Nat) (ts : List TR) (ps : List Rw) (S : St) : Nat × St × Nat :=
  let ss := sols (cds (S.1 fr)) ps (fun _ => -1)
  let w := wk (cds (S.1 fr)) ps (fun _ => -1)
  if ss.length ≤ 100 ∧ w ≤ 5000 then
    match addSols to ts ss (ss.foldl (takeSol to ts) S) with
    | none => (4, S, 0)
    | some S' => (0, S', w)
  else (5, S, 0)
/-- kinds 3 and 5 -/
def inTo (to : Int32) (g : Nat) : Bool := decide (g < 7) && (decide (to = nI g) || decide (to = -1) || (decide (to = -2) && decide (0 < g)))
def aWipe (drops : Bool) (to : Int32) (S : St) : Nat × St × Nat :=
  if 0 ≤ to.toInt ∧ S.2.1 (nn to) = false then (2, S, 0)
  else (0, ((fun g c => S.1 g c && !inTo to g), (fun g => S.2.1 g && (!(drops && inTo to g) || decide (g = 0))), S.2.2), 0)
def aMake (to : Nat) (S : St) : Nat × St × Nat := if S.2.1 to = true then (1, S, 0) else (0, (S.1, tS S.2.1 to true, S.2.2), 0)
/-- kinds 6 to 8 -/
noncomputable def aBring (k fr to : Nat) (S : St) : Nat × St × Nat :=
  if S.2.1 fr = false then (2, S, 0) else if fr = to then (0, S, 0)
  else if k = 8 then (match putAll to (cds (S.1 fr)) (S.1, tS S.2.1 to true, S.2.2) with
    | none => (4, S, 0)
    | some S' => (0, S', 0))
  else if k = 7 then (0, (pG (pG S.1 to (S.1 fr)) fr (fun _ => false), tS (tS S.2.1 to true) fr (decide (fr = 0)), S.2.2), 0)
  else if 120 < card (pG S.1 to (S.1 fr)) then (4, S, 0) else (0, (pG S.1 to (S.1 fr), tS S.2.1 to true, S.2.2), 0)
noncomputable def aRead (tn : Bool) (fl : List Nat) (to : Nat) (S : St) : Nat × St × Nat :=
  if tn = true then (3, S, 0) else match putAll to fl (S.1, tS S.2.1 to true, S.2.2) with
    | none => (4, S, 0)
    | some S' => (0, S', 0)
noncomputable def aAct (TN : Nat → Bool) (FL : Nat → List Nat) (q : Sq) (S : St) : Nat × St × Nat :=
  if q.1 < 3 then aRew q.2.1 (nn q.2.2.1) q.2.2.2.2.1 q.2.2.2.2.2 S
  else if q.1 = 3 ∨ q.1 = 5 then aWipe (decide (q.1 = 5)) q.2.2.1 S
  else if q.1 = 4 then aMake (nn q.2.2.1) S
  else if q.1 = 9 then aRead (TN q.2.1) (FL q.2.1) (nn q.2.2.1) S
  else aBring q.1 q.2.1 (nn q.2.2.1) S
/-- a run: .inl (the step, the reason), or .inr (the state, the work) -/
noncomputable def aRun (TN : Nat → Bool) (FL : Nat → List Nat) : List Sq → Nat → St → Nat → (Nat × Nat) ⊕ (St × Nat)
  | [], _, S, w => .inr (S, w)
  | q :: qs, i, S, w => let a := aAct TN FL q S
    if a.1 = 0 ∨ (q.2.2.2.1 = true ∧ a.1 < 4) then aRun TN FL qs (i + 1) a.2.1 (w + a.2.2) else .inl (i, a.1)
/-- what keeps -/
theorem card_pS {P : Pd} (h : okP P) {g c : Nat} (hg : g < 7) (hc : okc c) (hn : P g c = false) : card (pS P g c true) = card P + 1 := by
  have hk := okP_pS h hg hc true
  have := card_eq hk (L := (g, c) :: rowsOf P) (List.nodup_cons.mpr ⟨fun q => absurd ((rowsOf_mem h).mp q) (by rw [hn]; decide), rowsOf_nodup P⟩) (fun g' c' => by
    rw [List.mem_cons, rowsOf_mem h]
    unfold pS
    by_cases q : g' = g ∧ c' = c
    · simp [q]
    · rw [if_neg q]
      constructor
      · rintro (e | e)
        · exact absurd (by cases e; exact ⟨rfl, rfl⟩) q
        · exact e
      · exact Or.inr)
  rw [List.length_cons, rowsOf_len] at this
  exact this.symm
theorem card_le {P P' : Pd} (h : okP P) (hs : ∀ g c, P' g c = true → P g c = true) : card P' ≤ card P := by
  have h' : okP P' := fun g c q => h g c (hs g c q)
  rw [← rowsOf_len, ← rowsOf_len]
  exact (rowsOf_nodup P').length_le_of_subset (fun ⟨g, c⟩ q => (rowsOf_mem h).mpr (hs g c ((rowsOf_mem h').mp q)))
theorem okS_put {S S' : St} (h : okS S) {g c : Nat} (hg : g < 7) (hc : okc c) (e : stPut S g c = some S') : okS S' := by
  obtain ⟨h1, h2, h3, h4, h5⟩ := h
  have ht : ∀ g', (tS S.2.1 g true) g' = false → S.2.1 g' = false ∧ g' ≠ g := by
    intro g' q; unfold tS at q; split at q
    · cases q
    · exact ⟨q, by assumption⟩
  have h4' : tS S.2.1 g true 0 = true := by unfold tS; split <;> first | rfl | exact h4
  unfold stPut at e
  split at e
  · cases e
    refine ⟨h1, h2, h3, h4', fun g' c' q => ?_⟩
    have := h5 g' c' q
    show tS S.2.1 g true g' = true
    unfold tS; split <;> first | rfl | exact this
  · rename_i hn
    split at e
    · cases e
    · cases e
      refine ⟨okP_pS h1 hg hc _, ?_, h3, h4', fun g' c' q => ?_⟩
      · show card (pS S.1 g c true) ≤ 120
        rw [card_pS h1 hg hc (by simpa using hn)]; omega
      · show tS S.2.1 g true g' = true
        unfold tS; split
        · rfl
        · rename_i hne
          exact h5 g' c' (by have q : pS S.1 g c true g' c' = true := q; rw [pS_k _ _ _ hne] at q; exact q)
theorem okS_del {S : St} (h : okS S) (g c : Nat) : okS (stDel S g c) := by
  obtain ⟨h1, h2, h3, h4, h5⟩ := h
  have hs : ∀ g' c', pS S.1 g c false g' c' = true → S.1 g' c' = true := by
    intro g' c' q; unfold pS at q; split at q
    · cases q
    · exact q
  exact ⟨fun g' c' q => h1 g' c' (hs g' c' q), Nat.le_trans (card_le h1 hs) h2, h3, h4, fun g' c' q => h5 g' c' (hs g' c' q)⟩
theorem okS_blk {S : St} (h : okS S) {b : Nat} (hb : b ≤ 60) : okS (S.1, S.2.1, b) := ⟨h.1, h.2.1, hb, h.2.2.2⟩
theorem okS_there {S : St} (h : okS S) (g : Nat) : okS (S.1, tS S.2.1 g true, S.2.2) := by
  obtain ⟨h1, h2, h3, h4, h5⟩ := h
  refine ⟨h1, h2, h3, ?_, fun g' c' q => ?_⟩
  · show tS S.2.1 g true 0 = true
    unfold tS; split <;> first | rfl | exact h4
  · show tS S.2.1 g true g' = true
    have := h5 g' c' q
    unfold tS; split <;> first | rfl | exact this
end
section
/-! The reference's store, and what its small methods do to it. -/
def tI (b : Bool) : Int32 := if b then 1 else 0
theorem tI_b (b : Bool) : tI b = 0 ∨ tI b = 1 := by cases b <;> simp [tI]
def RLs (v : Nat → Int32) (A : Nat → Nat → Int32) (S : St) (n : Nat) (rw' : Nat → Nat × Nat) : Prop :=
  v 20 = nI n ∧ (∀ i j, i < n → j < n → rw' i = rw' j → i = j) ∧ (∀ g c, S.1 g c = true ↔ ∃ i, i < n ∧ rw' i = (g, c)) ∧
  (∀ i, i < n → A 19 i = nI (rw' i).1 ∧ A 20 i = nI (pt (rw' i).2 0) ∧ A 21 i = nI (pt (rw' i).2 1) ∧ A 22 i = nI (pt (rw' i).2 2)) ∧
  (∀ g, g < 7 → A 23 g = tI (S.2.1 g)) ∧ v 26 = nI S.2.2
def RC (v : Nat → Int32) (A : Nat → Nat → Int32) (S : St) : Prop := okS S ∧ ∃ n f, RLs v A S n f
/-- what the methods of the reference's store leave as it is -/
def FR (v : Nat → Int32) (A : Nat → Nat → Int32) (v' : Nat → Int32) (A' : Nat → Nat → Int32) : Prop :=
  (∀ k, k ≠ 20 → k ≠ 26 → v' k = v k) ∧ (∀ k, k < 19 ∨ (23 < k ∧ k ≠ 38) → A' k = A k)
theorem FR.refl {v : Nat → Int32} {A : Nat → Nat → Int32} : FR v A v A := ⟨fun _ _ _ => rfl, fun _ _ => rfl⟩
theorem FR.trans {v v1 v2 : Nat → Int32} {A A1 A2 : Nat → Nat → Int32} (h : FR v A v1 A1) (h2 : FR v1 A1 v2 A2) : FR v A v2 A2 :=
  ⟨fun k a b => (h2.1 k a b).trans (h.1 k a b), fun k a => (h2.2 k a).trans (h.2 k a)⟩
theorem RL_n {v : Nat → Int32} {A : Nat → Nat → Int32} {S : St} {n : Nat} {f : Nat → Nat × Nat} (h : RLs v A S n f) (ho : okS S) : n = card S.1 ∧ n ≤ 120 := by
  have e : n = card S.1 := by
    have := card_eq ho.1 (L := (List.range n).map f) (by
      unfold List.Nodup
      rw [List.pairwise_map]
      refine (List.nodup_range (n := n)).imp_of_mem (fun {a b} ha hb hne he => hne ?_)
      exact h.2.1 a b (List.mem_range.mp ha) (List.mem_range.mp hb) he) (fun g c => by
      rw [List.mem_map, h.2.2.1]
      simp only [List.mem_range])
    simpa using this
  exact ⟨e, e ▸ ho.2.1⟩
theorem RL_ok {v : Nat → Int32} {A : Nat → Nat → Int32} {S : St} {n : Nat} {f : Nat → Nat × Nat} (h : RLs v A S n f) (ho : okS S) {i : Nat} (hi : i < n) : (f i).1 < 7 ∧ okc (f i).2 :=
  ho.1 _ _ ((h.2.2.1 _ _).mpr ⟨i, hi, rfl⟩)
/-- find, whatever the numbers are -/
theorem find_g (A : Nat → Nat → Int32) (a b c d : Int32) : ∀ n, n < 2 ^ 31 → (stX9_find_6 A a b c d (-1) n = -1 ∧ ∀ i, i < n → ¬ (A 19 i = a ∧ A 20 i = b ∧ A 21 i = c ∧ A 22 i = d)) ∨ ∃ j, j < n ∧ stX9_find_6 A a b c d (-1) n = nI j ∧ A 19 j = a ∧ A 20 j = b ∧ A 21 j = c ∧ A 22 j = d := by
  intro n
  induction n with
  | zero => intro _; exact Or.inl ⟨rfl, fun i hi => absurd hi (Nat.not_lt_zero _)⟩
  | succ n ih =>
    intro hn
    have ih := ih (by omega)
    by_cases q : A 19 n = a ∧ A 20 n = b ∧ A 21 n = c ∧ A 22 n = d
    · refine Or.inr ⟨n, by omega, ?_, q⟩
      simp only [stX9_find_6, nI_clamp (show n < 2 ^ 31 by omega)]
      rw [if_pos q.1, if_pos q.2.1, if_pos q.2.2.1, if_pos q.2.2.2]
    · have e : stX9_find_6 A a b c d (-1) (n + 1) = stX9_find_6 A a b c d (-1) n := by
        simp only [stX9_find_6, nI_clamp (show n < 2 ^ 31 by omega)]
        split
        · split
          · split
            · split
              · rename_i h1 h2 h3 h4; exact absurd ⟨h1, h2, h3, h4⟩ q
              · rfl
            · rfl
          · rfl
        · rfl
      rw [e]
      rcases ih with ⟨h1, h2⟩ | ⟨j, hj, h⟩
      · refine Or.inl ⟨h1, fun i hi => ?_⟩
        by_cases hin : i = n
        · rw [hin]; exact q
        · exact h2 i (by omega)
      · exact Or.inr ⟨j, by omega, h⟩
theorem nIpt {c c' : Nat} (h : okc c) (h' : okc c') (e0 : nI (pt c 0) = nI (pt c' 0)) (e1 : nI (pt c 1) = nI (pt c' 1)) (e2 : nI (pt c 2) = nI (pt c' 2)) : c = c' := by
  have b : ∀ k, pt c k < 2 ^ 31 := fun k => by have := pt_lt h k; omega
  have b' : ∀ k, pt c' k < 2 ^ 31 := fun k => by have := pt_lt h' k; omega
  rw [nI_eq (b 0) (b' 0)] at e0
  rw [nI_eq (b 1) (b' 1)] at e1
  rw [nI_eq (b 2) (b' 2)] at e2
  exact pt_inj e0 e1 e2
theorem find_s {v : Nat → Int32} {A : Nat → Nat → Int32} {S : St} {n : Nat} {f : Nat → Nat × Nat} (h : RLs v A S n f) (ho : okS S) {g c : Nat} (hg : g < 7) (hc : okc c) :
    (S.1 g c = false ∧ fX9_find v A (nI g) (nI (pt c 0)) (nI (pt c 1)) (nI (pt c 2)) = -1) ∨ ∃ j, j < n ∧ f j = (g, c) ∧ S.1 g c = true ∧ fX9_find v A (nI g) (nI (pt c 0)) (nI (pt c 1)) (nI (pt c 2)) = nI j := by
  have hn := (RL_n h ho).2
  unfold fX9_find
  rw [h.1, nI_clamp (by omega)]
  rcases find_g A (nI g) (nI (pt c 0)) (nI (pt c 1)) (nI (pt c 2)) n (by omega) with ⟨h1, h2⟩ | ⟨j, hj, h1, h2⟩
  · refine Or.inl ⟨?_, h1⟩
    rw [← Bool.not_eq_true]
    intro q
    obtain ⟨i, hi, e⟩ := (h.2.2.1 g c).mp q
    have r := h.2.2.2.1 i hi
    rw [e] at r
    exact h2 i hi r
  · have r := h.2.2.2.1 j hj
    have hk := RL_ok h ho hj
    have e1 : (f j).1 = g := by
      have := r.1.symm.trans h2.1
      rwa [nI_eq (by omega) (by omega)] at this
    have e2 : (f j).2 = c := nIpt hk.2 hc (r.2.1.symm.trans h2.2.1) (r.2.2.1.symm.trans h2.2.2.1) (r.2.2.2.symm.trans h2.2.2.2)
    have e : f j = (g, c) := by rw [← e1, ← e2]
    exact Or.inr ⟨j, hj, e, (h.2.2.1 g c).mpr ⟨j, hj, e⟩, h1⟩
theorem neg1_lt : (-1 : Int32) < 0 := by decide
theorem come_s {v : Nat → Int32} {A : Nat → Nat → Int32} {S : St} (h : RC v A S) {g c : Nat} (hg : g < 7) (hc : okc c) (ht : S.2.1 g = true) :
    FR v A (fX9_come v A (nI g) (nI (pt c 0)) (nI (pt c 1)) (nI (pt c 2))).2.1 (fX9_come v A (nI g) (nI (pt c 0)) (nI (pt c 1)) (nI (pt c 2))).2.2 ∧
    ((stPut S g c = none ∧ (fX9_come v A (nI g) (nI (pt c 0)) (nI (pt c 1)) (nI (pt c 2))).1 = 0) ∨ ∃ S', stPut S g c = some S' ∧ (fX9_come v A (nI g) (nI (pt c 0)) (nI (pt c 1)) (nI (pt c 2))).1 = 1 ∧ RC (fX9_come v A (nI g) (nI (pt c 0)) (nI (pt c 1)) (nI (pt c 2))).2.1 (fX9_come v A (nI g) (nI (pt c 0)) (nI (pt c 1)) (nI (pt c 2))).2.2 S') := by
  obtain ⟨ho, n, f, h⟩ := h
  have hn := RL_n h ho
  have htt : tS S.2.1 g true = S.2.1 := by
    funext g'; unfold tS; split
    · rename_i e; rw [e, ht]
    · rfl
  rcases find_s h ho hg hc with ⟨hf, e⟩ | ⟨j, hj, hfj, hf, e⟩
  · have e0 : fX9_find v A (nI g) (nI (pt c 0)) (nI (pt c 1)) (nI (pt c 2)) < 0 := by rw [e]; exact neg1_lt
    by_cases hfull : n = 120
    · have e1 : v 20 = 120 := by rw [h.1, hfull]; rfl
      refine ⟨?_, Or.inl ⟨?_, ?_⟩⟩
      · simp only [fX9_come, if_pos e0, if_pos e1]; exact FR.refl
      · unfold stPut; rw [if_neg (by rw [hf]; decide), if_pos (by omega)]
      · simp only [fX9_come, if_pos e0, if_pos e1]
    · have e1 : ¬ v 20 = 120 := by
        rw [h.1, show (120 : Int32) = nI 120 from rfl, nI_eq (by omega) (by omega)]; exact hfull
      have e2 : (v 20).toNatClampNeg = n := by rw [h.1, nI_clamp (by omega)]
      simp only [fX9_come, if_pos e0, if_neg e1, e2]
      refine ⟨⟨fun k a _ => by simp [upd, a], fun k a => ?_⟩, Or.inr ⟨(pS S.1 g c true, S.2.1, S.2.2), ?_, trivial, ?_, n + 1, fun i => if i = n then (g, c) else f i, ?_⟩⟩
      · simp [u1, show k ≠ 19 by omega, show k ≠ 20 by omega, show k ≠ 21 by omega, show k ≠ 22 by omega]
      · unfold stPut; rw [if_neg (by rw [hf]; decide), if_neg (by omega), htt]
      · have := okS_put (S' := (pS S.1 g c true, S.2.1, S.2.2)) ho hg hc (by unfold stPut; rw [if_neg (by rw [hf]; decide), if_neg (by omega), htt])
        exact this
      · refine ⟨?_, ?_, ?_, ?_, ?_, ?_⟩
        · simp [upd, h.1, nI_1]
        · intro i j hi hj he
          dsimp only at he
          have key : ∀ j, j < n → f j ≠ (g, c) := fun j hj q => by
            have := (h.2.2.1 g c).mpr ⟨j, hj, q⟩
            rw [hf] at this; cases this
          split at he <;> split at he
          · omega
          · exact absurd he.symm (key j (by omega))
          · exact absurd he (key i (by omega))
          · exact h.2.1 i j (by omega) (by omega) he
        · intro g' c'
          show pS S.1 g c true g' c' = true ↔ _
          unfold pS
          constructor
          · intro q
            split at q
            · rename_i e; exact ⟨n, by omega, by simp [e.1, e.2]⟩
            · obtain ⟨i, hi, r⟩ := (h.2.2.1 g' c').mp q
              exact ⟨i, by omega, by simp [show i ≠ n by omega, r]⟩
          · rintro ⟨i, hi, r⟩
            split
            · rfl
            · rename_i hne
              dsimp only at r
              split at r
              · cases r; exact absurd ⟨rfl, rfl⟩ hne
              · exact (h.2.2.1 g' c').mpr ⟨i, by omega, r⟩
        · intro i hi
          by_cases q : i = n
          · simp [u1, upd, q]
          · have := h.2.2.2.1 i (by omega)
            simp [u1, upd, q, this]
        · intro g' hg'
          simp only [u1]
          exact h.2.2.2.2.1 g' hg'
        · simp only [upd]
          exact h.2.2.2.2.2
  · have e0 : ¬ fX9_find v A (nI g) (nI (pt c 0)) (nI (pt c 1)) (nI (pt c 2)) < 0 := by rw [e]; exact nI_pos (by omega)
    simp only [fX9_come, if_neg e0]
    refine ⟨FR.refl, Or.inr ⟨S, ?_, trivial, ho, n, f, h⟩⟩
    unfold stPut; rw [if_pos hf, htt]
theorem leave_s {v : Nat → Int32} {A : Nat → Nat → Int32} {S : St} {n : Nat} {f : Nat → Nat × Nat} (h : RLs v A S (n + 1) f) (hn : n + 1 ≤ 120) {k : Nat} (hk : k < n + 1) :
    FR v A (fX9_leave v A (nI k)).1 (fX9_leave v A (nI k)).2 ∧ RLs (fX9_leave v A (nI k)).1 (fX9_leave v A (nI k)).2 (stDel S (f k).1 (f k).2) n (fun i => if i = k then f n else f i) := by
  have e1 : v 20 - 1 = nI n := by rw [h.1]; exact nI_p1 n
  simp only [fX9_leave, e1, nI_clamp (show n < 2 ^ 31 by omega), nI_clamp (show k < 2 ^ 31 by omega)]
  refine ⟨⟨fun k a _ => by simp [upd, a], fun k a => ?_⟩, ?_, ?_, ?_, ?_, ?_, ?_⟩
  · simp [u1, show k ≠ 19 by omega, show k ≠ 20 by omega, show k ≠ 21 by omega, show k ≠ 22 by omega]
  · simp [upd]
  · intro i j hi hj he
    dsimp only at he
    split at he <;> split at he
    · omega
    · have := h.2.1 n j (by omega) (by omega) he; omega
    · have := h.2.1 i n (by omega) (by omega) he; omega
    · exact h.2.1 i j (by omega) (by omega) he
  · intro g c
    show pS S.1 (f k).1 (f k).2 false g c = true ↔ _
    unfold pS
    constructor
    · intro q
      split at q
      · cases q
      · rename_i hne
        obtain ⟨i, hi, r⟩ := (h.2.2.1 g c).mp q
        have hik : i ≠ k := fun e => hne (by rw [← e, r]; exact ⟨rfl, rfl⟩)
        by_cases hin : i = n
        · subst hin; exact ⟨k, by omega, by simp [r]⟩
        · exact ⟨i, by omega, by simp [hik, r]⟩
    · rintro ⟨i, hi, r⟩
      dsimp only at r
      have key : ∀ j, j < n + 1 → f j = (g, c) → j ≠ k → (if g = (f k).1 ∧ c = (f k).2 then false else S.1 g c) = true := by
        intro j hj hr hjk
        rw [if_neg (fun e => hjk (h.2.1 j k hj hk (by rw [hr, e.1, e.2]))), (h.2.2.1 g c).mpr ⟨j, hj, hr⟩]
      split at r
      · exact key n (by omega) r (by omega)
      · exact key i (by omega) r (by assumption)
  · intro i hi
    by_cases q : i = k
    · have := h.2.2.2.1 n (by omega)
      simp [u1, upd, q, this]
    · have := h.2.2.2.1 i (by omega)
      simp [u1, upd, q, this]
  · intro g' hg'
    simp only [u1]
    exact h.2.2.2.2.1 g' hg'
  · simp only [upd]
    exact h.2.2.2.2.2
theorem take_s {v : Nat → Int32} {A : Nat → Nat → Int32} {S : St} (h : RC v A S) {g c : Nat} (hg : g < 7) (hc : okc c) :
    FR v A (fX9_take v A (nI g) (nI (pt c 0)) (nI (pt c 1)) (nI (pt c 2))).1 (fX9_take v A (nI g) (nI (pt c 0)) (nI (pt c 1)) (nI (pt c 2))).2 ∧ RC (fX9_take v A (nI g) (nI (pt c 0)) (nI (pt c 1)) (nI (pt c 2))).1 (fX9_take v A (nI g) (nI (pt c 0)) (nI (pt c 1)) (nI (pt c 2))).2 (stDel S g c) := by
  obtain ⟨ho, n, f, h⟩ := h
  have hn := RL_n h ho
  rcases find_s h ho hg hc with ⟨hf, e⟩ | ⟨j, hj, hfj, hf, e⟩
  · have e0 : fX9_find v A (nI g) (nI (pt c 0)) (nI (pt c 1)) (nI (pt c 2)) < 0 := by rw [e]; exact neg1_lt
    simp only [fX9_take, if_pos e0]
    refine ⟨FR.refl, okS_del ho g c, n, f, ?_⟩
    unfold stDel
    rw [pS_same hf]
    exact h
  · have e0 : ¬ fX9_find v A (nI g) (nI (pt c 0)) (nI (pt c 1)) (nI (pt c 2)) < 0 := by rw [e]; exact nI_pos (by omega)
    simp only [fX9_take, if_neg e0]
    rw [e]
    obtain ⟨m, rfl⟩ : ∃ m, n = m + 1 := ⟨n - 1, by omega⟩
    have := leave_s h hn.2 hj
    rw [hfj] at this
    exact ⟨this.1, okS_del ho g c, _, _, this.2⟩
theorem emS_s (g : Nat) (hg : g < 7) : ∀ (d k : Nat) (v : Nat → Int32) (A : Nat → Nat → Int32) (S : St) (f : Nat → Nat × Nat), RLs v A S (k + d) f → okS S → (∀ i, i < k → (f i).1 ≠ g) →
    FR v A (emS (nI g) d k v A).1 (emS (nI g) d k v A).2 ∧ RC (emS (nI g) d k v A).1 (emS (nI g) d k v A).2 (pG S.1 g (fun _ => false), S.2)
  | 0, k, v, A, S, f, h, ho, hk => by
    refine ⟨FR.refl, ?_, k, f, ?_⟩
    all_goals
      have e : pG S.1 g (fun _ => false) = S.1 := by
        funext g' c'
        unfold pG
        split
        · rename_i e
          subst e
          refine (Bool.eq_false_iff.mpr (fun q => ?_)).symm
          obtain ⟨i, hi, r⟩ := (h.2.2.1 g' c').mp q
          exact hk i hi (by rw [r])
        · rfl
      rw [e]
    · exact ho
    · exact h
  | d + 1, k, v, A, S, f, h, ho, hk => by
    have hn := (RL_n h ho).2
    have hr := (h.2.2.2.1 k (by omega)).1
    have hlt := (RL_ok h ho (show k < k + (d + 1) by omega)).1
    by_cases q : (f k).1 = g
    · have c1 : A 19 (Int32.toNatClampNeg (nI k)) = nI g := by rw [nI_clamp (by omega), hr, q]
      simp only [emS, if_pos c1]
      have hL := leave_s (n := k + d) h hn (k := k) (by omega)
      have := emS_s g hg d k _ _ _ _ hL.2 (okS_del ho _ _) (fun i hi => by simp [show i ≠ k by omega, hk i hi])
      refine ⟨hL.1.trans this.1, ?_⟩
      have e : pG (stDel S (f k).1 (f k).2).1 g (fun _ => false) = pG S.1 g (fun _ => false) := by
        funext g' c'
        unfold pG stDel pS
        split
        · rfl
        · rename_i hne
          dsimp only
          rw [if_neg (fun e => hne (by rw [e.1, q]))]
      rw [e] at this
      exact this.2
    · have c1 : ¬ A 19 (Int32.toNatClampNeg (nI k)) = nI g := by
        rw [nI_clamp (by omega), hr, nI_eq (by omega) (by omega)]; exact q
      simp only [emS, if_neg c1]
      exact emS_s g hg d (k + 1) v A S f (by rw [show k + 1 + d = k + (d + 1) by omega]; exact h) ho (fun i hi => by
        by_cases e : i = k
        · rw [e]; exact q
        · exact hk i (by omega))
theorem empty_s {v : Nat → Int32} {A : Nat → Nat → Int32} {S : St} (h : RC v A S) {g : Nat} (hg : g < 7) : FR v A (fX9_empty v A (nI g)).1 (fX9_empty v A (nI g)).2 ∧ RC (fX9_empty v A (nI g)).1 (fX9_empty v A (nI g)).2 (pG S.1 g (fun _ => false), S.2) := by
  obtain ⟨ho, n, f, h⟩ := h
  have hn := RL_n h ho
  simp only [fX9_empty]
  rw [h.1, nI_clamp (by omega)]
  exact emS_s g hg n 0 v A S f (by rw [Nat.zero_add]; exact h) ho (fun i hi => absurd hi (Nat.not_lt_zero _))
end
section
/-! Graphs as sorted rows of facts. -/
def GC (iv av : Nat → Nat → Int32) (k : Nat) (p : Nat → Bool) (t : Bool) : Prop := iv k 1 = nI (cds p).length ∧ iv k 2 = tI t ∧ ∀ i, i < (cds p).length → av (k + 1) i = nI ((cds p).getD i 0)
theorem srt_get {l : List Nat} (h : srt l) {i j : Nat} (hij : i < j) (hj : j < l.length) : l.getD i 0 < l.getD j 0 := by
  have := List.pairwise_iff_getElem.mp h i j (by omega) hj hij
  rw [List.getD_eq_getElem?_getD, List.getD_eq_getElem?_getD, List.getElem?_eq_getElem hj, List.getElem?_eq_getElem (show i < l.length by omega)]
  exact this
theorem getD_mem {l : List Nat} {i : Nat} (h : i < l.length) : l.getD i 0 ∈ l := by
  rw [List.getD_eq_getElem?_getD, List.getElem?_eq_getElem h]
  exact List.getElem_mem h
theorem mem_getD {l : List Nat} {c : Nat} (h : c ∈ l) : ∃ i, i < l.length ∧ l.getD i 0 = c := by
  obtain ⟨i, hi, e⟩ := List.getElem_of_mem h
  exact ⟨i, hi, by rw [List.getD_eq_getElem?_getD, List.getElem?_eq_getElem hi]; exact e⟩
theorem bs_s {f : Nat → Int32} {g : Nat → Nat} {n c : Nat} (hc : c < 2 ^ 31) (hg : ∀ i, i < n → g i < 2 ^ 31) (hf : ∀ i, i < n → f i = nI (g i)) (hs : ∀ i j, i < j → j < n → g i < g j) :
    ∀ (d lo hi : Nat), hi ≤ lo + d → lo ≤ hi → hi ≤ n → (∀ i, i < lo → g i < c) → (∀ i, hi ≤ i → i < n → c ≤ g i) →
      bs f (nI c) d lo hi ≤ n ∧ (∀ i, i < bs f (nI c) d lo hi → g i < c) ∧ (∀ i, bs f (nI c) d lo hi ≤ i → i < n → c ≤ g i) := by
  intro d
  induction d with
  | zero =>
    intro lo hi h1 h2 h3 h4 h5
    simp only [bs]
    have : lo = hi := by omega
    subst this
    exact ⟨h3, h4, h5⟩
  | succ d ih =>
    intro lo hi h1 h2 h3 h4 h5
    simp only [bs]
    split
    · have hm : (lo + hi) / 2 < n := by omega
      have hq : nI c ≤ f ((lo + hi) / 2) ↔ c ≤ g ((lo + hi) / 2) := by rw [hf _ hm, nI_leI hc (hg _ hm)]
      split
      · rename_i hle
        have hle := hq.mp hle
        refine ih lo _ (by omega) (by omega) (by omega) h4 (fun i hi1 hi2 => ?_)
        by_cases e : i = (lo + hi) / 2
        · subst e; assumption
        · have := hs ((lo + hi) / 2) i (by omega) hi2; omega
      · rename_i hle
        have hle : g ((lo + hi) / 2) < c := Nat.lt_of_not_le (fun r => hle (hq.mpr r))
        refine ih _ hi (by omega) (by omega) h3 (fun i hi1 => ?_) h5
        by_cases e : i = (lo + hi) / 2
        · subst e; omega
        · have := hs i ((lo + hi) / 2) (by omega) hm; omega
    · have : lo = hi := by omega
      subst this
      exact ⟨h3, h4, h5⟩
theorem cds_lt {p : Nat → Bool} (h : ∀ c, p c = true → okc c) {i : Nat} (hi : i < (cds p).length) : (cds p).getD i 0 < 10485760 := okc_lt (h _ ((cds_mem h).mp (getD_mem hi)))
/-- the place of a fact -/
theorem place_s {iv av : Nat → Nat → Int32} {k : Nat} {p : Nat → Bool} {t : Bool} (h : GC iv av k p t) (ho : ∀ c, p c = true → okc c) (hn : (cds p).length ≤ 120) {c : Nat} (hc : c < 2 ^ 31) :
    ∃ q, fX2_placeOf iv av k (nI c) = nI q ∧ q ≤ (cds p).length ∧ (∀ i, i < q → (cds p).getD i 0 < c) ∧ (∀ i, q ≤ i → i < (cds p).length → c ≤ (cds p).getD i 0) := by
  unfold fX2_placeOf
  rw [h.1, nI_clamp (by omega)]
  have := bs_s (f := av (k + 1)) (g := fun i => (cds p).getD i 0) (n := (cds p).length) hc (fun i hi => by have := cds_lt ho hi; omega) h.2.2 (fun i j hij hj => srt_get (cds_srt p) hij hj) (cds p).length 0 (cds p).length (by omega) (by omega) (by omega) (fun i hi => absurd hi (Nat.not_lt_zero _)) (fun i h1 h2 => by omega)
  exact ⟨_, rfl, this.1, this.2.1, this.2.2⟩
theorem place_mem {p : Nat → Bool} {c q : Nat} (hq : q ≤ (cds p).length) (h1 : ∀ i, i < q → (cds p).getD i 0 < c) (h2 : ∀ i, q ≤ i → i < (cds p).length → c ≤ (cds p).getD i 0) : c ∈ cds p ↔ q < (cds p).length ∧ (cds p).getD q 0 = c := by
  constructor
  · intro h
    obtain ⟨i, hi, e⟩ := mem_getD h
    have hiq : q ≤ i := by
      rcases Nat.lt_or_ge i q with r | r
      · have := h1 i r; omega
      · exact r
    refine ⟨by omega, ?_⟩
    have hlt : q < (cds p).length := by omega
    have a := h2 q (Nat.le_refl _) hlt
    by_cases r : q = i
    · rw [r]; exact e
    · have := srt_get (cds_srt p) (show q < i by omega) hi; omega
  · rintro ⟨h, e⟩
    rw [← e]; exact getD_mem h
theorem holds_s {iv av : Nat → Nat → Int32} {k : Nat} {p : Nat → Bool} {t : Bool} (h : GC iv av k p t) (ho : ∀ c, p c = true → okc c) (hn : (cds p).length ≤ 120) {c : Nat} (hc : c < 2 ^ 31) : fX2_holds iv av k (nI c) = tI (p c) := by
  obtain ⟨q, e, hq, h1, h2⟩ := place_s h ho hn hc
  have hm := (place_mem hq h1 h2).symm.trans (cds_mem ho)
  unfold fX2_holds
  rw [e, h.1]
  by_cases hlt : q < (cds p).length
  · rw [if_neg (nI_ge hlt (by omega)), nI_clamp (by omega), h.2.2 q hlt]
    have hb := cds_lt ho hlt
    by_cases he : (cds p).getD q 0 = c
    · rw [if_pos (by rw [he]), hm.mp ⟨hlt, he⟩]; rfl
    · rw [if_neg (by rw [nI_eq (by omega) hc]; exact he), Bool.eq_false_iff.mpr (fun r => he (hm.mpr r).2)]; rfl
  · rw [if_pos (nI_le (by omega) (by omega)), Bool.eq_false_iff.mpr (fun r => hlt (hm.mpr r).1)]; rfl
/-- a fact put in at its place, one taken out -/
def pC (p : Nat → Bool) (c : Nat) (b : Bool) : Nat → Bool := fun c' => if c' = c then b else p c'
theorem pS_s (P : Pd) (g c : Nat) (b : Bool) : pS P g c b g = pC (P g) c b := by
  funext c'; simp [pS, pC]
theorem insert_l {p : Nat → Bool} (ho : ∀ c, p c = true → okc c) {c q : Nat} (hc : okc c) (hp : p c = false) (hq : q ≤ (cds p).length) (h1 : ∀ i, i < q → (cds p).getD i 0 < c) (h2 : ∀ i, q ≤ i → i < (cds p).length → c ≤ (cds p).getD i 0) : cds (pC p c true) = (cds p).take q ++ c :: (cds p).drop q := by
  have ho' : ∀ c', pC p c true c' = true → okc c' := by
    intro c' r; unfold pC at r; split at r
    · rename_i e; rw [e]; exact hc
    · exact ho c' r
  have hcm : c ∉ cds p := fun r => by rw [cds_mem ho, hp] at r; cases r
  refine (cds_eq ho' ?_ ?_).symm
  · have hs := cds_srt p
    rw [← List.take_append_drop q (cds p)] at hs
    unfold srt at hs ⊢
    rw [List.pairwise_append] at hs ⊢
    have hd : ∀ a ∈ (cds p).drop q, c < a := by
      intro a ha
      obtain ⟨i, hi, e⟩ := List.getElem_of_mem ha
      rw [List.length_drop] at hi
      rw [List.getElem_drop] at e
      have := h2 (q + i) (by omega) (by omega)
      rw [List.getD_eq_getElem?_getD, List.getElem?_eq_getElem (show q + i < (cds p).length by omega), e] at this
      have hne : c ≠ a := fun r => hcm (by rw [r]; exact List.mem_of_mem_drop ha)
      have : c ≤ a := this
      omega
    have ht : ∀ a ∈ (cds p).take q, a < c := by
      intro a ha
      obtain ⟨i, hi, e⟩ := List.getElem_of_mem ha
      rw [List.length_take] at hi
      rw [List.getElem_take] at e
      have := h1 i (by omega)
      rw [List.getD_eq_getElem?_getD, List.getElem?_eq_getElem (show i < (cds p).length by omega), e] at this
      exact this
    refine ⟨hs.1, List.pairwise_cons.mpr ⟨hd, hs.2.1⟩, fun a ha b hb => ?_⟩
    rcases List.mem_cons.mp hb with e | e
    · rw [e]; exact ht a ha
    · exact hs.2.2 a ha b e
  · intro c'
    rw [List.mem_append, List.mem_cons]
    unfold pC
    have hall : c' ∈ cds p ↔ c' ∈ (cds p).take q ∨ c' ∈ (cds p).drop q := by rw [← List.mem_append, List.take_append_drop]
    split
    · rename_i e; exact ⟨fun _ => rfl, fun _ => Or.inr (Or.inl e)⟩
    · rename_i e
      rw [← cds_mem ho, hall]
      constructor
      · rintro (r | r | r)
        · exact Or.inl r
        · exact absurd r e
        · exact Or.inr r
      · rintro (r | r)
        · exact Or.inl r
        · exact Or.inr (Or.inr r)
theorem getD_ins {l : List Nat} {q c i : Nat} (hq : q ≤ l.length) : (l.take q ++ c :: l.drop q).getD i 0 = if i < q then l.getD i 0 else if i = q then c else l.getD (i - 1) 0 := by
  rw [List.getD_eq_getElem?_getD, List.getElem?_append, List.length_take, Nat.min_eq_left hq]
  split
  · rw [List.getElem?_take_of_lt (by assumption)]; rfl
  · split
    · rename_i e; subst e; simp
    · rw [List.getElem?_cons, if_neg (by omega), List.getElem?_drop, show q + (i - q - 1) = i - 1 by omega]; rfl
theorem insert_s {iv av : Nat → Nat → Int32} {k : Nat} {p : Nat → Bool} {t : Bool} (h : GC iv av k p t) (ho : ∀ c, p c = true → okc c) (hn : (cds p).length ≤ 120) {c q : Nat} (hc : okc c) (hp : p c = false) (hq : q ≤ (cds p).length) (h1 : ∀ i, i < q → (cds p).getD i 0 < c) (h2 : ∀ i, q ≤ i → i < (cds p).length → c ≤ (cds p).getD i 0) :
    (cds (pC p c true)).length = (cds p).length + 1 ∧ ∀ i, i < (cds p).length + 1 → upd (va_cpy (av (k + 1)) (av (k + 1)) q (q + 1) ((cds p).length - q)) q (nI c) i = nI ((cds (pC p c true)).getD i 0) := by
  have e := insert_l ho hc hp hq h1 h2
  rw [e]
  refine ⟨?_, fun i hi => ?_⟩
  · simp; omega
  · rw [getD_ins hq]
    unfold upd va_cpy
    by_cases r : i = q
    · rw [if_pos r, if_neg (by omega), if_pos r]
    · rw [if_neg r]
      by_cases r2 : i < q
      · rw [if_pos r2, if_neg (by omega)]
        exact h.2.2 i (by omega)
      · rw [if_neg r2, if_neg r, if_pos (by omega), show q + (i - (q + 1)) = i - 1 by omega]
        exact h.2.2 (i - 1) (by omega)
theorem remove_l {p : Nat → Bool} (ho : ∀ c, p c = true → okc c) {c q : Nat} (hq : q < (cds p).length) (hqc : (cds p).getD q 0 = c) : cds (pC p c false) = (cds p).take q ++ (cds p).drop (q + 1) := by
  have ho' : ∀ c', pC p c false c' = true → okc c' := by
    intro c' r; unfold pC at r; split at r
    · cases r
    · exact ho c' r
  have hsub : ((cds p).take q ++ (cds p).drop (q + 1)).Sublist (cds p) := by
    rw [← List.eraseIdx_eq_take_drop_succ]; exact List.eraseIdx_sublist _ _
  have hd : (cds p).drop q = c :: (cds p).drop (q + 1) := by
    rw [List.drop_eq_getElem_cons hq]
    rw [List.getD_eq_getElem?_getD, List.getElem?_eq_getElem hq, Option.getD_some] at hqc
    rw [hqc]
  have hnd := srt_nodup (cds_srt p)
  rw [← List.take_append_drop q (cds p), hd] at hnd
  unfold List.Nodup at hnd
  rw [List.pairwise_append, List.pairwise_cons] at hnd
  refine (cds_eq ho' ((cds_srt p).sublist hsub) (fun c' => ?_)).symm
  have hall : c' ∈ cds p ↔ c' ∈ (cds p).take q ∨ c' = c ∨ c' ∈ (cds p).drop (q + 1) := by
    rw [← List.mem_cons, ← hd, ← List.mem_append, List.take_append_drop]
  rw [List.mem_append]
  unfold pC
  split
  · rename_i e
    subst e
    constructor
    · rintro (r | r)
      · exact absurd rfl (hnd.2.2 c' r c' (by simp))
      · exact absurd rfl (hnd.2.1.1 c' r)
    · intro r; cases r
  · rename_i e
    rw [← cds_mem ho, hall]
    constructor
    · rintro (r | r)
      · exact Or.inl r
      · exact Or.inr (Or.inr r)
    · rintro (r | r | r)
      · exact Or.inl r
      · exact absurd r e
      · exact Or.inr r
theorem getD_rem {l : List Nat} {q i : Nat} (hq : q ≤ l.length) : (l.take q ++ l.drop (q + 1)).getD i 0 = if i < q then l.getD i 0 else l.getD (i + 1) 0 := by
  rw [List.getD_eq_getElem?_getD, List.getElem?_append, List.length_take, Nat.min_eq_left hq]
  split
  · rw [List.getElem?_take_of_lt (by assumption)]; rfl
  · rw [List.getElem?_drop, show q + 1 + (i - q) = i + 1 by omega]; rfl
theorem remove_s {iv av : Nat → Nat → Int32} {k : Nat} {p : Nat → Bool} {t : Bool} (h : GC iv av k p t) (ho : ∀ c, p c = true → okc c) {c q : Nat} (hq : q < (cds p).length) (hqc : (cds p).getD q 0 = c) :
    (cds (pC p c false)).length = (cds p).length - 1 ∧ ∀ i, i < (cds p).length - 1 → va_cpy (av (k + 1)) (av (k + 1)) (q + 1) q ((cds p).length - q - 1) i = nI ((cds (pC p c false)).getD i 0) := by
  have e := remove_l ho hq hqc
  rw [e]
  refine ⟨?_, fun i hi => ?_⟩
  · simp; omega
  · rw [getD_rem (by omega)]
    unfold va_cpy
    by_cases r2 : i < q
    · rw [if_pos r2, if_neg (by omega)]
      exact h.2.2 i (by omega)
    · rw [if_neg r2, if_pos (by omega), show q + 1 + (i - q) = i + 1 by omega]
      exact h.2.2 (i + 1) (by omega)
end
section
/-! Contracts that end in some memory of a given form, and loops over such. -/
def zpI {α β : Type} (G : α → β → ZM) (P : Int32 → α → β → Prop) : Option Value → ZM → Nat → Prop := fun r M' _ => ∃ w a b, r = some (.int w) ∧ M' = G a b ∧ P w a b
def zpN {α β : Type} (G : α → β → ZM) (P : α → β → Prop) : Option Value → ZM → Nat → Prop := fun r M' _ => ∃ a b, r = none ∧ M' = G a b ∧ P a b
theorem zpI_mk {α β : Type} {G : α → β → ZM} {P : Int32 → α → β → Prop} {w : Int32} {a : α} {b : β} {sz : Nat} (h : P w a b) : zpI G P (some (.int w)) (G a b) sz := ⟨w, a, b, rfl, rfl, h⟩
theorem zpN_mk {α β : Type} {G : α → β → ZM} {P : α → β → Prop} {a : α} {b : β} {sz : Nat} (h : P a b) : zpN G P none (G a b) sz := ⟨a, b, rfl, rfl, h⟩
section ZR8
variable {p : Program} {l : Launch} {e : Env} {R : Room} {s : State} {m : MethodId} {args : Array Value} {below : List Frame} {meth : Method} {c : Code} {D : va_G} {aC : Nat → ClassId} {b0 : Nat} {M : ZM} {sz cells slots : Nat} {Q : State → Prop} {own : String} {cc : ByteArray} {nL pc : Nat} {ls : Array Slot} {rest : List Value} {a : Nat} {α β : Type} {G : α → β → ZM}
theorem zqVI (C : zC p l s m c D aC b0 own cc nL) (hml : ls.size = nL) {idx : Nat} {y : MethodName} {cy : ByteArray} {maxL n nv mc ms ci : Nat} {ret : Option FieldType} {As fs : List Value} {P : Int32 → α → β → Prop} {st : List Value} {T : u_T} {N : Nat} (F : zLkV own idx y cy maxL ret n)
    (hM : Ct l D aC b0 y cy maxL ret nv mc ms (.ref a :: As) M sz (zpI G P)) (ha : M a = some (.inr (ci, fs))) (hci : vwCl[ci]? = some (y.cls, T, N)) (hn : As.length = n) (hst : st = As.reverse ++ .ref a :: rest) (hW : (rest.map fun v => v.category).sum ≤ 8)
    (hR : 20 * nv + 21 ≤ R.frames ∧ maxL + (200 * nv + 219) ≤ R.locals ∧ cells + mc ≤ R.cells ∧ slots + ms ≤ R.slots) (hdg : decode cc pc = .ok (.invokevirtual idx, 3))
    (kk : ∀ (w : Int32) (a1 : α) (b1 : β) (sz' : Nat), P w a1 b1 → Z p l e R s m args below meth c D b0 (G a1 b1) sz' (cells + mc) (slots + ms) Q (F0 m (pc + 3) ls (.int w :: rest))) : Z p l e R s m args below meth c D b0 M sz cells slots Q (F0 m pc ls st) :=
  z_callV C hml F hM ha hci hn hst hW hR hdg (fun r M' sz' hp => by obtain ⟨w, a1, b1, rfl, rfl, hp⟩ := hp; exact kk w a1 b1 sz' hp)
theorem zqVN (C : zC p l s m c D aC b0 own cc nL) (hml : ls.size = nL) {idx : Nat} {y : MethodName} {cy : ByteArray} {maxL n nv mc ms ci : Nat} {ret : Option FieldType} {As fs : List Value} {P : α → β → Prop} {st : List Value} {T : u_T} {N : Nat} (F : zLkV own idx y cy maxL ret n)
    (hM : Ct l D aC b0 y cy maxL ret nv mc ms (.ref a :: As) M sz (zpN G P)) (ha : M a = some (.inr (ci, fs))) (hci : vwCl[ci]? = some (y.cls, T, N)) (hn : As.length = n) (hst : st = As.reverse ++ .ref a :: rest) (hW : (rest.map fun v => v.category).sum ≤ 8)
    (hR : 20 * nv + 21 ≤ R.frames ∧ maxL + (200 * nv + 219) ≤ R.locals ∧ cells + mc ≤ R.cells ∧ slots + ms ≤ R.slots) (hdg : decode cc pc = .ok (.invokevirtual idx, 3))
    (kk : ∀ (a1 : α) (b1 : β) (sz' : Nat), P a1 b1 → Z p l e R s m args below meth c D b0 (G a1 b1) sz' (cells + mc) (slots + ms) Q (F0 m (pc + 3) ls rest)) : Z p l e R s m args below meth c D b0 M sz cells slots Q (F0 m pc ls st) :=
  z_callV C hml F hM ha hci hn hst hW hR hdg (fun r M' sz' hp => by obtain ⟨a1, b1, rfl, rfl, hp⟩ := hp; exact kk a1 b1 sz' hp)
theorem zqSI (C : zC p l s m c D aC b0 own cc nL) (hml : ls.size = nL) {idx : Nat} {y : MethodName} {cy : ByteArray} {maxL n nv mc ms : Nat} {ret : Option FieldType} {As : List Value} {P : Int32 → α → β → Prop} {st : List Value} (F : zLkS own idx y cy maxL ret n)
    (hM : Ct l D aC b0 y cy maxL ret nv mc ms As M sz (zpI G P)) (hn : As.length = n) (hst : st = As.reverse ++ rest) (hW : (rest.map fun v => v.category).sum ≤ 8)
    (hR : 20 * nv + 21 ≤ R.frames ∧ maxL + (200 * nv + 219) ≤ R.locals ∧ cells + mc ≤ R.cells ∧ slots + ms ≤ R.slots) (hdg : decode cc pc = .ok (.invokestatic idx, 3))
    (kk : ∀ (w : Int32) (a1 : α) (b1 : β) (sz' : Nat), P w a1 b1 → Z p l e R s m args below meth c D b0 (G a1 b1) sz' (cells + mc) (slots + ms) Q (F0 m (pc + 3) ls (.int w :: rest))) : Z p l e R s m args below meth c D b0 M sz cells slots Q (F0 m pc ls st) :=
  z_callS C hml F hM hn hst hW hR hdg (fun r M' sz' hp => by obtain ⟨w, a1, b1, rfl, rfl, hp⟩ := hp; exact kk w a1 b1 sz' hp)
theorem zqSN (C : zC p l s m c D aC b0 own cc nL) (hml : ls.size = nL) {idx : Nat} {y : MethodName} {cy : ByteArray} {maxL n nv mc ms : Nat} {ret : Option FieldType} {As : List Value} {P : α → β → Prop} {st : List Value} (F : zLkS own idx y cy maxL ret n)
    (hM : Ct l D aC b0 y cy maxL ret nv mc ms As M sz (zpN G P)) (hn : As.length = n) (hst : st = As.reverse ++ rest) (hW : (rest.map fun v => v.category).sum ≤ 8)
    (hR : 20 * nv + 21 ≤ R.frames ∧ maxL + (200 * nv + 219) ≤ R.locals ∧ cells + mc ≤ R.cells ∧ slots + ms ≤ R.slots) (hdg : decode cc pc = .ok (.invokestatic idx, 3))
    (kk : ∀ (a1 : α) (b1 : β) (sz' : Nat), P a1 b1 → Z p l e R s m args below meth c D b0 (G a1 b1) sz' (cells + mc) (slots + ms) Q (F0 m (pc + 3) ls rest)) : Z p l e R s m args below meth c D b0 M sz cells slots Q (F0 m pc ls st) :=
  z_callS C hml F hM hn hst hW hR hdg (fun r M' sz' hp => by obtain ⟨a1, b1, rfl, rfl, hp⟩ := hp; exact kk a1 b1 sz' hp)
theorem z_loop {γ : Type} {h : Nat} {G : γ → ZM} {I : Nat → γ → Prop} {lv : Nat → γ → List (Nat × Value)} (N : Nat)
    (hs : ∀ (j : Nat) (a : γ) (sz : Nat) (ls : Array Slot), j < N → I j a → lv_has ls nL (lv j a) → (∀ (a' : γ) (sz' : Nat) (ls' : Array Slot), I (j + 1) a' → lv_has ls' nL (lv (j + 1) a') → Z p l e R s m args below meth c D b0 (G a') sz' cells slots Q (F0 m h ls' [])) → Z p l e R s m args below meth c D b0 (G a) sz cells slots Q (F0 m h ls []))
    (he : ∀ (a : γ) (sz : Nat) (ls : Array Slot), I N a → lv_has ls nL (lv N a) → Z p l e R s m args below meth c D b0 (G a) sz cells slots Q (F0 m h ls [])) :
    ∀ (a : γ) (sz : Nat) (ls : Array Slot), I 0 a → lv_has ls nL (lv 0 a) → Z p l e R s m args below meth c D b0 (G a) sz cells slots Q (F0 m h ls []) := by
  have key : ∀ (d j : Nat), j + d = N → ∀ (a : γ) (sz : Nat) (ls : Array Slot), I j a → lv_has ls nL (lv j a) → Z p l e R s m args below meth c D b0 (G a) sz cells slots Q (F0 m h ls []) := by
    intro d
    induction d with
    | zero => intro j hj a sz ls hI hl; rw [Nat.add_zero] at hj; subst hj; exact he a sz ls hI hl
    | succ d ih => intro j hj a sz ls hI hl; exact hs j a sz ls (by omega) hI hl (fun a' sz' ls' h1 h2 => ih (j + 1) (by omega) a' sz' ls' h1 h2)
  exact key N 0 (Nat.zero_add _)
end ZR8
theorem Ct.imp {l : Launch} {D : va_G} {aC : Nat → ClassId} {b0 : Nat} {y : MethodName} {cc : ByteArray} {maxL : Nat} {ret : Option FieldType} {n mc ms : Nat} {av : List Value} {M : ZM} {sz : Nat} {P P' : Option Value → ZM → Nat → Prop} (h : Ct l D aC b0 y cc maxL ret n mc ms av M sz P) (hp : ∀ r M' sz', P r M' sz' → P' r M' sz') : Ct l D aC b0 y cc maxL ret n mc ms av M sz P' := by
  intro p e h1 h2 h3 s m args below a1 a2 a3 a4
  obtain ⟨n, o, b1, b2, b3, ⟨⟨r, M', sz', c1, c2, c3⟩, c4⟩, c5⟩ := h p e h1 h2 h3 s m args below a1 a2 a3 a4
  exact ⟨n, o, b1, b2, b3, ⟨⟨r, M', sz', c1, hp _ _ _ c2, c3⟩, c4⟩, c5⟩
theorem Ct.toI {l : Launch} {D : va_G} {aC : Nat → ClassId} {b0 : Nat} {y : MethodName} {cc : ByteArray} {maxL : Nat} {ret : Option FieldType} {n mc ms : Nat} {av : List Value} {M : ZM} {sz : Nat} {α β : Type} {G : α → β → ZM} {P : Int32 → α → β → Prop} {w : Int32} {a : α} {b : β} (h : Ct l D aC b0 y cc maxL ret n mc ms av M sz (zd (some (.int w)) (G a b))) (hp : P w a b) : Ct l D aC b0 y cc maxL ret n mc ms av M sz (zpI G P) :=
  h.imp (fun r M' sz' q => by obtain ⟨rfl, rfl⟩ := q; exact zpI_mk hp)
theorem Ct.toN {l : Launch} {D : va_G} {aC : Nat → ClassId} {b0 : Nat} {y : MethodName} {cc : ByteArray} {maxL : Nat} {ret : Option FieldType} {n mc ms : Nat} {av : List Value} {M : ZM} {sz : Nat} {α β : Type} {G : α → β → ZM} {P : α → β → Prop} {a : α} {b : β} (h : Ct l D aC b0 y cc maxL ret n mc ms av M sz (zd none (G a b))) (hp : P a b) : Ct l D aC b0 y cc maxL ret n mc ms av M sz (zpN G P) :=
  h.imp (fun r M' sz' q => by obtain ⟨rfl, rfl⟩ := q; exact zpN_mk hp)
end
section
/-! The sequence and the files, as the reference holds them. -/
theorem rdI {f : Nat → Int32} {i : Nat} {x : Int32} (h : f i = x) (hi : i < 2 ^ 31) : f (Int32.toNatClampNeg (nI i)) = x := by rw [nI_clamp hi]; exact h
def okT (t : TR) : Prop := (isNm t.1 ∨ isV t.1 ∨ (t.2.2.2 = true ∧ isNw t.1)) ∧ (isNm t.2.1 ∨ isV t.2.1) ∧ (isNm t.2.2.1 ∨ isV t.2.2.1 ∨ (t.2.2.2 = true ∧ isNw t.2.2.1))
def okR (t : Rw) : Prop := (isNm t.1 ∨ isV t.1) ∧ (isNm t.2.1 ∨ isV t.2.1) ∧ (isNm t.2.2 ∨ isV t.2.2)
def okQ (q : Sq) : Prop := q.1 ≤ 9 ∧ q.2.1 < 7 ∧ (q.1 = 9 → q.2.1 < 4) ∧ ((q.1 = 3 ∨ q.1 = 5) → -2 ≤ q.2.2.1.toInt ∧ q.2.2.1.toInt ≤ 6) ∧ (¬ (q.1 = 3 ∨ q.1 = 5) → 0 ≤ q.2.2.1.toInt ∧ q.2.2.1.toInt ≤ 6) ∧
  (∀ t ∈ q.2.2.2.2.1, okT t) ∧ (q.1 = 0 → ∀ t ∈ q.2.2.2.2.1, t.2.2.2 = true) ∧ (q.1 = 1 → ∀ t ∈ q.2.2.2.2.1, t.2.2.2 = false) ∧ q.2.2.2.2.1.length ≤ 6 ∧ (∀ t ∈ q.2.2.2.2.2, okR t) ∧ q.2.2.2.2.2.length ≤ 4 ∧ (q.1 ≠ 2 → q.2.2.2.2.2 = [])
theorem okQ_to {q : Sq} (h : okQ q) (hk : ¬ (q.1 = 3 ∨ q.1 = 5)) : ∃ t, t < 7 ∧ q.2.2.1 = nI t ∧ nn q.2.2.1 = t := by
  obtain ⟨h1, h2⟩ := h.2.2.2.2.1 hk
  obtain ⟨j, hj, e⟩ := vp_in_of (x := q.2.2.1) (n := 7) (vp_in_iff.mpr ⟨h1, by omega⟩) (by decide)
  exact ⟨j, hj, e, by rw [e]; exact nI_clamp (by omega)⟩
def ER (A : Nat → Nat → Int32) (i : Nat) (q : Sq) : Prop := A 1 i = nI q.1 ∧ ((q.1 = 2 ∨ 6 ≤ q.1) → A 2 i = nI q.2.1) ∧ A 3 i = q.2.2.1 ∧ A 4 i = tI q.2.2.2.1 ∧ A 5 i = nI q.2.2.2.2.1.length ∧
  (∀ j t, q.2.2.2.2.1[j]? = some t → A 6 (6 * i + j) = t.1 ∧ A 7 (6 * i + j) = t.2.1 ∧ A 8 (6 * i + j) = t.2.2.1 ∧ A 9 (6 * i + j) = tI t.2.2.2) ∧ A 10 i = nI q.2.2.2.2.2.length ∧
  (∀ j t, q.2.2.2.2.2[j]? = some t → A 11 (4 * i + j) = t.1 ∧ A 12 (4 * i + j) = t.2.1 ∧ A 13 (4 * i + j) = t.2.2)
theorem ER.kept {A A' : Nat → Nat → Int32} {i : Nat} {q : Sq} (h : ER A i q) (hk : ∀ k, k < 19 → A' k = A k) : ER A' i q := by
  unfold ER at h ⊢
  rw [hk 1 (by decide), hk 2 (by decide), hk 3 (by decide), hk 4 (by decide), hk 5 (by decide), hk 6 (by decide), hk 7 (by decide), hk 8 (by decide), hk 9 (by decide), hk 10 (by decide), hk 11 (by decide), hk 12 (by decide), hk 13 (by decide)]
  exact h
def FLr (A : Nat → Nat → Int32) (TN : Nat → Bool) (FL : Nat → List Nat) : Prop := ∀ f, f < 4 → A 14 f = nI (FL f).length ∧ (FL f).length ≤ 10 ∧ (∀ j, j < (FL f).length → A 15 (10 * f + j) = nI (pt ((FL f).getD j 0) 0) ∧ A 16 (10 * f + j) = nI (pt ((FL f).getD j 0) 1) ∧ A 17 (10 * f + j) = nI (pt ((FL f).getD j 0) 2)) ∧ A 18 f = tI (TN f) ∧ ∀ c ∈ FL f, okc c
theorem FLr.kept {A A' : Nat → Nat → Int32} {TN : Nat → Bool} {FL : Nat → List Nat} (h : FLr A TN FL) (hk : ∀ k, k < 19 → A' k = A k) : FLr A' TN FL := by
  intro f hf
  rw [hk 14 (by decide), hk 15 (by decide), hk 16 (by decide), hk 17 (by decide), hk 18 (by decide)]
  exact h f hf
/-- what a step may change of the reference -/
def FS (v : Nat → Int32) (A : Nat → Nat → Int32) (v' : Nat → Int32) (A' : Nat → Nat → Int32) : Prop :=
  (∀ k, k ≠ 20 → k ≠ 26 → k ≠ 41 → k ≠ 43 → k ≠ 45 → k ≠ 47 → v' k = v k) ∧ (∀ k, k < 19 ∨ (23 < k ∧ k < 34) → A' k = A k)
theorem FS.refl {v : Nat → Int32} {A : Nat → Nat → Int32} : FS v A v A := ⟨fun _ _ _ _ _ _ _ => rfl, fun _ _ => rfl⟩
theorem FS.trans {v v1 v2 : Nat → Int32} {A A1 A2 : Nat → Nat → Int32} (h : FS v A v1 A1) (h2 : FS v1 A1 v2 A2) : FS v A v2 A2 :=
  ⟨fun k a b c d e f => (h2.1 k a b c d e f).trans (h.1 k a b c d e f), fun k a => (h2.2 k a).trans (h.2 k a)⟩
theorem FR.S {v v1 : Nat → Int32} {A A1 : Nat → Nat → Int32} (h : FR v A v1 A1) : FS v A v1 A1 := ⟨fun k a b _ _ _ _ => h.1 k a b, fun k a => h.2 k (by omega)⟩
theorem FR.low {v v1 : Nat → Int32} {A A1 : Nat → Nat → Int32} (h : FR v A v1 A1) : ∀ k, k < 19 → A1 k = A k := fun k hk => h.2 k (Or.inl hk)
theorem FS.low {v v1 : Nat → Int32} {A A1 : Nat → Nat → Int32} (h : FS v A v1 A1) : ∀ k, k < 19 → A1 k = A k := fun k hk => h.2 k (Or.inl hk)
/-- the end of a step of the reference -/
def AR (v : Nat → Int32) (A : Nat → Nat → Int32) (a : Nat × St × Nat) (w : Int32) (v' : Nat → Int32) (A' : Nat → Nat → Int32) : Prop := w = nI a.1 ∧ FS v A v' A' ∧ (a.1 < 4 → RC v' A' a.2.1 ∧ v' 41 = v 41 + nI a.2.2)
theorem RC_there {v : Nat → Int32} {A : Nat → Nat → Int32} {S : St} (h : RC v A S) {g : Nat} (hg : g < 7) : A 23 g = tI (S.2.1 g) := by
  obtain ⟨_, _, _, h⟩ := h
  exact h.2.2.2.2.1 g hg
theorem RC_set {v : Nat → Int32} {A : Nat → Nat → Int32} {S : St} (h : RC v A S) (g : Nat) : RC v (u1 A 23 (upd (A 23) g 1)) (S.1, tS S.2.1 g true, S.2.2) := by
  obtain ⟨ho, n, f, h⟩ := h
  refine ⟨okS_there ho g, n, f, h.1, h.2.1, h.2.2.1, ?_, ?_, h.2.2.2.2.2⟩
  · intro i hi
    simp only [u1]
    exact h.2.2.2.1 i hi
  · intro g' hg'
    have := h.2.2.2.2.1 g' hg'
    simp only [u1, upd, tS]
    by_cases q : g' = g
    · simp [q, tI, upd]
    · simp [q, this, upd]
theorem FR_set {v : Nat → Int32} {A : Nat → Nat → Int32} {g : Nat → Int32} : FR v A v (u1 A 23 g) := ⟨fun _ _ _ => rfl, fun k hk => by simp [u1, show k ≠ 23 by omega]⟩
theorem putAll_append (to : Nat) : ∀ (l l' : List Nat) (S : St), putAll to (l ++ l') S = (match putAll to l S with
    | none => none
    | some S' => putAll to l' S')
  | [], _, _ => rfl
  | c :: cs, l', S => by
    rw [List.cons_append, putAll, putAll]
    cases stPut S to c with
    | none => rfl
    | some S' => exact putAll_append to cs l' S'
theorem putAll_step {to : Nat} {l : List Nat} {j : Nat} (hj : j < l.length) (S : St) : putAll to (l.take (j + 1)) S = (match putAll to (l.take j) S with
    | none => none
    | some S' => stPut S' to (l.getD j 0)) := by
  rw [take_succ_of hj, putAll_append, show l[j] = l.getD j 0 by rw [List.getD_eq_getElem?_getD, List.getElem?_eq_getElem hj]; rfl]
  cases putAll to (l.take j) S with
  | none => rfl
  | some S' => simp only [putAll]; cases stPut S' to (l.getD j 0) <;> rfl
theorem putAll_none {to : Nat} {l : List Nat} {j : Nat} {S : St} (h : putAll to (l.take j) S = none) : putAll to l S = none := by
  rw [← List.take_append_drop j l, putAll_append, h]
theorem stPut_there {S S' : St} {g c : Nat} (h : stPut S g c = some S') : S'.2.1 g = true ∧ ∀ g', S.2.1 g' = true → S'.2.1 g' = true := by
  have ht : ∀ g', S.2.1 g' = true → tS S.2.1 g true g' = true := fun g' q => by unfold tS; split <;> first | rfl | exact q
  unfold stPut at h
  split at h
  · cases h; exact ⟨by simp [tS], ht⟩
  · split at h
    · cases h
    · cases h; exact ⟨by simp [tS], ht⟩
/-- rows that come one by one: what has come so far -/
def cmI (v : Nat → Int32) (A : Nat → Nat → Int32) (to : Nat) (l : List Nat) (S : St) (room : Int32) (v' : Nat → Int32) (A' : Nat → Nat → Int32) : Prop :=
  FR v A v' A' ∧ ((room = 0 ∧ putAll to l S = none) ∨ ∃ S', room = 1 ∧ putAll to l S = some S' ∧ RC v' A' S' ∧ S'.2.1 to = true)
theorem cmI_0 {v v0 : Nat → Int32} {A A0 : Nat → Nat → Int32} {to : Nat} {l : List Nat} {S : St} (h : RC v A S) (ht : S.2.1 to = true) (hf : FR v0 A0 v A) : cmI v0 A0 to (l.take 0) S 1 v A := ⟨hf, Or.inr ⟨S, rfl, by rw [List.take_zero]; rfl, h, ht⟩⟩
theorem cmI_out {v0 v : Nat → Int32} {A0 A : Nat → Nat → Int32} {to : Nat} {l : List Nat} {j : Nat} {S : St} {room : Int32} (hj : j < l.length) (h : cmI v0 A0 to (l.take j) S room v A) (hz : room = 0) : cmI v0 A0 to (l.take (j + 1)) S 0 v A := by
  refine ⟨h.1, Or.inl ⟨rfl, ?_⟩⟩
  rcases h.2 with ⟨_, q⟩ | ⟨S', q, _⟩
  · rw [putAll_step hj, q]
  · rw [hz] at q; exact absurd q (by decide)
theorem cmI_in {v0 v : Nat → Int32} {A0 A : Nat → Nat → Int32} {to : Nat} {l : List Nat} {j : Nat} {S : St} {room : Int32} (h : cmI v0 A0 to (l.take j) S room v A) (hz : ¬ room = 0) : ∃ S', putAll to (l.take j) S = some S' ∧ RC v A S' ∧ S'.2.1 to = true := by
  rcases h.2 with ⟨q, _⟩ | ⟨S', _, q⟩
  · exact absurd q hz
  · exact ⟨S', q⟩
/-- one more, with come's answer -/
theorem cmI_next {v0 v : Nat → Int32} {A0 A : Nat → Nat → Int32} {to : Nat} {l : List Nat} {j : Nat} {S : St} {room : Int32} (hj : j < l.length) (hto : to < 7) (hok : ∀ c ∈ l, okc c) (h : cmI v0 A0 to (l.take j) S room v A) (hz : ¬ room = 0) :
    let F := fX9_come v A (nI to) (nI (pt (l.getD j 0) 0)) (nI (pt (l.getD j 0) 1)) (nI (pt (l.getD j 0) 2))
    (F.1 = 0 → cmI v0 A0 to (l.take (j + 1)) S 0 F.2.1 F.2.2) ∧ (¬ F.1 = 0 → cmI v0 A0 to (l.take (j + 1)) S 1 F.2.1 F.2.2) := by
  obtain ⟨S', e, hR, ht⟩ := cmI_in h hz
  have hs := come_s hR hto (hok _ (getD_mem hj)) ht
  dsimp only
  refine ⟨fun q => ⟨h.1.trans hs.1, Or.inl ⟨rfl, ?_⟩⟩, fun q => ⟨h.1.trans hs.1, Or.inr ?_⟩⟩
  · rcases hs.2 with ⟨r, _⟩ | ⟨S2, r, r1, _⟩
    · rw [putAll_step hj, e]; exact r
    · rw [r1] at q; exact absurd q (by decide)
  · rcases hs.2 with ⟨_, r⟩ | ⟨S2, r, _, r2⟩
    · exact absurd r q
    · exact ⟨S2, rfl, by rw [putAll_step hj, e]; exact r, r2, (stPut_there r).1⟩
end
section
theorem RC_n {v : Nat → Int32} {A : Nat → Nat → Int32} {S : St} (h : RC v A S) : ∃ n, v 20 = nI n ∧ n ≤ 120 := by
  obtain ⟨ho, n, f, h⟩ := h
  exact ⟨n, h.1, (RL_n h ho).2⟩
theorem tI_0 {b : Bool} : tI b = 0 ↔ b = false := by cases b <;> simp [tI]
theorem tI_1 {b : Bool} : ¬ tI b = 0 ↔ b = true := by cases b <;> simp [tI]
theorem rd_torn {v : Nat → Int32} {A : Nat → Nat → Int32} {S : St} {fl : List Nat} {t : Nat} {b : Bool} (hR : RC v A S) (h : ¬ tI b = 0) : AR v A (aRead b fl t S) 3 v A := by
  rw [tI_1] at h
  subst h
  exact ⟨rfl, FS.refl, fun _ => ⟨hR, by show v 41 = v 41 + nI 0; rw [nI_0]; simp⟩⟩
theorem rd_end {v v' : Nat → Int32} {A A' : Nat → Nat → Int32} {S : St} {fl : List Nat} {t : Nat} {b : Bool} {room : Int32} (hb : tI b = 0) (h : cmI v A t (fl.take fl.length) (S.1, tS S.2.1 t true, S.2.2) room v' A') : (room = 0 → AR v A (aRead b fl t S) 4 v' A') ∧ (¬ room = 0 → AR v A (aRead b fl t S) 0 v' A') := by
  rw [tI_0] at hb
  subst hb
  rw [List.take_length] at h
  refine ⟨fun q => ?_, fun q => ?_⟩
  · rcases h.2 with ⟨_, r⟩ | ⟨S', r, _⟩
    · unfold aRead AR
      rw [if_neg (by decide), r]
      exact ⟨rfl, h.1.S, fun q => absurd q (show ¬ (4 : Nat) < 4 by decide)⟩
    · rw [q] at r; exact absurd r (by decide)
  · rcases h.2 with ⟨r, _⟩ | ⟨S', _, r, r2, _⟩
    · exact absurd r q
    · unfold aRead AR
      rw [if_neg (by decide), r]
      exact ⟨rfl, h.1.S, fun _ => ⟨r2, by show v' 41 = v 41 + nI 0; rw [nI_0, h.1.1 41 (by decide) (by decide)]; simp⟩⟩
set_option maxHeartbeats 2000000 in
set_option maxRecDepth 10000 in
theorem hX9_readFile {l : Launch} {D : va_G} {aC : Nat → ClassId} {b0 sz : Nat} {r : Nat} {v : Nat → Int32} {A : Nat → Nat → Int32} {R : ZM} {i f t : Nat} {S : St} {TN : Nat → Bool} {FL : Nat → List Nat} (hi : i < 12) (hf : f < 4) (ht : t < 7) (hfrom : A 2 i = nI f) (hto : A 3 i = nI t) (hF : FLr A TN FL) (hR : RC v A S) : Ct l D aC b0 yX9_readFile cX9_readFile 5 (some .int) 2 0 0 [.ref (r), .int (nI i)] (mm aC r v A R) sz (zpI (fun v A => mm aC r v A R) (fun w v' A' => AR v A (aRead (TN f) (FL f) t S) w v' A')) := by
  refine Ct.of (by decide) (Nat.le_of_ble_eq_true rfl) ?_
  intro p e s m below meth c ls C hr hlk hnm hl
  have hl : lv_has ls 5 [(0, .ref (r)), (1, .int (nI i))] := hl
  obtain ⟨hx, hb, -, -, -⟩ := id C
  have hlen := (hF f hf).2.1
  have hok := (hF f hf).2.2.2.2
  refine zz (fun _ _ => lv_aload_n hx hb dX9_readFile_0 rfl (lv_at hl 0 rfl)) ?_
  refine z_get (v := .ref (r + 2)) C fd_X9_13 rm_0 rfl dX9_readFile_1 ?_
  refine zz (fun _ _ => lv_iload_n hx hb dX9_readFile_4 rfl (lv_at hl 1 rfl)) ?_
  refine z_iald (f := A 2) C rm_2 (by first | assumption | (apply vp_in_nI <;> omega)) dX9_readFile_5 ?_
  refine zval (v' := .int (nI f)) (congrArg Value.int (rdI hfrom (by omega))) ?_
  refine zs (fun _ _ => lv_istore_n (lv' := [(2, .int (nI f)), (0, .ref (r)), (1, .int (nI i))]) hx hb dX9_readFile_6 rfl hl (by decide) rfl) (fun ls hl => ?_)
  refine zz (fun _ _ => lv_aload_n hx hb dX9_readFile_7 rfl (lv_at hl 1 rfl)) ?_
  refine z_get (v := .ref (r + 18)) C fd_X9_62 rm_0 rfl dX9_readFile_8 ?_
  refine zz (fun _ _ => lv_iload_n hx hb dX9_readFile_11 rfl (lv_at hl 0 rfl)) ?_
  refine z_zald (f := A 18) C rm_18 (by first | assumption | (apply vp_in_nI <;> omega)) dX9_readFile_12 ?_
  refine zval (v' := .int (tI (TN f))) (congrArg Value.int (rdI (hF f hf).2.2.2.1 (by omega))) ?_
  refine zb (fun _ _ => lv_if_eq (tgt := 18) hx hb dX9_readFile_13 (by decide)) (fun c_1 => ?_) (fun c_1 => ?_)
  · refine zz (fun _ _ => lv_aload_n hx hb dX9_readFile_18 rfl (lv_at hl 1 rfl)) ?_
    refine z_get (v := .ref (r + 23)) C fd_X9_77 rm_0 rfl dX9_readFile_19 ?_
    refine zz (fun _ _ => lv_aload_n hx hb dX9_readFile_22 rfl (lv_at hl 1 rfl)) ?_
    refine z_get (v := .ref (r + 3)) C fd_X9_16 rm_0 rfl dX9_readFile_23 ?_
    refine zz (fun _ _ => lv_iload_n hx hb dX9_readFile_26 rfl (lv_at hl 2 rfl)) ?_
    refine z_iald (f := A 3) C rm_3 (by first | assumption | (apply vp_in_nI <;> omega)) dX9_readFile_27 ?_
    refine zval (v' := .int (nI t)) (congrArg Value.int (rdI hto (by omega))) ?_
    refine zz (fun _ _ => lv_iconst (v := 1) hx hb dX9_readFile_28 (by decide)) ?_
    refine z_zast (f := A 23) C rm_23 (by first | assumption | (apply vp_in_nI <;> omega)) rfl dX9_readFile_29 ?_
    refine zeq wm_23 ?_
    refine zz (fun _ _ => lv_iconst (v := 1) hx hb dX9_readFile_30 (by decide)) ?_
    refine zs (fun _ _ => lv_istore_n (lv' := [(3, .int (1)), (2, .int (nI f)), (0, .ref (r)), (1, .int (nI i))]) hx hb dX9_readFile_31 rfl hl (by decide) rfl) (fun ls hl => ?_)
    refine zz (fun _ _ => lv_bipush (v := 10) hx hb dX9_readFile_32 (by decide)) ?_
    refine zz (fun _ _ => lv_iload_n hx hb dX9_readFile_34 rfl (lv_at hl 1 rfl)) ?_
    refine zz (fun _ _ => lv_imul hx hb dX9_readFile_35) ?_
    refine zval (v' := .int (nI (10 * f))) (congrArg Value.int (pk_mul 10 f)) ?_
    refine zs (fun _ _ => lv_istore (lv' := [(4, .int (nI (10 * f))), (3, .int (1)), (2, .int (nI f)), (0, .ref (r)), (1, .int (nI i))]) hx hb dX9_readFile_36 hl (by decide) rfl) (fun ls hl => ?_)
    have hl0 := lv_sub hl [3, 4, 2, 1, 0] rfl
    refine z_loop (γ := (Nat → Int32) × (Nat → Nat → Int32) × Int32) (G := fun a => mm aC r a.1 a.2.1 R) (I := fun j a => cmI v A t ((FL f).take j) (S.1, tS S.2.1 t true, S.2.2) a.2.2 a.1 a.2.1) (lv := fun j a => [(0, .ref (r)), (1, .int (nI i)), (2, .int (nI f)), (3, .int (a.2.2)), (4, .int (nI (10 * f + j)))]) ((FL f).length) ?_ ?_ (v, (u1 A 23 (upd (A 23) (Int32.toNatClampNeg (nI t)) (1))), 1) _ _ (by rw [nI_clamp (by omega)]; exact cmI_0 (RC_set hR t) (by simp [tS]) FR_set) hl0
    · intro j2 a2 sz ls hj2 hI2 hl ih2
      obtain ⟨v2, A2, t2_3⟩ := a2
      dsimp only at hI2 hl ih2
      refine zeq (M' := (mm aC r v2 A2 R)) rfl ?_
      have hF2 : FLr A2 TN FL := hF.kept hI2.1.low
      have hto2 : A2 3 i = nI t := by rw [hI2.1.low 3 (by decide)]; exact hto
      refine zz (fun _ _ => lv_iload hx hb dX9_readFile_38 (lv_at hl 4 rfl)) ?_
      refine zz (fun _ _ => lv_bipush (v := 10) hx hb dX9_readFile_40 (by decide)) ?_
      refine zz (fun _ _ => lv_iload_n hx hb dX9_readFile_42 rfl (lv_at hl 2 rfl)) ?_
      refine zz (fun _ _ => lv_imul hx hb dX9_readFile_43) ?_
      refine zval (v' := .int (nI (10 * f))) (congrArg Value.int (pk_mul 10 f)) ?_
      refine zz (fun _ _ => lv_aload_n hx hb dX9_readFile_44 rfl (lv_at hl 0 rfl)) ?_
      refine z_get (v := .ref (r + 14)) C fd_X9_50 rm_0 rfl dX9_readFile_45 ?_
      refine zz (fun _ _ => lv_iload_n hx hb dX9_readFile_48 rfl (lv_at hl 2 rfl)) ?_
      refine z_iald (f := A2 14) C rm_14 (by first | assumption | (apply vp_in_nI <;> omega)) dX9_readFile_49 ?_
      refine zval (v' := .int (nI (FL f).length)) (congrArg Value.int (rdI (hF2 f hf).1 (by omega))) ?_
      refine zz (fun _ _ => lv_iadd hx hb dX9_readFile_50) ?_
      refine zval (v' := .int (nI (10 * f + (FL f).length))) (congrArg Value.int (nI_add _ _)) ?_
      refine zb (fun _ _ => lv_icmp_ge (tgt := 104) hx hb dX9_readFile_51 (by decide)) (fun c_3 => ?_) (fun c_3 => ?_)
      · exact absurd c_3 (nI_ge (by omega) (by omega))
      · refine zz (fun _ _ => lv_iload_n hx hb dX9_readFile_54 rfl (lv_at hl 3 rfl)) ?_
        refine zb (fun _ _ => lv_if_eq (tgt := 96) hx hb dX9_readFile_55 (by decide)) (fun c_4 => ?_) (fun c_4 => ?_)
        · refine zz (fun _ _ => lv_iconst (v := 0) hx hb dX9_readFile_96 (by decide)) ?_
          refine zs (fun _ _ => lv_istore_n (lv' := [(3, .int (0)), (0, .ref (r)), (1, .int (nI i)), (2, .int (nI f)), (4, .int (nI (10 * f + j2)))]) hx hb dX9_readFile_97 rfl hl (by decide) rfl) (fun ls hl => ?_)
          refine zs (fun _ _ => lv_iinc (v := nI (10 * f + j2) + 1) (lv' := [(4, .int (nI (10 * f + j2) + 1)), (3, .int (0)), (0, .ref (r)), (1, .int (nI i)), (2, .int (nI f))]) hx hb dX9_readFile_98 hl (k := 4) rfl rfl (by decide) rfl) (fun ls hl => ?_)
          refine zz (fun _ _ => lv_goto (tgt := 38) hx hb dX9_readFile_101 (by decide)) ?_
          have hl := lv_sub hl [2, 3, 4, 1, 0] rfl
          try simp only [nI_1] at hl
          exact ih2 (v2, A2, 0) _ _ (cmI_out hj2 hI2 c_4) hl
        · refine zz (fun _ _ => lv_aload_n hx hb dX9_readFile_58 rfl (lv_at hl 0 rfl)) ?_
          refine zz (fun _ _ => lv_aload_n hx hb dX9_readFile_59 rfl (lv_at hl 0 rfl)) ?_
          refine z_get (v := .ref (r + 3)) C fd_X9_16 rm_0 rfl dX9_readFile_60 ?_
          refine zz (fun _ _ => lv_iload_n hx hb dX9_readFile_63 rfl (lv_at hl 1 rfl)) ?_
          refine z_iald (f := A2 3) C rm_3 (by first | assumption | (apply vp_in_nI <;> omega)) dX9_readFile_64 ?_
          refine zval (v' := .int (nI t)) (congrArg Value.int (rdI hto2 (by omega))) ?_
          refine zz (fun _ _ => lv_aload_n hx hb dX9_readFile_65 rfl (lv_at hl 0 rfl)) ?_
          refine z_get (v := .ref (r + 15)) C fd_X9_53 rm_0 rfl dX9_readFile_66 ?_
          refine zz (fun _ _ => lv_iload hx hb dX9_readFile_69 (lv_at hl 4 rfl)) ?_
          refine z_iald (f := A2 15) C rm_15 (by first | assumption | (apply vp_in_nI <;> omega)) dX9_readFile_71 ?_
          refine zval (v' := .int (nI (pt ((FL f).getD j2 0) 0))) (congrArg Value.int (rdI ((hF2 f hf).2.2.1 j2 hj2).1 (by omega))) ?_
          refine zz (fun _ _ => lv_aload_n hx hb dX9_readFile_72 rfl (lv_at hl 0 rfl)) ?_
          refine z_get (v := .ref (r + 16)) C fd_X9_56 rm_0 rfl dX9_readFile_73 ?_
          refine zz (fun _ _ => lv_iload hx hb dX9_readFile_76 (lv_at hl 4 rfl)) ?_
          refine z_iald (f := A2 16) C rm_16 (by first | assumption | (apply vp_in_nI <;> omega)) dX9_readFile_78 ?_
          refine zval (v' := .int (nI (pt ((FL f).getD j2 0) 1))) (congrArg Value.int (rdI ((hF2 f hf).2.2.1 j2 hj2).2.1 (by omega))) ?_
          refine zz (fun _ _ => lv_aload_n hx hb dX9_readFile_79 rfl (lv_at hl 0 rfl)) ?_
          refine z_get (v := .ref (r + 17)) C fd_X9_59 rm_0 rfl dX9_readFile_80 ?_
          refine zz (fun _ _ => lv_iload hx hb dX9_readFile_83 (lv_at hl 4 rfl)) ?_
          refine z_iald (f := A2 17) C rm_17 (by first | assumption | (apply vp_in_nI <;> omega)) dX9_readFile_85 ?_
          refine zval (v' := .int (nI (pt ((FL f).getD j2 0) 2))) (congrArg Value.int (rdI ((hF2 f hf).2.2.1 j2 hj2).2.2 (by omega))) ?_
          obtain ⟨S9, e9, hR9, _⟩ := cmI_in hI2 c_4
          obtain ⟨n9, hs9, hn9⟩ := RC_n hR9
          refine zdV (As := [.int (nI t), .int (nI (pt ((FL f).getD j2 0) 0)), .int (nI (pt ((FL f).getD j2 0) 1)), .int (nI (pt ((FL f).getD j2 0) 2))]) (rest := []) (st' := [.int ((fX9_come v2 A2 (nI t) (nI (pt ((FL f).getD j2 0) 0)) (nI (pt ((FL f).getD j2 0) 1)) (nI (pt ((FL f).getD j2 0) 2))).1)]) C hl.1 lk_X9_209 (ctX9_come hs9 hn9) rm_0 rfl rfl rfl (Nat.le_of_ble_eq_true rfl) ⟨by decide, by decide, by decide, by decide⟩ dX9_readFile_86 rfl (fun sz => ?_)
          refine zb (fun _ _ => lv_if_eq (tgt := 96) hx hb dX9_readFile_89 (by decide)) (fun c_5 => ?_) (fun c_5 => ?_)
          · refine zz (fun _ _ => lv_iconst (v := 0) hx hb dX9_readFile_96 (by decide)) ?_
            refine zs (fun _ _ => lv_istore_n (lv' := [(3, .int (0)), (0, .ref (r)), (1, .int (nI i)), (2, .int (nI f)), (4, .int (nI (10 * f + j2)))]) hx hb dX9_readFile_97 rfl hl (by decide) rfl) (fun ls hl => ?_)
            refine zs (fun _ _ => lv_iinc (v := nI (10 * f + j2) + 1) (lv' := [(4, .int (nI (10 * f + j2) + 1)), (3, .int (0)), (0, .ref (r)), (1, .int (nI i)), (2, .int (nI f))]) hx hb dX9_readFile_98 hl (k := 4) rfl rfl (by decide) rfl) (fun ls hl => ?_)
            refine zz (fun _ _ => lv_goto (tgt := 38) hx hb dX9_readFile_101 (by decide)) ?_
            have hl := lv_sub hl [2, 3, 4, 1, 0] rfl
            try simp only [nI_1] at hl
            exact ih2 ((fX9_come v2 A2 (nI t) (nI (pt ((FL f).getD j2 0) 0)) (nI (pt ((FL f).getD j2 0) 1)) (nI (pt ((FL f).getD j2 0) 2))).2.1, (fX9_come v2 A2 (nI t) (nI (pt ((FL f).getD j2 0) 0)) (nI (pt ((FL f).getD j2 0) 1)) (nI (pt ((FL f).getD j2 0) 2))).2.2, 0) _ _ ((cmI_next hj2 ht hok hI2 c_4).1 c_5) hl
          · refine zz (fun _ _ => lv_iconst (v := 1) hx hb dX9_readFile_92 (by decide)) ?_
            refine zz (fun _ _ => lv_goto (tgt := 97) hx hb dX9_readFile_93 (by decide)) ?_
            refine zs (fun _ _ => lv_istore_n (lv' := [(3, .int (1)), (0, .ref (r)), (1, .int (nI i)), (2, .int (nI f)), (4, .int (nI (10 * f + j2)))]) hx hb dX9_readFile_97 rfl hl (by decide) rfl) (fun ls hl => ?_)
            refine zs (fun _ _ => lv_iinc (v := nI (10 * f + j2) + 1) (lv' := [(4, .int (nI (10 * f + j2) + 1)), (3, .int (1)), (0, .ref (r)), (1, .int (nI i)), (2, .int (nI f))]) hx hb dX9_readFile_98 hl (k := 4) rfl rfl (by decide) rfl) (fun ls hl => ?_)
            refine zz (fun _ _ => lv_goto (tgt := 38) hx hb dX9_readFile_101 (by decide)) ?_
            have hl := lv_sub hl [2, 3, 4, 1, 0] rfl
            try simp only [nI_1] at hl
            exact ih2 ((fX9_come v2 A2 (nI t) (nI (pt ((FL f).getD j2 0) 0)) (nI (pt ((FL f).getD j2 0) 1)) (nI (pt ((FL f).getD j2 0) 2))).2.1, (fX9_come v2 A2 (nI t) (nI (pt ((FL f).getD j2 0) 0)) (nI (pt ((FL f).getD j2 0) 1)) (nI (pt ((FL f).getD j2 0) 2))).2.2, 1) _ _ ((cmI_next hj2 ht hok hI2 c_4).2 c_5) hl
    · intro a2 sz ls hI2 hl
      obtain ⟨v2, A2, t2_3⟩ := a2
      dsimp only at hI2 hl
      refine zeq (M' := (mm aC r v2 A2 R)) rfl ?_
      have hF2 : FLr A2 TN FL := hF.kept hI2.1.low
      have hto2 : A2 3 i = nI t := by rw [hI2.1.low 3 (by decide)]; exact hto
      refine zz (fun _ _ => lv_iload hx hb dX9_readFile_38 (lv_at hl 4 rfl)) ?_
      refine zz (fun _ _ => lv_bipush (v := 10) hx hb dX9_readFile_40 (by decide)) ?_
      refine zz (fun _ _ => lv_iload_n hx hb dX9_readFile_42 rfl (lv_at hl 2 rfl)) ?_
      refine zz (fun _ _ => lv_imul hx hb dX9_readFile_43) ?_
      refine zval (v' := .int (nI (10 * f))) (congrArg Value.int (pk_mul 10 f)) ?_
      refine zz (fun _ _ => lv_aload_n hx hb dX9_readFile_44 rfl (lv_at hl 0 rfl)) ?_
      refine z_get (v := .ref (r + 14)) C fd_X9_50 rm_0 rfl dX9_readFile_45 ?_
      refine zz (fun _ _ => lv_iload_n hx hb dX9_readFile_48 rfl (lv_at hl 2 rfl)) ?_
      refine z_iald (f := A2 14) C rm_14 (by first | assumption | (apply vp_in_nI <;> omega)) dX9_readFile_49 ?_
      refine zval (v' := .int (nI (FL f).length)) (congrArg Value.int (rdI (hF2 f hf).1 (by omega))) ?_
      refine zz (fun _ _ => lv_iadd hx hb dX9_readFile_50) ?_
      refine zval (v' := .int (nI (10 * f + (FL f).length))) (congrArg Value.int (nI_add _ _)) ?_
      refine zb (fun _ _ => lv_icmp_ge (tgt := 104) hx hb dX9_readFile_51 (by decide)) (fun c_6 => ?_) (fun c_6 => ?_)
      · refine zz (fun _ _ => lv_iload_n hx hb dX9_readFile_104 rfl (lv_at hl 3 rfl)) ?_
        refine zb (fun _ _ => lv_if_eq (tgt := 112) hx hb dX9_readFile_105 (by decide)) (fun c_7 => ?_) (fun c_7 => ?_)
        · refine zz (fun _ _ => lv_iconst (v := 4) hx hb dX9_readFile_112 (by decide)) ?_
          exact z_iret C hr hlk dX9_readFile_113 (zpI_mk (a := v2) (b := A2) ((rd_end c_1 hI2).1 c_7))
        · refine zz (fun _ _ => lv_iconst (v := 0) hx hb dX9_readFile_108 (by decide)) ?_
          refine zz (fun _ _ => lv_goto (tgt := 113) hx hb dX9_readFile_109 (by decide)) ?_
          exact z_iret C hr hlk dX9_readFile_113 (zpI_mk (a := v2) (b := A2) ((rd_end c_1 hI2).2 c_7))
      · exact absurd (nI_le (Nat.le_refl _) (by omega)) c_6
  · refine zz (fun _ _ => lv_iconst (v := 3) hx hb dX9_readFile_16 (by decide)) ?_
    exact z_iret C hr hlk dX9_readFile_17 (zpI_mk (a := v) (b := A) (rd_torn hR c_1))
end
section
/-! Terms, values and the rows of a template, as the reference reads them. -/
theorem isIn_s {a lo hi : Int32} : fX9_isIn a lo hi = 0 ↔ ¬ (lo.toInt ≤ a.toInt ∧ a.toInt ≤ hi.toInt) := by
  unfold fX9_isIn
  split
  · rename_i h; rw [Int32.lt_iff_toInt_lt] at h
    exact ⟨fun _ q => by omega, fun _ => rfl⟩
  · rename_i h; rw [Int32.lt_iff_toInt_lt] at h
    split
    · rename_i h2; rw [Int32.lt_iff_toInt_lt] at h2
      exact ⟨fun _ q => by omega, fun _ => rfl⟩
    · rename_i h2; rw [Int32.lt_iff_toInt_lt] at h2
      exact ⟨fun q => absurd q (by decide), fun q => absurd ⟨by omega, by omega⟩ q⟩
theorem isVar_s {a : Int32} : fX9_isVariable a = 0 ↔ ¬ isV a := by
  unfold fX9_isVariable
  rw [isIn_s]
  exact Iff.rfl
theorem isNew_s {a : Int32} : fX9_isNew a = 0 ↔ ¬ isNw a := by
  unfold fX9_isNew
  rw [isIn_s]
  exact Iff.rfl
theorem neg_of {t : Int32} {a b : Int} {k : Nat} (h : t.toInt = -(k : Int) - 1) (hk : k < 100) : (-1 : Int32) - t = nI k := by
  apply Int32.toInt_inj.mp
  rw [nI_toInt (by omega), Int32.toInt_sub, h]
  show ((-1 : Int) - _).bmod _ = _
  rw [show (-1 : Int) - (-(k : Int) - 1) = (k : Int) by omega]
  exact Int.bmod_eq_of_le (by omega) (by omega)
theorem sl_s {t : Int32} (h : isV t) : sl t < 4 ∧ (-1 : Int32) - t = nI (sl t) := by
  obtain ⟨k, hk⟩ : ∃ k : Nat, t.toInt = -(k : Int) - 1 := ⟨(-t.toInt - 1).toNat, by have := h.2; omega⟩
  have h1 := h.1
  have e := neg_of (a := 0) (b := 0) hk (by omega)
  unfold sl
  rw [e, nI_clamp (by omega)]
  exact ⟨by omega, rfl⟩
theorem nsl_s {t : Int32} (h : isNw t) : nsl t < 4 ∧ (-11 : Int32) - t = nI (nsl t) := by
  obtain ⟨k, hk⟩ : ∃ k : Nat, t.toInt = -(k : Int) - 11 := ⟨(-t.toInt - 11).toNat, by have := h.2; omega⟩
  have h1 := h.1
  have e : (-11 : Int32) - t = nI k := by
    apply Int32.toInt_inj.mp
    rw [nI_toInt (by omega), Int32.toInt_sub, hk]
    show ((-11 : Int) - _).bmod _ = _
    rw [show (-11 : Int) - (-(k : Int) - 11) = (k : Int) by omega]
    exact Int.bmod_eq_of_le (by omega) (by omega)
  unfold nsl
  rw [e, nI_clamp (by omega)]
  exact ⟨by omega, rfl⟩
/-- the place of a variable's value in a row of values -/
theorem vplace {t : Int32} (h : isV t) (w : Nat) : 4 * nI w - 1 - t = nI (4 * w + sl t) := by
  have e := (sl_s h).2
  have e1 : (4 : Int32) * nI w = nI (4 * w) := pk_mul 4 w
  rw [e1, ← nI_add, ← e, Int32.sub_eq_add_neg, Int32.sub_eq_add_neg, Int32.sub_eq_add_neg, Int32.add_assoc]
theorem vplace_in {t : Int32} {w : Nat} (hw : w ≤ 5000) (h : ¬ fX9_isVariable t = 0) : vp_in (4 * nI w - 1 - t) 20400 := by
  have h : isV t := Decidable.not_not.mp (fun q => h (isVar_s.mpr q))
  rw [vplace h]
  have := (sl_s h).1
  exact vp_in_nI (by omega) (by decide)
def okG (σ : Sg) : Prop := ∀ k, k < 4 → σ k = -1 ∨ isPn (σ k)
def VW (A : Nat → Nat → Int32) (w : Nat) (σ : Sg) : Prop := ∀ k, k < 4 → A 35 (4 * w + k) = σ k
theorem vin_s {A : Nat → Nat → Int32} {w : Nat} {σ : Sg} (hw : w ≤ 5000) (h : VW A w σ) (t : Int32) : fX9_valueInV A (nI w) t = vl σ t := by
  unfold fX9_valueInV vl
  by_cases q : isV t
  · rw [if_neg (fun r => isVar_s.mp r q), if_pos q, vplace q, nI_clamp (by have := (sl_s q).1; omega)]
    exact h _ (sl_s q).1
  · rw [if_pos (isVar_s.mpr q), if_neg q]
theorem le_i {a b : Int32} : a ≤ b ↔ a.toInt ≤ b.toInt := Int32.le_iff_toInt_le
theorem vl_p {σ : Sg} (hσ : okG σ) {t : Int32} (h : isNm t ∨ isV t) : vl σ t = -1 ∨ isPn (vl σ t) := by
  unfold vl
  split
  · rename_i q; exact hσ _ (sl_s q).1
  · rename_i q
    rcases h with h | h
    · exact Or.inr ⟨h.1, by have := h.2; omega⟩
    · exact absurd h q
theorem left_s {A : Nat → Nat → Int32} {w a : Nat} {σ : Sg} (hw : w ≤ 5000) (h : VW A w σ) (hσ : okG σ) {t : TR} (ht : okT t) (ha : a < 72) (e6 : A 6 a = t.1) (e7 : A 7 a = t.2.1) (e8 : A 8 a = t.2.2.1) : fX9_isLeftOut A (nI a) (nI w) = 0 ↔ ¬ lo σ t := by
  unfold fX9_isLeftOut
  simp only [nI_clamp (show a < 2 ^ 31 by omega), e6, e7, e8, vin_s hw h]
  unfold lo
  by_cases q1 : vl σ t.1 = -1
  · rw [if_pos q1]; exact ⟨fun r => absurd r (by decide), fun r => absurd (Or.inl q1) r⟩
  · rw [if_neg q1]
    by_cases q2 : vl σ t.2.1 = -1
    · rw [if_pos q2]; exact ⟨fun r => absurd r (by decide), fun r => absurd (Or.inr (Or.inr (by rw [q2]; decide))) r⟩
    · rw [if_neg q2]
      by_cases q3 : vl σ t.2.2.1 = -1
      · rw [if_pos q3]; exact ⟨fun r => absurd r (by decide), fun r => absurd (Or.inr (Or.inl q3)) r⟩
      · rw [if_neg q3]
        have hp : isPn (vl σ t.2.1) := (vl_p hσ ht.2.1).resolve_left q2
        by_cases q4 : vl σ t.2.1 ≤ 99
        · rw [if_pos q4]
          refine ⟨fun _ r => ?_, fun _ => rfl⟩
          rcases r with r | r | r
          · exact q1 r
          · exact q3 r
          · exact r ⟨hp.1, by have := le_i.mp q4; exact this⟩
        · rw [if_neg q4]
          refine ⟨fun r => absurd r (by decide), fun r => absurd (Or.inr (Or.inr (fun s => q4 (le_i.mpr s.2)))) r⟩
theorem nI_of_nn {t : Int32} (h : 0 ≤ t.toInt) : nI (nn t) = t := by
  obtain ⟨j, hj, e⟩ := nI_of (x := t) (fun q => by rw [Int32.lt_iff_toInt_lt] at q; have : (0 : Int32).toInt = 0 := rfl; omega)
  unfold nn
  rw [e, nI_clamp hj]
theorem nn_lt {t : Int32} {n : Nat} (h : 0 ≤ t.toInt) (h2 : t.toInt ≤ n) (hn : n < 2 ^ 31) : nn t ≤ n := by
  obtain ⟨j, hj, e⟩ := nI_of (x := t) (fun q => by rw [Int32.lt_iff_toInt_lt] at q; have : (0 : Int32).toInt = 0 := rfl; omega)
  unfold nn
  rw [e, nI_clamp hj]
  rw [e, nI_toInt hj] at h2
  omega
/-- the fact that a row is -/
def tcd (σ : Sg) (t : TR) : Nat := cd (nn (vl σ t.1)) (nn (vl σ t.2.1)) (nn (vl σ t.2.2.1))
theorem tcd_s {σ : Sg} (hσ : okG σ) {t : TR} (ht : okT t) (ha : t.2.2.2 = false) (hl : ¬ lo σ t) : okc (tcd σ t) ∧ vl σ t.1 = nI (pt (tcd σ t) 0) ∧ vl σ t.2.1 = nI (pt (tcd σ t) 1) ∧ vl σ t.2.2.1 = nI (pt (tcd σ t) 2) := by
  have h1 : isNm t.1 ∨ isV t.1 := by
    rcases ht.1 with q | q | q
    · exact Or.inl q
    · exact Or.inr q
    · rw [ha] at q; exact absurd q.1 (by decide)
  have h2 : isNm t.2.2.1 ∨ isV t.2.2.1 := by
    rcases ht.2.2 with q | q | q
    · exact Or.inl q
    · exact Or.inr q
    · rw [ha] at q; exact absurd q.1 (by decide)
  have p1 : isPn (vl σ t.1) := (vl_p hσ h1).resolve_left (fun q => hl (Or.inl q))
  have p2 : isPn (vl σ t.2.2.1) := (vl_p hσ h2).resolve_left (fun q => hl (Or.inr (Or.inl q)))
  have p3 : isNm (vl σ t.2.1) := Decidable.not_not.mp (fun q => hl (Or.inr (Or.inr q)))
  have b1 := nn_lt (n := 159) p1.1 (by have := p1.2; omega) (by decide)
  have b2 := nn_lt (n := 159) p2.1 (by have := p2.2; omega) (by decide)
  have b3 := nn_lt (n := 99) p3.1 (by have := p3.2; omega) (by decide)
  unfold tcd
  refine ⟨okc_cd (by omega) (by omega) (by omega), ?_, ?_, ?_⟩
  · rw [pt_cd0 (by omega) (by omega), nI_of_nn p1.1]
  · rw [pt_cd1 (by omega) (by omega), nI_of_nn p3.1]
  · rw [pt_cd2 (by omega) (by omega), nI_of_nn p2.1]
theorem foldl_take {β : Type} {ts : List TR} {f : β → TR → β} {S : β} {j : Nat} {t : TR} (h : ts[j]? = some t) : (ts.take (j + 1)).foldl f S = f ((ts.take j).foldl f S) t := by
  rw [List.take_succ, h, List.foldl_append]
  rfl
theorem tk_skip {to : Nat} {σ : Sg} {S : St} {t : TR} (h : t.2.2.2 = true ∨ lo σ t) : takeRow to σ S t = S := if_pos h
theorem tk_do {to : Nat} {σ : Sg} {S : St} {t : TR} (h1 : t.2.2.2 = false) (h2 : ¬ lo σ t) : takeRow to σ S t = stDel S to (tcd σ t) := by
  unfold takeRow
  rw [if_neg]
  · rfl
  · rintro (q | q)
    · rw [h1] at q; cases q
    · exact h2 q
/-- taking away, row by row -/
def tkI (v : Nat → Int32) (A : Nat → Nat → Int32) (S : St) (v' : Nat → Int32) (A' : Nat → Nat → Int32) : Prop := FR v A v' A' ∧ RC v' A' S
theorem VW.kept {v v' : Nat → Int32} {A A' : Nat → Nat → Int32} {w : Nat} {σ : Sg} (h : VW A w σ) (hf : FR v A v' A') : VW A' w σ := fun k hk => by rw [hf.2 35 (by omega)]; exact h k hk
/-- rows of a template in the reference -/
def TRr (A : Nat → Nat → Int32) (i : Nat) (ts : List TR) : Prop := A 5 i = nI ts.length ∧ ts.length ≤ 6 ∧ (∀ t ∈ ts, okT t) ∧ ∀ j t, ts[j]? = some t → A 6 (6 * i + j) = t.1 ∧ A 7 (6 * i + j) = t.2.1 ∧ A 8 (6 * i + j) = t.2.2.1 ∧ A 9 (6 * i + j) = tI t.2.2.2
theorem TRr.kept {A A' : Nat → Nat → Int32} {i : Nat} {ts : List TR} (h : TRr A i ts) (hk : ∀ k, k < 19 → A' k = A k) : TRr A' i ts := by
  unfold TRr at h ⊢
  rw [hk 5 (by decide), hk 6 (by decide), hk 7 (by decide), hk 8 (by decide), hk 9 (by decide)]
  exact h
theorem ER.T {A : Nat → Nat → Int32} {i : Nat} {q : Sq} (h : ER A i q) (hq : okQ q) : TRr A i q.2.2.2.2.1 := ⟨h.2.2.2.2.1, hq.2.2.2.2.2.2.2.2.1, hq.2.2.2.2.2.1, h.2.2.2.2.2.1⟩
/-! New blanks, and rows that add. -/
def okm (m : Sg) : Prop := ∀ k, k < 4 → m k = -1 ∨ (100 ≤ (m k).toInt ∧ (m k).toInt ≤ 159)
theorem okm_0 : okm (fun _ => -1) := fun _ _ => Or.inl rfl
theorem stPut_T {P : Pd} {T : Nat → Bool} {b g c : Nat} : stPut (P, tS T g true, b) g c = stPut (P, T, b) g c := by
  have e : tS (tS T g true) g true = tS T g true := by
    funext g'; unfold tS; split <;> rfl
  unfold stPut
  simp only [e]
theorem RC_made {v : Nat → Int32} {A : Nat → Nat → Int32} {S : St} {k : Nat} {g : Nat → Int32} (h : RC v A S) (hk : 23 < k) : RC v (u1 A k g) S := by
  obtain ⟨ho, n, f, h⟩ := h
  have e : ∀ q, q ≤ 23 → u1 A k g q = A q := fun q hq => by simp [u1, show q ≠ k by omega]
  refine ⟨ho, n, f, ?_⟩
  unfold RLs at h ⊢
  rw [e 19 (by omega), e 20 (by omega), e 21 (by omega), e 22 (by omega), e 23 (by omega)]
  exact h
theorem RC_v {v v' : Nat → Int32} {A A' : Nat → Nat → Int32} {S : St} (h : RC v A S) (h1 : v' 20 = v 20) (h2 : v' 26 = v 26) (hA : ∀ q, 19 ≤ q → q ≤ 23 → A' q = A q) : RC v' A' S := by
  obtain ⟨ho, n, f, h⟩ := h
  refine ⟨ho, n, f, ?_⟩
  unfold RLs at h ⊢
  rw [hA 19 (by omega) (by omega), hA 20 (by omega) (by omega), hA 21 (by omega) (by omega), hA 22 (by omega) (by omega), hA 23 (by omega) (by omega), h1, h2]
  exact h
theorem RC_b {v : Nat → Int32} {A : Nat → Nat → Int32} {S : St} (h : RC v A S) : v 26 = nI S.2.2 ∧ S.2.2 ≤ 60 := by
  obtain ⟨ho, n, f, h⟩ := h
  exact ⟨h.2.2.2.2.2, ho.2.2.1⟩
theorem RC_blank {v : Nat → Int32} {A : Nat → Nat → Int32} {S : St} (h : RC v A S) (hb : S.2.2 < 60) : RC (upd v 26 (nI (S.2.2 + 1))) A (S.1, S.2.1, S.2.2 + 1) := by
  obtain ⟨ho, n, f, h⟩ := h
  exact ⟨okS_blk ho (by omega), n, f, by simp [upd, h.1], h.2.1, h.2.2.1, h.2.2.2.1, h.2.2.2.2.1, by simp [upd]⟩
/-- what a term that comes is -/
theorem comes_s {v : Nat → Int32} {A : Nat → Nat → Int32} {S : St} {w : Nat} {σ m : Sg} (hR : RC v A S) (hw : w ≤ 5000) (hV : VW A w σ) (hm : ∀ k, k < 4 → A 38 k = m k) (hok : okm m) {t : Int32} (ht : isNw t ∨ isPn (vl σ t)) :
    FR v A (fX9_comes v A t (nI w)).2.1 (fX9_comes v A t (nI w)).2.2 ∧
    ((blk σ S.2.2 m t = none ∧ (fX9_comes v A t (nI w)).1 = -1) ∨ ∃ b1 m1 y, blk σ S.2.2 m t = some (b1, m1, y) ∧ y < 160 ∧ (fX9_comes v A t (nI w)).1 = nI y ∧ RC (fX9_comes v A t (nI w)).2.1 (fX9_comes v A t (nI w)).2.2 (S.1, S.2.1, b1) ∧ (∀ k, k < 4 → (fX9_comes v A t (nI w)).2.2 38 k = m1 k) ∧ okm m1) := by
  by_cases q : isNw t
  · have hs := nsl_s q
    have q0 : ¬ fX9_isNew t = 0 := fun r => isNew_s.mp r q
    have ek : Int32.toNatClampNeg ((-11) - t) = nsl t := rfl
    have hb := RC_b hR
    unfold blk
    simp only [if_pos q]
    by_cases q1 : m (nsl t) = -1
    · have e1 : A 38 (nsl t) = -1 := by rw [hm _ hs.1, q1]
      simp only [if_pos q1]
      by_cases q2 : S.2.2 < 60
      · have e2 : ¬ (60 : Int32) ≤ v 26 := by rw [hb.1]; exact nI_ge q2 (by decide)
        have e3 : (100 : Int32) + v 26 = nI (100 + S.2.2) := by rw [hb.1]; exact nI_add 100 _
        have e4 : v 26 + 1 = nI (S.2.2 + 1) := by rw [hb.1, nI_1]
        simp only [fX9_comes, if_neg q0, ek, if_pos e1, if_neg e2, if_pos q2, e3, e4]
        refine ⟨⟨fun k _ h2 => by simp [upd, h2], fun k hk => by simp [u1, show k ≠ 38 by omega]⟩, Or.inr ⟨_, _, _, rfl, by omega, by simp [upd], RC_made (RC_blank hR q2) (by decide), ?_, ?_⟩⟩
        · intro k hk
          simp only [u1, if_true, upd]
          split
          · rfl
          · exact hm k hk
        · intro k hk
          unfold upd
          split
          · rw [nI_toInt (by omega)]; exact Or.inr ⟨by omega, by omega⟩
          · exact hok k hk
      · have e2 : (60 : Int32) ≤ v 26 := by rw [hb.1]; exact nI_le (a := 60) (by omega) (by omega)
        simp only [fX9_comes, if_neg q0, ek, if_pos e1, if_pos e2, if_neg q2, e1]
        exact ⟨FR.refl, Or.inl ⟨trivial, by simp⟩⟩
    · have e1 : ¬ A 38 (nsl t) = -1 := by rw [hm _ hs.1]; exact q1
      simp only [fX9_comes, if_neg q0, ek, if_neg e1, if_neg q1]
      have hk := (hok _ hs.1).resolve_left q1
      refine ⟨FR.refl, Or.inr ⟨_, _, _, rfl, ?_, ?_, hR, hm, hok⟩⟩
      · have := nn_lt (n := 159) (t := m (nsl t)) (by omega) (by omega) (by decide); omega
      · rw [hm _ hs.1, nI_of_nn (by omega)]
  · have hp := ht.resolve_left q
    have q0 : fX9_isNew t = 0 := isNew_s.mpr q
    unfold blk
    simp only [fX9_comes, if_pos q0, if_neg q, vin_s hw hV]
    refine ⟨FR.refl, Or.inr ⟨_, _, _, rfl, ?_, ?_, hR, hm, hok⟩⟩
    · have := nn_lt (n := 159) hp.1 (by have := hp.2; omega) (by decide); omega
    · rw [nI_of_nn hp.1]
theorem addRows_append (to : Nat) (σ : Sg) : ∀ (l l' : List TR) (S : St) (m : Sg), addRows to σ (l ++ l') S m = (match addRows to σ l S m with
    | none => none
    | some (S', m') => addRows to σ l' S' m')
  | [], _, _, _ => rfl
  | t :: ts, l', S, m => by
    rw [List.cons_append, addRows, addRows]
    cases addRow to σ S m t with
    | none => rfl
    | some a => exact addRows_append to σ ts l' a.1 a.2
theorem addRows_step {to : Nat} {σ : Sg} {ts : List TR} {j : Nat} {t : TR} (hj : ts[j]? = some t) (S : St) (m : Sg) : addRows to σ (ts.take (j + 1)) S m = (match addRows to σ (ts.take j) S m with
    | none => none
    | some (S', m') => addRow to σ S' m' t) := by
  rw [List.take_succ, hj, addRows_append]
  cases addRows to σ (ts.take j) S m with
  | none => rfl
  | some a =>
    show addRows to σ [t] a.1 a.2 = addRow to σ a.1 a.2 t
    simp only [addRows]
    cases addRow to σ a.1 a.2 t with
    | none => rfl
    | some a => rfl
theorem addRows_none {to : Nat} {σ : Sg} {ts : List TR} {j : Nat} {S : St} {m : Sg} (h : addRows to σ (ts.take j) S m = none) : addRows to σ ts S m = none := by
  rw [← List.take_append_drop j ts, addRows_append, h]
/-- adding, row by row -/
def adI (v : Nat → Int32) (A : Nat → Nat → Int32) (to : Nat) (σ : Sg) (l : List TR) (S : St) (v' : Nat → Int32) (A' : Nat → Nat → Int32) : Prop :=
  FR v A v' A' ∧ ∃ S' m', addRows to σ l S (fun _ => -1) = some (S', m') ∧ RC v' A' S' ∧ (∀ k, k < 4 → A' 38 k = m' k) ∧ okm m'
theorem ad_skip {v v1 : Nat → Int32} {A A1 : Nat → Nat → Int32} {S : St} {to j : Nat} {σ : Sg} {ts : List TR} {t : TR} (hj : ts[j]? = some t) (h : t.2.2.2 = false ∨ lo σ t) (hI : adI v A to σ (ts.take j) S v1 A1) : adI v A to σ (ts.take (j + 1)) S v1 A1 := by
  obtain ⟨hf, S', m', e, h2⟩ := hI
  refine ⟨hf, S', m', ?_, h2⟩
  rw [addRows_step hj, e]
  show addRow to σ S' m' t = _
  unfold addRow
  rw [if_pos h]
theorem nplace_in {t : Int32} (h : ¬ fX9_isNew t = 0) : vp_in ((-11) - t) 4 := by
  have h : isNw t := Decidable.not_not.mp (fun q => h (isNew_s.mpr q))
  rw [(nsl_s h).2]
  exact vp_in_nI (nsl_s h).1 (by decide)
/-- what comes' answer says -/
def cmsP (v : Nat → Int32) (A : Nat → Nat → Int32) (S : St) (σ m : Sg) (t : Int32) (w : Int32) (v' : Nat → Int32) (A' : Nat → Nat → Int32) : Prop :=
  FR v A v' A' ∧ ((blk σ S.2.2 m t = none ∧ w = -1) ∨ ∃ b1 m1 y, blk σ S.2.2 m t = some (b1, m1, y) ∧ y < 160 ∧ w = nI y ∧ RC v' A' (S.1, S.2.1, b1) ∧ (∀ k, k < 4 → A' 38 k = m1 k) ∧ okm m1)
def comeP (v : Nat → Int32) (A : Nat → Nat → Int32) (S : St) (g c : Nat) (w : Int32) (v' : Nat → Int32) (A' : Nat → Nat → Int32) : Prop :=
  FR v A v' A' ∧ A' 38 = A 38 ∧ ((stPut S g c = none ∧ w = 0) ∨ ∃ S', stPut S g c = some S' ∧ w = 1 ∧ RC v' A' S')
theorem hX9_comes {l : Launch} {D : va_G} {aC : Nat → ClassId} {b0 sz r w : Nat} {v : Nat → Int32} {A : Nat → Nat → Int32} {R : ZM} {S : St} {σ m : Sg} {t : Int32} (hw : w ≤ 5000) (hR : RC v A S) (hV : VW A w σ) (hm : ∀ k, k < 4 → A 38 k = m k) (hok : okm m) (ht : isNw t ∨ isPn (vl σ t)) :
    Ct l D aC b0 yX9_comes cX9_comes 4 (some .int) 3 0 0 [.ref r, .int t, .int (nI w)] (mm aC r v A R) sz (zpI (fun v A => mm aC r v A R) (cmsP v A S σ m t)) :=
  Ct.toI (G := fun v A => mm aC r v A R) (ctX9_comes nplace_in (vplace_in hw)) (comes_s hR hw hV hm hok ht)
theorem hX9_come {l : Launch} {D : va_G} {aC : Nat → ClassId} {b0 sz r : Nat} {v : Nat → Int32} {A : Nat → Nat → Int32} {R : ZM} {S : St} {g c : Nat} (hR : RC v A S) (hg : g < 7) (hc : okc c) (ht : S.2.1 g = true) :
    Ct l D aC b0 yX9_come cX9_come 5 (some .boolean) 1 0 0 [.ref r, .int (nI g), .int (nI (pt c 0)), .int (nI (pt c 1)), .int (nI (pt c 2))] (mm aC r v A R) sz (zpI (fun v A => mm aC r v A R) (comeP v A S g c)) := by
  obtain ⟨n, hs, hn⟩ : ∃ n, v 20 = nI n ∧ n ≤ 120 := by
    obtain ⟨ho, n, f, h⟩ := hR
    exact ⟨n, h.1, (RL_n h ho).2⟩
  have h := come_s hR hg hc ht
  refine Ct.toI (G := fun v A => mm aC r v A R) (ctX9_come hs hn) ⟨h.1, ?_, h.2⟩
  unfold fX9_come
  repeat' split
  all_goals simp [u1]
end
section
theorem tk_next {v v1 : Nat → Int32} {A A1 : Nat → Nat → Int32} {S : St} {to j : Nat} {σ : Sg} {ts : List TR} {t : TR} (hj : ts[j]? = some t) (h : t.2.2.2 = true ∨ lo σ t) (hI : tkI v A ((ts.take j).foldl (takeRow to σ) S) v1 A1) : tkI v A ((ts.take (j + 1)).foldl (takeRow to σ) S) v1 A1 := by
  rw [foldl_take hj, tk_skip h]; exact hI
theorem tk_gone {v v1 : Nat → Int32} {A A1 : Nat → Nat → Int32} {S : St} {to j : Nat} {σ : Sg} {ts : List TR} {t : TR} (hto : to < 7) (hj : ts[j]? = some t) (h1 : t.2.2.2 = false) (h2 : ¬ lo σ t) (hc : okc (tcd σ t)) (hI : tkI v A ((ts.take j).foldl (takeRow to σ) S) v1 A1) : tkI v A ((ts.take (j + 1)).foldl (takeRow to σ) S) (fX9_take v1 A1 (nI to) (nI (pt (tcd σ t) 0)) (nI (pt (tcd σ t) 1)) (nI (pt (tcd σ t) 2))).1 (fX9_take v1 A1 (nI to) (nI (pt (tcd σ t) 0)) (nI (pt (tcd σ t) 1)) (nI (pt (tcd σ t) 2))).2 := by
  rw [foldl_take hj, tk_do h1 h2]
  have := take_s hI.2 hto hc
  exact ⟨hI.1.trans this.1, this.2⟩
set_option maxHeartbeats 2000000 in
set_option maxRecDepth 10000 in
theorem hX9_takeAway {l : Launch} {D : va_G} {aC : Nat → ClassId} {b0 sz : Nat} {r : Nat} {v : Nat → Int32} {A : Nat → Nat → Int32} {R : ZM} {i w to : Nat} {S : St} {σ : Sg} {ts : List TR} (hi : i < 12) (hw : w ≤ 5000) (hto7 : to < 7) (hto : A 3 i = nI to) (hT : TRr A i ts) (hV : VW A w σ) (hσ : okG σ) (hR : RC v A S) : Ct l D aC b0 yX9_takeAway cX9_takeAway 4 none 4 0 0 [.ref (r), .int (nI i), .int (nI w)] (mm aC r v A R) sz (zpN (fun v A => mm aC r v A R) (fun v' A' => tkI v A (takeSol to ts S σ) v' A')) := by
  refine Ct.of (by decide) (Nat.le_of_ble_eq_true rfl) ?_
  intro p e s m below meth c ls C hr hlk hnm hl
  have hl : lv_has ls 4 [(0, .ref (r)), (1, .int (nI i)), (2, .int (nI w))] := hl
  obtain ⟨hx, hb, -, -, -⟩ := id C
  have hlen := hT.2.1
  refine zz (fun _ _ => lv_bipush (v := 6) hx hb dX9_takeAway_0 (by decide)) ?_
  refine zz (fun _ _ => lv_iload_n hx hb dX9_takeAway_2 rfl (lv_at hl 1 rfl)) ?_
  refine zz (fun _ _ => lv_imul hx hb dX9_takeAway_3) ?_
  refine zval (v' := .int (nI (6 * i))) (congrArg Value.int (pk_mul 6 i)) ?_
  refine zs (fun _ _ => lv_istore_n (lv' := [(3, .int (nI (6 * i))), (0, .ref (r)), (1, .int (nI i)), (2, .int (nI w))]) hx hb dX9_takeAway_4 rfl hl (by decide) rfl) (fun ls hl => ?_)
  have hl0 := lv_sub hl [1, 2, 3, 0] rfl
  refine z_loop (γ := (Nat → Int32) × (Nat → Nat → Int32)) (G := fun a => mm aC r a.1 a.2 R) (I := fun j a => tkI v A ((ts.take j).foldl (takeRow to σ) S) a.1 a.2) (lv := fun j a => [(0, .ref (r)), (1, .int (nI i)), (2, .int (nI w)), (3, .int (nI (6 * i + j)))]) (ts.length) ?_ ?_ (v, A) _ _ ⟨FR.refl, by rw [List.take_zero]; exact hR⟩ hl0
  · intro j1 a1 sz ls hj1 hI1 hl ih1
    obtain ⟨v1, A1⟩ := a1
    dsimp only at hI1 hl ih1
    refine zeq (M' := (mm aC r v1 A1 R)) rfl ?_
    have hT1 : TRr A1 i ts := hT.kept hI1.1.low
    have hto1 : A1 3 i = nI to := by rw [hI1.1.low 3 (by decide)]; exact hto
    have hV1 := hV.kept hI1.1
    obtain ⟨t1, et1⟩ : ∃ t, ts[j1]? = some t := ⟨_, List.getElem?_eq_getElem hj1⟩
    have hrow1 := hT1.2.2.2 j1 t1 et1
    have hok1 := hT.2.2.1 t1 (List.mem_of_getElem? et1)
    refine zz (fun _ _ => lv_iload_n hx hb dX9_takeAway_5 rfl (lv_at hl 3 rfl)) ?_
    refine zz (fun _ _ => lv_bipush (v := 6) hx hb dX9_takeAway_6 (by decide)) ?_
    refine zz (fun _ _ => lv_iload_n hx hb dX9_takeAway_8 rfl (lv_at hl 1 rfl)) ?_
    refine zz (fun _ _ => lv_imul hx hb dX9_takeAway_9) ?_
    refine zval (v' := .int (nI (6 * i))) (congrArg Value.int (pk_mul 6 i)) ?_
    refine zz (fun _ _ => lv_aload_n hx hb dX9_takeAway_10 rfl (lv_at hl 0 rfl)) ?_
    refine z_get (v := .ref (r + 5)) C fd_X9_23 rm_0 rfl dX9_takeAway_11 ?_
    refine zz (fun _ _ => lv_iload_n hx hb dX9_takeAway_14 rfl (lv_at hl 1 rfl)) ?_
    refine z_iald (f := A1 5) C rm_5 (by first | assumption | (apply vp_in_nI <;> omega)) dX9_takeAway_15 ?_
    refine zval (v' := .int (nI ts.length)) (congrArg Value.int (rdI hT1.1 (by omega))) ?_
    refine zz (fun _ _ => lv_iadd hx hb dX9_takeAway_16) ?_
    refine zval (v' := .int (nI (6 * i + ts.length))) (congrArg Value.int (nI_add _ _)) ?_
    refine zb (fun _ _ => lv_icmp_ge (tgt := 99) hx hb dX9_takeAway_17 (by decide)) (fun c_2 => ?_) (fun c_2 => ?_)
    · exact absurd c_2 (nI_ge (by omega) (by omega))
    · refine zz (fun _ _ => lv_aload_n hx hb dX9_takeAway_20 rfl (lv_at hl 0 rfl)) ?_
      refine z_get (v := .ref (r + 9)) C fd_X9_35 rm_0 rfl dX9_takeAway_21 ?_
      refine zz (fun _ _ => lv_iload_n hx hb dX9_takeAway_24 rfl (lv_at hl 3 rfl)) ?_
      refine z_zald (f := A1 9) C rm_9 (by first | assumption | (apply vp_in_nI <;> omega)) dX9_takeAway_25 ?_
      refine zval (v' := .int (tI t1.2.2.2)) (congrArg Value.int (rdI hrow1.2.2.2 (by omega))) ?_
      refine zbn (fun _ _ => lv_if_ne (tgt := 93) hx hb dX9_takeAway_26 (by decide)) (fun c_3 => ?_) (fun c_3 => ?_)
      · refine zs (fun _ _ => lv_iinc (v := nI (6 * i + j1) + 1) (lv' := [(3, .int (nI (6 * i + j1) + 1)), (0, .ref (r)), (1, .int (nI i)), (2, .int (nI w))]) hx hb dX9_takeAway_93 hl (k := 3) rfl rfl (by decide) rfl) (fun ls hl => ?_)
        refine zz (fun _ _ => lv_goto (tgt := 5) hx hb dX9_takeAway_96 (by decide)) ?_
        have hl := lv_sub hl [1, 2, 3, 0] rfl
        try simp only [nI_1] at hl
        exact ih1 (v1, A1) _ _ (tk_next et1 (Or.inl (tI_1.mp c_3)) hI1) hl
      · refine zz (fun _ _ => lv_aload_n hx hb dX9_takeAway_29 rfl (lv_at hl 0 rfl)) ?_
        refine zz (fun _ _ => lv_iload_n hx hb dX9_takeAway_30 rfl (lv_at hl 3 rfl)) ?_
        refine zz (fun _ _ => lv_iload_n hx hb dX9_takeAway_31 rfl (lv_at hl 2 rfl)) ?_
        refine zdV (As := [.int (nI (6 * i + j1)), .int (nI w)]) (rest := []) (st' := [.int ((fX9_isLeftOut A1 (nI (6 * i + j1)) (nI w)))]) C hl.1 lk_X9_202 (ctX9_isLeftOut (vp_in_nI (by omega) (by decide)) (vplace_in hw) (vplace_in hw) (vplace_in hw)) rm_0 rfl rfl rfl (Nat.le_of_ble_eq_true rfl) ⟨by decide, by decide, by decide, by decide⟩ dX9_takeAway_32 rfl (fun sz => ?_)
        refine zbn (fun _ _ => lv_if_ne (tgt := 93) hx hb dX9_takeAway_35 (by decide)) (fun c_4 => ?_) (fun c_4 => ?_)
        · refine zs (fun _ _ => lv_iinc (v := nI (6 * i + j1) + 1) (lv' := [(3, .int (nI (6 * i + j1) + 1)), (0, .ref (r)), (1, .int (nI i)), (2, .int (nI w))]) hx hb dX9_takeAway_93 hl (k := 3) rfl rfl (by decide) rfl) (fun ls hl => ?_)
          refine zz (fun _ _ => lv_goto (tgt := 5) hx hb dX9_takeAway_96 (by decide)) ?_
          have hl := lv_sub hl [1, 2, 3, 0] rfl
          try simp only [nI_1] at hl
          exact ih1 (v1, A1) _ _ (tk_next et1 (Or.inr (Decidable.not_not.mp (fun q => c_4 ((left_s hw hV1 hσ hok1 (by omega) hrow1.1 hrow1.2.1 hrow1.2.2.1).mpr q)))) hI1) hl
        · refine zz (fun _ _ => lv_aload_n hx hb dX9_takeAway_38 rfl (lv_at hl 0 rfl)) ?_
          refine zz (fun _ _ => lv_aload_n hx hb dX9_takeAway_39 rfl (lv_at hl 0 rfl)) ?_
          refine z_get (v := .ref (r + 3)) C fd_X9_16 rm_0 rfl dX9_takeAway_40 ?_
          refine zz (fun _ _ => lv_iload_n hx hb dX9_takeAway_43 rfl (lv_at hl 1 rfl)) ?_
          have hc9 := tcd_s hσ hok1 (tI_0.mp c_3) ((left_s hw hV1 hσ hok1 (by omega) hrow1.1 hrow1.2.1 hrow1.2.2.1).mp c_4)
          refine z_iald (f := A1 3) C rm_3 (by first | assumption | (apply vp_in_nI <;> omega)) dX9_takeAway_44 ?_
          refine zval (v' := .int (nI to)) (congrArg Value.int (rdI hto1 (by omega))) ?_
          refine zz (fun _ _ => lv_aload_n hx hb dX9_takeAway_45 rfl (lv_at hl 0 rfl)) ?_
          refine zz (fun _ _ => lv_aload_n hx hb dX9_takeAway_46 rfl (lv_at hl 0 rfl)) ?_
          refine z_get (v := .ref (r + 35)) C fd_X9_117 rm_0 rfl dX9_takeAway_47 ?_
          refine zz (fun _ _ => lv_iload_n hx hb dX9_takeAway_50 rfl (lv_at hl 2 rfl)) ?_
          refine zz (fun _ _ => lv_aload_n hx hb dX9_takeAway_51 rfl (lv_at hl 0 rfl)) ?_
          refine z_get (v := .ref (r + 6)) C fd_X9_26 rm_0 rfl dX9_takeAway_52 ?_
          refine zz (fun _ _ => lv_iload_n hx hb dX9_takeAway_55 rfl (lv_at hl 3 rfl)) ?_
          refine z_iald (f := A1 6) C rm_6 (by first | assumption | (apply vp_in_nI <;> omega)) dX9_takeAway_56 ?_
          refine zval (v' := .int (t1.1)) (congrArg Value.int (rdI hrow1.1 (by omega))) ?_
          refine zdV (As := [.ref (r + 35), .int (nI w), .int (t1.1)]) (rest := [.int (nI to), .ref (r)]) (st' := [.int ((fX9_valueInV A1 (nI w) (t1.1))), .int (nI to), .ref (r)]) C hl.1 lk_X9_183 (ctX9_valueInV (vplace_in hw)) rm_0 rfl rfl rfl (Nat.le_of_ble_eq_true rfl) ⟨by decide, by decide, by decide, by decide⟩ dX9_takeAway_57 rfl (fun sz => ?_)
          refine zval (v' := .int (nI (pt (tcd σ t1) 0))) (congrArg Value.int ((vin_s hw hV1 _).trans hc9.2.1)) ?_
          refine zz (fun _ _ => lv_aload_n hx hb dX9_takeAway_60 rfl (lv_at hl 0 rfl)) ?_
          refine zz (fun _ _ => lv_aload_n hx hb dX9_takeAway_61 rfl (lv_at hl 0 rfl)) ?_
          refine z_get (v := .ref (r + 35)) C fd_X9_117 rm_0 rfl dX9_takeAway_62 ?_
          refine zz (fun _ _ => lv_iload_n hx hb dX9_takeAway_65 rfl (lv_at hl 2 rfl)) ?_
          refine zz (fun _ _ => lv_aload_n hx hb dX9_takeAway_66 rfl (lv_at hl 0 rfl)) ?_
          refine z_get (v := .ref (r + 7)) C fd_X9_29 rm_0 rfl dX9_takeAway_67 ?_
          refine zz (fun _ _ => lv_iload_n hx hb dX9_takeAway_70 rfl (lv_at hl 3 rfl)) ?_
          refine z_iald (f := A1 7) C rm_7 (by first | assumption | (apply vp_in_nI <;> omega)) dX9_takeAway_71 ?_
          refine zval (v' := .int (t1.2.1)) (congrArg Value.int (rdI hrow1.2.1 (by omega))) ?_
          refine zdV (As := [.ref (r + 35), .int (nI w), .int (t1.2.1)]) (rest := [.int (nI (pt (tcd σ t1) 0)), .int (nI to), .ref (r)]) (st' := [.int ((fX9_valueInV A1 (nI w) (t1.2.1))), .int (nI (pt (tcd σ t1) 0)), .int (nI to), .ref (r)]) C hl.1 lk_X9_183 (ctX9_valueInV (vplace_in hw)) rm_0 rfl rfl rfl (Nat.le_of_ble_eq_true rfl) ⟨by decide, by decide, by decide, by decide⟩ dX9_takeAway_72 rfl (fun sz => ?_)
          refine zval (v' := .int (nI (pt (tcd σ t1) 1))) (congrArg Value.int ((vin_s hw hV1 _).trans hc9.2.2.1)) ?_
          refine zz (fun _ _ => lv_aload_n hx hb dX9_takeAway_75 rfl (lv_at hl 0 rfl)) ?_
          refine zz (fun _ _ => lv_aload_n hx hb dX9_takeAway_76 rfl (lv_at hl 0 rfl)) ?_
          refine z_get (v := .ref (r + 35)) C fd_X9_117 rm_0 rfl dX9_takeAway_77 ?_
          refine zz (fun _ _ => lv_iload_n hx hb dX9_takeAway_80 rfl (lv_at hl 2 rfl)) ?_
          refine zz (fun _ _ => lv_aload_n hx hb dX9_takeAway_81 rfl (lv_at hl 0 rfl)) ?_
          refine z_get (v := .ref (r + 8)) C fd_X9_32 rm_0 rfl dX9_takeAway_82 ?_
          refine zz (fun _ _ => lv_iload_n hx hb dX9_takeAway_85 rfl (lv_at hl 3 rfl)) ?_
          refine z_iald (f := A1 8) C rm_8 (by first | assumption | (apply vp_in_nI <;> omega)) dX9_takeAway_86 ?_
          refine zval (v' := .int (t1.2.2.1)) (congrArg Value.int (rdI hrow1.2.2.1 (by omega))) ?_
          refine zdV (As := [.ref (r + 35), .int (nI w), .int (t1.2.2.1)]) (rest := [.int (nI (pt (tcd σ t1) 1)), .int (nI (pt (tcd σ t1) 0)), .int (nI to), .ref (r)]) (st' := [.int ((fX9_valueInV A1 (nI w) (t1.2.2.1))), .int (nI (pt (tcd σ t1) 1)), .int (nI (pt (tcd σ t1) 0)), .int (nI to), .ref (r)]) C hl.1 lk_X9_183 (ctX9_valueInV (vplace_in hw)) rm_0 rfl rfl rfl (Nat.le_of_ble_eq_true rfl) ⟨by decide, by decide, by decide, by decide⟩ dX9_takeAway_87 rfl (fun sz => ?_)
          refine zval (v' := .int (nI (pt (tcd σ t1) 2))) (congrArg Value.int ((vin_s hw hV1 _).trans hc9.2.2.2)) ?_
          obtain ⟨n9, hs9, hn9⟩ := RC_n hI1.2
          refine zdV (As := [.int (nI to), .int (nI (pt (tcd σ t1) 0)), .int (nI (pt (tcd σ t1) 1)), .int (nI (pt (tcd σ t1) 2))]) (rest := []) (st' := []) C hl.1 lk_X9_213 (ctX9_take hs9 hn9) rm_0 rfl rfl rfl (Nat.le_of_ble_eq_true rfl) ⟨by decide, by decide, by decide, by decide⟩ dX9_takeAway_90 rfl (fun sz => ?_)
          refine zs (fun _ _ => lv_iinc (v := nI (6 * i + j1) + 1) (lv' := [(3, .int (nI (6 * i + j1) + 1)), (0, .ref (r)), (1, .int (nI i)), (2, .int (nI w))]) hx hb dX9_takeAway_93 hl (k := 3) rfl rfl (by decide) rfl) (fun ls hl => ?_)
          refine zz (fun _ _ => lv_goto (tgt := 5) hx hb dX9_takeAway_96 (by decide)) ?_
          have hl := lv_sub hl [1, 2, 3, 0] rfl
          try simp only [nI_1] at hl
          exact ih1 ((fX9_take v1 A1 (nI to) (nI (pt (tcd σ t1) 0)) (nI (pt (tcd σ t1) 1)) (nI (pt (tcd σ t1) 2))).1, (fX9_take v1 A1 (nI to) (nI (pt (tcd σ t1) 0)) (nI (pt (tcd σ t1) 1)) (nI (pt (tcd σ t1) 2))).2) _ _ (tk_gone hto7 et1 (tI_0.mp c_3) ((left_s hw hV1 hσ hok1 (by omega) hrow1.1 hrow1.2.1 hrow1.2.2.1).mp c_4) hc9.1 hI1) hl
  · intro a1 sz ls hI1 hl
    obtain ⟨v1, A1⟩ := a1
    dsimp only at hI1 hl
    refine zeq (M' := (mm aC r v1 A1 R)) rfl ?_
    have hT1 : TRr A1 i ts := hT.kept hI1.1.low
    have hto1 : A1 3 i = nI to := by rw [hI1.1.low 3 (by decide)]; exact hto
    have hV1 := hV.kept hI1.1
    refine zz (fun _ _ => lv_iload_n hx hb dX9_takeAway_5 rfl (lv_at hl 3 rfl)) ?_
    refine zz (fun _ _ => lv_bipush (v := 6) hx hb dX9_takeAway_6 (by decide)) ?_
    refine zz (fun _ _ => lv_iload_n hx hb dX9_takeAway_8 rfl (lv_at hl 1 rfl)) ?_
    refine zz (fun _ _ => lv_imul hx hb dX9_takeAway_9) ?_
    refine zval (v' := .int (nI (6 * i))) (congrArg Value.int (pk_mul 6 i)) ?_
    refine zz (fun _ _ => lv_aload_n hx hb dX9_takeAway_10 rfl (lv_at hl 0 rfl)) ?_
    refine z_get (v := .ref (r + 5)) C fd_X9_23 rm_0 rfl dX9_takeAway_11 ?_
    refine zz (fun _ _ => lv_iload_n hx hb dX9_takeAway_14 rfl (lv_at hl 1 rfl)) ?_
    refine z_iald (f := A1 5) C rm_5 (by first | assumption | (apply vp_in_nI <;> omega)) dX9_takeAway_15 ?_
    refine zval (v' := .int (nI ts.length)) (congrArg Value.int (rdI hT1.1 (by omega))) ?_
    refine zz (fun _ _ => lv_iadd hx hb dX9_takeAway_16) ?_
    refine zval (v' := .int (nI (6 * i + ts.length))) (congrArg Value.int (nI_add _ _)) ?_
    refine zb (fun _ _ => lv_icmp_ge (tgt := 99) hx hb dX9_takeAway_17 (by decide)) (fun c_5 => ?_) (fun c_5 => ?_)
    · exact z_vret C hr hlk dX9_takeAway_99 (zpN_mk (a := v1) (b := A1) (by have h9 := hI1; rw [List.take_length] at h9; exact h9))
    · exact absurd (nI_le (Nat.le_refl _) (by omega)) c_5
end
section
/-! A row that adds, in its parts. -/
theorem VW.set {A : Nat → Nat → Int32} {w : Nat} {σ : Sg} {g : Nat → Int32} (h : VW A w σ) : VW (u1 A 23 g) w σ := fun k hk => by simp only [u1]; exact h k hk
theorem ad_term {σ : Sg} (hσ : okG σ) {t : TR} (ht : okT t) (hl : ¬ lo σ t) : (isNw t.1 ∨ isPn (vl σ t.1)) ∧ (isNw t.2.2.1 ∨ isPn (vl σ t.2.2.1)) ∧ nn (vl σ t.2.1) < 100 ∧ vl σ t.2.1 = nI (nn (vl σ t.2.1)) := by
  have p3 : isNm (vl σ t.2.1) := Decidable.not_not.mp (fun q => hl (Or.inr (Or.inr q)))
  refine ⟨?_, ?_, ?_, (nI_of_nn p3.1).symm⟩
  · rcases ht.1 with q | q | q
    · exact Or.inr ((vl_p hσ (Or.inl q)).resolve_left (fun q => hl (Or.inl q)))
    · exact Or.inr ((vl_p hσ (Or.inr q)).resolve_left (fun q => hl (Or.inl q)))
    · exact Or.inl q.2
  · rcases ht.2.2 with q | q | q
    · exact Or.inr ((vl_p hσ (Or.inl q)).resolve_left (fun q => hl (Or.inr (Or.inl q))))
    · exact Or.inr ((vl_p hσ (Or.inr q)).resolve_left (fun q => hl (Or.inr (Or.inl q))))
    · exact Or.inl q.2
  · have := nn_lt (n := 99) p3.1 (by have := p3.2; omega) (by decide); omega
theorem nI_n1 {y : Nat} (h : y < 2 ^ 31) : ¬ nI y = -1 := by
  intro q
  have := congrArg Int32.toInt q
  rw [nI_toInt h] at this
  have e : (-1 : Int32).toInt = -1 := by decide
  omega
theorem cms_no {v v' : Nat → Int32} {A A' : Nat → Nat → Int32} {S : St} {σ m : Sg} {t w : Int32} (h : cmsP v A S σ m t w v' A') (hw : w = -1) : blk σ S.2.2 m t = none := by
  rcases h.2 with q | ⟨b1, m1, y, _, hy, e, _⟩
  · exact q.1
  · rw [hw] at e; exact absurd e.symm (nI_n1 (by omega))
theorem cms_ok {v v' : Nat → Int32} {A A' : Nat → Nat → Int32} {S : St} {σ m : Sg} {t w : Int32} (h : cmsP v A S σ m t w v' A') (hw : ¬ w = -1) : ∃ b1 m1 y, blk σ S.2.2 m t = some (b1, m1, y) ∧ y < 160 ∧ w = nI y ∧ RC v' A' (S.1, S.2.1, b1) ∧ (∀ k, k < 4 → A' 38 k = m1 k) ∧ okm m1 := by
  rcases h.2 with q | q
  · exact absurd q.2 hw
  · exact q
theorem addRow_eq {to : Nat} {σ : Sg} {S : St} {m : Sg} {t : TR} (ha : t.2.2.2 = true) (hl : ¬ lo σ t) : addRow to σ S m t = (match blk σ S.2.2 m t.1 with
    | none => none
    | some (b1, m1, x) => match blk σ b1 m1 t.2.2.1 with
      | none => none
      | some (b2, m2, y) => match stPut (S.1, S.2.1, b2) to (cd x (nn (vl σ t.2.1)) y) with
        | none => none
        | some S' => some (S', m2)) := by
  have hh : ¬ (t.2.2.2 = false ∨ lo σ t) := by
    rintro (q | q)
    · rw [ha] at q; cases q
    · exact hl q
  unfold addRow
  exact if_neg hh
theorem ad_fail {to : Nat} {σ : Sg} {ts : List TR} {j : Nat} {t : TR} {S S' : St} {m' : Sg} (hj : ts[j]? = some t) (e : addRows to σ (ts.take j) S (fun _ => -1) = some (S', m')) (h : addRow to σ S' m' t = none) : addSol to ts S σ = none := by
  unfold addSol
  rw [addRows_none (j := j + 1) (by rw [addRows_step hj, e]; exact h)]
  rfl
def adP (v : Nat → Int32) (A : Nat → Nat → Int32) (to : Nat) (σ : Sg) (ts : List TR) (S : St) (w' : Int32) (v' : Nat → Int32) (A' : Nat → Nat → Int32) : Prop :=
  FR v A v' A' ∧ ((addSol to ts S σ = none ∧ w' = 0) ∨ ∃ S', addSol to ts S σ = some S' ∧ w' = 1 ∧ RC v' A' S')
theorem ad_no1 {v v' : Nat → Int32} {A A' : Nat → Nat → Int32} {to : Nat} {σ : Sg} {ts : List TR} {j : Nat} {t : TR} {S S' : St} {m' : Sg} (hj : ts[j]? = some t) (e : addRows to σ (ts.take j) S (fun _ => -1) = some (S', m')) (ha : t.2.2.2 = true) (hl : ¬ lo σ t) (hf : FR v A v' A') (hb : blk σ S'.2.2 m' t.1 = none) : adP v A to σ ts S 0 v' A' :=
  ⟨hf, Or.inl ⟨ad_fail hj e (by rw [addRow_eq ha hl, hb]), rfl⟩⟩
theorem ad_no2 {v v' : Nat → Int32} {A A' : Nat → Nat → Int32} {to : Nat} {σ : Sg} {ts : List TR} {j : Nat} {t : TR} {S S' : St} {m' : Sg} {b1 y : Nat} {m1 : Sg} (hj : ts[j]? = some t) (e : addRows to σ (ts.take j) S (fun _ => -1) = some (S', m')) (ha : t.2.2.2 = true) (hl : ¬ lo σ t) (hf : FR v A v' A') (hb : blk σ S'.2.2 m' t.1 = some (b1, m1, y)) (hc : blk σ b1 m1 t.2.2.1 = none) : adP v A to σ ts S 0 v' A' :=
  ⟨hf, Or.inl ⟨ad_fail hj e (by rw [addRow_eq ha hl, hb]; simp only [hc]), rfl⟩⟩
theorem ad_no3 {v v' : Nat → Int32} {A A' : Nat → Nat → Int32} {to : Nat} {σ : Sg} {ts : List TR} {j : Nat} {t : TR} {S S' : St} {m' : Sg} {b1 y b2 z : Nat} {m1 m2 : Sg} (hj : ts[j]? = some t) (e : addRows to σ (ts.take j) S (fun _ => -1) = some (S', m')) (ha : t.2.2.2 = true) (hl : ¬ lo σ t) (hf : FR v A v' A') (hb : blk σ S'.2.2 m' t.1 = some (b1, m1, y)) (hc : blk σ b1 m1 t.2.2.1 = some (b2, m2, z))
    (hd : stPut (S'.1, tS S'.2.1 to true, b2) to (cd y (nn (vl σ t.2.1)) z) = none) : adP v A to σ ts S 0 v' A' :=
  ⟨hf, Or.inl ⟨ad_fail hj e (by rw [stPut_T] at hd; rw [addRow_eq ha hl, hb]; simp only [hc, hd]), rfl⟩⟩
theorem ad_ok {v v' : Nat → Int32} {A A' : Nat → Nat → Int32} {to : Nat} {σ : Sg} {ts : List TR} {j : Nat} {t : TR} {S S' S2 : St} {m' : Sg} {b1 y b2 z : Nat} {m1 m2 : Sg} (hj : ts[j]? = some t) (e : addRows to σ (ts.take j) S (fun _ => -1) = some (S', m')) (ha : t.2.2.2 = true) (hl : ¬ lo σ t) (hf : FR v A v' A') (hb : blk σ S'.2.2 m' t.1 = some (b1, m1, y)) (hc : blk σ b1 m1 t.2.2.1 = some (b2, m2, z))
    (hd : stPut (S'.1, tS S'.2.1 to true, b2) to (cd y (nn (vl σ t.2.1)) z) = some S2) (hR : RC v' A' S2) (hm : ∀ k, k < 4 → A' 38 k = m2 k) (hk : okm m2) : adI v A to σ (ts.take (j + 1)) S v' A' := by
  refine ⟨hf, S2, m2, ?_, hR, hm, hk⟩
  rw [addRows_step hj, e]
  rw [stPut_T] at hd
  show addRow to σ S' m' t = _
  rw [addRow_eq ha hl, hb]
  simp only [hc, hd]
theorem cmP_no {v v' : Nat → Int32} {A A' : Nat → Nat → Int32} {S : St} {g c : Nat} {w : Int32} (h : comeP v A S g c w v' A') (hw : w = 0) : stPut S g c = none := by
  rcases h.2.2 with q | ⟨_, _, e, _⟩
  · exact q.1
  · rw [hw] at e; exact absurd e (by decide)
theorem cmP_ok {v v' : Nat → Int32} {A A' : Nat → Nat → Int32} {S : St} {g c : Nat} {w : Int32} (h : comeP v A S g c w v' A') (hw : ¬ w = 0) : ∃ S', stPut S g c = some S' ∧ RC v' A' S' := by
  rcases h.2.2 with q | ⟨S', e, _, h⟩
  · exact absurd q.2 hw
  · exact ⟨S', e, h⟩
theorem ad_end {v v' : Nat → Int32} {A A' : Nat → Nat → Int32} {to : Nat} {σ : Sg} {ts : List TR} {S : St} (h : adI v A to σ (ts.take ts.length) S v' A') : adP v A to σ ts S 1 v' A' := by
  obtain ⟨hf, S', m', e, hR, _⟩ := h
  rw [List.take_length] at e
  exact ⟨hf, Or.inr ⟨S', by unfold addSol; rw [e]; rfl, rfl, hR⟩⟩
end
