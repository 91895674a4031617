def fX9_isBefore (A : Nat → Nat → Int32) (a_ : Int32) (b_ : Int32) : Int32 := if A 20 (Int32.toNatClampNeg (a_)) = A 20 (Int32.toNatClampNeg (b_)) then if A 21 (Int32.toNatClampNeg (a_)) = A 21 (Int32.toNatClampNeg (b_)) then if A 22 (Int32.toNatClampNeg (b_)) ≤ A 22 (Int32.toNatClampNeg (a_)) then (0) else (1) else if A 21 (Int32.toNatClampNeg (b_)) ≤ A 21 (Int32.toNatClampNeg (a_)) then (0) else (1) else if A 20 (Int32.toNatClampNeg (b_)) ≤ A 20 (Int32.toNatClampNeg (a_)) then (0) else (1)
theorem nbfX9_isBefore {A : Nat → Nat → Int32} {a_ : Int32} {b_ : Int32} : narrow .boolean (.int (fX9_isBefore A a_ b_)) = .int (fX9_isBefore A a_ b_) := by
  unfold fX9_isBefore
  repeat' split
  all_goals try dsimp only
  all_goals first | rfl | assumption
set_option maxHeartbeats 1000000 in
set_option maxRecDepth 10000 in
theorem ctX9_isBefore {l : Launch} {D : va_G} {aC : Nat → ClassId} {b0 sz : Nat} {r : Nat} {v : Nat → Int32} {A : Nat → Nat → Int32} {R : ZM} {a_ : Int32} {b_ : Int32} (hia : vp_in a_ 120) (hib : vp_in b_ 120) : Ct l D aC b0 yX9_isBefore cX9_isBefore 3 (some .boolean) 0 0 0 [.ref (r), .int (a_), .int (b_)] (mm aC r v A R) sz (zd (some (.int (fX9_isBefore A a_ b_))) (mm aC r v A R)) := by
  refine Ct.of (by decide) (Nat.le_of_ble_eq_true rfl) ?_
  intro p e s m below meth c ls C hr hlk hnm hl
  have hl : lv_has ls 3 [(0, .ref (r)), (1, .int (a_)), (2, .int (b_))] := hl
  obtain ⟨hx, hb, -, -, -⟩ := id C
  refine zz (fun _ _ => lv_aload_n hx hb dX9_isBefore_0 rfl (lv_at hl 0 rfl)) ?_
  refine z_get (v := .ref (r + 20)) C fd_X9_68 rm_0 rfl dX9_isBefore_1 ?_
  refine zz (fun _ _ => lv_iload_n hx hb dX9_isBefore_4 rfl (lv_at hl 1 rfl)) ?_
  refine z_iald (f := A 20) C rm_20 (by first | assumption | (apply vp_in_nI <;> omega)) dX9_isBefore_5 ?_
  refine zz (fun _ _ => lv_aload_n hx hb dX9_isBefore_6 rfl (lv_at hl 0 rfl)) ?_
  refine z_get (v := .ref (r + 20)) C fd_X9_68 rm_0 rfl dX9_isBefore_7 ?_
  refine zz (fun _ _ => lv_iload_n hx hb dX9_isBefore_10 rfl (lv_at hl 2 rfl)) ?_
  refine z_iald (f := A 20) C rm_20 (by first | assumption | (apply vp_in_nI <;> omega)) dX9_isBefore_11 ?_
  refine zb (fun _ _ => lv_icmp_eq (tgt := 36) hx hb dX9_isBefore_12 (by decide)) (fun c_1 => ?_) (fun c_1 => ?_)
  · refine zz (fun _ _ => lv_aload_n hx hb dX9_isBefore_36 rfl (lv_at hl 0 rfl)) ?_
    refine z_get (v := .ref (r + 21)) C fd_X9_71 rm_0 rfl dX9_isBefore_37 ?_
    refine zz (fun _ _ => lv_iload_n hx hb dX9_isBefore_40 rfl (lv_at hl 1 rfl)) ?_
    refine z_iald (f := A 21) C rm_21 (by first | assumption | (apply vp_in_nI <;> omega)) dX9_isBefore_41 ?_
    refine zz (fun _ _ => lv_aload_n hx hb dX9_isBefore_42 rfl (lv_at hl 0 rfl)) ?_
    refine z_get (v := .ref (r + 21)) C fd_X9_71 rm_0 rfl dX9_isBefore_43 ?_
    refine zz (fun _ _ => lv_iload_n hx hb dX9_isBefore_46 rfl (lv_at hl 2 rfl)) ?_
    refine z_iald (f := A 21) C rm_21 (by first | assumption | (apply vp_in_nI <;> omega)) dX9_isBefore_47 ?_
    refine zb (fun _ _ => lv_icmp_eq (tgt := 74) hx hb dX9_isBefore_48 (by decide)) (fun c_2 => ?_) (fun c_2 => ?_)
    · refine zz (fun _ _ => lv_aload_n hx hb dX9_isBefore_74 rfl (lv_at hl 0 rfl)) ?_
      refine z_get (v := .ref (r + 22)) C fd_X9_74 rm_0 rfl dX9_isBefore_75 ?_
      refine zz (fun _ _ => lv_iload_n hx hb dX9_isBefore_78 rfl (lv_at hl 1 rfl)) ?_
      refine z_iald (f := A 22) C rm_22 (by first | assumption | (apply vp_in_nI <;> omega)) dX9_isBefore_79 ?_
      refine zz (fun _ _ => lv_aload_n hx hb dX9_isBefore_80 rfl (lv_at hl 0 rfl)) ?_
      refine z_get (v := .ref (r + 22)) C fd_X9_74 rm_0 rfl dX9_isBefore_81 ?_
      refine zz (fun _ _ => lv_iload_n hx hb dX9_isBefore_84 rfl (lv_at hl 2 rfl)) ?_
      refine z_iald (f := A 22) C rm_22 (by first | assumption | (apply vp_in_nI <;> omega)) dX9_isBefore_85 ?_
      refine zb (fun _ _ => lv_icmp_ge (tgt := 93) hx hb dX9_isBefore_86 (by decide)) (fun c_3 => ?_) (fun c_3 => ?_)
      · refine zz (fun _ _ => lv_iconst (v := 0) hx hb dX9_isBefore_93 (by decide)) ?_
        exact z_zret C hr rfl hlk dX9_isBefore_94 (by simp only [zd, fX9_isBefore, if_pos c_1, if_pos c_2, if_pos c_3, and_self])
      · refine zz (fun _ _ => lv_iconst (v := 1) hx hb dX9_isBefore_89 (by decide)) ?_
        refine zz (fun _ _ => lv_goto (tgt := 94) hx hb dX9_isBefore_90 (by decide)) ?_
        exact z_zret C hr rfl hlk dX9_isBefore_94 (by simp only [zd, fX9_isBefore, if_pos c_1, if_pos c_2, if_neg c_3, and_self])
    · refine zz (fun _ _ => lv_aload_n hx hb dX9_isBefore_51 rfl (lv_at hl 0 rfl)) ?_
      refine z_get (v := .ref (r + 21)) C fd_X9_71 rm_0 rfl dX9_isBefore_52 ?_
      refine zz (fun _ _ => lv_iload_n hx hb dX9_isBefore_55 rfl (lv_at hl 1 rfl)) ?_
      refine z_iald (f := A 21) C rm_21 (by first | assumption | (apply vp_in_nI <;> omega)) dX9_isBefore_56 ?_
      refine zz (fun _ _ => lv_aload_n hx hb dX9_isBefore_57 rfl (lv_at hl 0 rfl)) ?_
      refine z_get (v := .ref (r + 21)) C fd_X9_71 rm_0 rfl dX9_isBefore_58 ?_
      refine zz (fun _ _ => lv_iload_n hx hb dX9_isBefore_61 rfl (lv_at hl 2 rfl)) ?_
      refine z_iald (f := A 21) C rm_21 (by first | assumption | (apply vp_in_nI <;> omega)) dX9_isBefore_62 ?_
      refine zb (fun _ _ => lv_icmp_ge (tgt := 70) hx hb dX9_isBefore_63 (by decide)) (fun c_4 => ?_) (fun c_4 => ?_)
      · refine zz (fun _ _ => lv_iconst (v := 0) hx hb dX9_isBefore_70 (by decide)) ?_
        refine zz (fun _ _ => lv_goto (tgt := 94) hx hb dX9_isBefore_71 (by decide)) ?_
        exact z_zret C hr rfl hlk dX9_isBefore_94 (by simp only [zd, fX9_isBefore, if_pos c_1, if_neg c_2, if_pos c_4, and_self])
      · refine zz (fun _ _ => lv_iconst (v := 1) hx hb dX9_isBefore_66 (by decide)) ?_
        refine zz (fun _ _ => lv_goto (tgt := 94) hx hb dX9_isBefore_67 (by decide)) ?_
        exact z_zret C hr rfl hlk dX9_isBefore_94 (by simp only [zd, fX9_isBefore, if_pos c_1, if_neg c_2, if_neg c_4, and_self])
  · refine zz (fun _ _ => lv_aload_n hx hb dX9_isBefore_15 rfl (lv_at hl 0 rfl)) ?_
    refine z_get (v := .ref (r + 20)) C fd_X9_68 rm_0 rfl dX9_isBefore_16 ?_
    refine zz (fun _ _ => lv_iload_n hx hb dX9_isBefore_19 rfl (lv_at hl 1 rfl)) ?_
    refine z_iald (f := A 20) C rm_20 (by first | assumption | (apply vp_in_nI <;> omega)) dX9_isBefore_20 ?_
    refine zz (fun _ _ => lv_aload_n hx hb dX9_isBefore_21 rfl (lv_at hl 0 rfl)) ?_
    refine z_get (v := .ref (r + 20)) C fd_X9_68 rm_0 rfl dX9_isBefore_22 ?_
    refine zz (fun _ _ => lv_iload_n hx hb dX9_isBefore_25 rfl (lv_at hl 2 rfl)) ?_
    refine z_iald (f := A 20) C rm_20 (by first | assumption | (apply vp_in_nI <;> omega)) dX9_isBefore_26 ?_
    refine zb (fun _ _ => lv_icmp_ge (tgt := 34) hx hb dX9_isBefore_27 (by decide)) (fun c_5 => ?_) (fun c_5 => ?_)
    · refine zz (fun _ _ => lv_iconst (v := 0) hx hb dX9_isBefore_34 (by decide)) ?_
      exact z_zret C hr rfl hlk dX9_isBefore_35 (by simp only [zd, fX9_isBefore, if_neg c_1, if_pos c_5, and_self])
    · refine zz (fun _ _ => lv_iconst (v := 1) hx hb dX9_isBefore_30 (by decide)) ?_
      refine zz (fun _ _ => lv_goto (tgt := 35) hx hb dX9_isBefore_31 (by decide)) ?_
      exact z_zret C hr rfl hlk dX9_isBefore_35 (by simp only [zd, fX9_isBefore, if_neg c_1, if_neg c_5, and_self])
theorem isBefore_irr (A : Nat → Nat → Int32) (a : Int32) : fX9_isBefore A a a = 0 := by
  unfold fX9_isBefore
  simp
def stX9_lineUp_7 (A : Nat → Nat → Int32) (a_ : Int32) (i1_ : Int32) : Nat → Int32
  | 0 => (i1_)
  | j + 1 => if A 19 (Int32.toNatClampNeg (nI j)) = a_ then (((stX9_lineUp_7 A a_ i1_ j)) + (1)) else (((stX9_lineUp_7 A a_ i1_ j)) + (0))
set_option maxHeartbeats 2000000 in
set_option maxRecDepth 10000 in
theorem lpX9_lineUp_7 {p : Program} {l : Launch} {e : Env} {Rm : Room} {s : State} {m : MethodId} {args : Array Value} {below : List Frame} {meth : Method} {c : Code} {D : va_G} {aC : Nat → ClassId} {b0 cells slots : Nat} {Q : State → Prop} {r : Nat} {v : Nat → Int32} {A : Nat → Nat → Int32} {R : ZM} {a_ : Int32} {i1_ : Int32} {N_ : Nat} (C : zC p l s m c D aC b0 RX9 cX9_lineUp 5) (hNb : v 20 = nI N_) (hN2 : N_ ≤ 120) (hNl : N_ < 2 ^ 31) :
    ∀ (d j : Nat), j + d = N_ → ∀ (sz : Nat) (ls : Array Slot), lv_has ls 5 [(0, .ref (r)), (1, .int (a_)), (2, .int (nI j))] → (∀ (sz : Nat) (ls : Array Slot), lv_has ls 5 [(0, .ref (r)), (1, .int (a_)), (2, .int (nI N_))] → Z p l e Rm s m args below meth c D b0 (mm aC r (upd v 47 (stX9_lineUp_7 A a_ i1_ N_)) A R) sz cells slots Q (F0 m 45 ls [])) → Z p l e Rm s m args below meth c D b0 (mm aC r (upd v 47 (stX9_lineUp_7 A a_ i1_ j)) A R) sz cells slots Q (F0 m 7 ls []) := by
  obtain ⟨hx, hb, -, -, -⟩ := id C
  intro d
  induction d with
  | zero =>
    intro j hj0 sz ls hl K
    refine zz (fun _ _ => lv_iload_n hx hb dX9_lineUp_7 rfl (lv_at hl 2 rfl)) ?_
    refine zz (fun _ _ => lv_aload_n hx hb dX9_lineUp_8 rfl (lv_at hl 0 rfl)) ?_
    refine z_get (v := .int (v 20)) C fd_X9_160 rm_0 rfl dX9_lineUp_9 ?_
    refine zb (fun _ _ => lv_icmp_ge (tgt := 45) hx hb dX9_lineUp_12 (by decide)) (fun c_1 => ?_) (fun c_1 => ?_)
    · obtain rfl := fl_eq (j := j) (N := N_) hNb (by omega) hNl c_1
      exact K _ _ (lv_sub hl [0, 1, 2] rfl)
    · exact absurd (fl_lt (j := j) (N := N_) hNb (by omega) hNl c_1) (by omega)
  | succ d ih =>
    intro j hj0 sz ls hl K
    refine zz (fun _ _ => lv_iload_n hx hb dX9_lineUp_7 rfl (lv_at hl 2 rfl)) ?_
    refine zz (fun _ _ => lv_aload_n hx hb dX9_lineUp_8 rfl (lv_at hl 0 rfl)) ?_
    refine z_get (v := .int (v 20)) C fd_X9_160 rm_0 rfl dX9_lineUp_9 ?_
    refine zb (fun _ _ => lv_icmp_ge (tgt := 45) hx hb dX9_lineUp_12 (by decide)) (fun c_1 => ?_) (fun c_1 => ?_)
    · obtain rfl := fl_eq (j := j) (N := N_) hNb (by omega) hNl c_1
      exact K _ _ (lv_sub hl [0, 1, 2] rfl)
    · have hj9 : j < N_ := fl_lt hNb (by omega) hNl c_1
      refine zz (fun _ _ => lv_aload_n hx hb dX9_lineUp_15 rfl (lv_at hl 0 rfl)) ?_
      refine zz (fun _ _ => lv_dup hx hb dX9_lineUp_16 rfl) ?_
      refine z_get (v := .int ((stX9_lineUp_7 A a_ i1_ j))) C fd_X9_174 rm_0 rfl dX9_lineUp_17 ?_
      refine zz (fun _ _ => lv_aload_n hx hb dX9_lineUp_20 rfl (lv_at hl 0 rfl)) ?_
      refine z_get (v := .ref (r + 19)) C fd_X9_65 rm_0 rfl dX9_lineUp_21 ?_
      refine zz (fun _ _ => lv_iload_n hx hb dX9_lineUp_24 rfl (lv_at hl 2 rfl)) ?_
      refine z_iald (f := A 19) C rm_19 (in_nI (j := j) rfl (by omega) (by decide)) dX9_lineUp_25 ?_
      refine zz (fun _ _ => lv_iload_n hx hb dX9_lineUp_26 rfl (lv_at hl 1 rfl)) ?_
      refine zbn (fun _ _ => lv_icmp_ne (tgt := 34) hx hb dX9_lineUp_27 (by decide)) (fun c_2 => ?_) (fun c_2 => ?_)
      · refine zz (fun _ _ => lv_iconst (v := 0) hx hb dX9_lineUp_34 (by decide)) ?_
        refine zz (fun _ _ => lv_iadd hx hb dX9_lineUp_35) ?_
        refine z_put C fp_X9_174 (fun h => by cases h) rm_0 (Nat.le_of_ble_eq_true rfl) rfl rfl dX9_lineUp_36 ?_
        refine zeq wm_f47 ?_
        refine zeq (M' := (mm aC r (upd v 47 (((stX9_lineUp_7 A a_ i1_ j)) + (0))) A R)) (by rw [upd_upd]) ?_
        refine zs (fun _ _ => lv_iinc (v := nI j + 1) (lv' := [(2, .int (nI j + 1)), (0, .ref (r)), (1, .int (a_))]) hx hb dX9_lineUp_39 hl (k := 2) rfl rfl (by decide) rfl) (fun ls hl => ?_)
        refine zz (fun _ _ => lv_goto (tgt := 7) hx hb dX9_lineUp_42 (by decide)) ?_
        have hI := ih (j + 1) (by omega)
        simp only [stX9_lineUp_7, if_neg c_1, if_neg c_2] at hI
        have hl := lv_sub hl [1, 2, 0] rfl
        simp only [nI_1] at hl
        exact hI _ _ hl K
      · refine zz (fun _ _ => lv_iconst (v := 1) hx hb dX9_lineUp_30 (by decide)) ?_
        refine zz (fun _ _ => lv_goto (tgt := 35) hx hb dX9_lineUp_31 (by decide)) ?_
        refine zz (fun _ _ => lv_iadd hx hb dX9_lineUp_35) ?_
        refine z_put C fp_X9_174 (fun h => by cases h) rm_0 (Nat.le_of_ble_eq_true rfl) rfl rfl dX9_lineUp_36 ?_
        refine zeq wm_f47 ?_
        refine zeq (M' := (mm aC r (upd v 47 (((stX9_lineUp_7 A a_ i1_ j)) + (1))) A R)) (by rw [upd_upd]) ?_
        refine zs (fun _ _ => lv_iinc (v := nI j + 1) (lv' := [(2, .int (nI j + 1)), (0, .ref (r)), (1, .int (a_))]) hx hb dX9_lineUp_39 hl (k := 2) rfl rfl (by decide) rfl) (fun ls hl => ?_)
        refine zz (fun _ _ => lv_goto (tgt := 7) hx hb dX9_lineUp_42 (by decide)) ?_
        have hI := ih (j + 1) (by omega)
        simp only [stX9_lineUp_7, if_neg c_1, if_pos c_2] at hI
        have hl := lv_sub hl [1, 2, 0] rfl
        simp only [nI_1] at hl
        exact hI _ _ hl K
def stX9_lineUp_70 (A : Nat → Nat → Int32) (k9 : Nat) (a_ : Int32) (i1_ : Int32) : Nat → Int32
  | 0 => (i1_)
  | j + 1 => if A 19 (Int32.toNatClampNeg (nI j)) = a_ then if (fX9_isBefore A (nI j) (nI k9)) = 0 then (((stX9_lineUp_70 A k9 a_ i1_ j)) + (0)) else (((stX9_lineUp_70 A k9 a_ i1_ j)) + (1)) else (((stX9_lineUp_70 A k9 a_ i1_ j)) + (0))
set_option maxHeartbeats 2000000 in
set_option maxRecDepth 10000 in
theorem lpX9_lineUp_70 {p : Program} {l : Launch} {e : Env} {s : State} {m : MethodId} {args : Array Value} {below : List Frame} {meth : Method} {c : Code} {D : va_G} {aC : Nat → ClassId} {b0 : Nat} {Q : State → Prop} {r : Nat} {v : Nat → Int32} {A : Nat → Nat → Int32} {R : ZM} {k9 : Nat} {a_ : Int32} {i1_ : Int32} {N_ : Nat} (C : zC p l s m c D aC b0 RX9 cX9_lineUp 5) (hk9 : k9 < 120) (hNb : v 20 = nI N_) (hN2 : N_ ≤ 120) (hNl : N_ < 2 ^ 31) :
    ∀ (d j : Nat), j + d = N_ → ∀ (sz : Nat) (ls : Array Slot), lv_has ls 5 [(0, .ref (r)), (1, .int (a_)), (2, .int (nI k9)), (3, .int ((stX9_lineUp_70 A k9 a_ i1_ j))), (4, .int (nI j))] → (∀ (sz : Nat) (ls : Array Slot), lv_has ls 5 [(0, .ref (r)), (1, .int (a_)), (2, .int (nI k9)), (3, .int ((stX9_lineUp_70 A k9 a_ i1_ N_))), (4, .int (nI N_))] → Z p l e (rz 1 0 0) s m args below meth c D b0 (mm aC r v A R) sz 0 0 Q (F0 m 114 ls [])) → Z p l e (rz 1 0 0) s m args below meth c D b0 (mm aC r v A R) sz 0 0 Q (F0 m 70 ls []) := by
  obtain ⟨hx, hb, -, -, -⟩ := id C
  intro d
  induction d with
  | zero =>
    intro j hj0 sz ls hl K
    refine zz (fun _ _ => lv_iload hx hb dX9_lineUp_70 (lv_at hl 4 rfl)) ?_
    refine zz (fun _ _ => lv_aload_n hx hb dX9_lineUp_72 rfl (lv_at hl 0 rfl)) ?_
    refine z_get (v := .int (v 20)) C fd_X9_160 rm_0 rfl dX9_lineUp_73 ?_
    refine zb (fun _ _ => lv_icmp_ge (tgt := 114) hx hb dX9_lineUp_76 (by decide)) (fun c_1 => ?_) (fun c_1 => ?_)
    · obtain rfl := fl_eq (j := j) (N := N_) hNb (by omega) hNl c_1
      exact K _ _ (lv_sub hl [0, 1, 2, 3, 4] rfl)
    · exact absurd (fl_lt (j := j) (N := N_) hNb (by omega) hNl c_1) (by omega)
  | succ d ih =>
    intro j hj0 sz ls hl K
    refine zz (fun _ _ => lv_iload hx hb dX9_lineUp_70 (lv_at hl 4 rfl)) ?_
    refine zz (fun _ _ => lv_aload_n hx hb dX9_lineUp_72 rfl (lv_at hl 0 rfl)) ?_
    refine z_get (v := .int (v 20)) C fd_X9_160 rm_0 rfl dX9_lineUp_73 ?_
    refine zb (fun _ _ => lv_icmp_ge (tgt := 114) hx hb dX9_lineUp_76 (by decide)) (fun c_1 => ?_) (fun c_1 => ?_)
    · obtain rfl := fl_eq (j := j) (N := N_) hNb (by omega) hNl c_1
      exact K _ _ (lv_sub hl [0, 1, 2, 3, 4] rfl)
    · have hj9 : j < N_ := fl_lt hNb (by omega) hNl c_1
      refine zz (fun _ _ => lv_iload_n hx hb dX9_lineUp_79 rfl (lv_at hl 3 rfl)) ?_
      refine zz (fun _ _ => lv_aload_n hx hb dX9_lineUp_80 rfl (lv_at hl 0 rfl)) ?_
      refine z_get (v := .ref (r + 19)) C fd_X9_65 rm_0 rfl dX9_lineUp_81 ?_
      refine zz (fun _ _ => lv_iload hx hb dX9_lineUp_84 (lv_at hl 4 rfl)) ?_
      refine z_iald (f := A 19) C rm_19 (in_nI (j := j) rfl (by omega) (by decide)) dX9_lineUp_86 ?_
      refine zz (fun _ _ => lv_iload_n hx hb dX9_lineUp_87 rfl (lv_at hl 1 rfl)) ?_
      refine zbn (fun _ _ => lv_icmp_ne (tgt := 105) hx hb dX9_lineUp_88 (by decide)) (fun c_2 => ?_) (fun c_2 => ?_)
      · refine zz (fun _ _ => lv_iconst (v := 0) hx hb dX9_lineUp_105 (by decide)) ?_
        refine zz (fun _ _ => lv_iadd hx hb dX9_lineUp_106) ?_
        refine zs (fun _ _ => lv_istore_n (lv' := [(3, .int (((stX9_lineUp_70 A k9 a_ i1_ j)) + (0))), (0, .ref (r)), (1, .int (a_)), (2, .int (nI k9)), (4, .int (nI j))]) hx hb dX9_lineUp_107 rfl hl (by decide) rfl) (fun ls hl => ?_)
        refine zs (fun _ _ => lv_iinc (v := nI j + 1) (lv' := [(4, .int (nI j + 1)), (3, .int (((stX9_lineUp_70 A k9 a_ i1_ j)) + (0))), (0, .ref (r)), (1, .int (a_)), (2, .int (nI k9))]) hx hb dX9_lineUp_108 hl (k := 4) rfl rfl (by decide) rfl) (fun ls hl => ?_)
        refine zz (fun _ _ => lv_goto (tgt := 70) hx hb dX9_lineUp_111 (by decide)) ?_
        have hI := ih (j + 1) (by omega)
        simp only [stX9_lineUp_70, if_neg c_1, if_neg c_2] at hI
        have hl := lv_sub hl [2, 3, 4, 1, 0] rfl
        simp only [nI_1] at hl
        exact hI _ _ hl K
      · refine zz (fun _ _ => lv_aload_n hx hb dX9_lineUp_91 rfl (lv_at hl 0 rfl)) ?_
        refine zz (fun _ _ => lv_iload hx hb dX9_lineUp_92 (lv_at hl 4 rfl)) ?_
        refine zz (fun _ _ => lv_iload_n hx hb dX9_lineUp_94 rfl (lv_at hl 2 rfl)) ?_
        refine zdV (As := [.int (nI j), .int (nI k9)]) (rest := [.int ((stX9_lineUp_70 A k9 a_ i1_ j))]) (st' := [.int ((fX9_isBefore A (nI j) (nI k9))), .int ((stX9_lineUp_70 A k9 a_ i1_ j))]) C hl.1 lk_X9_177 (ctX9_isBefore (in_nI (j := j) rfl (by omega) (by decide)) (in_nI (j := k9) rfl hk9 (by decide))) rm_0 rfl rfl rfl (Nat.le_of_ble_eq_true rfl) ⟨by decide, by decide, by decide, by decide⟩ dX9_lineUp_95 rfl (fun sz => ?_)
        refine zb (fun _ _ => lv_if_eq (tgt := 105) hx hb dX9_lineUp_98 (by decide)) (fun c_3 => ?_) (fun c_3 => ?_)
        · refine zz (fun _ _ => lv_iconst (v := 0) hx hb dX9_lineUp_105 (by decide)) ?_
          refine zz (fun _ _ => lv_iadd hx hb dX9_lineUp_106) ?_
          refine zs (fun _ _ => lv_istore_n (lv' := [(3, .int (((stX9_lineUp_70 A k9 a_ i1_ j)) + (0))), (0, .ref (r)), (1, .int (a_)), (2, .int (nI k9)), (4, .int (nI j))]) hx hb dX9_lineUp_107 rfl hl (by decide) rfl) (fun ls hl => ?_)
          refine zs (fun _ _ => lv_iinc (v := nI j + 1) (lv' := [(4, .int (nI j + 1)), (3, .int (((stX9_lineUp_70 A k9 a_ i1_ j)) + (0))), (0, .ref (r)), (1, .int (a_)), (2, .int (nI k9))]) hx hb dX9_lineUp_108 hl (k := 4) rfl rfl (by decide) rfl) (fun ls hl => ?_)
          refine zz (fun _ _ => lv_goto (tgt := 70) hx hb dX9_lineUp_111 (by decide)) ?_
          have hI := ih (j + 1) (by omega)
          simp only [stX9_lineUp_70, if_neg c_1, if_pos c_2, if_pos c_3] at hI
          have hl := lv_sub hl [2, 3, 4, 1, 0] rfl
          simp only [nI_1] at hl
          exact hI _ _ hl K
        · refine zz (fun _ _ => lv_iconst (v := 1) hx hb dX9_lineUp_101 (by decide)) ?_
          refine zz (fun _ _ => lv_goto (tgt := 106) hx hb dX9_lineUp_102 (by decide)) ?_
          refine zz (fun _ _ => lv_iadd hx hb dX9_lineUp_106) ?_
          refine zs (fun _ _ => lv_istore_n (lv' := [(3, .int (((stX9_lineUp_70 A k9 a_ i1_ j)) + (1))), (0, .ref (r)), (1, .int (a_)), (2, .int (nI k9)), (4, .int (nI j))]) hx hb dX9_lineUp_107 rfl hl (by decide) rfl) (fun ls hl => ?_)
          refine zs (fun _ _ => lv_iinc (v := nI j + 1) (lv' := [(4, .int (nI j + 1)), (3, .int (((stX9_lineUp_70 A k9 a_ i1_ j)) + (1))), (0, .ref (r)), (1, .int (a_)), (2, .int (nI k9))]) hx hb dX9_lineUp_108 hl (k := 4) rfl rfl (by decide) rfl) (fun ls hl => ?_)
          refine zz (fun _ _ => lv_goto (tgt := 70) hx hb dX9_lineUp_111 (by decide)) ?_
          have hI := ih (j + 1) (by omega)
          simp only [stX9_lineUp_70, if_neg c_1, if_pos c_2, if_neg c_3] at hI
          have hl := lv_sub hl [2, 3, 4, 1, 0] rfl
          simp only [nI_1] at hl
          exact hI _ _ hl K
theorem lineUp_n (A : Nat → Nat → Int32) (a : Int32) : ∀ n, ∃ t, t ≤ n ∧ stX9_lineUp_7 A a 0 n = nI t := by
  intro n
  induction n with
  | zero => exact ⟨0, Nat.le_refl _, rfl⟩
  | succ n ih =>
    obtain ⟨t, ht, e⟩ := ih
    simp only [stX9_lineUp_7, e]
    split
    · exact ⟨t + 1, by omega, by rw [nI_1]⟩
    · exact ⟨t, by omega, by simp⟩
theorem lineUp_k (A : Nat → Nat → Int32) (k : Nat) (a : Int32) : ∀ n, ∃ t, t ≤ n ∧ (k < n → t < n) ∧ stX9_lineUp_70 A k a 0 n = nI t := by
  intro n
  induction n with
  | zero => exact ⟨0, Nat.le_refl _, fun h => absurd h (Nat.not_lt_zero _), rfl⟩
  | succ n ih =>
    obtain ⟨t, ht, hk, e⟩ := ih
    simp only [stX9_lineUp_70, e]
    split
    · split
      · exact ⟨t, by omega, fun _ => by omega, by simp⟩
      · rename_i hne
        refine ⟨t + 1, by omega, fun h => ?_, by rw [nI_1]⟩
        by_cases q : k = n
        · subst q
          exact absurd (isBefore_irr A _) hne
        · have := hk (by omega)
          omega
    · exact ⟨t, by omega, fun _ => by omega, by simp⟩
theorem lineUp_ix (A : Nat → Nat → Int32) {k n : Nat} {b : Int32} (a : Int32) (hb : b = nI n) (hk : k < n) (hn : n ≤ 120) : vp_in (stX9_lineUp_70 A k a 0 b.toNatClampNeg) 120 := by
  rw [hb, nI_clamp (by omega)]
  obtain ⟨t, _, h, e⟩ := lineUp_k A k a n
  rw [e]
  exact vp_in_nI (by have := h hk; omega) (by decide)
def stX9_lineUp_47 (v : Nat → Int32) (A : Nat → Nat → Int32) (a_ : Int32) (i1_ : (Nat → Int32)) : Nat → (Nat → Int32)
  | 0 => (i1_)
  | j + 1 => if A 19 (Int32.toNatClampNeg (nI j)) = a_ then ((upd ((stX9_lineUp_47 v A a_ i1_ j)) (Int32.toNatClampNeg ((stX9_lineUp_70 (u1 A 37 (stX9_lineUp_47 v A a_ i1_ j)) j a_ 0 (Int32.toNatClampNeg (v 20))))) (nI j))) else ((stX9_lineUp_47 v A a_ i1_ j))
set_option maxHeartbeats 2000000 in
set_option maxRecDepth 10000 in
theorem lpX9_lineUp_47 {p : Program} {l : Launch} {e : Env} {s : State} {m : MethodId} {args : Array Value} {below : List Frame} {meth : Method} {c : Code} {D : va_G} {aC : Nat → ClassId} {b0 : Nat} {Q : State → Prop} {r : Nat} {v : Nat → Int32} {A : Nat → Nat → Int32} {R : ZM} {a_ : Int32} {i1_ : (Nat → Int32)} {N_ : Nat} (C : zC p l s m c D aC b0 RX9 cX9_lineUp 5) (hNb : v 20 = nI N_) (hN2 : N_ ≤ 120) (hNl : N_ < 2 ^ 31) :
    ∀ (d j : Nat), j + d = N_ → ∀ (sz : Nat) (ls : Array Slot), lv_has ls 5 [(0, .ref (r)), (1, .int (a_)), (2, .int (nI j))] → (∀ (sz : Nat) (ls : Array Slot), lv_has ls 5 [(0, .ref (r)), (1, .int (a_)), (2, .int (nI N_))] → Z p l e (rz 1 0 0) s m args below meth c D b0 (mm aC r v (u1 A 37 (stX9_lineUp_47 v A a_ i1_ N_)) R) sz 0 0 Q (F0 m 127 ls [])) → Z p l e (rz 1 0 0) s m args below meth c D b0 (mm aC r v (u1 A 37 (stX9_lineUp_47 v A a_ i1_ j)) R) sz 0 0 Q (F0 m 47 ls []) := by
  obtain ⟨hx, hb, -, -, -⟩ := id C
  intro d
  induction d with
  | zero =>
    intro j hj0 sz ls hl K
    refine zz (fun _ _ => lv_iload_n hx hb dX9_lineUp_47 rfl (lv_at hl 2 rfl)) ?_
    refine zz (fun _ _ => lv_aload_n hx hb dX9_lineUp_48 rfl (lv_at hl 0 rfl)) ?_
    refine z_get (v := .int (v 20)) C fd_X9_160 rm_0 rfl dX9_lineUp_49 ?_
    refine zb (fun _ _ => lv_icmp_ge (tgt := 127) hx hb dX9_lineUp_52 (by decide)) (fun c_1 => ?_) (fun c_1 => ?_)
    · obtain rfl := fl_eq (j := j) (N := N_) hNb (by omega) hNl c_1
      exact K _ _ (lv_sub hl [0, 1, 2] rfl)
    · exact absurd (fl_lt (j := j) (N := N_) hNb (by omega) hNl c_1) (by omega)
  | succ d ih =>
    intro j hj0 sz ls hl K
    refine zz (fun _ _ => lv_iload_n hx hb dX9_lineUp_47 rfl (lv_at hl 2 rfl)) ?_
    refine zz (fun _ _ => lv_aload_n hx hb dX9_lineUp_48 rfl (lv_at hl 0 rfl)) ?_
    refine z_get (v := .int (v 20)) C fd_X9_160 rm_0 rfl dX9_lineUp_49 ?_
    refine zb (fun _ _ => lv_icmp_ge (tgt := 127) hx hb dX9_lineUp_52 (by decide)) (fun c_1 => ?_) (fun c_1 => ?_)
    · obtain rfl := fl_eq (j := j) (N := N_) hNb (by omega) hNl c_1
      exact K _ _ (lv_sub hl [0, 1, 2] rfl)
    · have hj9 : j < N_ := fl_lt hNb (by omega) hNl c_1
      refine zz (fun _ _ => lv_aload_n hx hb dX9_lineUp_55 rfl (lv_at hl 0 rfl)) ?_
      refine z_get (v := .ref (r + 19)) C fd_X9_65 rm_0 rfl dX9_lineUp_56 ?_
      refine zz (fun _ _ => lv_iload_n hx hb dX9_lineUp_59 rfl (lv_at hl 2 rfl)) ?_
      refine z_iald (f := A 19) C rm_19 (in_nI (j := j) rfl (by omega) (by decide)) dX9_lineUp_60 ?_
      refine zz (fun _ _ => lv_iload_n hx hb dX9_lineUp_61 rfl (lv_at hl 1 rfl)) ?_
      refine zbn (fun _ _ => lv_icmp_ne (tgt := 121) hx hb dX9_lineUp_62 (by decide)) (fun c_2 => ?_) (fun c_2 => ?_)
      · refine zs (fun _ _ => lv_iinc (v := nI j + 1) (lv' := [(2, .int (nI j + 1)), (0, .ref (r)), (1, .int (a_))]) hx hb dX9_lineUp_121 hl (k := 2) rfl rfl (by decide) rfl) (fun ls hl => ?_)
        refine zz (fun _ _ => lv_goto (tgt := 47) hx hb dX9_lineUp_124 (by decide)) ?_
        have hI := ih (j + 1) (by omega)
        simp only [stX9_lineUp_47, if_neg c_1, if_neg c_2] at hI
        have hl := lv_sub hl [1, 2, 0] rfl
        simp only [nI_1] at hl
        exact hI _ _ hl K
      · refine zz (fun _ _ => lv_iconst (v := 0) hx hb dX9_lineUp_65 (by decide)) ?_
        refine zs (fun _ _ => lv_istore_n (lv' := [(3, .int (0)), (0, .ref (r)), (1, .int (a_)), (2, .int (nI j))]) hx hb dX9_lineUp_66 rfl hl (by decide) rfl) (fun ls hl => ?_)
        refine zz (fun _ _ => lv_iconst (v := 0) hx hb dX9_lineUp_67 (by decide)) ?_
        refine zs (fun _ _ => lv_istore (lv' := [(4, .int (0)), (3, .int (0)), (0, .ref (r)), (1, .int (a_)), (2, .int (nI j))]) hx hb dX9_lineUp_68 hl (by decide) rfl) (fun ls hl => ?_)
        refine lpX9_lineUp_70 (v := v) (A := (u1 A 37 (stX9_lineUp_47 v A a_ i1_ j))) (N_ := (Int32.toNatClampNeg (v 20))) C (k9 := j) (by omega) (nI_sn hNb hN2 (by decide)) (nI_sle hNb hN2 (by decide)) (Nat.lt_of_le_of_lt (nI_sle hNb hN2 (by decide)) (by decide)) (Int32.toNatClampNeg (v 20)) 0 (Nat.zero_add _) _ _ (lv_sub hl [2, 3, 4, 1, 0] rfl) (fun sz ls hl => ?_)
        refine zz (fun _ _ => lv_aload_n hx hb dX9_lineUp_114 rfl (lv_at hl 0 rfl)) ?_
        refine z_get (v := .ref (r + 37)) C fd_X9_123 rm_0 rfl dX9_lineUp_115 ?_
        refine zz (fun _ _ => lv_iload_n hx hb dX9_lineUp_118 rfl (lv_at hl 3 rfl)) ?_
        refine zz (fun _ _ => lv_iload_n hx hb dX9_lineUp_119 rfl (lv_at hl 2 rfl)) ?_
        refine z_iast (f := (stX9_lineUp_47 v A a_ i1_ j)) C rm_37 (lineUp_ix _ _ hNb hj9 hN2) dX9_lineUp_120 ?_
        refine zeq wm_37 ?_
        refine zeq (M' := (mm aC r v (u1 A 37 (upd ((stX9_lineUp_47 v A a_ i1_ j)) (Int32.toNatClampNeg ((stX9_lineUp_70 (u1 A 37 (stX9_lineUp_47 v A a_ i1_ j)) j a_ 0 (Int32.toNatClampNeg (v 20))))) (nI j))) R)) (by rw [u1_u1]) ?_
        refine zs (fun _ _ => lv_iinc (v := nI j + 1) (lv' := [(2, .int (nI j + 1)), (0, .ref (r)), (1, .int (a_)), (3, .int ((stX9_lineUp_70 (u1 A 37 (stX9_lineUp_47 v A a_ i1_ j)) j a_ 0 (Int32.toNatClampNeg (v 20))))), (4, .int (nI (Int32.toNatClampNeg (v 20))))]) hx hb dX9_lineUp_121 hl (k := 2) rfl rfl (by decide) rfl) (fun ls hl => ?_)
        refine zz (fun _ _ => lv_goto (tgt := 47) hx hb dX9_lineUp_124 (by decide)) ?_
        have hI := ih (j + 1) (by omega)
        simp only [stX9_lineUp_47, if_neg c_1, if_pos c_2] at hI
        have hl := lv_sub hl [1, 2, 0] rfl
        simp only [nI_1] at hl
        exact hI _ _ hl K
def fX9_lineUp (v : Nat → Int32) (A : Nat → Nat → Int32) (a_ : Int32) : (Nat → Int32) × (Nat → Nat → Int32) := ((upd (upd v 47 0) 47 (stX9_lineUp_7 A a_ 0 (Int32.toNatClampNeg (v 20)))), (u1 A 37 (stX9_lineUp_47 (upd (upd v 47 0) 47 (stX9_lineUp_7 A a_ 0 (Int32.toNatClampNeg (v 20)))) A a_ (A 37) (Int32.toNatClampNeg (v 20)))))
set_option maxHeartbeats 1000000 in
set_option maxRecDepth 10000 in
theorem ctX9_lineUp {l : Launch} {D : va_G} {aC : Nat → ClassId} {b0 sz : Nat} {r : Nat} {v : Nat → Int32} {A : Nat → Nat → Int32} {R : ZM} {a_ : Int32} {n_ : Nat} (hs : v 20 = nI n_) (hn : n_ ≤ 120) : Ct l D aC b0 yX9_lineUp cX9_lineUp 5 none 1 0 0 [.ref (r), .int (a_)] (mm aC r v A R) sz (zd none (mm aC r (fX9_lineUp v A a_).1 (fX9_lineUp v A a_).2 R)) := by
  refine Ct.of (by decide) (Nat.le_of_ble_eq_true rfl) ?_
  intro p e s m below meth c ls C hr hlk hnm hl
  have hl : lv_has ls 5 [(0, .ref (r)), (1, .int (a_))] := hl
  obtain ⟨hx, hb, -, -, -⟩ := id C
  refine zz (fun _ _ => lv_aload_n hx hb dX9_lineUp_0 rfl (lv_at hl 0 rfl)) ?_
  refine zz (fun _ _ => lv_iconst (v := 0) hx hb dX9_lineUp_1 (by decide)) ?_
  refine z_put C fp_X9_174 (fun h => by cases h) rm_0 (Nat.le_of_ble_eq_true rfl) rfl rfl dX9_lineUp_2 ?_
  refine zeq wm_f47 ?_
  refine zz (fun _ _ => lv_iconst (v := 0) hx hb dX9_lineUp_5 (by decide)) ?_
  refine zs (fun _ _ => lv_istore_n (lv' := [(2, .int (0)), (0, .ref (r)), (1, .int (a_))]) hx hb dX9_lineUp_6 rfl hl (by decide) rfl) (fun ls hl => ?_)
  refine zeq (M' := (mm aC r (upd (upd v 47 0) 47 0) A R)) (by rw [upd_id2 (v := (upd v 47 0)) (k := 47) (g := 0) rfl]) ?_
  refine lpX9_lineUp_7 (v := (upd v 47 0)) (A := A) (N_ := (Int32.toNatClampNeg (v 20))) C (nI_sn hs hn (by decide)) (nI_sle hs hn (by decide)) (Nat.lt_of_le_of_lt (nI_sle hs hn (by decide)) (by decide)) (Int32.toNatClampNeg (v 20)) 0 (Nat.zero_add _) _ _ (lv_sub hl [1, 2, 0] rfl) (fun sz ls hl => ?_)
  refine zz (fun _ _ => lv_iconst (v := 0) hx hb dX9_lineUp_45 (by decide)) ?_
  refine zs (fun _ _ => lv_istore_n (lv' := [(2, .int (0)), (0, .ref (r)), (1, .int (a_))]) hx hb dX9_lineUp_46 rfl hl (by decide) rfl) (fun ls hl => ?_)
  refine zeq (M' := (mm aC r (upd (upd v 47 0) 47 (stX9_lineUp_7 A a_ 0 (Int32.toNatClampNeg (v 20)))) (u1 A 37 (A 37)) R)) (by rw [u1_id2 (A := A) (k := 37) (g := A 37) rfl]) ?_
  refine lpX9_lineUp_47 (v := (upd (upd v 47 0) 47 (stX9_lineUp_7 A a_ 0 (Int32.toNatClampNeg (v 20))))) (A := A) (N_ := (Int32.toNatClampNeg (v 20))) C (nI_sn hs hn (by decide)) (nI_sle hs hn (by decide)) (Nat.lt_of_le_of_lt (nI_sle hs hn (by decide)) (by decide)) (Int32.toNatClampNeg (v 20)) 0 (Nat.zero_add _) _ _ (lv_sub hl [1, 2, 0] rfl) (fun sz ls hl => ?_)
  exact z_vret C hr hlk dX9_lineUp_127 (by simp only [zd, fX9_lineUp, and_self])
theorem isIn_in {a c : Int32} {n : Nat} (h : ¬ fX9_isIn a 0 c = 0) (hc : c = nI n) (hn : n < 2 ^ 31 - 1) : vp_in a (n + 1) := by
  unfold fX9_isIn at h
  split at h
  · exact absurd rfl h
  · split at h
    · exact absurd rfl h
    · rename_i h1 h2
      rw [hc] at h2
      refine vp_in_iff.mpr ⟨?_, ?_⟩
      · simpa [Int32.lt_iff_toInt_lt] using h1
      · rw [Int32.lt_iff_toInt_lt, nI_toInt (by omega)] at h2
        omega
theorem lineUp_o (v : Nat → Int32) (A : Nat → Nat → Int32) (a : Int32) (f : Nat → Int32) (hf : ∀ j, j < 120 → ∃ t, t < 120 ∧ f j = nI t) : ∀ n, n ≤ 120 → ∀ j, j < 120 → ∃ t, t < 120 ∧ stX9_lineUp_47 v A a f n j = nI t := by
  intro n
  induction n with
  | zero => intro _ j hj; exact hf j hj
  | succ n ih =>
    intro hn j hj
    simp only [stX9_lineUp_47]
    split
    · unfold upd
      split
      · exact ⟨n, by omega, rfl⟩
      · exact ih (by omega) j hj
    · exact ih (by omega) j hj
theorem lineUp_r {v : Nat → Int32} {A : Nat → Nat → Int32} {a : Int32} {n : Nat} (hs : v 20 = nI n) (hn : n ≤ 120) : ∃ t, t ≤ 120 ∧ (fX9_lineUp v A a).1 47 = nI t := by
  obtain ⟨t, ht, e⟩ := lineUp_n A a n
  refine ⟨t, by omega, ?_⟩
  simp only [fX9_lineUp, hs, nI_clamp (show n < 2 ^ 31 by omega)]
  simpa [upd] using e
theorem lineUp_q {v : Nat → Int32} {A : Nat → Nat → Int32} {a : Int32} {n : Nat} (hs : v 20 = nI n) (hn : n ≤ 120) (hO : ∀ j, j < 120 → ∃ t, t < 120 ∧ A 37 j = nI t) : ∀ j, j < 120 → ∃ t, t < 120 ∧ (fX9_lineUp v A a).2 37 j = nI t := by
  intro j hj
  have := fun w => lineUp_o w A a (A 37) hO n hn j hj
  simp only [fX9_lineUp, hs, nI_clamp (show n < 2 ^ 31 by omega)]
  simpa [u1] using this _
theorem ex_in {f : Nat → Int32} {a : Int32} (h : ∀ j, j < 120 → ∃ t, t < 120 ∧ f j = nI t) (ha : vp_in a 120) : vp_in (f a.toNatClampNeg) 120 := by
  obtain ⟨t, ht, e⟩ := h _ (vin_lt ha)
  rw [e]
  exact vp_in_nI ht (by decide)
def fX9_many (v : Nat → Int32) (A : Nat → Nat → Int32) (a_ : Int32) : Int32 × (Nat → Int32) × (Nat → Nat → Int32) := if (fX9_isIn a_ 0 6) = 0 then (0, (upd v 0 1), A) else if A 23 (Int32.toNatClampNeg (a_)) = 0 then ((-1), (upd v 0 0), A) else ((fX9_lineUp (upd v 0 0) A a_).1 47, (fX9_lineUp (upd v 0 0) A a_).1, (fX9_lineUp (upd v 0 0) A a_).2)
set_option maxHeartbeats 1000000 in
set_option maxRecDepth 10000 in
theorem ctX9_many {l : Launch} {D : va_G} {aC : Nat → ClassId} {b0 sz : Nat} {r : Nat} {v : Nat → Int32} {A : Nat → Nat → Int32} {R : ZM} {a_ : Int32} {n_ : Nat} (hs : v 20 = nI n_) (hn : n_ ≤ 120) : Ct l D aC b0 yX9_many cX9_many 2 (some .int) 2 0 0 [.ref (r), .int (a_)] (mm aC r v A R) sz (zd (some (.int (fX9_many v A a_).1)) (mm aC r (fX9_many v A a_).2.1 (fX9_many v A a_).2.2 R)) := by
  refine Ct.of (by decide) (Nat.le_of_ble_eq_true rfl) ?_
  intro p e s m below meth c ls C hr hlk hnm hl
  have hl : lv_has ls 2 [(0, .ref (r)), (1, .int (a_))] := hl
  obtain ⟨hx, hb, -, -, -⟩ := id C
  refine zz (fun _ _ => lv_aload_n hx hb dX9_many_0 rfl (lv_at hl 0 rfl)) ?_
  refine zz (fun _ _ => lv_iload_n hx hb dX9_many_1 rfl (lv_at hl 1 rfl)) ?_
  refine zz (fun _ _ => lv_iconst (v := 0) hx hb dX9_many_2 (by decide)) ?_
  refine zz (fun _ _ => lv_bipush (v := 6) hx hb dX9_many_3 (by decide)) ?_
  refine zdS (As := [.int (a_), .int (0), .int (6)]) (rest := [.ref (r)]) (st' := [.int ((fX9_isIn a_ 0 6)), .ref (r)]) C hl.1 lk_X9_135 (ctX9_isIn ) rfl rfl (Nat.le_of_ble_eq_true rfl) ⟨by decide, by decide, by decide, by decide⟩ dX9_many_5 rfl (fun sz => ?_)
  refine zb (fun _ _ => lv_if_eq (tgt := 15) hx hb dX9_many_8 (by decide)) (fun c_1 => ?_) (fun c_1 => ?_)
  · refine zz (fun _ _ => lv_iconst (v := 1) hx hb dX9_many_15 (by decide)) ?_
    refine z_put C fp_X9_129 (fun h => by cases h) rm_0 (Nat.le_of_ble_eq_true rfl) rfl rfl dX9_many_16 ?_
    refine zeq wm_f0 ?_
    refine zz (fun _ _ => lv_aload_n hx hb dX9_many_19 rfl (lv_at hl 0 rfl)) ?_
    refine z_get (v := .int (1)) C fd_X9_129 rm_0 rfl dX9_many_20 ?_
    refine zb (fun _ _ => lv_if_gt (tgt := 35) hx hb dX9_many_23 (by decide)) (fun c_2 => ?_) (fun c_2 => ?_)
    · refine zz (fun _ _ => lv_aload_n hx hb dX9_many_35 rfl (lv_at hl 0 rfl)) ?_
      refine z_get (v := .int (1)) C fd_X9_129 rm_0 rfl dX9_many_36 ?_
      refine zb (fun _ _ => lv_if_le (tgt := 46) hx hb dX9_many_39 (by decide)) (fun c_3 => ?_) (fun c_3 => ?_)
      · exact absurd c_3 (by decide)
      · refine zz (fun _ _ => lv_iconst (v := 0) hx hb dX9_many_42 (by decide)) ?_
        refine zz (fun _ _ => lv_goto (tgt := 47) hx hb dX9_many_43 (by decide)) ?_
        exact z_iret C hr hlk dX9_many_47 (by simp only [zd, fX9_many, if_pos c_1, and_self])
    · exact absurd (by decide) c_2
  · refine zz (fun _ _ => lv_iconst (v := 0) hx hb dX9_many_11 (by decide)) ?_
    refine zz (fun _ _ => lv_goto (tgt := 16) hx hb dX9_many_12 (by decide)) ?_
    refine z_put C fp_X9_129 (fun h => by cases h) rm_0 (Nat.le_of_ble_eq_true rfl) rfl rfl dX9_many_16 ?_
    refine zeq wm_f0 ?_
    refine zz (fun _ _ => lv_aload_n hx hb dX9_many_19 rfl (lv_at hl 0 rfl)) ?_
    refine z_get (v := .int (0)) C fd_X9_129 rm_0 rfl dX9_many_20 ?_
    refine zb (fun _ _ => lv_if_gt (tgt := 35) hx hb dX9_many_23 (by decide)) (fun c_4 => ?_) (fun c_4 => ?_)
    · exact absurd c_4 (by decide)
    · refine zz (fun _ _ => lv_aload_n hx hb dX9_many_26 rfl (lv_at hl 0 rfl)) ?_
      refine z_get (v := .ref (r + 23)) C fd_X9_77 rm_0 rfl dX9_many_27 ?_
      refine zz (fun _ _ => lv_iload_n hx hb dX9_many_30 rfl (lv_at hl 1 rfl)) ?_
      refine z_zald (f := A 23) C rm_23 (isIn_in (n := 6) c_1 rfl (by decide)) dX9_many_31 ?_
      refine zbn (fun _ _ => lv_if_ne (tgt := 48) hx hb dX9_many_32 (by decide)) (fun c_5 => ?_) (fun c_5 => ?_)
      · refine zz (fun _ _ => lv_aload_n hx hb dX9_many_48 rfl (lv_at hl 0 rfl)) ?_
        refine zz (fun _ _ => lv_iload_n hx hb dX9_many_49 rfl (lv_at hl 1 rfl)) ?_
        refine zdV (As := [.int (a_)]) (rest := []) (st' := []) C hl.1 lk_X9_187 (ctX9_lineUp hs hn) rm_0 rfl rfl rfl (Nat.le_of_ble_eq_true rfl) ⟨by decide, by decide, by decide, by decide⟩ dX9_many_50 rfl (fun sz => ?_)
        refine zz (fun _ _ => lv_aload_n hx hb dX9_many_53 rfl (lv_at hl 0 rfl)) ?_
        refine z_get (v := .int ((fX9_lineUp (upd v 0 0) A a_).1 47)) C fd_X9_174 rm_0 rfl dX9_many_54 ?_
        exact z_iret C hr hlk dX9_many_57 (by simp only [zd, fX9_many, if_neg c_1, if_neg c_5, and_self])
      · refine zz (fun _ _ => lv_aload_n hx hb dX9_many_35 rfl (lv_at hl 0 rfl)) ?_
        refine z_get (v := .int (0)) C fd_X9_129 rm_0 rfl dX9_many_36 ?_
        refine zb (fun _ _ => lv_if_le (tgt := 46) hx hb dX9_many_39 (by decide)) (fun c_6 => ?_) (fun c_6 => ?_)
        · refine zz (fun _ _ => lv_iconst (v := (-1)) hx hb dX9_many_46 (by decide)) ?_
          exact z_iret C hr hlk dX9_many_47 (by simp only [zd, fX9_many, if_neg c_1, if_pos c_5, and_self])
        · exact absurd (by decide) c_6
theorem at_ix {v : Nat → Int32} {A : Nat → Nat → Int32} {a b : Int32} {n : Nat} (hs : v 20 = nI n) (hn : n ≤ 120) (h1 : ¬ b < 0) (h2 : b < (fX9_lineUp v A a).1 47) : vp_in b 120 := by
  obtain ⟨t, ht, e⟩ := lineUp_r (A := A) (a := a) hs hn
  exact ix_lt2 h1 h2 e ht (by decide)
def fX9_at (v : Nat → Int32) (A : Nat → Nat → Int32) (a_ : Int32) (b_ : Int32) (c_ : Int32) : Int32 × (Nat → Int32) × (Nat → Nat → Int32) := if (fX9_isIn a_ 0 6) = 0 then (0, (upd v 0 1), A) else if b_ < 0 then (0, (upd (fX9_lineUp (upd v 0 1) A a_).1 0 1), (fX9_lineUp (upd v 0 1) A a_).2) else if b_ < (fX9_lineUp (upd v 0 1) A a_).1 47 then if (fX9_isIn c_ 0 2) = 0 then (0, (upd (fX9_lineUp (upd v 0 1) A a_).1 0 2), (fX9_lineUp (upd v 0 1) A a_).2) else if c_ = 0 then ((fX9_lineUp (upd v 0 1) A a_).2 20 (Int32.toNatClampNeg ((fX9_lineUp (upd v 0 1) A a_).2 37 (Int32.toNatClampNeg (b_)))), (upd (fX9_lineUp (upd v 0 1) A a_).1 0 0), (fX9_lineUp (upd v 0 1) A a_).2) else if c_ = 1 then ((fX9_lineUp (upd v 0 1) A a_).2 21 (Int32.toNatClampNeg ((fX9_lineUp (upd v 0 1) A a_).2 37 (Int32.toNatClampNeg (b_)))), (upd (fX9_lineUp (upd v 0 1) A a_).1 0 0), (fX9_lineUp (upd v 0 1) A a_).2) else ((fX9_lineUp (upd v 0 1) A a_).2 22 (Int32.toNatClampNeg ((fX9_lineUp (upd v 0 1) A a_).2 37 (Int32.toNatClampNeg (b_)))), (upd (fX9_lineUp (upd v 0 1) A a_).1 0 0), (fX9_lineUp (upd v 0 1) A a_).2) else (0, (upd (fX9_lineUp (upd v 0 1) A a_).1 0 1), (fX9_lineUp (upd v 0 1) A a_).2)
set_option maxHeartbeats 1000000 in
set_option maxRecDepth 10000 in
theorem ctX9_at {l : Launch} {D : va_G} {aC : Nat → ClassId} {b0 sz : Nat} {r : Nat} {v : Nat → Int32} {A : Nat → Nat → Int32} {R : ZM} {a_ : Int32} {b_ : Int32} {c_ : Int32} {n_ : Nat} (hs : v 20 = nI n_) (hn : n_ ≤ 120) (hO : ∀ j, j < 120 → ∃ t, t < 120 ∧ A 37 j = nI t) : Ct l D aC b0 yX9_at cX9_at 4 (some .int) 2 0 0 [.ref (r), .int (a_), .int (b_), .int (c_)] (mm aC r v A R) sz (zd (some (.int (fX9_at v A a_ b_ c_).1)) (mm aC r (fX9_at v A a_ b_ c_).2.1 (fX9_at v A a_ b_ c_).2.2 R)) := by
  refine Ct.of (by decide) (Nat.le_of_ble_eq_true rfl) ?_
  intro p e s m below meth c ls C hr hlk hnm hl
  have hl : lv_has ls 4 [(0, .ref (r)), (1, .int (a_)), (2, .int (b_)), (3, .int (c_))] := hl
  obtain ⟨hx, hb, -, -, -⟩ := id C
  refine zz (fun _ _ => lv_aload_n hx hb dX9_at_0 rfl (lv_at hl 0 rfl)) ?_
  refine zz (fun _ _ => lv_iconst (v := 1) hx hb dX9_at_1 (by decide)) ?_
  refine z_put C fp_X9_129 (fun h => by cases h) rm_0 (Nat.le_of_ble_eq_true rfl) rfl rfl dX9_at_2 ?_
  refine zeq wm_f0 ?_
  refine zz (fun _ _ => lv_iload_n hx hb dX9_at_5 rfl (lv_at hl 1 rfl)) ?_
  refine zz (fun _ _ => lv_iconst (v := 0) hx hb dX9_at_6 (by decide)) ?_
  refine zz (fun _ _ => lv_bipush (v := 6) hx hb dX9_at_7 (by decide)) ?_
  refine zdS (As := [.int (a_), .int (0), .int (6)]) (rest := []) (st' := [.int ((fX9_isIn a_ 0 6))]) C hl.1 lk_X9_135 (ctX9_isIn ) rfl rfl (Nat.le_of_ble_eq_true rfl) ⟨by decide, by decide, by decide, by decide⟩ dX9_at_9 rfl (fun sz => ?_)
  refine zb (fun _ _ => lv_if_eq (tgt := 54) hx hb dX9_at_12 (by decide)) (fun c_1 => ?_) (fun c_1 => ?_)
  · refine zz (fun _ _ => lv_aload_n hx hb dX9_at_54 rfl (lv_at hl 0 rfl)) ?_
    refine z_get (v := .int (1)) C fd_X9_129 rm_0 rfl dX9_at_55 ?_
    refine zb (fun _ _ => lv_if_le (tgt := 63) hx hb dX9_at_58 (by decide)) (fun c_2 => ?_) (fun c_2 => ?_)
    · exact absurd c_2 (by decide)
    · refine zz (fun _ _ => lv_iconst (v := 0) hx hb dX9_at_61 (by decide)) ?_
      exact z_iret C hr hlk dX9_at_62 (by simp only [zd, fX9_at, if_pos c_1, and_self])
  · refine zz (fun _ _ => lv_aload_n hx hb dX9_at_15 rfl (lv_at hl 0 rfl)) ?_
    refine zz (fun _ _ => lv_iload_n hx hb dX9_at_16 rfl (lv_at hl 1 rfl)) ?_
    refine zdV (As := [.int (a_)]) (rest := []) (st' := []) C hl.1 lk_X9_187 (ctX9_lineUp hs hn) rm_0 rfl rfl rfl (Nat.le_of_ble_eq_true rfl) ⟨by decide, by decide, by decide, by decide⟩ dX9_at_17 rfl (fun sz => ?_)
    refine zz (fun _ _ => lv_aload_n hx hb dX9_at_20 rfl (lv_at hl 0 rfl)) ?_
    refine zz (fun _ _ => lv_iload_n hx hb dX9_at_21 rfl (lv_at hl 2 rfl)) ?_
    refine zb (fun _ _ => lv_if_lt (tgt := 33) hx hb dX9_at_22 (by decide)) (fun c_3 => ?_) (fun c_3 => ?_)
    · refine zz (fun _ _ => lv_iconst (v := 1) hx hb dX9_at_33 (by decide)) ?_
      refine zz (fun _ _ => lv_goto (tgt := 51) hx hb dX9_at_34 (by decide)) ?_
      refine z_put C fp_X9_129 (fun h => by cases h) rm_0 (Nat.le_of_ble_eq_true rfl) rfl rfl dX9_at_51 ?_
      refine zeq wm_f0 ?_
      refine zz (fun _ _ => lv_aload_n hx hb dX9_at_54 rfl (lv_at hl 0 rfl)) ?_
      refine z_get (v := .int (1)) C fd_X9_129 rm_0 rfl dX9_at_55 ?_
      refine zb (fun _ _ => lv_if_le (tgt := 63) hx hb dX9_at_58 (by decide)) (fun c_4 => ?_) (fun c_4 => ?_)
      · exact absurd c_4 (by decide)
      · refine zz (fun _ _ => lv_iconst (v := 0) hx hb dX9_at_61 (by decide)) ?_
        exact z_iret C hr hlk dX9_at_62 (by simp only [zd, fX9_at, if_neg c_1, if_pos c_3, and_self])
    · refine zz (fun _ _ => lv_iload_n hx hb dX9_at_25 rfl (lv_at hl 2 rfl)) ?_
      refine zz (fun _ _ => lv_aload_n hx hb dX9_at_26 rfl (lv_at hl 0 rfl)) ?_
      refine z_get (v := .int ((fX9_lineUp (upd v 0 1) A a_).1 47)) C fd_X9_174 rm_0 rfl dX9_at_27 ?_
      refine zb (fun _ _ => lv_icmp_lt (tgt := 37) hx hb dX9_at_30 (by decide)) (fun c_5 => ?_) (fun c_5 => ?_)
      · refine zz (fun _ _ => lv_iload_n hx hb dX9_at_37 rfl (lv_at hl 3 rfl)) ?_
        refine zz (fun _ _ => lv_iconst (v := 0) hx hb dX9_at_38 (by decide)) ?_
        refine zz (fun _ _ => lv_iconst (v := 2) hx hb dX9_at_39 (by decide)) ?_
        refine zdS (As := [.int (c_), .int (0), .int (2)]) (rest := [.ref (r)]) (st' := [.int ((fX9_isIn c_ 0 2)), .ref (r)]) C hl.1 lk_X9_135 (ctX9_isIn ) rfl rfl (Nat.le_of_ble_eq_true rfl) ⟨by decide, by decide, by decide, by decide⟩ dX9_at_40 rfl (fun sz => ?_)
        refine zbn (fun _ _ => lv_if_ne (tgt := 50) hx hb dX9_at_43 (by decide)) (fun c_6 => ?_) (fun c_6 => ?_)
        · refine zz (fun _ _ => lv_iconst (v := 0) hx hb dX9_at_50 (by decide)) ?_
          refine z_put C fp_X9_129 (fun h => by cases h) rm_0 (Nat.le_of_ble_eq_true rfl) rfl rfl dX9_at_51 ?_
          refine zeq wm_f0 ?_
          refine zz (fun _ _ => lv_aload_n hx hb dX9_at_54 rfl (lv_at hl 0 rfl)) ?_
          refine z_get (v := .int (0)) C fd_X9_129 rm_0 rfl dX9_at_55 ?_
          refine zb (fun _ _ => lv_if_le (tgt := 63) hx hb dX9_at_58 (by decide)) (fun c_7 => ?_) (fun c_7 => ?_)
          · refine zz (fun _ _ => lv_iload_n hx hb dX9_at_63 rfl (lv_at hl 3 rfl)) ?_
            refine zbn (fun _ _ => lv_if_ne (tgt := 81) hx hb dX9_at_64 (by decide)) (fun c_8 => ?_) (fun c_8 => ?_)
            · refine zz (fun _ _ => lv_iload_n hx hb dX9_at_81 rfl (lv_at hl 3 rfl)) ?_
              refine zz (fun _ _ => lv_iconst (v := 1) hx hb dX9_at_82 (by decide)) ?_
              refine zbn (fun _ _ => lv_icmp_ne (tgt := 100) hx hb dX9_at_83 (by decide)) (fun c_9 => ?_) (fun c_9 => ?_)
              · refine zz (fun _ _ => lv_aload_n hx hb dX9_at_100 rfl (lv_at hl 0 rfl)) ?_
                refine z_get (v := .ref (r + 22)) C fd_X9_74 rm_0 rfl dX9_at_101 ?_
                refine zz (fun _ _ => lv_aload_n hx hb dX9_at_104 rfl (lv_at hl 0 rfl)) ?_
                refine z_get (v := .ref (r + 37)) C fd_X9_123 rm_0 rfl dX9_at_105 ?_
                refine zz (fun _ _ => lv_iload_n hx hb dX9_at_108 rfl (lv_at hl 2 rfl)) ?_
                refine z_iald (f := (fX9_lineUp (upd v 0 1) A a_).2 37) C rm_37 (at_ix (v := upd v 0 1) (A := A) (a := a_) hs hn c_3 c_5) dX9_at_109 ?_
                refine z_iald (f := (fX9_lineUp (upd v 0 1) A a_).2 22) C rm_22 (ex_in (lineUp_q (v := upd v 0 1) hs hn hO) (at_ix (v := upd v 0 1) (A := A) (a := a_) hs hn c_3 c_5)) dX9_at_110 ?_
                exact z_iret C hr hlk dX9_at_111 (by simp only [zd, fX9_at, if_neg c_1, if_neg c_3, if_pos c_5, if_neg c_6, if_neg c_8, if_neg c_9, and_self])
              · refine zz (fun _ _ => lv_aload_n hx hb dX9_at_86 rfl (lv_at hl 0 rfl)) ?_
                refine z_get (v := .ref (r + 21)) C fd_X9_71 rm_0 rfl dX9_at_87 ?_
                refine zz (fun _ _ => lv_aload_n hx hb dX9_at_90 rfl (lv_at hl 0 rfl)) ?_
                refine z_get (v := .ref (r + 37)) C fd_X9_123 rm_0 rfl dX9_at_91 ?_
                refine zz (fun _ _ => lv_iload_n hx hb dX9_at_94 rfl (lv_at hl 2 rfl)) ?_
                refine z_iald (f := (fX9_lineUp (upd v 0 1) A a_).2 37) C rm_37 (at_ix (v := upd v 0 1) (A := A) (a := a_) hs hn c_3 c_5) dX9_at_95 ?_
                refine z_iald (f := (fX9_lineUp (upd v 0 1) A a_).2 21) C rm_21 (ex_in (lineUp_q (v := upd v 0 1) hs hn hO) (at_ix (v := upd v 0 1) (A := A) (a := a_) hs hn c_3 c_5)) dX9_at_96 ?_
                refine zz (fun _ _ => lv_goto (tgt := 111) hx hb dX9_at_97 (by decide)) ?_
                exact z_iret C hr hlk dX9_at_111 (by simp only [zd, fX9_at, if_neg c_1, if_neg c_3, if_pos c_5, if_neg c_6, if_neg c_8, if_pos c_9, and_self])
            · refine zz (fun _ _ => lv_aload_n hx hb dX9_at_67 rfl (lv_at hl 0 rfl)) ?_
              refine z_get (v := .ref (r + 20)) C fd_X9_68 rm_0 rfl dX9_at_68 ?_
              refine zz (fun _ _ => lv_aload_n hx hb dX9_at_71 rfl (lv_at hl 0 rfl)) ?_
              refine z_get (v := .ref (r + 37)) C fd_X9_123 rm_0 rfl dX9_at_72 ?_
              refine zz (fun _ _ => lv_iload_n hx hb dX9_at_75 rfl (lv_at hl 2 rfl)) ?_
              refine z_iald (f := (fX9_lineUp (upd v 0 1) A a_).2 37) C rm_37 (at_ix (v := upd v 0 1) (A := A) (a := a_) hs hn c_3 c_5) dX9_at_76 ?_
              refine z_iald (f := (fX9_lineUp (upd v 0 1) A a_).2 20) C rm_20 (ex_in (lineUp_q (v := upd v 0 1) hs hn hO) (at_ix (v := upd v 0 1) (A := A) (a := a_) hs hn c_3 c_5)) dX9_at_77 ?_
              refine zz (fun _ _ => lv_goto (tgt := 111) hx hb dX9_at_78 (by decide)) ?_
              exact z_iret C hr hlk dX9_at_111 (by simp only [zd, fX9_at, if_neg c_1, if_neg c_3, if_pos c_5, if_neg c_6, if_pos c_8, and_self])
          · exact absurd (by decide) c_7
        · refine zz (fun _ _ => lv_iconst (v := 2) hx hb dX9_at_46 (by decide)) ?_
          refine zz (fun _ _ => lv_goto (tgt := 51) hx hb dX9_at_47 (by decide)) ?_
          refine z_put C fp_X9_129 (fun h => by cases h) rm_0 (Nat.le_of_ble_eq_true rfl) rfl rfl dX9_at_51 ?_
          refine zeq wm_f0 ?_
          refine zz (fun _ _ => lv_aload_n hx hb dX9_at_54 rfl (lv_at hl 0 rfl)) ?_
          refine z_get (v := .int (2)) C fd_X9_129 rm_0 rfl dX9_at_55 ?_
          refine zb (fun _ _ => lv_if_le (tgt := 63) hx hb dX9_at_58 (by decide)) (fun c_10 => ?_) (fun c_10 => ?_)
          · exact absurd c_10 (by decide)
          · refine zz (fun _ _ => lv_iconst (v := 0) hx hb dX9_at_61 (by decide)) ?_
            exact z_iret C hr hlk dX9_at_62 (by simp only [zd, fX9_at, if_neg c_1, if_neg c_3, if_pos c_5, if_pos c_6, and_self])
      · refine zz (fun _ _ => lv_iconst (v := 1) hx hb dX9_at_33 (by decide)) ?_
        refine zz (fun _ _ => lv_goto (tgt := 51) hx hb dX9_at_34 (by decide)) ?_
        refine z_put C fp_X9_129 (fun h => by cases h) rm_0 (Nat.le_of_ble_eq_true rfl) rfl rfl dX9_at_51 ?_
        refine zeq wm_f0 ?_
        refine zz (fun _ _ => lv_aload_n hx hb dX9_at_54 rfl (lv_at hl 0 rfl)) ?_
        refine z_get (v := .int (1)) C fd_X9_129 rm_0 rfl dX9_at_55 ?_
        refine zb (fun _ _ => lv_if_le (tgt := 63) hx hb dX9_at_58 (by decide)) (fun c_11 => ?_) (fun c_11 => ?_)
        · exact absurd c_11 (by decide)
        · refine zz (fun _ _ => lv_iconst (v := 0) hx hb dX9_at_61 (by decide)) ?_
          exact z_iret C hr hlk dX9_at_62 (by simp only [zd, fX9_at, if_neg c_1, if_neg c_3, if_neg c_5, and_self])
