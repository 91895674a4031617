def stX9_find_6 (A : Nat → Nat → Int32) (a_ : Int32) (b_ : Int32) (c_ : Int32) (d_ : Int32) (i1_ : Int32) : Nat → Int32
  | 0 => (i1_)
  | j + 1 => if A 19 (Int32.toNatClampNeg (nI j)) = a_ then if A 20 (Int32.toNatClampNeg (nI j)) = b_ then if A 21 (Int32.toNatClampNeg (nI j)) = c_ then if A 22 (Int32.toNatClampNeg (nI j)) = d_ then (nI j) else ((stX9_find_6 A a_ b_ c_ d_ i1_ j)) else ((stX9_find_6 A a_ b_ c_ d_ i1_ j)) else ((stX9_find_6 A a_ b_ c_ d_ i1_ j)) else ((stX9_find_6 A a_ b_ c_ d_ i1_ j))
set_option maxHeartbeats 2000000 in
set_option maxRecDepth 10000 in
theorem lpX9_find_6 {p : Program} {l : Launch} {e : Env} {Rm : Room} {s : State} {m : MethodId} {args : Array Value} {below : List Frame} {meth : Method} {c : Code} {D : va_G} {aC : Nat → ClassId} {b0 cells slots : Nat} {Q : State → Prop} {r : Nat} {v : Nat → Int32} {A : Nat → Nat → Int32} {R : ZM} {a_ : Int32} {b_ : Int32} {c_ : Int32} {d_ : Int32} {i1_ : Int32} {N_ : Nat} (C : zC p l s m c D aC b0 RX9 cX9_find 7) (hNb : v 20 = nI N_) (hN2 : N_ ≤ 120) (hNl : N_ < 2 ^ 31) :
    ∀ (d j : Nat), j + d = N_ → ∀ (sz : Nat) (ls : Array Slot), lv_has ls 7 [(0, .ref (r)), (1, .int (a_)), (2, .int (b_)), (3, .int (c_)), (4, .int (d_)), (5, .int ((stX9_find_6 A a_ b_ c_ d_ i1_ j))), (6, .int (nI j))] → (∀ (sz : Nat) (ls : Array Slot), lv_has ls 7 [(0, .ref (r)), (1, .int (a_)), (2, .int (b_)), (3, .int (c_)), (4, .int (d_)), (5, .int ((stX9_find_6 A a_ b_ c_ d_ i1_ N_))), (6, .int (nI N_))] → Z p l e Rm s m args below meth c D b0 (mm aC r v A R) sz cells slots Q (F0 m 75 ls [])) → Z p l e Rm s m args below meth c D b0 (mm aC r v A R) sz cells slots Q (F0 m 6 ls []) := by
  obtain ⟨hx, hb, -, -, -⟩ := id C
  intro d
  induction d with
  | zero =>
    intro j hj0 sz ls hl K
    refine zz (fun _ _ => lv_iload hx hb dX9_find_6 (lv_at hl 6 rfl)) ?_
    refine zz (fun _ _ => lv_aload_n hx hb dX9_find_8 rfl (lv_at hl 0 rfl)) ?_
    refine z_get (v := .int (v 20)) C fd_X9_160 rm_0 rfl dX9_find_9 ?_
    refine zb (fun _ _ => lv_icmp_ge (tgt := 75) hx hb dX9_find_12 (by decide)) (fun c_1 => ?_) (fun c_1 => ?_)
    · obtain rfl := fl_eq (j := j) (N := N_) hNb (by omega) hNl c_1
      exact K _ _ (lv_sub hl [0, 1, 2, 3, 4, 5, 6] rfl)
    · exact absurd (fl_lt (j := j) (N := N_) hNb (by omega) hNl c_1) (by omega)
  | succ d ih =>
    intro j hj0 sz ls hl K
    refine zz (fun _ _ => lv_iload hx hb dX9_find_6 (lv_at hl 6 rfl)) ?_
    refine zz (fun _ _ => lv_aload_n hx hb dX9_find_8 rfl (lv_at hl 0 rfl)) ?_
    refine z_get (v := .int (v 20)) C fd_X9_160 rm_0 rfl dX9_find_9 ?_
    refine zb (fun _ _ => lv_icmp_ge (tgt := 75) hx hb dX9_find_12 (by decide)) (fun c_1 => ?_) (fun c_1 => ?_)
    · obtain rfl := fl_eq (j := j) (N := N_) hNb (by omega) hNl c_1
      exact K _ _ (lv_sub hl [0, 1, 2, 3, 4, 5, 6] rfl)
    · have hj9 : j < N_ := fl_lt hNb (by omega) hNl c_1
      refine zz (fun _ _ => lv_aload_n hx hb dX9_find_15 rfl (lv_at hl 0 rfl)) ?_
      refine z_get (v := .ref (r + 19)) C fd_X9_65 rm_0 rfl dX9_find_16 ?_
      refine zz (fun _ _ => lv_iload hx hb dX9_find_19 (lv_at hl 6 rfl)) ?_
      refine z_iald (f := A 19) C rm_19 (in_nI (j := j) rfl (by omega) (by decide)) dX9_find_21 ?_
      refine zz (fun _ _ => lv_iload_n hx hb dX9_find_22 rfl (lv_at hl 1 rfl)) ?_
      refine zbn (fun _ _ => lv_icmp_ne (tgt := 65) hx hb dX9_find_23 (by decide)) (fun c_2 => ?_) (fun c_2 => ?_)
      · refine zz (fun _ _ => lv_iload hx hb dX9_find_65 (lv_at hl 5 rfl)) ?_
        refine zs (fun _ _ => lv_istore (lv' := [(5, .int ((stX9_find_6 A a_ b_ c_ d_ i1_ j))), (0, .ref (r)), (1, .int (a_)), (2, .int (b_)), (3, .int (c_)), (4, .int (d_)), (6, .int (nI j))]) hx hb dX9_find_67 hl (by decide) rfl) (fun ls hl => ?_)
        refine zs (fun _ _ => lv_iinc (v := nI j + 1) (lv' := [(6, .int (nI j + 1)), (5, .int ((stX9_find_6 A a_ b_ c_ d_ i1_ j))), (0, .ref (r)), (1, .int (a_)), (2, .int (b_)), (3, .int (c_)), (4, .int (d_))]) hx hb dX9_find_69 hl (k := 6) rfl rfl (by decide) rfl) (fun ls hl => ?_)
        refine zz (fun _ _ => lv_goto (tgt := 6) hx hb dX9_find_72 (by decide)) ?_
        have hI := ih (j + 1) (by omega)
        simp only [stX9_find_6, if_neg c_1, if_neg c_2] at hI
        have hl := lv_sub hl [2, 3, 4, 5, 6, 1, 0] rfl
        simp only [nI_1] at hl
        exact hI _ _ hl K
      · refine zz (fun _ _ => lv_aload_n hx hb dX9_find_26 rfl (lv_at hl 0 rfl)) ?_
        refine z_get (v := .ref (r + 20)) C fd_X9_68 rm_0 rfl dX9_find_27 ?_
        refine zz (fun _ _ => lv_iload hx hb dX9_find_30 (lv_at hl 6 rfl)) ?_
        refine z_iald (f := A 20) C rm_20 (in_nI (j := j) rfl (by omega) (by decide)) dX9_find_32 ?_
        refine zz (fun _ _ => lv_iload_n hx hb dX9_find_33 rfl (lv_at hl 2 rfl)) ?_
        refine zbn (fun _ _ => lv_icmp_ne (tgt := 65) hx hb dX9_find_34 (by decide)) (fun c_3 => ?_) (fun c_3 => ?_)
        · refine zz (fun _ _ => lv_iload hx hb dX9_find_65 (lv_at hl 5 rfl)) ?_
          refine zs (fun _ _ => lv_istore (lv' := [(5, .int ((stX9_find_6 A a_ b_ c_ d_ i1_ j))), (0, .ref (r)), (1, .int (a_)), (2, .int (b_)), (3, .int (c_)), (4, .int (d_)), (6, .int (nI j))]) hx hb dX9_find_67 hl (by decide) rfl) (fun ls hl => ?_)
          refine zs (fun _ _ => lv_iinc (v := nI j + 1) (lv' := [(6, .int (nI j + 1)), (5, .int ((stX9_find_6 A a_ b_ c_ d_ i1_ j))), (0, .ref (r)), (1, .int (a_)), (2, .int (b_)), (3, .int (c_)), (4, .int (d_))]) hx hb dX9_find_69 hl (k := 6) rfl rfl (by decide) rfl) (fun ls hl => ?_)
          refine zz (fun _ _ => lv_goto (tgt := 6) hx hb dX9_find_72 (by decide)) ?_
          have hI := ih (j + 1) (by omega)
          simp only [stX9_find_6, if_neg c_1, if_pos c_2, if_neg c_3] at hI
          have hl := lv_sub hl [2, 3, 4, 5, 6, 1, 0] rfl
          simp only [nI_1] at hl
          exact hI _ _ hl K
        · refine zz (fun _ _ => lv_aload_n hx hb dX9_find_37 rfl (lv_at hl 0 rfl)) ?_
          refine z_get (v := .ref (r + 21)) C fd_X9_71 rm_0 rfl dX9_find_38 ?_
          refine zz (fun _ _ => lv_iload hx hb dX9_find_41 (lv_at hl 6 rfl)) ?_
          refine z_iald (f := A 21) C rm_21 (in_nI (j := j) rfl (by omega) (by decide)) dX9_find_43 ?_
          refine zz (fun _ _ => lv_iload_n hx hb dX9_find_44 rfl (lv_at hl 3 rfl)) ?_
          refine zbn (fun _ _ => lv_icmp_ne (tgt := 65) hx hb dX9_find_45 (by decide)) (fun c_4 => ?_) (fun c_4 => ?_)
          · refine zz (fun _ _ => lv_iload hx hb dX9_find_65 (lv_at hl 5 rfl)) ?_
            refine zs (fun _ _ => lv_istore (lv' := [(5, .int ((stX9_find_6 A a_ b_ c_ d_ i1_ j))), (0, .ref (r)), (1, .int (a_)), (2, .int (b_)), (3, .int (c_)), (4, .int (d_)), (6, .int (nI j))]) hx hb dX9_find_67 hl (by decide) rfl) (fun ls hl => ?_)
            refine zs (fun _ _ => lv_iinc (v := nI j + 1) (lv' := [(6, .int (nI j + 1)), (5, .int ((stX9_find_6 A a_ b_ c_ d_ i1_ j))), (0, .ref (r)), (1, .int (a_)), (2, .int (b_)), (3, .int (c_)), (4, .int (d_))]) hx hb dX9_find_69 hl (k := 6) rfl rfl (by decide) rfl) (fun ls hl => ?_)
            refine zz (fun _ _ => lv_goto (tgt := 6) hx hb dX9_find_72 (by decide)) ?_
            have hI := ih (j + 1) (by omega)
            simp only [stX9_find_6, if_neg c_1, if_pos c_2, if_pos c_3, if_neg c_4] at hI
            have hl := lv_sub hl [2, 3, 4, 5, 6, 1, 0] rfl
            simp only [nI_1] at hl
            exact hI _ _ hl K
          · refine zz (fun _ _ => lv_aload_n hx hb dX9_find_48 rfl (lv_at hl 0 rfl)) ?_
            refine z_get (v := .ref (r + 22)) C fd_X9_74 rm_0 rfl dX9_find_49 ?_
            refine zz (fun _ _ => lv_iload hx hb dX9_find_52 (lv_at hl 6 rfl)) ?_
            refine z_iald (f := A 22) C rm_22 (in_nI (j := j) rfl (by omega) (by decide)) dX9_find_54 ?_
            refine zz (fun _ _ => lv_iload hx hb dX9_find_55 (lv_at hl 4 rfl)) ?_
            refine zbn (fun _ _ => lv_icmp_ne (tgt := 65) hx hb dX9_find_57 (by decide)) (fun c_5 => ?_) (fun c_5 => ?_)
            · refine zz (fun _ _ => lv_iload hx hb dX9_find_65 (lv_at hl 5 rfl)) ?_
              refine zs (fun _ _ => lv_istore (lv' := [(5, .int ((stX9_find_6 A a_ b_ c_ d_ i1_ j))), (0, .ref (r)), (1, .int (a_)), (2, .int (b_)), (3, .int (c_)), (4, .int (d_)), (6, .int (nI j))]) hx hb dX9_find_67 hl (by decide) rfl) (fun ls hl => ?_)
              refine zs (fun _ _ => lv_iinc (v := nI j + 1) (lv' := [(6, .int (nI j + 1)), (5, .int ((stX9_find_6 A a_ b_ c_ d_ i1_ j))), (0, .ref (r)), (1, .int (a_)), (2, .int (b_)), (3, .int (c_)), (4, .int (d_))]) hx hb dX9_find_69 hl (k := 6) rfl rfl (by decide) rfl) (fun ls hl => ?_)
              refine zz (fun _ _ => lv_goto (tgt := 6) hx hb dX9_find_72 (by decide)) ?_
              have hI := ih (j + 1) (by omega)
              simp only [stX9_find_6, if_neg c_1, if_pos c_2, if_pos c_3, if_pos c_4, if_neg c_5] at hI
              have hl := lv_sub hl [2, 3, 4, 5, 6, 1, 0] rfl
              simp only [nI_1] at hl
              exact hI _ _ hl K
            · refine zz (fun _ _ => lv_iload hx hb dX9_find_60 (lv_at hl 6 rfl)) ?_
              refine zz (fun _ _ => lv_goto (tgt := 67) hx hb dX9_find_62 (by decide)) ?_
              refine zs (fun _ _ => lv_istore (lv' := [(5, .int (nI j)), (0, .ref (r)), (1, .int (a_)), (2, .int (b_)), (3, .int (c_)), (4, .int (d_)), (6, .int (nI j))]) hx hb dX9_find_67 hl (by decide) rfl) (fun ls hl => ?_)
              refine zs (fun _ _ => lv_iinc (v := nI j + 1) (lv' := [(6, .int (nI j + 1)), (5, .int (nI j)), (0, .ref (r)), (1, .int (a_)), (2, .int (b_)), (3, .int (c_)), (4, .int (d_))]) hx hb dX9_find_69 hl (k := 6) rfl rfl (by decide) rfl) (fun ls hl => ?_)
              refine zz (fun _ _ => lv_goto (tgt := 6) hx hb dX9_find_72 (by decide)) ?_
              have hI := ih (j + 1) (by omega)
              simp only [stX9_find_6, if_neg c_1, if_pos c_2, if_pos c_3, if_pos c_4, if_pos c_5] at hI
              have hl := lv_sub hl [2, 3, 4, 5, 6, 1, 0] rfl
              simp only [nI_1] at hl
              exact hI _ _ hl K
def fX9_find (v : Nat → Int32) (A : Nat → Nat → Int32) (a_ : Int32) (b_ : Int32) (c_ : Int32) (d_ : Int32) : Int32 := ((stX9_find_6 A a_ b_ c_ d_ (-1) (Int32.toNatClampNeg (v 20))))
set_option maxHeartbeats 1000000 in
set_option maxRecDepth 10000 in
theorem ctX9_find {l : Launch} {D : va_G} {aC : Nat → ClassId} {b0 sz : Nat} {r : Nat} {v : Nat → Int32} {A : Nat → Nat → Int32} {R : ZM} {a_ : Int32} {b_ : Int32} {c_ : Int32} {d_ : Int32} {n_ : Nat} (hs : v 20 = nI n_) (hn : n_ ≤ 120) : Ct l D aC b0 yX9_find cX9_find 7 (some .int) 0 0 0 [.ref (r), .int (a_), .int (b_), .int (c_), .int (d_)] (mm aC r v A R) sz (zd (some (.int (fX9_find v A a_ b_ c_ d_))) (mm aC r v A R)) := by
  refine Ct.of (by decide) (Nat.le_of_ble_eq_true rfl) ?_
  intro p e s m below meth c ls C hr hlk hnm hl
  have hl : lv_has ls 7 [(0, .ref (r)), (1, .int (a_)), (2, .int (b_)), (3, .int (c_)), (4, .int (d_))] := hl
  obtain ⟨hx, hb, -, -, -⟩ := id C
  refine zz (fun _ _ => lv_iconst (v := (-1)) hx hb dX9_find_0 (by decide)) ?_
  refine zs (fun _ _ => lv_istore (lv' := [(5, .int ((-1))), (0, .ref (r)), (1, .int (a_)), (2, .int (b_)), (3, .int (c_)), (4, .int (d_))]) hx hb dX9_find_1 hl (by decide) rfl) (fun ls hl => ?_)
  refine zz (fun _ _ => lv_iconst (v := 0) hx hb dX9_find_3 (by decide)) ?_
  refine zs (fun _ _ => lv_istore (lv' := [(6, .int (0)), (5, .int ((-1))), (0, .ref (r)), (1, .int (a_)), (2, .int (b_)), (3, .int (c_)), (4, .int (d_))]) hx hb dX9_find_4 hl (by decide) rfl) (fun ls hl => ?_)
  refine lpX9_find_6 (v := v) (A := A) (N_ := (Int32.toNatClampNeg (v 20))) C (nI_sn hs hn (by decide)) (nI_sle hs hn (by decide)) (Nat.lt_of_le_of_lt (nI_sle hs hn (by decide)) (by decide)) (Int32.toNatClampNeg (v 20)) 0 (Nat.zero_add _) _ _ (lv_sub hl [2, 3, 4, 5, 6, 1, 0] rfl) (fun sz ls hl => ?_)
  refine zz (fun _ _ => lv_iload hx hb dX9_find_75 (lv_at hl 5 rfl)) ?_
  exact z_iret C hr hlk dX9_find_77 (by simp only [zd, fX9_find, and_self])
def fX9_has (v : Nat → Int32) (A : Nat → Nat → Int32) (a_ : Int32) (b_ : Int32) (c_ : Int32) (d_ : Int32) : Int32 × (Nat → Int32) × (Nat → Nat → Int32) := if (fX9_isIn a_ 0 6) = 0 then (0, (upd v 0 1), A) else if (fX9_find (upd v 0 0) A a_ b_ c_ d_) < 0 then (0, (upd v 0 0), A) else (1, (upd v 0 0), A)
theorem nbfX9_has {v : Nat → Int32} {A : Nat → Nat → Int32} {a_ : Int32} {b_ : Int32} {c_ : Int32} {d_ : Int32} : narrow .boolean (.int (fX9_has v A a_ b_ c_ d_).1) = .int (fX9_has v A a_ b_ c_ d_).1 := by
  unfold fX9_has
  repeat' split
  all_goals try dsimp only
  all_goals first | rfl | assumption | exact nbfX9_isIn
set_option maxHeartbeats 1000000 in
set_option maxRecDepth 10000 in
theorem ctX9_has {l : Launch} {D : va_G} {aC : Nat → ClassId} {b0 sz : Nat} {r : Nat} {v : Nat → Int32} {A : Nat → Nat → Int32} {R : ZM} {a_ : Int32} {b_ : Int32} {c_ : Int32} {d_ : Int32} {n_ : Nat} (hs : v 20 = nI n_) (hn : n_ ≤ 120) : Ct l D aC b0 yX9_has cX9_has 5 (some .boolean) 1 0 0 [.ref (r), .int (a_), .int (b_), .int (c_), .int (d_)] (mm aC r v A R) sz (zd (some (.int (fX9_has v A a_ b_ c_ d_).1)) (mm aC r (fX9_has v A a_ b_ c_ d_).2.1 (fX9_has v A a_ b_ c_ d_).2.2 R)) := by
  refine Ct.of (by decide) (Nat.le_of_ble_eq_true rfl) ?_
  intro p e s m below meth c ls C hr hlk hnm hl
  have hl : lv_has ls 5 [(0, .ref (r)), (1, .int (a_)), (2, .int (b_)), (3, .int (c_)), (4, .int (d_))] := hl
  obtain ⟨hx, hb, -, -, -⟩ := id C
  refine zz (fun _ _ => lv_aload_n hx hb dX9_has_0 rfl (lv_at hl 0 rfl)) ?_
  refine zz (fun _ _ => lv_iload_n hx hb dX9_has_1 rfl (lv_at hl 1 rfl)) ?_
  refine zz (fun _ _ => lv_iconst (v := 0) hx hb dX9_has_2 (by decide)) ?_
  refine zz (fun _ _ => lv_bipush (v := 6) hx hb dX9_has_3 (by decide)) ?_
  refine zdS (As := [.int (a_), .int (0), .int (6)]) (rest := [.ref (r)]) (st' := [.int ((fX9_isIn a_ 0 6)), .ref (r)]) C hl.1 lk_X9_135 (ctX9_isIn ) rfl rfl (Nat.le_of_ble_eq_true rfl) ⟨by decide, by decide, by decide, by decide⟩ dX9_has_5 rfl (fun sz => ?_)
  refine zb (fun _ _ => lv_if_eq (tgt := 15) hx hb dX9_has_8 (by decide)) (fun c_1 => ?_) (fun c_1 => ?_)
  · refine zz (fun _ _ => lv_iconst (v := 1) hx hb dX9_has_15 (by decide)) ?_
    refine z_put C fp_X9_129 (fun h => by cases h) rm_0 (Nat.le_of_ble_eq_true rfl) rfl rfl dX9_has_16 ?_
    refine zeq wm_f0 ?_
    refine zz (fun _ _ => lv_aload_n hx hb dX9_has_19 rfl (lv_at hl 0 rfl)) ?_
    refine z_get (v := .int (1)) C fd_X9_129 rm_0 rfl dX9_has_20 ?_
    refine zbn (fun _ _ => lv_if_ne (tgt := 42) hx hb dX9_has_23 (by decide)) (fun c_2 => ?_) (fun c_2 => ?_)
    · refine zz (fun _ _ => lv_iconst (v := 0) hx hb dX9_has_42 (by decide)) ?_
      exact z_zret C hr rfl hlk dX9_has_43 (by simp only [zd, fX9_has, if_pos c_1, and_self])
    · exact absurd c_2 (by decide)
  · refine zz (fun _ _ => lv_iconst (v := 0) hx hb dX9_has_11 (by decide)) ?_
    refine zz (fun _ _ => lv_goto (tgt := 16) hx hb dX9_has_12 (by decide)) ?_
    refine z_put C fp_X9_129 (fun h => by cases h) rm_0 (Nat.le_of_ble_eq_true rfl) rfl rfl dX9_has_16 ?_
    refine zeq wm_f0 ?_
    refine zz (fun _ _ => lv_aload_n hx hb dX9_has_19 rfl (lv_at hl 0 rfl)) ?_
    refine z_get (v := .int (0)) C fd_X9_129 rm_0 rfl dX9_has_20 ?_
    refine zbn (fun _ _ => lv_if_ne (tgt := 42) hx hb dX9_has_23 (by decide)) (fun c_3 => ?_) (fun c_3 => ?_)
    · exact absurd (by decide) c_3
    · refine zz (fun _ _ => lv_aload_n hx hb dX9_has_26 rfl (lv_at hl 0 rfl)) ?_
      refine zz (fun _ _ => lv_iload_n hx hb dX9_has_27 rfl (lv_at hl 1 rfl)) ?_
      refine zz (fun _ _ => lv_iload_n hx hb dX9_has_28 rfl (lv_at hl 2 rfl)) ?_
      refine zz (fun _ _ => lv_iload_n hx hb dX9_has_29 rfl (lv_at hl 3 rfl)) ?_
      refine zz (fun _ _ => lv_iload hx hb dX9_has_30 (lv_at hl 4 rfl)) ?_
      refine zdV (As := [.int (a_), .int (b_), .int (c_), .int (d_)]) (rest := []) (st' := [.int ((fX9_find (upd v 0 0) A a_ b_ c_ d_))]) C hl.1 lk_X9_163 (ctX9_find hs hn) rm_0 rfl rfl rfl (Nat.le_of_ble_eq_true rfl) ⟨by decide, by decide, by decide, by decide⟩ dX9_has_32 rfl (fun sz => ?_)
      refine zb (fun _ _ => lv_if_lt (tgt := 42) hx hb dX9_has_35 (by decide)) (fun c_4 => ?_) (fun c_4 => ?_)
      · refine zz (fun _ _ => lv_iconst (v := 0) hx hb dX9_has_42 (by decide)) ?_
        exact z_zret C hr rfl hlk dX9_has_43 (by simp only [zd, fX9_has, if_neg c_1, if_pos c_4, and_self])
      · refine zz (fun _ _ => lv_iconst (v := 1) hx hb dX9_has_38 (by decide)) ?_
        refine zz (fun _ _ => lv_goto (tgt := 43) hx hb dX9_has_39 (by decide)) ?_
        exact z_zret C hr rfl hlk dX9_has_43 (by simp only [zd, fX9_has, if_neg c_1, if_neg c_4, and_self])
def stX9_clear_17 (i1_ : (Nat → Int32)) : Nat → (Nat → Int32)
  | 0 => (i1_)
  | j + 1 => ((upd ((stX9_clear_17 i1_ j)) (Int32.toNatClampNeg (nI j)) ((-1))))
set_option maxHeartbeats 2000000 in
set_option maxRecDepth 10000 in
theorem lpX9_clear_17 {p : Program} {l : Launch} {e : Env} {Rm : Room} {s : State} {m : MethodId} {args : Array Value} {below : List Frame} {meth : Method} {c : Code} {D : va_G} {aC : Nat → ClassId} {b0 cells slots : Nat} {Q : State → Prop} {r : Nat} {v : Nat → Int32} {A : Nat → Nat → Int32} {R : ZM} {a_ : Int32} {i1_ : (Nat → Int32)} {N_ : Nat} (C : zC p l s m c D aC b0 RX9 cX9_clear 3) (hNb : (12 : Int32) = nI N_) (hN2 : N_ ≤ 12) (hNl : N_ < 2 ^ 31) :
    ∀ (d j : Nat), j + d = N_ → ∀ (sz : Nat) (ls : Array Slot), lv_has ls 3 [(0, .ref (r)), (1, .int (a_)), (2, .int (nI j))] → (∀ (sz : Nat) (ls : Array Slot), lv_has ls 3 [(0, .ref (r)), (1, .int (a_)), (2, .int (nI N_))] → Z p l e Rm s m args below meth c D b0 (mm aC r v (u1 A 34 (stX9_clear_17 i1_ N_)) R) sz cells slots Q (F0 m 36 ls [])) → Z p l e Rm s m args below meth c D b0 (mm aC r v (u1 A 34 (stX9_clear_17 i1_ j)) R) sz cells slots Q (F0 m 17 ls []) := by
  obtain ⟨hx, hb, -, -, -⟩ := id C
  intro d
  induction d with
  | zero =>
    intro j hj0 sz ls hl K
    refine zz (fun _ _ => lv_iload_n hx hb dX9_clear_17 rfl (lv_at hl 2 rfl)) ?_
    refine zz (fun _ _ => lv_bipush (v := 12) hx hb dX9_clear_18 (by decide)) ?_
    refine zb (fun _ _ => lv_icmp_ge (tgt := 36) hx hb dX9_clear_20 (by decide)) (fun c_1 => ?_) (fun c_1 => ?_)
    · obtain rfl := fl_eq (j := j) (N := N_) hNb (by omega) hNl c_1
      exact K _ _ (lv_sub hl [0, 1, 2] rfl)
    · exact absurd (fl_lt (j := j) (N := N_) hNb (by omega) hNl c_1) (by omega)
  | succ d ih =>
    intro j hj0 sz ls hl K
    refine zz (fun _ _ => lv_iload_n hx hb dX9_clear_17 rfl (lv_at hl 2 rfl)) ?_
    refine zz (fun _ _ => lv_bipush (v := 12) hx hb dX9_clear_18 (by decide)) ?_
    refine zb (fun _ _ => lv_icmp_ge (tgt := 36) hx hb dX9_clear_20 (by decide)) (fun c_1 => ?_) (fun c_1 => ?_)
    · obtain rfl := fl_eq (j := j) (N := N_) hNb (by omega) hNl c_1
      exact K _ _ (lv_sub hl [0, 1, 2] rfl)
    · have hj9 : j < N_ := fl_lt hNb (by omega) hNl c_1
      refine zz (fun _ _ => lv_aload_n hx hb dX9_clear_23 rfl (lv_at hl 0 rfl)) ?_
      refine z_get (v := .ref (r + 34)) C fd_X9_110 rm_0 rfl dX9_clear_24 ?_
      refine zz (fun _ _ => lv_iload_n hx hb dX9_clear_27 rfl (lv_at hl 2 rfl)) ?_
      refine zz (fun _ _ => lv_iconst (v := (-1)) hx hb dX9_clear_28 (by decide)) ?_
      refine z_iast (f := (stX9_clear_17 i1_ j)) C rm_34 (in_nI (j := j) rfl (by omega) (by decide)) dX9_clear_29 ?_
      refine zeq wm_34 ?_
      refine zeq (M' := (mm aC r v (u1 A 34 (upd ((stX9_clear_17 i1_ j)) (Int32.toNatClampNeg (nI j)) ((-1)))) R)) (by rw [u1_u1]) ?_
      refine zs (fun _ _ => lv_iinc (v := nI j + 1) (lv' := [(2, .int (nI j + 1)), (0, .ref (r)), (1, .int (a_))]) hx hb dX9_clear_30 hl (k := 2) rfl rfl (by decide) rfl) (fun ls hl => ?_)
      refine zz (fun _ _ => lv_goto (tgt := 17) hx hb dX9_clear_33 (by decide)) ?_
      have hI := ih (j + 1) (by omega)
      simp only [stX9_clear_17, if_neg c_1] at hI
      have hl := lv_sub hl [1, 2, 0] rfl
      simp only [nI_1] at hl
      exact hI _ _ hl K
def fX9_clear (v : Nat → Int32) (A : Nat → Nat → Int32) : Int32 × (Nat → Int32) × (Nat → Nat → Int32) := (v 1, (upd (upd v 0 0) 1 0), (u1 A 34 (stX9_clear_17 (A 34) 12)))
set_option maxHeartbeats 1000000 in
set_option maxRecDepth 10000 in
theorem ctX9_clear {l : Launch} {D : va_G} {aC : Nat → ClassId} {b0 sz : Nat} {r : Nat} {v : Nat → Int32} {A : Nat → Nat → Int32} {R : ZM} : Ct l D aC b0 yX9_clear cX9_clear 3 (some .int) 0 0 0 [.ref (r)] (mm aC r v A R) sz (zd (some (.int (fX9_clear v A).1)) (mm aC r (fX9_clear v A).2.1 (fX9_clear v A).2.2 R)) := by
  refine Ct.of (by decide) (Nat.le_of_ble_eq_true rfl) ?_
  intro p e s m below meth c ls C hr hlk hnm hl
  have hl : lv_has ls 3 [(0, .ref (r))] := hl
  obtain ⟨hx, hb, -, -, -⟩ := id C
  refine zz (fun _ _ => lv_aload_n hx hb dX9_clear_0 rfl (lv_at hl 0 rfl)) ?_
  refine zz (fun _ _ => lv_iconst (v := 0) hx hb dX9_clear_1 (by decide)) ?_
  refine z_put C fp_X9_129 (fun h => by cases h) rm_0 (Nat.le_of_ble_eq_true rfl) rfl rfl dX9_clear_2 ?_
  refine zeq wm_f0 ?_
  refine zz (fun _ _ => lv_aload_n hx hb dX9_clear_5 rfl (lv_at hl 0 rfl)) ?_
  refine z_get (v := .int (v 1)) C fd_X9_132 rm_0 rfl dX9_clear_6 ?_
  refine zs (fun _ _ => lv_istore_n (lv' := [(1, .int (v 1)), (0, .ref (r))]) hx hb dX9_clear_9 rfl hl (by decide) rfl) (fun ls hl => ?_)
  refine zz (fun _ _ => lv_aload_n hx hb dX9_clear_10 rfl (lv_at hl 1 rfl)) ?_
  refine zz (fun _ _ => lv_iconst (v := 0) hx hb dX9_clear_11 (by decide)) ?_
  refine z_put C fp_X9_132 (fun h => by cases h) rm_0 (Nat.le_of_ble_eq_true rfl) rfl rfl dX9_clear_12 ?_
  refine zeq wm_f1 ?_
  refine zz (fun _ _ => lv_iconst (v := 0) hx hb dX9_clear_15 (by decide)) ?_
  refine zs (fun _ _ => lv_istore_n (lv' := [(2, .int (0)), (1, .int (v 1)), (0, .ref (r))]) hx hb dX9_clear_16 rfl hl (by decide) rfl) (fun ls hl => ?_)
  refine zeq (M' := (mm aC r (upd (upd v 0 0) 1 0) (u1 A 34 (A 34)) R)) (by rw [u1_id2 (A := A) (k := 34) (g := A 34) rfl]) ?_
  refine lpX9_clear_17 (v := (upd (upd v 0 0) 1 0)) (A := A) (N_ := 12) C rfl (by decide) (by decide) 12 0 (Nat.zero_add _) _ _ (lv_sub hl [2, 1, 0] rfl) (fun sz ls hl => ?_)
  refine zz (fun _ _ => lv_iload_n hx hb dX9_clear_36 rfl (lv_at hl 1 rfl)) ?_
  exact z_iret C hr hlk dX9_clear_37 (by simp only [zd, fX9_clear, and_self])
def stX6_factCount_4 (iv : Nat → Nat → Int32) (k : Nat) (i1_ : Int32) : Nat → Int32
  | 0 => (i1_)
  | j + 1 => (((stX6_factCount_4 iv k i1_ j)) + (iv ((k + 1) + 1 + 2 * j) 1))
set_option maxHeartbeats 2000000 in
set_option maxRecDepth 10000 in
theorem lpX6_factCount_4 {p : Program} {l : Launch} {e : Env} {Rm : Room} {s : State} {m : MethodId} {args : Array Value} {below : List Frame} {meth : Method} {c : Code} {D : va_G} {aC : Nat → ClassId} {b0 cells slots : Nat} {Q : State → Prop} {x : Nat} {iv av : Nat → Nat → Int32} {R : ZM} {k : Nat} {i1_ : Int32} {N_ : Nat} (C : zC p l s m c D aC b0 RX6 cX6_factCount 3) (hk : ck k = 4) (hNb : (7 : Int32) = nI N_) (hN2 : N_ ≤ 7) (hNl : N_ < 2 ^ 31) :
    ∀ (d j : Nat), j + d = N_ → ∀ (sz : Nat) (ls : Array Slot), lv_has ls 3 [(0, .ref (x + k)), (1, .int ((stX6_factCount_4 iv k i1_ j))), (2, .int (nI j))] → (∀ (sz : Nat) (ls : Array Slot), lv_has ls 3 [(0, .ref (x + k)), (1, .int ((stX6_factCount_4 iv k i1_ N_))), (2, .int (nI N_))] → Z p l e Rm s m args below meth c D b0 (cm aC x iv av R) sz cells slots Q (F0 m 28 ls [])) → Z p l e Rm s m args below meth c D b0 (cm aC x iv av R) sz cells slots Q (F0 m 4 ls []) := by
  obtain ⟨hx, hb, -, -, -⟩ := id C
  intro d
  induction d with
  | zero =>
    intro j hj0 sz ls hl K
    refine zz (fun _ _ => lv_iload_n hx hb dX6_factCount_4 rfl (lv_at hl 2 rfl)) ?_
    refine zz (fun _ _ => lv_bipush (v := 7) hx hb dX6_factCount_5 (by decide)) ?_
    refine zb (fun _ _ => lv_icmp_ge (tgt := 28) hx hb dX6_factCount_7 (by decide)) (fun c_1 => ?_) (fun c_1 => ?_)
    · obtain rfl := fl_eq (j := j) (N := N_) hNb (by omega) hNl c_1
      exact K _ _ (lv_sub hl [0, 1, 2] rfl)
    · exact absurd (fl_lt (j := j) (N := N_) hNb (by omega) hNl c_1) (by omega)
  | succ d ih =>
    intro j hj0 sz ls hl K
    refine zz (fun _ _ => lv_iload_n hx hb dX6_factCount_4 rfl (lv_at hl 2 rfl)) ?_
    refine zz (fun _ _ => lv_bipush (v := 7) hx hb dX6_factCount_5 (by decide)) ?_
    refine zb (fun _ _ => lv_icmp_ge (tgt := 28) hx hb dX6_factCount_7 (by decide)) (fun c_1 => ?_) (fun c_1 => ?_)
    · obtain rfl := fl_eq (j := j) (N := N_) hNb (by omega) hNl c_1
      exact K _ _ (lv_sub hl [0, 1, 2] rfl)
    · have hj9 : j < N_ := fl_lt hNb (by omega) hNl c_1
      refine zz (fun _ _ => lv_iload_n hx hb dX6_factCount_10 rfl (lv_at hl 1 rfl)) ?_
      refine zz (fun _ _ => lv_aload_n hx hb dX6_factCount_11 rfl (lv_at hl 0 rfl)) ?_
      refine z_get (v := .ref (x + (k + 1))) C fd_X6_11 (rd_4 hk) rfl dX6_factCount_12 ?_
      refine zz (fun _ _ => lv_iload_n hx hb dX6_factCount_15 rfl (lv_at hl 2 rfl)) ?_
      refine z_aald C 3 rfl (rd_5 (nb_4_1 hk)) (in_nI (j := j) rfl (by omega) (by decide)) (v := .ref (x + ((k + 1) + 1 + 2 * j))) (rf_if (f := fun q => x + (k + 1 + 1 + 2 * q)) (n := 7) rfl (Nat.lt_of_lt_of_le hj9 hN2) (by decide)) dX6_factCount_16 ?_
      refine z_get (v := .int (iv ((k + 1) + 1 + 2 * j) 1)) C fd_X6_26 (rd_6 (kp_5 (nb_4_1 hk) (Nat.lt_of_lt_of_le hj9 hN2))) rfl dX6_factCount_17 ?_
      refine zz (fun _ _ => lv_iadd hx hb dX6_factCount_20) ?_
      refine zs (fun _ _ => lv_istore_n (lv' := [(1, .int (((stX6_factCount_4 iv k i1_ j)) + (iv ((k + 1) + 1 + 2 * j) 1))), (0, .ref (x + k)), (2, .int (nI j))]) hx hb dX6_factCount_21 rfl hl (by decide) rfl) (fun ls hl => ?_)
      refine zs (fun _ _ => lv_iinc (v := nI j + 1) (lv' := [(2, .int (nI j + 1)), (1, .int (((stX6_factCount_4 iv k i1_ j)) + (iv ((k + 1) + 1 + 2 * j) 1))), (0, .ref (x + k))]) hx hb dX6_factCount_22 hl (k := 2) rfl rfl (by decide) rfl) (fun ls hl => ?_)
      refine zz (fun _ _ => lv_goto (tgt := 4) hx hb dX6_factCount_25 (by decide)) ?_
      have hI := ih (j + 1) (by omega)
      simp only [stX6_factCount_4, if_neg c_1] at hI
      have hl := lv_sub hl [2, 1, 0] rfl
      simp only [nI_1] at hl
      exact hI _ _ hl K
def fX6_factCount (iv : Nat → Nat → Int32) (k : Nat) : Int32 := ((stX6_factCount_4 iv k 0 7))
set_option maxHeartbeats 1000000 in
set_option maxRecDepth 10000 in
theorem ctX6_factCount {l : Launch} {D : va_G} {aC : Nat → ClassId} {b0 sz : Nat} {x : Nat} {iv av : Nat → Nat → Int32} {R : ZM} {k : Nat} (hk : ck k = 4) : Ct l D aC b0 yX6_factCount cX6_factCount 3 (some .int) 0 0 0 [.ref (x + k)] (cm aC x iv av R) sz (zd (some (.int (fX6_factCount iv k))) (cm aC x iv av R)) := by
  refine Ct.of (by decide) (Nat.le_of_ble_eq_true rfl) ?_
  intro p e s m below meth c ls C hr hlk hnm hl
  have hl : lv_has ls 3 [(0, .ref (x + k))] := hl
  obtain ⟨hx, hb, -, -, -⟩ := id C
  refine zz (fun _ _ => lv_iconst (v := 0) hx hb dX6_factCount_0 (by decide)) ?_
  refine zs (fun _ _ => lv_istore_n (lv' := [(1, .int (0)), (0, .ref (x + k))]) hx hb dX6_factCount_1 rfl hl (by decide) rfl) (fun ls hl => ?_)
  refine zz (fun _ _ => lv_iconst (v := 0) hx hb dX6_factCount_2 (by decide)) ?_
  refine zs (fun _ _ => lv_istore_n (lv' := [(2, .int (0)), (1, .int (0)), (0, .ref (x + k))]) hx hb dX6_factCount_3 rfl hl (by decide) rfl) (fun ls hl => ?_)
  refine lpX6_factCount_4 (iv := iv) (av := av) (N_ := 7) C hk rfl (by decide) (by decide) 7 0 (Nat.zero_add _) _ _ (lv_sub hl [2, 1, 0] rfl) (fun sz ls hl => ?_)
  refine zz (fun _ _ => lv_iload_n hx hb dX6_factCount_28 rfl (lv_at hl 1 rfl)) ?_
  exact z_iret C hr hlk dX6_factCount_29 (by simp only [zd, fX6_factCount, and_self])
def fX8_told (iv : Nat → Nat → Int32) (a_ : Int32) : Nat × Int32 := if a_ = 0 then (0, iv 0 5) else if a_ = 1 then (0, (fX6_factCount iv 3)) else if a_ = 2 then (0, iv 3 1) else if a_ = 3 then (0, iv 57 3) else if a_ = 4 then (0, iv 0 7) else (1, 0)
set_option maxHeartbeats 1000000 in
set_option maxRecDepth 10000 in
theorem ctX8_told {l : Launch} {D : va_G} {aC : Nat → ClassId} {b0 sz : Nat} {x : Nat} {iv av : Nat → Nat → Int32} {R : ZM} {a_ : Int32} : CtX l D aC b0 yX8_told cX8_told 2 (some .int) 1 1 6 [.ref (x + 0), .int (a_)] (cm aC x iv av R) sz (zdx (fX8_told iv a_).1 (some (.int (fX8_told iv a_).2)) (cm aC x iv av R)) (zxx (fX8_told iv a_).1 (cm aC x iv av R)) := by
  refine CtX.of (by decide) (Nat.le_of_ble_eq_true rfl) ?_
  intro p e s m below meth c ls C hr hlk hnt hl
  have hl : lv_has ls 2 [(0, .ref (x + 0)), (1, .int (a_))] := hl
  obtain ⟨hx, hb, -, -, -⟩ := id C
  refine zz (fun _ _ => lv_iload_n hx hb dX8_told_0 rfl (lv_at hl 1 rfl)) ?_
  by_cases c_1 : a_ = 0
  · refine zz (fun _ _ => lv_tableIn (tgt := 36) (off := (35)) hx hb dX8_told_1 (by rw [c_1]; decide) (by rw [c_1]; decide) (by rw [c_1]; rfl) (by decide)) ?_
    refine zz (fun _ _ => lv_aload_n hx hb dX8_told_36 rfl (lv_at hl 0 rfl)) ?_
    refine z_get (v := .int (iv 0 5)) C fd_X8_40 (rd_1 (by decide)) rfl dX8_told_37 ?_
    exact z_ret (by decide) (by decide) (z_iret C hr hlk dX8_told_40 ⟨by simp only [fX8_told, if_pos c_1], by simp only [fX8_told, if_pos c_1], by simp only [fX8_told, if_pos c_1]⟩)
  · skip
    by_cases c_2 : a_ = 1
    · refine zz (fun _ _ => lv_tableIn (tgt := 41) (off := (40)) hx hb dX8_told_1 (by rw [c_2]; decide) (by rw [c_2]; decide) (by rw [c_2]; rfl) (by decide)) ?_
      refine zz (fun _ _ => lv_aload_n hx hb dX8_told_41 rfl (lv_at hl 0 rfl)) ?_
      refine z_get (v := .ref (x + 3)) C fd_X8_26 (rd_1 (by decide)) rfl dX8_told_42 ?_
      refine zdV (As := []) (rest := []) (st' := [.int ((fX6_factCount iv 3))]) C hl.1 lk_X8_225 (ctX6_factCount (by decide)) (rd_4 (by decide)) rfl rfl rfl (Nat.le_of_ble_eq_true rfl) ⟨by decide, by decide, by decide, by decide⟩ dX8_told_45 rfl (fun sz => ?_)
      exact z_ret (by decide) (by decide) (z_iret C hr hlk dX8_told_48 ⟨by simp only [fX8_told, if_neg c_1, if_pos c_2], by simp only [fX8_told, if_neg c_1, if_pos c_2], by simp only [fX8_told, if_neg c_1, if_pos c_2]⟩)
    · skip
      by_cases c_3 : a_ = 2
      · refine zz (fun _ _ => lv_tableIn (tgt := 49) (off := (48)) hx hb dX8_told_1 (by rw [c_3]; decide) (by rw [c_3]; decide) (by rw [c_3]; rfl) (by decide)) ?_
        refine zz (fun _ _ => lv_aload_n hx hb dX8_told_49 rfl (lv_at hl 0 rfl)) ?_
        refine z_get (v := .ref (x + 3)) C fd_X8_26 (rd_1 (by decide)) rfl dX8_told_50 ?_
        refine z_get (v := .int (iv 3 1)) C fd_X8_229 (rd_4 (by decide)) rfl dX8_told_53 ?_
        exact z_ret (by decide) (by decide) (z_iret C hr hlk dX8_told_56 ⟨by simp only [fX8_told, if_neg c_1, if_neg c_2, if_pos c_3], by simp only [fX8_told, if_neg c_1, if_neg c_2, if_pos c_3], by simp only [fX8_told, if_neg c_1, if_neg c_2, if_pos c_3]⟩)
      · skip
        by_cases c_4 : a_ = 3
        · refine zz (fun _ _ => lv_tableIn (tgt := 57) (off := (56)) hx hb dX8_told_1 (by rw [c_4]; decide) (by rw [c_4]; decide) (by rw [c_4]; rfl) (by decide)) ?_
          refine zz (fun _ _ => lv_aload_n hx hb dX8_told_57 rfl (lv_at hl 0 rfl)) ?_
          refine z_get (v := .ref (x + 57)) C fd_X8_36 (rd_1 (by decide)) rfl dX8_told_58 ?_
          refine z_get (v := .int (iv 57 3)) C fd_X8_173 (rd_16 (by decide)) rfl dX8_told_61 ?_
          exact z_ret (by decide) (by decide) (z_iret C hr hlk dX8_told_64 ⟨by simp only [fX8_told, if_neg c_1, if_neg c_2, if_neg c_3, if_pos c_4], by simp only [fX8_told, if_neg c_1, if_neg c_2, if_neg c_3, if_pos c_4], by simp only [fX8_told, if_neg c_1, if_neg c_2, if_neg c_3, if_pos c_4]⟩)
        · skip
          by_cases c_5 : a_ = 4
          · refine zz (fun _ _ => lv_tableIn (tgt := 65) (off := (64)) hx hb dX8_told_1 (by rw [c_5]; decide) (by rw [c_5]; decide) (by rw [c_5]; rfl) (by decide)) ?_
            refine zz (fun _ _ => lv_aload_n hx hb dX8_told_65 rfl (lv_at hl 0 rfl)) ?_
            refine z_get (v := .int (iv 0 7)) C fd_X8_47 (rd_1 (by decide)) rfl dX8_told_66 ?_
            exact z_ret (by decide) (by decide) (z_iret C hr hlk dX8_told_69 ⟨by simp only [fX8_told, if_neg c_1, if_neg c_2, if_neg c_3, if_neg c_4, if_pos c_5], by simp only [fX8_told, if_neg c_1, if_neg c_2, if_neg c_3, if_neg c_4, if_pos c_5], by simp only [fX8_told, if_neg c_1, if_neg c_2, if_neg c_3, if_neg c_4, if_pos c_5]⟩)
          · skip
            refine zz (fun _ _ => lv_tableOut (tgt := 70) hx hb dX8_told_1 (sw_out (fun n h1 h2 => by rcases (show n = 0 ∨ n = 1 ∨ n = 2 ∨ n = 3 ∨ n = 4 by omega) with rfl | rfl | rfl | rfl | rfl <;> assumption)) (by decide)) ?_
            exact z_throw C hl.1 th_X8_232 hnt hlk dX8_told_70 dX8_told_73 dX8_told_74 dX8_told_76 dX8_told_79 ⟨by decide, by decide, by decide, by decide, by decide, by decide⟩ ⟨by simp only [fX8_told, if_neg c_1, if_neg c_2, if_neg c_3, if_neg c_4, if_neg c_5]; decide, by simp only [fX8_told, if_neg c_1, if_neg c_2, if_neg c_3, if_neg c_4, if_neg c_5]; rfl, by simp only [fX8_told, if_neg c_1, if_neg c_2, if_neg c_3, if_neg c_4, if_neg c_5]⟩
