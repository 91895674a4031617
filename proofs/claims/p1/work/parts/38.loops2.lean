def stX9_wasIn_6 (A : Nat → Nat → Int32) (a_ : Int32) (b_ : Int32) (c_ : Int32) (d_ : Int32) (i1_ : Int32) : Nat → Int32
  | 0 => (i1_)
  | j + 1 => if (stX9_wasIn_6 A a_ b_ c_ d_ i1_ j) = 0 then if A 24 (Int32.toNatClampNeg (nI j)) = a_ then if A 25 (Int32.toNatClampNeg (nI j)) = b_ then if A 26 (Int32.toNatClampNeg (nI j)) = c_ then if A 27 (Int32.toNatClampNeg (nI j)) = d_ then (1) else (0) else (0) else (0) else (0) else (1)
set_option maxHeartbeats 2000000 in
set_option maxRecDepth 10000 in
theorem lpX9_wasIn_6 {p : Program} {l : Launch} {e : Env} {Rm : Room} {s : State} {m : MethodId} {args : Array Value} {below : List Frame} {meth : Method} {c : Code} {D : va_G} {aC : Nat → ClassId} {b0 cells slots : Nat} {Q : State → Prop} {r : Nat} {v : Nat → Int32} {A : Nat → Nat → Int32} {R : ZM} {a_ : Int32} {b_ : Int32} {c_ : Int32} {d_ : Int32} {i1_ : Int32} {N_ : Nat} (C : zC p l s m c D aC b0 RX9 cX9_wasIn 7) (hNb : v 27 = nI N_) (hN2 : N_ ≤ 120) (hNl : N_ < 2 ^ 31) :
    ∀ (d j : Nat), j + d = N_ → ∀ (sz : Nat) (ls : Array Slot), lv_has ls 7 [(0, .ref (r)), (1, .int (a_)), (2, .int (b_)), (3, .int (c_)), (4, .int (d_)), (5, .int ((stX9_wasIn_6 A a_ b_ c_ d_ i1_ j))), (6, .int (nI j))] → (∀ (sz : Nat) (ls : Array Slot), lv_has ls 7 [(0, .ref (r)), (1, .int (a_)), (2, .int (b_)), (3, .int (c_)), (4, .int (d_)), (5, .int ((stX9_wasIn_6 A a_ b_ c_ d_ i1_ N_))), (6, .int (nI N_))] → Z p l e Rm s m args below meth c D b0 (mm aC r v A R) sz cells slots Q (F0 m 78 ls [])) → Z p l e Rm s m args below meth c D b0 (mm aC r v A R) sz cells slots Q (F0 m 6 ls []) := by
  obtain ⟨hx, hb, -, -, -⟩ := id C
  intro d
  induction d with
  | zero =>
    intro j hj0 sz ls hl K
    refine zz (fun _ _ => lv_iload hx hb dX9_wasIn_6 (lv_at hl 6 rfl)) ?_
    refine zz (fun _ _ => lv_aload_n hx hb dX9_wasIn_8 rfl (lv_at hl 0 rfl)) ?_
    refine z_get (v := .int (v 27)) C fd_X9_244 rm_0 rfl dX9_wasIn_9 ?_
    refine zb (fun _ _ => lv_icmp_ge (tgt := 78) hx hb dX9_wasIn_12 (by decide)) (fun c_1 => ?_) (fun c_1 => ?_)
    · obtain rfl := fl_eq (j := j) (N := N_) hNb (by omega) hNl c_1
      exact K _ _ (lv_sub hl [0, 1, 2, 3, 4, 5, 6] rfl)
    · exact absurd (fl_lt (j := j) (N := N_) hNb (by omega) hNl c_1) (by omega)
  | succ d ih =>
    intro j hj0 sz ls hl K
    refine zz (fun _ _ => lv_iload hx hb dX9_wasIn_6 (lv_at hl 6 rfl)) ?_
    refine zz (fun _ _ => lv_aload_n hx hb dX9_wasIn_8 rfl (lv_at hl 0 rfl)) ?_
    refine z_get (v := .int (v 27)) C fd_X9_244 rm_0 rfl dX9_wasIn_9 ?_
    refine zb (fun _ _ => lv_icmp_ge (tgt := 78) hx hb dX9_wasIn_12 (by decide)) (fun c_1 => ?_) (fun c_1 => ?_)
    · obtain rfl := fl_eq (j := j) (N := N_) hNb (by omega) hNl c_1
      exact K _ _ (lv_sub hl [0, 1, 2, 3, 4, 5, 6] rfl)
    · have hj9 : j < N_ := fl_lt hNb (by omega) hNl c_1
      refine zz (fun _ _ => lv_iload hx hb dX9_wasIn_15 (lv_at hl 5 rfl)) ?_
      refine zbn (fun _ _ => lv_if_ne (tgt := 65) hx hb dX9_wasIn_17 (by decide)) (fun c_2 => ?_) (fun c_2 => ?_)
      · refine zz (fun _ _ => lv_iconst (v := 1) hx hb dX9_wasIn_65 (by decide)) ?_
        refine zz (fun _ _ => lv_goto (tgt := 70) hx hb dX9_wasIn_66 (by decide)) ?_
        refine zs (fun _ _ => lv_istore (lv' := [(5, .int (1)), (0, .ref (r)), (1, .int (a_)), (2, .int (b_)), (3, .int (c_)), (4, .int (d_)), (6, .int (nI j))]) hx hb dX9_wasIn_70 hl (by decide) rfl) (fun ls hl => ?_)
        refine zs (fun _ _ => lv_iinc (v := nI j + 1) (lv' := [(6, .int (nI j + 1)), (5, .int (1)), (0, .ref (r)), (1, .int (a_)), (2, .int (b_)), (3, .int (c_)), (4, .int (d_))]) hx hb dX9_wasIn_72 hl (k := 6) rfl rfl (by decide) rfl) (fun ls hl => ?_)
        refine zz (fun _ _ => lv_goto (tgt := 6) hx hb dX9_wasIn_75 (by decide)) ?_
        have hI := ih (j + 1) (by omega)
        simp only [stX9_wasIn_6, if_neg c_1, if_neg c_2] at hI
        have hl := lv_sub hl [2, 3, 4, 5, 6, 1, 0] rfl
        simp only [nI_1] at hl
        exact hI _ _ hl K
      · refine zz (fun _ _ => lv_aload_n hx hb dX9_wasIn_20 rfl (lv_at hl 0 rfl)) ?_
        refine z_get (v := .ref (r + 24)) C fd_X9_80 rm_0 rfl dX9_wasIn_21 ?_
        refine zz (fun _ _ => lv_iload hx hb dX9_wasIn_24 (lv_at hl 6 rfl)) ?_
        refine z_iald (f := A 24) C rm_24 (in_nI (j := j) rfl (by omega) (by decide)) dX9_wasIn_26 ?_
        refine zz (fun _ _ => lv_iload_n hx hb dX9_wasIn_27 rfl (lv_at hl 1 rfl)) ?_
        refine zbn (fun _ _ => lv_icmp_ne (tgt := 69) hx hb dX9_wasIn_28 (by decide)) (fun c_3 => ?_) (fun c_3 => ?_)
        · refine zz (fun _ _ => lv_iconst (v := 0) hx hb dX9_wasIn_69 (by decide)) ?_
          refine zs (fun _ _ => lv_istore (lv' := [(5, .int (0)), (0, .ref (r)), (1, .int (a_)), (2, .int (b_)), (3, .int (c_)), (4, .int (d_)), (6, .int (nI j))]) hx hb dX9_wasIn_70 hl (by decide) rfl) (fun ls hl => ?_)
          refine zs (fun _ _ => lv_iinc (v := nI j + 1) (lv' := [(6, .int (nI j + 1)), (5, .int (0)), (0, .ref (r)), (1, .int (a_)), (2, .int (b_)), (3, .int (c_)), (4, .int (d_))]) hx hb dX9_wasIn_72 hl (k := 6) rfl rfl (by decide) rfl) (fun ls hl => ?_)
          refine zz (fun _ _ => lv_goto (tgt := 6) hx hb dX9_wasIn_75 (by decide)) ?_
          have hI := ih (j + 1) (by omega)
          simp only [stX9_wasIn_6, if_neg c_1, if_pos c_2, if_neg c_3] at hI
          have hl := lv_sub hl [2, 3, 4, 5, 6, 1, 0] rfl
          simp only [nI_1] at hl
          exact hI _ _ hl K
        · refine zz (fun _ _ => lv_aload_n hx hb dX9_wasIn_31 rfl (lv_at hl 0 rfl)) ?_
          refine z_get (v := .ref (r + 25)) C fd_X9_83 rm_0 rfl dX9_wasIn_32 ?_
          refine zz (fun _ _ => lv_iload hx hb dX9_wasIn_35 (lv_at hl 6 rfl)) ?_
          refine z_iald (f := A 25) C rm_25 (in_nI (j := j) rfl (by omega) (by decide)) dX9_wasIn_37 ?_
          refine zz (fun _ _ => lv_iload_n hx hb dX9_wasIn_38 rfl (lv_at hl 2 rfl)) ?_
          refine zbn (fun _ _ => lv_icmp_ne (tgt := 69) hx hb dX9_wasIn_39 (by decide)) (fun c_4 => ?_) (fun c_4 => ?_)
          · refine zz (fun _ _ => lv_iconst (v := 0) hx hb dX9_wasIn_69 (by decide)) ?_
            refine zs (fun _ _ => lv_istore (lv' := [(5, .int (0)), (0, .ref (r)), (1, .int (a_)), (2, .int (b_)), (3, .int (c_)), (4, .int (d_)), (6, .int (nI j))]) hx hb dX9_wasIn_70 hl (by decide) rfl) (fun ls hl => ?_)
            refine zs (fun _ _ => lv_iinc (v := nI j + 1) (lv' := [(6, .int (nI j + 1)), (5, .int (0)), (0, .ref (r)), (1, .int (a_)), (2, .int (b_)), (3, .int (c_)), (4, .int (d_))]) hx hb dX9_wasIn_72 hl (k := 6) rfl rfl (by decide) rfl) (fun ls hl => ?_)
            refine zz (fun _ _ => lv_goto (tgt := 6) hx hb dX9_wasIn_75 (by decide)) ?_
            have hI := ih (j + 1) (by omega)
            simp only [stX9_wasIn_6, if_neg c_1, if_pos c_2, if_pos c_3, if_neg c_4] at hI
            have hl := lv_sub hl [2, 3, 4, 5, 6, 1, 0] rfl
            simp only [nI_1] at hl
            exact hI _ _ hl K
          · refine zz (fun _ _ => lv_aload_n hx hb dX9_wasIn_42 rfl (lv_at hl 0 rfl)) ?_
            refine z_get (v := .ref (r + 26)) C fd_X9_86 rm_0 rfl dX9_wasIn_43 ?_
            refine zz (fun _ _ => lv_iload hx hb dX9_wasIn_46 (lv_at hl 6 rfl)) ?_
            refine z_iald (f := A 26) C rm_26 (in_nI (j := j) rfl (by omega) (by decide)) dX9_wasIn_48 ?_
            refine zz (fun _ _ => lv_iload_n hx hb dX9_wasIn_49 rfl (lv_at hl 3 rfl)) ?_
            refine zbn (fun _ _ => lv_icmp_ne (tgt := 69) hx hb dX9_wasIn_50 (by decide)) (fun c_5 => ?_) (fun c_5 => ?_)
            · refine zz (fun _ _ => lv_iconst (v := 0) hx hb dX9_wasIn_69 (by decide)) ?_
              refine zs (fun _ _ => lv_istore (lv' := [(5, .int (0)), (0, .ref (r)), (1, .int (a_)), (2, .int (b_)), (3, .int (c_)), (4, .int (d_)), (6, .int (nI j))]) hx hb dX9_wasIn_70 hl (by decide) rfl) (fun ls hl => ?_)
              refine zs (fun _ _ => lv_iinc (v := nI j + 1) (lv' := [(6, .int (nI j + 1)), (5, .int (0)), (0, .ref (r)), (1, .int (a_)), (2, .int (b_)), (3, .int (c_)), (4, .int (d_))]) hx hb dX9_wasIn_72 hl (k := 6) rfl rfl (by decide) rfl) (fun ls hl => ?_)
              refine zz (fun _ _ => lv_goto (tgt := 6) hx hb dX9_wasIn_75 (by decide)) ?_
              have hI := ih (j + 1) (by omega)
              simp only [stX9_wasIn_6, if_neg c_1, if_pos c_2, if_pos c_3, if_pos c_4, if_neg c_5] at hI
              have hl := lv_sub hl [2, 3, 4, 5, 6, 1, 0] rfl
              simp only [nI_1] at hl
              exact hI _ _ hl K
            · refine zz (fun _ _ => lv_aload_n hx hb dX9_wasIn_53 rfl (lv_at hl 0 rfl)) ?_
              refine z_get (v := .ref (r + 27)) C fd_X9_89 rm_0 rfl dX9_wasIn_54 ?_
              refine zz (fun _ _ => lv_iload hx hb dX9_wasIn_57 (lv_at hl 6 rfl)) ?_
              refine z_iald (f := A 27) C rm_27 (in_nI (j := j) rfl (by omega) (by decide)) dX9_wasIn_59 ?_
              refine zz (fun _ _ => lv_iload hx hb dX9_wasIn_60 (lv_at hl 4 rfl)) ?_
              refine zbn (fun _ _ => lv_icmp_ne (tgt := 69) hx hb dX9_wasIn_62 (by decide)) (fun c_6 => ?_) (fun c_6 => ?_)
              · refine zz (fun _ _ => lv_iconst (v := 0) hx hb dX9_wasIn_69 (by decide)) ?_
                refine zs (fun _ _ => lv_istore (lv' := [(5, .int (0)), (0, .ref (r)), (1, .int (a_)), (2, .int (b_)), (3, .int (c_)), (4, .int (d_)), (6, .int (nI j))]) hx hb dX9_wasIn_70 hl (by decide) rfl) (fun ls hl => ?_)
                refine zs (fun _ _ => lv_iinc (v := nI j + 1) (lv' := [(6, .int (nI j + 1)), (5, .int (0)), (0, .ref (r)), (1, .int (a_)), (2, .int (b_)), (3, .int (c_)), (4, .int (d_))]) hx hb dX9_wasIn_72 hl (k := 6) rfl rfl (by decide) rfl) (fun ls hl => ?_)
                refine zz (fun _ _ => lv_goto (tgt := 6) hx hb dX9_wasIn_75 (by decide)) ?_
                have hI := ih (j + 1) (by omega)
                simp only [stX9_wasIn_6, if_neg c_1, if_pos c_2, if_pos c_3, if_pos c_4, if_pos c_5, if_neg c_6] at hI
                have hl := lv_sub hl [2, 3, 4, 5, 6, 1, 0] rfl
                simp only [nI_1] at hl
                exact hI _ _ hl K
              · refine zz (fun _ _ => lv_iconst (v := 1) hx hb dX9_wasIn_65 (by decide)) ?_
                refine zz (fun _ _ => lv_goto (tgt := 70) hx hb dX9_wasIn_66 (by decide)) ?_
                refine zs (fun _ _ => lv_istore (lv' := [(5, .int (1)), (0, .ref (r)), (1, .int (a_)), (2, .int (b_)), (3, .int (c_)), (4, .int (d_)), (6, .int (nI j))]) hx hb dX9_wasIn_70 hl (by decide) rfl) (fun ls hl => ?_)
                refine zs (fun _ _ => lv_iinc (v := nI j + 1) (lv' := [(6, .int (nI j + 1)), (5, .int (1)), (0, .ref (r)), (1, .int (a_)), (2, .int (b_)), (3, .int (c_)), (4, .int (d_))]) hx hb dX9_wasIn_72 hl (k := 6) rfl rfl (by decide) rfl) (fun ls hl => ?_)
                refine zz (fun _ _ => lv_goto (tgt := 6) hx hb dX9_wasIn_75 (by decide)) ?_
                have hI := ih (j + 1) (by omega)
                simp only [stX9_wasIn_6, if_neg c_1, if_pos c_2, if_pos c_3, if_pos c_4, if_pos c_5, if_pos c_6] at hI
                have hl := lv_sub hl [2, 3, 4, 5, 6, 1, 0] rfl
                simp only [nI_1] at hl
                exact hI _ _ hl K
theorem wasIn_b (A : Nat → Nat → Int32) (a_ b_ c_ d_ : Int32) : ∀ n, stX9_wasIn_6 A a_ b_ c_ d_ 0 n = 0 ∨ stX9_wasIn_6 A a_ b_ c_ d_ 0 n = 1 := by
  intro n
  cases n with
  | zero => exact Or.inl rfl
  | succ n =>
    simp only [stX9_wasIn_6]
    repeat' split
    all_goals first | exact Or.inl rfl | exact Or.inr rfl
def fX9_wasIn (v : Nat → Int32) (A : Nat → Nat → Int32) (a_ : Int32) (b_ : Int32) (c_ : Int32) (d_ : Int32) : Int32 := ((stX9_wasIn_6 A a_ b_ c_ d_ 0 (Int32.toNatClampNeg (v 27))))
set_option maxHeartbeats 1000000 in
set_option maxRecDepth 10000 in
theorem ctX9_wasIn {l : Launch} {D : va_G} {aC : Nat → ClassId} {b0 sz : Nat} {r : Nat} {v : Nat → Int32} {A : Nat → Nat → Int32} {R : ZM} {a_ : Int32} {b_ : Int32} {c_ : Int32} {d_ : Int32} {n_ : Nat} (hs : v 27 = nI n_) (hn : n_ ≤ 120) : Ct l D aC b0 yX9_wasIn cX9_wasIn 7 (some .boolean) 0 0 0 [.ref (r), .int (a_), .int (b_), .int (c_), .int (d_)] (mm aC r v A R) sz (zd (some (.int (fX9_wasIn v A a_ b_ c_ d_))) (mm aC r v A R)) := by
  refine Ct.of (by decide) (Nat.le_of_ble_eq_true rfl) ?_
  intro p e s m below meth c ls C hr hlk hnm hl
  have hl : lv_has ls 7 [(0, .ref (r)), (1, .int (a_)), (2, .int (b_)), (3, .int (c_)), (4, .int (d_))] := hl
  obtain ⟨hx, hb, -, -, -⟩ := id C
  refine zz (fun _ _ => lv_iconst (v := 0) hx hb dX9_wasIn_0 (by decide)) ?_
  refine zs (fun _ _ => lv_istore (lv' := [(5, .int (0)), (0, .ref (r)), (1, .int (a_)), (2, .int (b_)), (3, .int (c_)), (4, .int (d_))]) hx hb dX9_wasIn_1 hl (by decide) rfl) (fun ls hl => ?_)
  refine zz (fun _ _ => lv_iconst (v := 0) hx hb dX9_wasIn_3 (by decide)) ?_
  refine zs (fun _ _ => lv_istore (lv' := [(6, .int (0)), (5, .int (0)), (0, .ref (r)), (1, .int (a_)), (2, .int (b_)), (3, .int (c_)), (4, .int (d_))]) hx hb dX9_wasIn_4 hl (by decide) rfl) (fun ls hl => ?_)
  refine lpX9_wasIn_6 (v := v) (A := A) (N_ := (Int32.toNatClampNeg (v 27))) C (nI_sn hs hn (by decide)) (nI_sle hs hn (by decide)) (Nat.lt_of_le_of_lt (nI_sle hs hn (by decide)) (by decide)) (Int32.toNatClampNeg (v 27)) 0 (Nat.zero_add _) _ _ (lv_sub hl [2, 3, 4, 5, 6, 1, 0] rfl) (fun sz ls hl => ?_)
  refine zz (fun _ _ => lv_iload hx hb dX9_wasIn_78 (lv_at hl 5 rfl)) ?_
  exact z_zret C hr (bz (wasIn_b A a_ b_ c_ d_ _)) hlk dX9_wasIn_80 (by simp only [zd, fX9_wasIn, and_self])
def stX9_keep_18 (A : Nat → Nat → Int32) (i1_ : (Nat → Int32)) (i2_ : (Nat → Int32)) (i3_ : (Nat → Int32)) (i4_ : (Nat → Int32)) : Nat → (Nat → Int32) × (Nat → Int32) × (Nat → Int32) × (Nat → Int32)
  | 0 => (i1_, i2_, i3_, i4_)
  | j + 1 => ((upd ((stX9_keep_18 A i1_ i2_ i3_ i4_ j).1) (Int32.toNatClampNeg (nI j)) (A 19 (Int32.toNatClampNeg (nI j)))), (upd ((stX9_keep_18 A i1_ i2_ i3_ i4_ j).2.1) (Int32.toNatClampNeg (nI j)) (A 20 (Int32.toNatClampNeg (nI j)))), (upd ((stX9_keep_18 A i1_ i2_ i3_ i4_ j).2.2.1) (Int32.toNatClampNeg (nI j)) (A 21 (Int32.toNatClampNeg (nI j)))), (upd ((stX9_keep_18 A i1_ i2_ i3_ i4_ j).2.2.2) (Int32.toNatClampNeg (nI j)) (A 22 (Int32.toNatClampNeg (nI j)))))
set_option maxHeartbeats 2000000 in
set_option maxRecDepth 10000 in
theorem lpX9_keep_18 {p : Program} {l : Launch} {e : Env} {Rm : Room} {s : State} {m : MethodId} {args : Array Value} {below : List Frame} {meth : Method} {c : Code} {D : va_G} {aC : Nat → ClassId} {b0 cells slots : Nat} {Q : State → Prop} {r : Nat} {v : Nat → Int32} {A : Nat → Nat → Int32} {R : ZM} {i1_ : (Nat → Int32)} {i2_ : (Nat → Int32)} {i3_ : (Nat → Int32)} {i4_ : (Nat → Int32)} {N_ : Nat} (C : zC p l s m c D aC b0 RX9 cX9_keep 2) (hNb : v 20 = nI N_) (hN2 : N_ ≤ 120) (hNl : N_ < 2 ^ 31) :
    ∀ (d j : Nat), j + d = N_ → ∀ (sz : Nat) (ls : Array Slot), lv_has ls 2 [(0, .ref (r)), (1, .int (nI j))] → (∀ (sz : Nat) (ls : Array Slot), lv_has ls 2 [(0, .ref (r)), (1, .int (nI N_))] → Z p l e Rm s m args below meth c D b0 (mm aC r v (u1 (u1 (u1 (u1 A 24 (stX9_keep_18 A i1_ i2_ i3_ i4_ N_).1) 25 (stX9_keep_18 A i1_ i2_ i3_ i4_ N_).2.1) 26 (stX9_keep_18 A i1_ i2_ i3_ i4_ N_).2.2.1) 27 (stX9_keep_18 A i1_ i2_ i3_ i4_ N_).2.2.2) R) sz cells slots Q (F0 m 80 ls [])) → Z p l e Rm s m args below meth c D b0 (mm aC r v (u1 (u1 (u1 (u1 A 24 (stX9_keep_18 A i1_ i2_ i3_ i4_ j).1) 25 (stX9_keep_18 A i1_ i2_ i3_ i4_ j).2.1) 26 (stX9_keep_18 A i1_ i2_ i3_ i4_ j).2.2.1) 27 (stX9_keep_18 A i1_ i2_ i3_ i4_ j).2.2.2) R) sz cells slots Q (F0 m 18 ls []) := by
  obtain ⟨hx, hb, -, -, -⟩ := id C
  intro d
  induction d with
  | zero =>
    intro j hj0 sz ls hl K
    refine zz (fun _ _ => lv_iload_n hx hb dX9_keep_18 rfl (lv_at hl 1 rfl)) ?_
    refine zz (fun _ _ => lv_aload_n hx hb dX9_keep_19 rfl (lv_at hl 0 rfl)) ?_
    refine z_get (v := .int (v 20)) C fd_X9_160 rm_0 rfl dX9_keep_20 ?_
    refine zb (fun _ _ => lv_icmp_ge (tgt := 80) hx hb dX9_keep_23 (by decide)) (fun c_1 => ?_) (fun c_1 => ?_)
    · obtain rfl := fl_eq (j := j) (N := N_) hNb (by omega) hNl c_1
      exact K _ _ (lv_sub hl [0, 1] rfl)
    · exact absurd (fl_lt (j := j) (N := N_) hNb (by omega) hNl c_1) (by omega)
  | succ d ih =>
    intro j hj0 sz ls hl K
    refine zz (fun _ _ => lv_iload_n hx hb dX9_keep_18 rfl (lv_at hl 1 rfl)) ?_
    refine zz (fun _ _ => lv_aload_n hx hb dX9_keep_19 rfl (lv_at hl 0 rfl)) ?_
    refine z_get (v := .int (v 20)) C fd_X9_160 rm_0 rfl dX9_keep_20 ?_
    refine zb (fun _ _ => lv_icmp_ge (tgt := 80) hx hb dX9_keep_23 (by decide)) (fun c_1 => ?_) (fun c_1 => ?_)
    · obtain rfl := fl_eq (j := j) (N := N_) hNb (by omega) hNl c_1
      exact K _ _ (lv_sub hl [0, 1] rfl)
    · have hj9 : j < N_ := fl_lt hNb (by omega) hNl c_1
      refine zz (fun _ _ => lv_aload_n hx hb dX9_keep_26 rfl (lv_at hl 0 rfl)) ?_
      refine z_get (v := .ref (r + 24)) C fd_X9_80 rm_0 rfl dX9_keep_27 ?_
      refine zz (fun _ _ => lv_iload_n hx hb dX9_keep_30 rfl (lv_at hl 1 rfl)) ?_
      refine zz (fun _ _ => lv_aload_n hx hb dX9_keep_31 rfl (lv_at hl 0 rfl)) ?_
      refine z_get (v := .ref (r + 19)) C fd_X9_65 rm_0 rfl dX9_keep_32 ?_
      refine zz (fun _ _ => lv_iload_n hx hb dX9_keep_35 rfl (lv_at hl 1 rfl)) ?_
      refine z_iald (f := A 19) C rm_19 (in_nI (j := j) rfl (by omega) (by decide)) dX9_keep_36 ?_
      refine z_iast (f := (stX9_keep_18 A i1_ i2_ i3_ i4_ j).1) C rm_24 (in_nI (j := j) rfl (by omega) (by decide)) dX9_keep_37 ?_
      refine zeq wm_24 ?_
      refine zeq (M' := (mm aC r v (u1 (u1 (u1 (u1 A 24 (upd ((stX9_keep_18 A i1_ i2_ i3_ i4_ j).1) (Int32.toNatClampNeg (nI j)) (A 19 (Int32.toNatClampNeg (nI j))))) 25 ((stX9_keep_18 A i1_ i2_ i3_ i4_ j).2.1)) 26 ((stX9_keep_18 A i1_ i2_ i3_ i4_ j).2.2.1)) 27 ((stX9_keep_18 A i1_ i2_ i3_ i4_ j).2.2.2)) R)) (by rw [u1_sw (k := 27) (j := 24) (by decide), u1_sw (k := 26) (j := 24) (by decide), u1_sw (k := 25) (j := 24) (by decide), u1_u1]) ?_
      refine zz (fun _ _ => lv_aload_n hx hb dX9_keep_38 rfl (lv_at hl 0 rfl)) ?_
      refine z_get (v := .ref (r + 25)) C fd_X9_83 rm_0 rfl dX9_keep_39 ?_
      refine zz (fun _ _ => lv_iload_n hx hb dX9_keep_42 rfl (lv_at hl 1 rfl)) ?_
      refine zz (fun _ _ => lv_aload_n hx hb dX9_keep_43 rfl (lv_at hl 0 rfl)) ?_
      refine z_get (v := .ref (r + 20)) C fd_X9_68 rm_0 rfl dX9_keep_44 ?_
      refine zz (fun _ _ => lv_iload_n hx hb dX9_keep_47 rfl (lv_at hl 1 rfl)) ?_
      refine z_iald (f := A 20) C rm_20 (in_nI (j := j) rfl (by omega) (by decide)) dX9_keep_48 ?_
      refine z_iast (f := (stX9_keep_18 A i1_ i2_ i3_ i4_ j).2.1) C rm_25 (in_nI (j := j) rfl (by omega) (by decide)) dX9_keep_49 ?_
      refine zeq wm_25 ?_
      refine zeq (M' := (mm aC r v (u1 (u1 (u1 (u1 A 24 (upd ((stX9_keep_18 A i1_ i2_ i3_ i4_ j).1) (Int32.toNatClampNeg (nI j)) (A 19 (Int32.toNatClampNeg (nI j))))) 25 (upd ((stX9_keep_18 A i1_ i2_ i3_ i4_ j).2.1) (Int32.toNatClampNeg (nI j)) (A 20 (Int32.toNatClampNeg (nI j))))) 26 ((stX9_keep_18 A i1_ i2_ i3_ i4_ j).2.2.1)) 27 ((stX9_keep_18 A i1_ i2_ i3_ i4_ j).2.2.2)) R)) (by rw [u1_sw (k := 27) (j := 25) (by decide), u1_sw (k := 26) (j := 25) (by decide), u1_u1]) ?_
      refine zz (fun _ _ => lv_aload_n hx hb dX9_keep_50 rfl (lv_at hl 0 rfl)) ?_
      refine z_get (v := .ref (r + 26)) C fd_X9_86 rm_0 rfl dX9_keep_51 ?_
      refine zz (fun _ _ => lv_iload_n hx hb dX9_keep_54 rfl (lv_at hl 1 rfl)) ?_
      refine zz (fun _ _ => lv_aload_n hx hb dX9_keep_55 rfl (lv_at hl 0 rfl)) ?_
      refine z_get (v := .ref (r + 21)) C fd_X9_71 rm_0 rfl dX9_keep_56 ?_
      refine zz (fun _ _ => lv_iload_n hx hb dX9_keep_59 rfl (lv_at hl 1 rfl)) ?_
      refine z_iald (f := A 21) C rm_21 (in_nI (j := j) rfl (by omega) (by decide)) dX9_keep_60 ?_
      refine z_iast (f := (stX9_keep_18 A i1_ i2_ i3_ i4_ j).2.2.1) C rm_26 (in_nI (j := j) rfl (by omega) (by decide)) dX9_keep_61 ?_
      refine zeq wm_26 ?_
      refine zeq (M' := (mm aC r v (u1 (u1 (u1 (u1 A 24 (upd ((stX9_keep_18 A i1_ i2_ i3_ i4_ j).1) (Int32.toNatClampNeg (nI j)) (A 19 (Int32.toNatClampNeg (nI j))))) 25 (upd ((stX9_keep_18 A i1_ i2_ i3_ i4_ j).2.1) (Int32.toNatClampNeg (nI j)) (A 20 (Int32.toNatClampNeg (nI j))))) 26 (upd ((stX9_keep_18 A i1_ i2_ i3_ i4_ j).2.2.1) (Int32.toNatClampNeg (nI j)) (A 21 (Int32.toNatClampNeg (nI j))))) 27 ((stX9_keep_18 A i1_ i2_ i3_ i4_ j).2.2.2)) R)) (by rw [u1_sw (k := 27) (j := 26) (by decide), u1_u1]) ?_
      refine zz (fun _ _ => lv_aload_n hx hb dX9_keep_62 rfl (lv_at hl 0 rfl)) ?_
      refine z_get (v := .ref (r + 27)) C fd_X9_89 rm_0 rfl dX9_keep_63 ?_
      refine zz (fun _ _ => lv_iload_n hx hb dX9_keep_66 rfl (lv_at hl 1 rfl)) ?_
      refine zz (fun _ _ => lv_aload_n hx hb dX9_keep_67 rfl (lv_at hl 0 rfl)) ?_
      refine z_get (v := .ref (r + 22)) C fd_X9_74 rm_0 rfl dX9_keep_68 ?_
      refine zz (fun _ _ => lv_iload_n hx hb dX9_keep_71 rfl (lv_at hl 1 rfl)) ?_
      refine z_iald (f := A 22) C rm_22 (in_nI (j := j) rfl (by omega) (by decide)) dX9_keep_72 ?_
      refine z_iast (f := (stX9_keep_18 A i1_ i2_ i3_ i4_ j).2.2.2) C rm_27 (in_nI (j := j) rfl (by omega) (by decide)) dX9_keep_73 ?_
      refine zeq wm_27 ?_
      refine zeq (M' := (mm aC r v (u1 (u1 (u1 (u1 A 24 (upd ((stX9_keep_18 A i1_ i2_ i3_ i4_ j).1) (Int32.toNatClampNeg (nI j)) (A 19 (Int32.toNatClampNeg (nI j))))) 25 (upd ((stX9_keep_18 A i1_ i2_ i3_ i4_ j).2.1) (Int32.toNatClampNeg (nI j)) (A 20 (Int32.toNatClampNeg (nI j))))) 26 (upd ((stX9_keep_18 A i1_ i2_ i3_ i4_ j).2.2.1) (Int32.toNatClampNeg (nI j)) (A 21 (Int32.toNatClampNeg (nI j))))) 27 (upd ((stX9_keep_18 A i1_ i2_ i3_ i4_ j).2.2.2) (Int32.toNatClampNeg (nI j)) (A 22 (Int32.toNatClampNeg (nI j))))) R)) (by rw [u1_u1]) ?_
      refine zs (fun _ _ => lv_iinc (v := nI j + 1) (lv' := [(1, .int (nI j + 1)), (0, .ref (r))]) hx hb dX9_keep_74 hl (k := 1) rfl rfl (by decide) rfl) (fun ls hl => ?_)
      refine zz (fun _ _ => lv_goto (tgt := 18) hx hb dX9_keep_77 (by decide)) ?_
      have hI := ih (j + 1) (by omega)
      simp only [stX9_keep_18, if_neg c_1] at hI
      have hl := lv_sub hl [1, 0] rfl
      simp only [nI_1] at hl
      exact hI _ _ hl K
def stX9_keep_82 (A : Nat → Nat → Int32) (i1_ : (Nat → Int32)) : Nat → (Nat → Int32)
  | 0 => (i1_)
  | j + 1 => ((upd ((stX9_keep_82 A i1_ j)) (Int32.toNatClampNeg (nI j)) (A 23 (Int32.toNatClampNeg (nI j)))))
set_option maxHeartbeats 2000000 in
set_option maxRecDepth 10000 in
theorem lpX9_keep_82 {p : Program} {l : Launch} {e : Env} {Rm : Room} {s : State} {m : MethodId} {args : Array Value} {below : List Frame} {meth : Method} {c : Code} {D : va_G} {aC : Nat → ClassId} {b0 cells slots : Nat} {Q : State → Prop} {r : Nat} {v : Nat → Int32} {A : Nat → Nat → Int32} {R : ZM} {i1_ : (Nat → Int32)} {N_ : Nat} (C : zC p l s m c D aC b0 RX9 cX9_keep 2) (hz : ∀ j, j < 7 → A 23 j = 0 ∨ A 23 j = 1) (hNb : (7 : Int32) = nI N_) (hN2 : N_ ≤ 7) (hNl : N_ < 2 ^ 31) :
    ∀ (d j : Nat), j + d = N_ → ∀ (sz : Nat) (ls : Array Slot), lv_has ls 2 [(0, .ref (r)), (1, .int (nI j))] → (∀ (sz : Nat) (ls : Array Slot), lv_has ls 2 [(0, .ref (r)), (1, .int (nI N_))] → Z p l e Rm s m args below meth c D b0 (mm aC r v (u1 A 28 (stX9_keep_82 A i1_ N_)) R) sz cells slots Q (F0 m 106 ls [])) → Z p l e Rm s m args below meth c D b0 (mm aC r v (u1 A 28 (stX9_keep_82 A i1_ j)) R) sz cells slots Q (F0 m 82 ls []) := by
  obtain ⟨hx, hb, -, -, -⟩ := id C
  intro d
  induction d with
  | zero =>
    intro j hj0 sz ls hl K
    refine zz (fun _ _ => lv_iload_n hx hb dX9_keep_82 rfl (lv_at hl 1 rfl)) ?_
    refine zz (fun _ _ => lv_bipush (v := 7) hx hb dX9_keep_83 (by decide)) ?_
    refine zb (fun _ _ => lv_icmp_ge (tgt := 106) hx hb dX9_keep_85 (by decide)) (fun c_1 => ?_) (fun c_1 => ?_)
    · obtain rfl := fl_eq (j := j) (N := N_) hNb (by omega) hNl c_1
      exact K _ _ (lv_sub hl [0, 1] rfl)
    · exact absurd (fl_lt (j := j) (N := N_) hNb (by omega) hNl c_1) (by omega)
  | succ d ih =>
    intro j hj0 sz ls hl K
    refine zz (fun _ _ => lv_iload_n hx hb dX9_keep_82 rfl (lv_at hl 1 rfl)) ?_
    refine zz (fun _ _ => lv_bipush (v := 7) hx hb dX9_keep_83 (by decide)) ?_
    refine zb (fun _ _ => lv_icmp_ge (tgt := 106) hx hb dX9_keep_85 (by decide)) (fun c_1 => ?_) (fun c_1 => ?_)
    · obtain rfl := fl_eq (j := j) (N := N_) hNb (by omega) hNl c_1
      exact K _ _ (lv_sub hl [0, 1] rfl)
    · have hj9 : j < N_ := fl_lt hNb (by omega) hNl c_1
      refine zz (fun _ _ => lv_aload_n hx hb dX9_keep_88 rfl (lv_at hl 0 rfl)) ?_
      refine z_get (v := .ref (r + 28)) C fd_X9_92 rm_0 rfl dX9_keep_89 ?_
      refine zz (fun _ _ => lv_iload_n hx hb dX9_keep_92 rfl (lv_at hl 1 rfl)) ?_
      refine zz (fun _ _ => lv_aload_n hx hb dX9_keep_93 rfl (lv_at hl 0 rfl)) ?_
      refine z_get (v := .ref (r + 23)) C fd_X9_77 rm_0 rfl dX9_keep_94 ?_
      refine zz (fun _ _ => lv_iload_n hx hb dX9_keep_97 rfl (lv_at hl 1 rfl)) ?_
      refine z_zald (f := A 23) C rm_23 (in_nI (j := j) rfl (by omega) (by decide)) dX9_keep_98 ?_
      refine z_zast (f := (stX9_keep_82 A i1_ j)) C rm_28 (in_nI (j := j) rfl (by omega) (by decide)) (bz (hz _ (by rw [nI_clamp (by omega)]; omega))) dX9_keep_99 ?_
      refine zeq wm_28 ?_
      refine zeq (M' := (mm aC r v (u1 A 28 (upd ((stX9_keep_82 A i1_ j)) (Int32.toNatClampNeg (nI j)) (A 23 (Int32.toNatClampNeg (nI j))))) R)) (by rw [u1_u1]) ?_
      refine zs (fun _ _ => lv_iinc (v := nI j + 1) (lv' := [(1, .int (nI j + 1)), (0, .ref (r))]) hx hb dX9_keep_100 hl (k := 1) rfl rfl (by decide) rfl) (fun ls hl => ?_)
      refine zz (fun _ _ => lv_goto (tgt := 82) hx hb dX9_keep_103 (by decide)) ?_
      have hI := ih (j + 1) (by omega)
      simp only [stX9_keep_82, if_neg c_1] at hI
      have hl := lv_sub hl [1, 0] rfl
      simp only [nI_1] at hl
      exact hI _ _ hl K
def fX9_keep (v : Nat → Int32) (A : Nat → Nat → Int32) : (Nat → Int32) × (Nat → Nat → Int32) := ((upd (upd v 27 (v 20)) 33 (v 26)), (u1 (u1 (u1 (u1 (u1 A 24 ((stX9_keep_18 A (A 24) (A 25) (A 26) (A 27) (Int32.toNatClampNeg (v 20))).1)) 25 ((stX9_keep_18 A (A 24) (A 25) (A 26) (A 27) (Int32.toNatClampNeg (v 20))).2.1)) 26 ((stX9_keep_18 A (A 24) (A 25) (A 26) (A 27) (Int32.toNatClampNeg (v 20))).2.2.1)) 27 ((stX9_keep_18 A (A 24) (A 25) (A 26) (A 27) (Int32.toNatClampNeg (v 20))).2.2.2)) 28 (stX9_keep_82 (u1 (u1 (u1 (u1 A 24 ((stX9_keep_18 A (A 24) (A 25) (A 26) (A 27) (Int32.toNatClampNeg (v 20))).1)) 25 ((stX9_keep_18 A (A 24) (A 25) (A 26) (A 27) (Int32.toNatClampNeg (v 20))).2.1)) 26 ((stX9_keep_18 A (A 24) (A 25) (A 26) (A 27) (Int32.toNatClampNeg (v 20))).2.2.1)) 27 ((stX9_keep_18 A (A 24) (A 25) (A 26) (A 27) (Int32.toNatClampNeg (v 20))).2.2.2)) (A 28) 7)))
set_option maxHeartbeats 1000000 in
set_option maxRecDepth 10000 in
theorem ctX9_keep {l : Launch} {D : va_G} {aC : Nat → ClassId} {b0 sz : Nat} {r : Nat} {v : Nat → Int32} {A : Nat → Nat → Int32} {R : ZM} {n_ : Nat} (hs : v 20 = nI n_) (hn : n_ ≤ 120) (hz : ∀ j, j < 7 → A 23 j = 0 ∨ A 23 j = 1) : Ct l D aC b0 yX9_keep cX9_keep 2 none 0 0 0 [.ref (r)] (mm aC r v A R) sz (zd none (mm aC r (fX9_keep v A).1 (fX9_keep v A).2 R)) := by
  refine Ct.of (by decide) (Nat.le_of_ble_eq_true rfl) ?_
  intro p e s m below meth c ls C hr hlk hnm hl
  have hl : lv_has ls 2 [(0, .ref (r))] := hl
  obtain ⟨hx, hb, -, -, -⟩ := id C
  refine zz (fun _ _ => lv_aload_n hx hb dX9_keep_0 rfl (lv_at hl 0 rfl)) ?_
  refine zz (fun _ _ => lv_aload_n hx hb dX9_keep_1 rfl (lv_at hl 0 rfl)) ?_
  refine z_get (v := .int (v 20)) C fd_X9_160 rm_0 rfl dX9_keep_2 ?_
  refine z_put C fp_X9_244 (fun h => by cases h) rm_0 (Nat.le_of_ble_eq_true rfl) rfl rfl dX9_keep_5 ?_
  refine zeq wm_f27 ?_
  refine zz (fun _ _ => lv_aload_n hx hb dX9_keep_8 rfl (lv_at hl 0 rfl)) ?_
  refine zz (fun _ _ => lv_aload_n hx hb dX9_keep_9 rfl (lv_at hl 0 rfl)) ?_
  refine z_get (v := .int (v 26)) C fd_X9_199 rm_0 rfl dX9_keep_10 ?_
  refine z_put C fp_X9_247 (fun h => by cases h) rm_0 (Nat.le_of_ble_eq_true rfl) rfl rfl dX9_keep_13 ?_
  refine zeq wm_f33 ?_
  refine zz (fun _ _ => lv_iconst (v := 0) hx hb dX9_keep_16 (by decide)) ?_
  refine zs (fun _ _ => lv_istore_n (lv' := [(1, .int (0)), (0, .ref (r))]) hx hb dX9_keep_17 rfl hl (by decide) rfl) (fun ls hl => ?_)
  refine zeq (M' := (mm aC r (upd (upd v 27 (v 20)) 33 (v 26)) (u1 (u1 (u1 (u1 A 24 (A 24)) 25 (A 25)) 26 (A 26)) 27 (A 27)) R)) (by rw [u1_id2 (A := (u1 (u1 (u1 A 24 (A 24)) 25 (A 25)) 26 (A 26))) (k := 27) (g := A 27) rfl, u1_id2 (A := (u1 (u1 A 24 (A 24)) 25 (A 25))) (k := 26) (g := A 26) rfl, u1_id2 (A := (u1 A 24 (A 24))) (k := 25) (g := A 25) rfl, u1_id2 (A := A) (k := 24) (g := A 24) rfl]) ?_
  refine lpX9_keep_18 (v := (upd (upd v 27 (v 20)) 33 (v 26))) (A := A) (N_ := (Int32.toNatClampNeg (v 20))) C (nI_sn hs hn (by decide)) (nI_sle hs hn (by decide)) (Nat.lt_of_le_of_lt (nI_sle hs hn (by decide)) (by decide)) (Int32.toNatClampNeg (v 20)) 0 (Nat.zero_add _) _ _ (lv_sub hl [1, 0] rfl) (fun sz ls hl => ?_)
  refine zz (fun _ _ => lv_iconst (v := 0) hx hb dX9_keep_80 (by decide)) ?_
  refine zs (fun _ _ => lv_istore_n (lv' := [(1, .int (0)), (0, .ref (r))]) hx hb dX9_keep_81 rfl hl (by decide) rfl) (fun ls hl => ?_)
  refine zeq (M' := (mm aC r (upd (upd v 27 (v 20)) 33 (v 26)) (u1 (u1 (u1 (u1 (u1 A 24 ((stX9_keep_18 A (A 24) (A 25) (A 26) (A 27) (Int32.toNatClampNeg (v 20))).1)) 25 ((stX9_keep_18 A (A 24) (A 25) (A 26) (A 27) (Int32.toNatClampNeg (v 20))).2.1)) 26 ((stX9_keep_18 A (A 24) (A 25) (A 26) (A 27) (Int32.toNatClampNeg (v 20))).2.2.1)) 27 ((stX9_keep_18 A (A 24) (A 25) (A 26) (A 27) (Int32.toNatClampNeg (v 20))).2.2.2)) 28 (A 28)) R)) (by rw [u1_id2 (A := (u1 (u1 (u1 (u1 A 24 ((stX9_keep_18 A (A 24) (A 25) (A 26) (A 27) (Int32.toNatClampNeg (v 20))).1)) 25 ((stX9_keep_18 A (A 24) (A 25) (A 26) (A 27) (Int32.toNatClampNeg (v 20))).2.1)) 26 ((stX9_keep_18 A (A 24) (A 25) (A 26) (A 27) (Int32.toNatClampNeg (v 20))).2.2.1)) 27 ((stX9_keep_18 A (A 24) (A 25) (A 26) (A 27) (Int32.toNatClampNeg (v 20))).2.2.2))) (k := 28) (g := A 28) rfl]) ?_
  refine lpX9_keep_82 (v := (upd (upd v 27 (v 20)) 33 (v 26))) (A := (u1 (u1 (u1 (u1 A 24 ((stX9_keep_18 A (A 24) (A 25) (A 26) (A 27) (Int32.toNatClampNeg (v 20))).1)) 25 ((stX9_keep_18 A (A 24) (A 25) (A 26) (A 27) (Int32.toNatClampNeg (v 20))).2.1)) 26 ((stX9_keep_18 A (A 24) (A 25) (A 26) (A 27) (Int32.toNatClampNeg (v 20))).2.2.1)) 27 ((stX9_keep_18 A (A 24) (A 25) (A 26) (A 27) (Int32.toNatClampNeg (v 20))).2.2.2))) (N_ := 7) C hz rfl (by decide) (by decide) 7 0 (Nat.zero_add _) _ _ (lv_sub hl [1, 0] rfl) (fun sz ls hl => ?_)
  exact z_vret C hr hlk dX9_keep_106 (by simp only [zd, fX9_keep, and_self])
def stX9_goBack_18 (A : Nat → Nat → Int32) (i1_ : (Nat → Int32)) (i2_ : (Nat → Int32)) (i3_ : (Nat → Int32)) (i4_ : (Nat → Int32)) : Nat → (Nat → Int32) × (Nat → Int32) × (Nat → Int32) × (Nat → Int32)
  | 0 => (i1_, i2_, i3_, i4_)
  | j + 1 => ((upd ((stX9_goBack_18 A i1_ i2_ i3_ i4_ j).1) (Int32.toNatClampNeg (nI j)) (A 24 (Int32.toNatClampNeg (nI j)))), (upd ((stX9_goBack_18 A i1_ i2_ i3_ i4_ j).2.1) (Int32.toNatClampNeg (nI j)) (A 25 (Int32.toNatClampNeg (nI j)))), (upd ((stX9_goBack_18 A i1_ i2_ i3_ i4_ j).2.2.1) (Int32.toNatClampNeg (nI j)) (A 26 (Int32.toNatClampNeg (nI j)))), (upd ((stX9_goBack_18 A i1_ i2_ i3_ i4_ j).2.2.2) (Int32.toNatClampNeg (nI j)) (A 27 (Int32.toNatClampNeg (nI j)))))
set_option maxHeartbeats 2000000 in
set_option maxRecDepth 10000 in
theorem lpX9_goBack_18 {p : Program} {l : Launch} {e : Env} {Rm : Room} {s : State} {m : MethodId} {args : Array Value} {below : List Frame} {meth : Method} {c : Code} {D : va_G} {aC : Nat → ClassId} {b0 cells slots : Nat} {Q : State → Prop} {r : Nat} {v : Nat → Int32} {A : Nat → Nat → Int32} {R : ZM} {i1_ : (Nat → Int32)} {i2_ : (Nat → Int32)} {i3_ : (Nat → Int32)} {i4_ : (Nat → Int32)} {N_ : Nat} (C : zC p l s m c D aC b0 RX9 cX9_goBack 2) (hNb : v 20 = nI N_) (hN2 : N_ ≤ 120) (hNl : N_ < 2 ^ 31) :
    ∀ (d j : Nat), j + d = N_ → ∀ (sz : Nat) (ls : Array Slot), lv_has ls 2 [(0, .ref (r)), (1, .int (nI j))] → (∀ (sz : Nat) (ls : Array Slot), lv_has ls 2 [(0, .ref (r)), (1, .int (nI N_))] → Z p l e Rm s m args below meth c D b0 (mm aC r v (u1 (u1 (u1 (u1 A 19 (stX9_goBack_18 A i1_ i2_ i3_ i4_ N_).1) 20 (stX9_goBack_18 A i1_ i2_ i3_ i4_ N_).2.1) 21 (stX9_goBack_18 A i1_ i2_ i3_ i4_ N_).2.2.1) 22 (stX9_goBack_18 A i1_ i2_ i3_ i4_ N_).2.2.2) R) sz cells slots Q (F0 m 80 ls [])) → Z p l e Rm s m args below meth c D b0 (mm aC r v (u1 (u1 (u1 (u1 A 19 (stX9_goBack_18 A i1_ i2_ i3_ i4_ j).1) 20 (stX9_goBack_18 A i1_ i2_ i3_ i4_ j).2.1) 21 (stX9_goBack_18 A i1_ i2_ i3_ i4_ j).2.2.1) 22 (stX9_goBack_18 A i1_ i2_ i3_ i4_ j).2.2.2) R) sz cells slots Q (F0 m 18 ls []) := by
  obtain ⟨hx, hb, -, -, -⟩ := id C
  intro d
  induction d with
  | zero =>
    intro j hj0 sz ls hl K
    refine zz (fun _ _ => lv_iload_n hx hb dX9_goBack_18 rfl (lv_at hl 1 rfl)) ?_
    refine zz (fun _ _ => lv_aload_n hx hb dX9_goBack_19 rfl (lv_at hl 0 rfl)) ?_
    refine z_get (v := .int (v 20)) C fd_X9_160 rm_0 rfl dX9_goBack_20 ?_
    refine zb (fun _ _ => lv_icmp_ge (tgt := 80) hx hb dX9_goBack_23 (by decide)) (fun c_1 => ?_) (fun c_1 => ?_)
    · obtain rfl := fl_eq (j := j) (N := N_) hNb (by omega) hNl c_1
      exact K _ _ (lv_sub hl [0, 1] rfl)
    · exact absurd (fl_lt (j := j) (N := N_) hNb (by omega) hNl c_1) (by omega)
  | succ d ih =>
    intro j hj0 sz ls hl K
    refine zz (fun _ _ => lv_iload_n hx hb dX9_goBack_18 rfl (lv_at hl 1 rfl)) ?_
    refine zz (fun _ _ => lv_aload_n hx hb dX9_goBack_19 rfl (lv_at hl 0 rfl)) ?_
    refine z_get (v := .int (v 20)) C fd_X9_160 rm_0 rfl dX9_goBack_20 ?_
    refine zb (fun _ _ => lv_icmp_ge (tgt := 80) hx hb dX9_goBack_23 (by decide)) (fun c_1 => ?_) (fun c_1 => ?_)
    · obtain rfl := fl_eq (j := j) (N := N_) hNb (by omega) hNl c_1
      exact K _ _ (lv_sub hl [0, 1] rfl)
    · have hj9 : j < N_ := fl_lt hNb (by omega) hNl c_1
      refine zz (fun _ _ => lv_aload_n hx hb dX9_goBack_26 rfl (lv_at hl 0 rfl)) ?_
      refine z_get (v := .ref (r + 19)) C fd_X9_65 rm_0 rfl dX9_goBack_27 ?_
      refine zz (fun _ _ => lv_iload_n hx hb dX9_goBack_30 rfl (lv_at hl 1 rfl)) ?_
      refine zz (fun _ _ => lv_aload_n hx hb dX9_goBack_31 rfl (lv_at hl 0 rfl)) ?_
      refine z_get (v := .ref (r + 24)) C fd_X9_80 rm_0 rfl dX9_goBack_32 ?_
      refine zz (fun _ _ => lv_iload_n hx hb dX9_goBack_35 rfl (lv_at hl 1 rfl)) ?_
      refine z_iald (f := A 24) C rm_24 (in_nI (j := j) rfl (by omega) (by decide)) dX9_goBack_36 ?_
      refine z_iast (f := (stX9_goBack_18 A i1_ i2_ i3_ i4_ j).1) C rm_19 (in_nI (j := j) rfl (by omega) (by decide)) dX9_goBack_37 ?_
      refine zeq wm_19 ?_
      refine zeq (M' := (mm aC r v (u1 (u1 (u1 (u1 A 19 (upd ((stX9_goBack_18 A i1_ i2_ i3_ i4_ j).1) (Int32.toNatClampNeg (nI j)) (A 24 (Int32.toNatClampNeg (nI j))))) 20 ((stX9_goBack_18 A i1_ i2_ i3_ i4_ j).2.1)) 21 ((stX9_goBack_18 A i1_ i2_ i3_ i4_ j).2.2.1)) 22 ((stX9_goBack_18 A i1_ i2_ i3_ i4_ j).2.2.2)) R)) (by rw [u1_sw (k := 22) (j := 19) (by decide), u1_sw (k := 21) (j := 19) (by decide), u1_sw (k := 20) (j := 19) (by decide), u1_u1]) ?_
      refine zz (fun _ _ => lv_aload_n hx hb dX9_goBack_38 rfl (lv_at hl 0 rfl)) ?_
      refine z_get (v := .ref (r + 20)) C fd_X9_68 rm_0 rfl dX9_goBack_39 ?_
      refine zz (fun _ _ => lv_iload_n hx hb dX9_goBack_42 rfl (lv_at hl 1 rfl)) ?_
      refine zz (fun _ _ => lv_aload_n hx hb dX9_goBack_43 rfl (lv_at hl 0 rfl)) ?_
      refine z_get (v := .ref (r + 25)) C fd_X9_83 rm_0 rfl dX9_goBack_44 ?_
      refine zz (fun _ _ => lv_iload_n hx hb dX9_goBack_47 rfl (lv_at hl 1 rfl)) ?_
      refine z_iald (f := A 25) C rm_25 (in_nI (j := j) rfl (by omega) (by decide)) dX9_goBack_48 ?_
      refine z_iast (f := (stX9_goBack_18 A i1_ i2_ i3_ i4_ j).2.1) C rm_20 (in_nI (j := j) rfl (by omega) (by decide)) dX9_goBack_49 ?_
      refine zeq wm_20 ?_
      refine zeq (M' := (mm aC r v (u1 (u1 (u1 (u1 A 19 (upd ((stX9_goBack_18 A i1_ i2_ i3_ i4_ j).1) (Int32.toNatClampNeg (nI j)) (A 24 (Int32.toNatClampNeg (nI j))))) 20 (upd ((stX9_goBack_18 A i1_ i2_ i3_ i4_ j).2.1) (Int32.toNatClampNeg (nI j)) (A 25 (Int32.toNatClampNeg (nI j))))) 21 ((stX9_goBack_18 A i1_ i2_ i3_ i4_ j).2.2.1)) 22 ((stX9_goBack_18 A i1_ i2_ i3_ i4_ j).2.2.2)) R)) (by rw [u1_sw (k := 22) (j := 20) (by decide), u1_sw (k := 21) (j := 20) (by decide), u1_u1]) ?_
      refine zz (fun _ _ => lv_aload_n hx hb dX9_goBack_50 rfl (lv_at hl 0 rfl)) ?_
      refine z_get (v := .ref (r + 21)) C fd_X9_71 rm_0 rfl dX9_goBack_51 ?_
      refine zz (fun _ _ => lv_iload_n hx hb dX9_goBack_54 rfl (lv_at hl 1 rfl)) ?_
      refine zz (fun _ _ => lv_aload_n hx hb dX9_goBack_55 rfl (lv_at hl 0 rfl)) ?_
      refine z_get (v := .ref (r + 26)) C fd_X9_86 rm_0 rfl dX9_goBack_56 ?_
      refine zz (fun _ _ => lv_iload_n hx hb dX9_goBack_59 rfl (lv_at hl 1 rfl)) ?_
      refine z_iald (f := A 26) C rm_26 (in_nI (j := j) rfl (by omega) (by decide)) dX9_goBack_60 ?_
      refine z_iast (f := (stX9_goBack_18 A i1_ i2_ i3_ i4_ j).2.2.1) C rm_21 (in_nI (j := j) rfl (by omega) (by decide)) dX9_goBack_61 ?_
      refine zeq wm_21 ?_
      refine zeq (M' := (mm aC r v (u1 (u1 (u1 (u1 A 19 (upd ((stX9_goBack_18 A i1_ i2_ i3_ i4_ j).1) (Int32.toNatClampNeg (nI j)) (A 24 (Int32.toNatClampNeg (nI j))))) 20 (upd ((stX9_goBack_18 A i1_ i2_ i3_ i4_ j).2.1) (Int32.toNatClampNeg (nI j)) (A 25 (Int32.toNatClampNeg (nI j))))) 21 (upd ((stX9_goBack_18 A i1_ i2_ i3_ i4_ j).2.2.1) (Int32.toNatClampNeg (nI j)) (A 26 (Int32.toNatClampNeg (nI j))))) 22 ((stX9_goBack_18 A i1_ i2_ i3_ i4_ j).2.2.2)) R)) (by rw [u1_sw (k := 22) (j := 21) (by decide), u1_u1]) ?_
      refine zz (fun _ _ => lv_aload_n hx hb dX9_goBack_62 rfl (lv_at hl 0 rfl)) ?_
      refine z_get (v := .ref (r + 22)) C fd_X9_74 rm_0 rfl dX9_goBack_63 ?_
      refine zz (fun _ _ => lv_iload_n hx hb dX9_goBack_66 rfl (lv_at hl 1 rfl)) ?_
      refine zz (fun _ _ => lv_aload_n hx hb dX9_goBack_67 rfl (lv_at hl 0 rfl)) ?_
      refine z_get (v := .ref (r + 27)) C fd_X9_89 rm_0 rfl dX9_goBack_68 ?_
      refine zz (fun _ _ => lv_iload_n hx hb dX9_goBack_71 rfl (lv_at hl 1 rfl)) ?_
      refine z_iald (f := A 27) C rm_27 (in_nI (j := j) rfl (by omega) (by decide)) dX9_goBack_72 ?_
      refine z_iast (f := (stX9_goBack_18 A i1_ i2_ i3_ i4_ j).2.2.2) C rm_22 (in_nI (j := j) rfl (by omega) (by decide)) dX9_goBack_73 ?_
      refine zeq wm_22 ?_
      refine zeq (M' := (mm aC r v (u1 (u1 (u1 (u1 A 19 (upd ((stX9_goBack_18 A i1_ i2_ i3_ i4_ j).1) (Int32.toNatClampNeg (nI j)) (A 24 (Int32.toNatClampNeg (nI j))))) 20 (upd ((stX9_goBack_18 A i1_ i2_ i3_ i4_ j).2.1) (Int32.toNatClampNeg (nI j)) (A 25 (Int32.toNatClampNeg (nI j))))) 21 (upd ((stX9_goBack_18 A i1_ i2_ i3_ i4_ j).2.2.1) (Int32.toNatClampNeg (nI j)) (A 26 (Int32.toNatClampNeg (nI j))))) 22 (upd ((stX9_goBack_18 A i1_ i2_ i3_ i4_ j).2.2.2) (Int32.toNatClampNeg (nI j)) (A 27 (Int32.toNatClampNeg (nI j))))) R)) (by rw [u1_u1]) ?_
      refine zs (fun _ _ => lv_iinc (v := nI j + 1) (lv' := [(1, .int (nI j + 1)), (0, .ref (r))]) hx hb dX9_goBack_74 hl (k := 1) rfl rfl (by decide) rfl) (fun ls hl => ?_)
      refine zz (fun _ _ => lv_goto (tgt := 18) hx hb dX9_goBack_77 (by decide)) ?_
      have hI := ih (j + 1) (by omega)
      simp only [stX9_goBack_18, if_neg c_1] at hI
      have hl := lv_sub hl [1, 0] rfl
      simp only [nI_1] at hl
      exact hI _ _ hl K
def stX9_goBack_82 (A : Nat → Nat → Int32) (i1_ : (Nat → Int32)) : Nat → (Nat → Int32)
  | 0 => (i1_)
  | j + 1 => ((upd ((stX9_goBack_82 A i1_ j)) (Int32.toNatClampNeg (nI j)) (A 28 (Int32.toNatClampNeg (nI j)))))
set_option maxHeartbeats 2000000 in
set_option maxRecDepth 10000 in
theorem lpX9_goBack_82 {p : Program} {l : Launch} {e : Env} {Rm : Room} {s : State} {m : MethodId} {args : Array Value} {below : List Frame} {meth : Method} {c : Code} {D : va_G} {aC : Nat → ClassId} {b0 cells slots : Nat} {Q : State → Prop} {r : Nat} {v : Nat → Int32} {A : Nat → Nat → Int32} {R : ZM} {i1_ : (Nat → Int32)} {N_ : Nat} (C : zC p l s m c D aC b0 RX9 cX9_goBack 2) (hz : ∀ j, j < 7 → A 28 j = 0 ∨ A 28 j = 1) (hNb : (7 : Int32) = nI N_) (hN2 : N_ ≤ 7) (hNl : N_ < 2 ^ 31) :
    ∀ (d j : Nat), j + d = N_ → ∀ (sz : Nat) (ls : Array Slot), lv_has ls 2 [(0, .ref (r)), (1, .int (nI j))] → (∀ (sz : Nat) (ls : Array Slot), lv_has ls 2 [(0, .ref (r)), (1, .int (nI N_))] → Z p l e Rm s m args below meth c D b0 (mm aC r v (u1 A 23 (stX9_goBack_82 A i1_ N_)) R) sz cells slots Q (F0 m 106 ls [])) → Z p l e Rm s m args below meth c D b0 (mm aC r v (u1 A 23 (stX9_goBack_82 A i1_ j)) R) sz cells slots Q (F0 m 82 ls []) := by
  obtain ⟨hx, hb, -, -, -⟩ := id C
  intro d
  induction d with
  | zero =>
    intro j hj0 sz ls hl K
    refine zz (fun _ _ => lv_iload_n hx hb dX9_goBack_82 rfl (lv_at hl 1 rfl)) ?_
    refine zz (fun _ _ => lv_bipush (v := 7) hx hb dX9_goBack_83 (by decide)) ?_
    refine zb (fun _ _ => lv_icmp_ge (tgt := 106) hx hb dX9_goBack_85 (by decide)) (fun c_1 => ?_) (fun c_1 => ?_)
    · obtain rfl := fl_eq (j := j) (N := N_) hNb (by omega) hNl c_1
      exact K _ _ (lv_sub hl [0, 1] rfl)
    · exact absurd (fl_lt (j := j) (N := N_) hNb (by omega) hNl c_1) (by omega)
  | succ d ih =>
    intro j hj0 sz ls hl K
    refine zz (fun _ _ => lv_iload_n hx hb dX9_goBack_82 rfl (lv_at hl 1 rfl)) ?_
    refine zz (fun _ _ => lv_bipush (v := 7) hx hb dX9_goBack_83 (by decide)) ?_
    refine zb (fun _ _ => lv_icmp_ge (tgt := 106) hx hb dX9_goBack_85 (by decide)) (fun c_1 => ?_) (fun c_1 => ?_)
    · obtain rfl := fl_eq (j := j) (N := N_) hNb (by omega) hNl c_1
      exact K _ _ (lv_sub hl [0, 1] rfl)
    · have hj9 : j < N_ := fl_lt hNb (by omega) hNl c_1
      refine zz (fun _ _ => lv_aload_n hx hb dX9_goBack_88 rfl (lv_at hl 0 rfl)) ?_
      refine z_get (v := .ref (r + 23)) C fd_X9_77 rm_0 rfl dX9_goBack_89 ?_
      refine zz (fun _ _ => lv_iload_n hx hb dX9_goBack_92 rfl (lv_at hl 1 rfl)) ?_
      refine zz (fun _ _ => lv_aload_n hx hb dX9_goBack_93 rfl (lv_at hl 0 rfl)) ?_
      refine z_get (v := .ref (r + 28)) C fd_X9_92 rm_0 rfl dX9_goBack_94 ?_
      refine zz (fun _ _ => lv_iload_n hx hb dX9_goBack_97 rfl (lv_at hl 1 rfl)) ?_
      refine z_zald (f := A 28) C rm_28 (in_nI (j := j) rfl (by omega) (by decide)) dX9_goBack_98 ?_
      refine z_zast (f := (stX9_goBack_82 A i1_ j)) C rm_23 (in_nI (j := j) rfl (by omega) (by decide)) (bz (hz _ (by rw [nI_clamp (by omega)]; omega))) dX9_goBack_99 ?_
      refine zeq wm_23 ?_
      refine zeq (M' := (mm aC r v (u1 A 23 (upd ((stX9_goBack_82 A i1_ j)) (Int32.toNatClampNeg (nI j)) (A 28 (Int32.toNatClampNeg (nI j))))) R)) (by rw [u1_u1]) ?_
      refine zs (fun _ _ => lv_iinc (v := nI j + 1) (lv' := [(1, .int (nI j + 1)), (0, .ref (r))]) hx hb dX9_goBack_100 hl (k := 1) rfl rfl (by decide) rfl) (fun ls hl => ?_)
      refine zz (fun _ _ => lv_goto (tgt := 82) hx hb dX9_goBack_103 (by decide)) ?_
      have hI := ih (j + 1) (by omega)
      simp only [stX9_goBack_82, if_neg c_1] at hI
      have hl := lv_sub hl [1, 0] rfl
      simp only [nI_1] at hl
      exact hI _ _ hl K
def fX9_goBack (v : Nat → Int32) (A : Nat → Nat → Int32) : (Nat → Int32) × (Nat → Nat → Int32) := ((upd (upd v 20 (v 27)) 26 (v 33)), (u1 (u1 (u1 (u1 (u1 A 19 ((stX9_goBack_18 A (A 19) (A 20) (A 21) (A 22) (Int32.toNatClampNeg (v 27))).1)) 20 ((stX9_goBack_18 A (A 19) (A 20) (A 21) (A 22) (Int32.toNatClampNeg (v 27))).2.1)) 21 ((stX9_goBack_18 A (A 19) (A 20) (A 21) (A 22) (Int32.toNatClampNeg (v 27))).2.2.1)) 22 ((stX9_goBack_18 A (A 19) (A 20) (A 21) (A 22) (Int32.toNatClampNeg (v 27))).2.2.2)) 23 (stX9_goBack_82 (u1 (u1 (u1 (u1 A 19 ((stX9_goBack_18 A (A 19) (A 20) (A 21) (A 22) (Int32.toNatClampNeg (v 27))).1)) 20 ((stX9_goBack_18 A (A 19) (A 20) (A 21) (A 22) (Int32.toNatClampNeg (v 27))).2.1)) 21 ((stX9_goBack_18 A (A 19) (A 20) (A 21) (A 22) (Int32.toNatClampNeg (v 27))).2.2.1)) 22 ((stX9_goBack_18 A (A 19) (A 20) (A 21) (A 22) (Int32.toNatClampNeg (v 27))).2.2.2)) (A 23) 7)))
set_option maxHeartbeats 1000000 in
set_option maxRecDepth 10000 in
theorem ctX9_goBack {l : Launch} {D : va_G} {aC : Nat → ClassId} {b0 sz : Nat} {r : Nat} {v : Nat → Int32} {A : Nat → Nat → Int32} {R : ZM} {n_ : Nat} (hs : v 27 = nI n_) (hn : n_ ≤ 120) (hz : ∀ j, j < 7 → A 28 j = 0 ∨ A 28 j = 1) : Ct l D aC b0 yX9_goBack cX9_goBack 2 none 0 0 0 [.ref (r)] (mm aC r v A R) sz (zd none (mm aC r (fX9_goBack v A).1 (fX9_goBack v A).2 R)) := by
  refine Ct.of (by decide) (Nat.le_of_ble_eq_true rfl) ?_
  intro p e s m below meth c ls C hr hlk hnm hl
  have hl : lv_has ls 2 [(0, .ref (r))] := hl
  obtain ⟨hx, hb, -, -, -⟩ := id C
  refine zz (fun _ _ => lv_aload_n hx hb dX9_goBack_0 rfl (lv_at hl 0 rfl)) ?_
  refine zz (fun _ _ => lv_aload_n hx hb dX9_goBack_1 rfl (lv_at hl 0 rfl)) ?_
  refine z_get (v := .int (v 27)) C fd_X9_244 rm_0 rfl dX9_goBack_2 ?_
  refine z_put C fp_X9_160 (fun h => by cases h) rm_0 (Nat.le_of_ble_eq_true rfl) rfl rfl dX9_goBack_5 ?_
  refine zeq wm_f20 ?_
  refine zz (fun _ _ => lv_aload_n hx hb dX9_goBack_8 rfl (lv_at hl 0 rfl)) ?_
  refine zz (fun _ _ => lv_aload_n hx hb dX9_goBack_9 rfl (lv_at hl 0 rfl)) ?_
  refine z_get (v := .int (v 33)) C fd_X9_247 rm_0 rfl dX9_goBack_10 ?_
  refine z_put C fp_X9_199 (fun h => by cases h) rm_0 (Nat.le_of_ble_eq_true rfl) rfl rfl dX9_goBack_13 ?_
  refine zeq wm_f26 ?_
  refine zz (fun _ _ => lv_iconst (v := 0) hx hb dX9_goBack_16 (by decide)) ?_
  refine zs (fun _ _ => lv_istore_n (lv' := [(1, .int (0)), (0, .ref (r))]) hx hb dX9_goBack_17 rfl hl (by decide) rfl) (fun ls hl => ?_)
  refine zeq (M' := (mm aC r (upd (upd v 20 (v 27)) 26 (v 33)) (u1 (u1 (u1 (u1 A 19 (A 19)) 20 (A 20)) 21 (A 21)) 22 (A 22)) R)) (by rw [u1_id2 (A := (u1 (u1 (u1 A 19 (A 19)) 20 (A 20)) 21 (A 21))) (k := 22) (g := A 22) rfl, u1_id2 (A := (u1 (u1 A 19 (A 19)) 20 (A 20))) (k := 21) (g := A 21) rfl, u1_id2 (A := (u1 A 19 (A 19))) (k := 20) (g := A 20) rfl, u1_id2 (A := A) (k := 19) (g := A 19) rfl]) ?_
  refine lpX9_goBack_18 (v := (upd (upd v 20 (v 27)) 26 (v 33))) (A := A) (N_ := (Int32.toNatClampNeg (v 27))) C (nI_sn hs hn (by decide)) (nI_sle hs hn (by decide)) (Nat.lt_of_le_of_lt (nI_sle hs hn (by decide)) (by decide)) (Int32.toNatClampNeg (v 27)) 0 (Nat.zero_add _) _ _ (lv_sub hl [1, 0] rfl) (fun sz ls hl => ?_)
  refine zz (fun _ _ => lv_iconst (v := 0) hx hb dX9_goBack_80 (by decide)) ?_
  refine zs (fun _ _ => lv_istore_n (lv' := [(1, .int (0)), (0, .ref (r))]) hx hb dX9_goBack_81 rfl hl (by decide) rfl) (fun ls hl => ?_)
  refine zeq (M' := (mm aC r (upd (upd v 20 (v 27)) 26 (v 33)) (u1 (u1 (u1 (u1 (u1 A 19 ((stX9_goBack_18 A (A 19) (A 20) (A 21) (A 22) (Int32.toNatClampNeg (v 27))).1)) 20 ((stX9_goBack_18 A (A 19) (A 20) (A 21) (A 22) (Int32.toNatClampNeg (v 27))).2.1)) 21 ((stX9_goBack_18 A (A 19) (A 20) (A 21) (A 22) (Int32.toNatClampNeg (v 27))).2.2.1)) 22 ((stX9_goBack_18 A (A 19) (A 20) (A 21) (A 22) (Int32.toNatClampNeg (v 27))).2.2.2)) 23 (A 23)) R)) (by rw [u1_id2 (A := (u1 (u1 (u1 (u1 A 19 ((stX9_goBack_18 A (A 19) (A 20) (A 21) (A 22) (Int32.toNatClampNeg (v 27))).1)) 20 ((stX9_goBack_18 A (A 19) (A 20) (A 21) (A 22) (Int32.toNatClampNeg (v 27))).2.1)) 21 ((stX9_goBack_18 A (A 19) (A 20) (A 21) (A 22) (Int32.toNatClampNeg (v 27))).2.2.1)) 22 ((stX9_goBack_18 A (A 19) (A 20) (A 21) (A 22) (Int32.toNatClampNeg (v 27))).2.2.2))) (k := 23) (g := A 23) rfl]) ?_
  refine lpX9_goBack_82 (v := (upd (upd v 20 (v 27)) 26 (v 33))) (A := (u1 (u1 (u1 (u1 A 19 ((stX9_goBack_18 A (A 19) (A 20) (A 21) (A 22) (Int32.toNatClampNeg (v 27))).1)) 20 ((stX9_goBack_18 A (A 19) (A 20) (A 21) (A 22) (Int32.toNatClampNeg (v 27))).2.1)) 21 ((stX9_goBack_18 A (A 19) (A 20) (A 21) (A 22) (Int32.toNatClampNeg (v 27))).2.2.1)) 22 ((stX9_goBack_18 A (A 19) (A 20) (A 21) (A 22) (Int32.toNatClampNeg (v 27))).2.2.2))) (N_ := 7) C hz rfl (by decide) (by decide) 7 0 (Nat.zero_add _) _ _ (lv_sub hl [1, 0] rfl) (fun sz ls hl => ?_)
  exact z_vret C hr hlk dX9_goBack_106 (by simp only [zd, fX9_goBack, and_self])
