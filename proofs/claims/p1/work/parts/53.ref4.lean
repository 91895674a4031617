def fX9_noteAll0 (v : Nat → Int32) (A : Nat → Nat → Int32) : (Nat → Int32) × (Nat → Nat → Int32) := ((upd v 34 0), A)
set_option maxHeartbeats 1000000 in
set_option maxRecDepth 10000 in
theorem ctX9_noteAll0 {l : Launch} {D : va_G} {aC : Nat → ClassId} {b0 sz : Nat} {r : Nat} {v : Nat → Int32} {A : Nat → Nat → Int32} {R : ZM} (h20 : v 20 = 0) (h27 : v 27 = 0) : Ct l D aC b0 yX9_noteAll cX9_noteAll 2 none 0 0 0 [.ref (r)] (mm aC r v A R) sz (zd none (mm aC r (fX9_noteAll0 v A).1 (fX9_noteAll0 v A).2 R)) := by
  refine Ct.of (by decide) (Nat.le_of_ble_eq_true rfl) ?_
  intro p e s m below meth c ls C hr hlk hnm hl
  have hl : lv_has ls 2 [(0, .ref (r))] := hl
  obtain ⟨hx, hb, -, -, -⟩ := id C
  refine zz (fun _ _ => lv_aload_n hx hb dX9_noteAll_0 rfl (lv_at hl 0 rfl)) ?_
  refine zz (fun _ _ => lv_iconst (v := 0) hx hb dX9_noteAll_1 (by decide)) ?_
  refine z_put C fp_X9_250 (fun h => by cases h) rm_0 (Nat.le_of_ble_eq_true rfl) rfl rfl dX9_noteAll_2 ?_
  refine zeq wm_f34 ?_
  refine zz (fun _ _ => lv_iconst (v := 0) hx hb dX9_noteAll_5 (by decide)) ?_
  refine zs (fun _ _ => lv_istore_n (lv' := [(1, .int (0)), (0, .ref (r))]) hx hb dX9_noteAll_6 rfl hl (by decide) rfl) (fun ls hl => ?_)
  refine zz (fun _ _ => lv_iload_n hx hb dX9_noteAll_7 rfl (lv_at hl 0 rfl)) ?_
  refine zz (fun _ _ => lv_aload_n hx hb dX9_noteAll_8 rfl (lv_at hl 1 rfl)) ?_
  refine z_get (v := .int (v 20)) C fd_X9_160 rm_0 rfl dX9_noteAll_9 ?_
  refine zval (v' := .int (0)) (congrArg Value.int h20) ?_
  refine zb (fun _ _ => lv_icmp_ge (tgt := 81) hx hb dX9_noteAll_12 (by decide)) (fun c_1 => ?_) (fun c_1 => ?_)
  · refine zz (fun _ _ => lv_iconst (v := 0) hx hb dX9_noteAll_81 (by decide)) ?_
    refine zs (fun _ _ => lv_istore_n (lv' := [(1, .int (0)), (0, .ref (r))]) hx hb dX9_noteAll_82 rfl hl (by decide) rfl) (fun ls hl => ?_)
    refine zz (fun _ _ => lv_iload_n hx hb dX9_noteAll_83 rfl (lv_at hl 0 rfl)) ?_
    refine zz (fun _ _ => lv_aload_n hx hb dX9_noteAll_84 rfl (lv_at hl 1 rfl)) ?_
    refine z_get (v := .int (v 27)) C fd_X9_244 rm_0 rfl dX9_noteAll_85 ?_
    refine zval (v' := .int (0)) (congrArg Value.int h27) ?_
    refine zb (fun _ _ => lv_icmp_ge (tgt := 157) hx hb dX9_noteAll_88 (by decide)) (fun c_2 => ?_) (fun c_2 => ?_)
    · exact z_vret C hr hlk dX9_noteAll_157 (by simp only [zd, fX9_noteAll0, and_self])
    · exact absurd (by decide) c_2
  · exact absurd (by decide) c_1
def stX9_run0_21 (i1_ : (Nat → Int32)) : Nat → (Nat → Int32)
  | 0 => (i1_)
  | j + 1 => ((upd ((stX9_run0_21 i1_ j)) (Int32.toNatClampNeg (nI j)) ((-1))))
set_option maxHeartbeats 2000000 in
set_option maxRecDepth 10000 in
theorem lpX9_run0_21 {p : Program} {l : Launch} {e : Env} {Rm : Room} {s : State} {m : MethodId} {args : Array Value} {below : List Frame} {meth : Method} {c : Code} {D : va_G} {aC : Nat → ClassId} {b0 cells slots : Nat} {Q : State → Prop} {r : Nat} {v : Nat → Int32} {A : Nat → Nat → Int32} {R : ZM} {i1_ : (Nat → Int32)} {N_ : Nat} (C : zC p l s m c D aC b0 RX9 cX9_run 3) (hNb : (12 : Int32) = nI N_) (hN2 : N_ ≤ 12) (hNl : N_ < 2 ^ 31) :
    ∀ (d j : Nat), j + d = N_ → ∀ (sz : Nat) (ls : Array Slot), lv_has ls 3 [(0, .ref (r)), (1, .int (nI j))] → (∀ (sz : Nat) (ls : Array Slot), lv_has ls 3 [(0, .ref (r)), (1, .int (nI N_))] → Z p l e Rm s m args below meth c D b0 (mm aC r v (u1 A 34 (stX9_run0_21 i1_ N_)) R) sz cells slots Q (F0 m 40 ls [])) → Z p l e Rm s m args below meth c D b0 (mm aC r v (u1 A 34 (stX9_run0_21 i1_ j)) R) sz cells slots Q (F0 m 21 ls []) := by
  obtain ⟨hx, hb, -, -, -⟩ := id C
  intro d
  induction d with
  | zero =>
    intro j hj0 sz ls hl K
    refine zz (fun _ _ => lv_iload_n hx hb dX9_run_21 rfl (lv_at hl 1 rfl)) ?_
    refine zz (fun _ _ => lv_bipush (v := 12) hx hb dX9_run_22 (by decide)) ?_
    refine zb (fun _ _ => lv_icmp_ge (tgt := 40) hx hb dX9_run_24 (by decide)) (fun c_1 => ?_) (fun c_1 => ?_)
    · obtain rfl := fl_eq (j := j) (N := N_) hNb (by omega) hNl c_1
      exact K _ _ (lv_sub hl [0, 1] rfl)
    · exact absurd (fl_lt (j := j) (N := N_) hNb (by omega) hNl c_1) (by omega)
  | succ d ih =>
    intro j hj0 sz ls hl K
    refine zz (fun _ _ => lv_iload_n hx hb dX9_run_21 rfl (lv_at hl 1 rfl)) ?_
    refine zz (fun _ _ => lv_bipush (v := 12) hx hb dX9_run_22 (by decide)) ?_
    refine zb (fun _ _ => lv_icmp_ge (tgt := 40) hx hb dX9_run_24 (by decide)) (fun c_1 => ?_) (fun c_1 => ?_)
    · obtain rfl := fl_eq (j := j) (N := N_) hNb (by omega) hNl c_1
      exact K _ _ (lv_sub hl [0, 1] rfl)
    · have hj9 : j < N_ := fl_lt hNb (by omega) hNl c_1
      refine zz (fun _ _ => lv_aload_n hx hb dX9_run_27 rfl (lv_at hl 0 rfl)) ?_
      refine z_get (v := .ref (r + 34)) C fd_X9_110 rm_0 rfl dX9_run_28 ?_
      refine zz (fun _ _ => lv_iload_n hx hb dX9_run_31 rfl (lv_at hl 1 rfl)) ?_
      refine zz (fun _ _ => lv_iconst (v := (-1)) hx hb dX9_run_32 (by decide)) ?_
      refine z_iast (f := (stX9_run0_21 i1_ j)) C rm_34 (in_nI (j := j) rfl (by omega) (by decide)) dX9_run_33 ?_
      refine zeq wm_34 ?_
      refine zeq (M' := (mm aC r v (u1 A 34 (upd ((stX9_run0_21 i1_ j)) (Int32.toNatClampNeg (nI j)) ((-1)))) R)) (by rw [u1_u1]) ?_
      refine zs (fun _ _ => lv_iinc (v := nI j + 1) (lv' := [(1, .int (nI j + 1)), (0, .ref (r))]) hx hb dX9_run_34 hl (k := 1) rfl rfl (by decide) rfl) (fun ls hl => ?_)
      refine zz (fun _ _ => lv_goto (tgt := 21) hx hb dX9_run_37 (by decide)) ?_
      have hI := ih (j + 1) (by omega)
      simp only [stX9_run0_21, if_neg c_1] at hI
      have hl := lv_sub hl [1, 0] rfl
      simp only [nI_1] at hl
      exact hI _ _ hl K
def fX9_run0 (v : Nat → Int32) (A : Nat → Nat → Int32) : Int32 × (Nat → Int32) × (Nat → Nat → Int32) := ((fX9_noteAll0 (upd (upd (fX9_keep (upd v 0 0) A).1 41 0) 42 (-1)) (u1 (fX9_keep (upd v 0 0) A).2 34 (stX9_run0_21 ((fX9_keep (upd v 0 0) A).2 34) 12))).1 34, (fX9_noteAll0 (upd (upd (fX9_keep (upd v 0 0) A).1 41 0) 42 (-1)) (u1 (fX9_keep (upd v 0 0) A).2 34 (stX9_run0_21 ((fX9_keep (upd v 0 0) A).2 34) 12))).1, (fX9_noteAll0 (upd (upd (fX9_keep (upd v 0 0) A).1 41 0) 42 (-1)) (u1 (fX9_keep (upd v 0 0) A).2 34 (stX9_run0_21 ((fX9_keep (upd v 0 0) A).2 34) 12))).2)
set_option maxHeartbeats 1000000 in
set_option maxRecDepth 10000 in
theorem ctX9_run0 {l : Launch} {D : va_G} {aC : Nat → ClassId} {b0 sz : Nat} {r : Nat} {v : Nat → Int32} {A : Nat → Nat → Int32} {R : ZM} (h1 : v 1 = 0) (h20 : v 20 = 0) (hz : ∀ j, j < 7 → A 23 j = 0 ∨ A 23 j = 1) : Ct l D aC b0 yX9_run cX9_run 3 (some .int) 1 0 0 [.ref (r)] (mm aC r v A R) sz (zd (some (.int (fX9_run0 v A).1)) (mm aC r (fX9_run0 v A).2.1 (fX9_run0 v A).2.2 R)) := by
  refine Ct.of (by decide) (Nat.le_of_ble_eq_true rfl) ?_
  intro p e s m below meth c ls C hr hlk hnm hl
  have hl : lv_has ls 3 [(0, .ref (r))] := hl
  obtain ⟨hx, hb, -, -, -⟩ := id C
  refine zz (fun _ _ => lv_aload_n hx hb dX9_run_0 rfl (lv_at hl 0 rfl)) ?_
  refine zz (fun _ _ => lv_iconst (v := 0) hx hb dX9_run_1 (by decide)) ?_
  refine z_put C fp_X9_129 (fun h => by cases h) rm_0 (Nat.le_of_ble_eq_true rfl) rfl rfl dX9_run_2 ?_
  refine zeq wm_f0 ?_
  refine zz (fun _ _ => lv_aload_n hx hb dX9_run_5 rfl (lv_at hl 0 rfl)) ?_
  refine zdV (As := []) (rest := []) (st' := []) C hl.1 lk_X9_264 (ctX9_keep (n_ := 0) h20 (by decide) hz) rm_0 rfl rfl rfl (Nat.le_of_ble_eq_true rfl) ⟨by decide, by decide, by decide, by decide⟩ dX9_run_6 rfl (fun sz => ?_)
  refine zz (fun _ _ => lv_aload_n hx hb dX9_run_9 rfl (lv_at hl 0 rfl)) ?_
  refine zz (fun _ _ => lv_iconst (v := 0) hx hb dX9_run_10 (by decide)) ?_
  refine z_put C fp_X9_196 (fun h => by cases h) rm_0 (Nat.le_of_ble_eq_true rfl) rfl rfl dX9_run_11 ?_
  refine zeq wm_f41 ?_
  refine zz (fun _ _ => lv_aload_n hx hb dX9_run_14 rfl (lv_at hl 0 rfl)) ?_
  refine zz (fun _ _ => lv_iconst (v := (-1)) hx hb dX9_run_15 (by decide)) ?_
  refine z_put C fp_X9_113 (fun h => by cases h) rm_0 (Nat.le_of_ble_eq_true rfl) rfl rfl dX9_run_16 ?_
  refine zeq wm_f42 ?_
  refine zz (fun _ _ => lv_iconst (v := 0) hx hb dX9_run_19 (by decide)) ?_
  refine zs (fun _ _ => lv_istore_n (lv' := [(1, .int (0)), (0, .ref (r))]) hx hb dX9_run_20 rfl hl (by decide) rfl) (fun ls hl => ?_)
  refine zeq (M' := (mm aC r (upd (upd (fX9_keep (upd v 0 0) A).1 41 0) 42 (-1)) (u1 (fX9_keep (upd v 0 0) A).2 34 ((fX9_keep (upd v 0 0) A).2 34)) R)) (by rw [u1_id2 (A := (fX9_keep (upd v 0 0) A).2) (k := 34) (g := (fX9_keep (upd v 0 0) A).2 34) rfl]) ?_
  refine lpX9_run0_21 (v := (upd (upd (fX9_keep (upd v 0 0) A).1 41 0) 42 (-1))) (A := (fX9_keep (upd v 0 0) A).2) (N_ := 12) C rfl (by decide) (by decide) 12 0 (Nat.zero_add _) _ _ (lv_sub hl [1, 0] rfl) (fun sz ls hl => ?_)
  refine zz (fun _ _ => lv_iconst (v := 0) hx hb dX9_run_40 (by decide)) ?_
  refine zs (fun _ _ => lv_istore_n (lv' := [(1, .int (0)), (0, .ref (r))]) hx hb dX9_run_41 rfl hl (by decide) rfl) (fun ls hl => ?_)
  refine zz (fun _ _ => lv_iload_n hx hb dX9_run_42 rfl (lv_at hl 0 rfl)) ?_
  refine zz (fun _ _ => lv_aload_n hx hb dX9_run_43 rfl (lv_at hl 1 rfl)) ?_
  refine z_get (v := .int ((fX9_keep (upd v 0 0) A).1 1)) C fd_X9_132 rm_0 rfl dX9_run_44 ?_
  refine zval (v' := .int (0)) (congrArg Value.int (by simp [fX9_keep, upd, h1])) ?_
  refine zb (fun _ _ => lv_icmp_ge (tgt := 98) hx hb dX9_run_47 (by decide)) (fun c_1 => ?_) (fun c_1 => ?_)
  · refine zz (fun _ _ => lv_aload_n hx hb dX9_run_98 rfl (lv_at hl 1 rfl)) ?_
    refine zdV (As := []) (rest := []) (st' := []) C hl.1 lk_X9_273 (ctX9_noteAll0 (by simp [fX9_keep, upd, h20]) (by simp [fX9_keep, upd, h20])) rm_0 rfl rfl rfl (Nat.le_of_ble_eq_true rfl) ⟨by decide, by decide, by decide, by decide⟩ dX9_run_99 rfl (fun sz => ?_)
    refine zz (fun _ _ => lv_aload_n hx hb dX9_run_102 rfl (lv_at hl 1 rfl)) ?_
    refine z_get (v := .int ((fX9_noteAll0 (upd (upd (fX9_keep (upd v 0 0) A).1 41 0) 42 (-1)) (u1 (fX9_keep (upd v 0 0) A).2 34 (stX9_run0_21 ((fX9_keep (upd v 0 0) A).2 34) 12))).1 34)) C fd_X9_250 rm_0 rfl dX9_run_103 ?_
    exact z_iret C hr hlk dX9_run_106 (by simp only [zd, fX9_run0, and_self])
  · exact absurd (by decide) c_1
