def fX0_compareGraphs0  : Unit := ()
set_option maxHeartbeats 1000000 in
set_option maxRecDepth 10000 in
theorem ctX0_compareGraphs0 {l : Launch} {D : va_G} {aC : Nat → ClassId} {b0 sz : Nat} {x : Nat} {iv av : Nat → Nat → Int32} {R : ZM} {k : Nat} {k2 : Nat} {a_ : Int32} (hk : ck k = 6) (hk2 : ck k2 = 6) (h1 : iv k 1 = 0) (h2 : iv k2 1 = 0) : Ct l D aC b0 yX0_compareGraphs cX0_compareGraphs 6 none 0 0 0 [.ref (x + 57), .int (a_), .ref (x + k), .ref (x + k2)] (cm aC x iv av R) sz (zd none (cm aC x iv av R)) := by
  refine Ct.of (by decide) (Nat.le_of_ble_eq_true rfl) ?_
  intro p e s m below meth c ls C hr hlk hnm hl
  have hl : lv_has ls 6 [(0, .ref (x + 57)), (1, .int (a_)), (2, .ref (x + k)), (3, .ref (x + k2))] := hl
  obtain ⟨hx, hb, -, -, -⟩ := id C
  refine zz (fun _ _ => lv_iconst (v := 0) hx hb dX0_compareGraphs_0 (by decide)) ?_
  refine zs (fun _ _ => lv_istore (lv' := [(4, .int (0)), (0, .ref (x + 57)), (1, .int (a_)), (2, .ref (x + k)), (3, .ref (x + k2))]) hx hb dX0_compareGraphs_1 hl (by decide) rfl) (fun ls hl => ?_)
  refine zz (fun _ _ => lv_iconst (v := 0) hx hb dX0_compareGraphs_3 (by decide)) ?_
  refine zs (fun _ _ => lv_istore (lv' := [(5, .int (0)), (4, .int (0)), (0, .ref (x + 57)), (1, .int (a_)), (2, .ref (x + k)), (3, .ref (x + k2))]) hx hb dX0_compareGraphs_4 hl (by decide) rfl) (fun ls hl => ?_)
  refine zz (fun _ _ => lv_iload hx hb dX0_compareGraphs_6 (lv_at hl 1 rfl)) ?_
  refine zz (fun _ _ => lv_aload_n hx hb dX0_compareGraphs_8 rfl (lv_at hl 4 rfl)) ?_
  refine z_get (v := .int (iv k 1)) C fd_X0_35 (rd_6 hk) rfl dX0_compareGraphs_9 ?_
  refine zval (v' := .int (0)) (congrArg Value.int h1) ?_
  refine zb (fun _ _ => lv_icmp_lt (tgt := 24) hx hb dX0_compareGraphs_12 (by decide)) (fun c_1 => ?_) (fun c_1 => ?_)
  · exact absurd c_1 (by decide)
  · refine zz (fun _ _ => lv_iload hx hb dX0_compareGraphs_15 (lv_at hl 0 rfl)) ?_
    refine zz (fun _ _ => lv_aload_n hx hb dX0_compareGraphs_17 rfl (lv_at hl 5 rfl)) ?_
    refine z_get (v := .int (iv k2 1)) C fd_X0_35 (rd_6 hk2) rfl dX0_compareGraphs_18 ?_
    refine zval (v' := .int (0)) (congrArg Value.int h2) ?_
    refine zb (fun _ _ => lv_icmp_ge (tgt := 132) hx hb dX0_compareGraphs_21 (by decide)) (fun c_2 => ?_) (fun c_2 => ?_)
    · exact z_vret C hr hlk dX0_compareGraphs_132 (by simp only [zd, fX0_compareGraphs0, and_self])
    · exact absurd (by decide) c_2
def stX0_compare0_7 (i1_ : (Nat → Nat → Int32)) : Nat → (Nat → Nat → Int32)
  | 0 => (i1_)
  | j + 1 => ((stX0_compare0_7 i1_ j))
set_option maxHeartbeats 2000000 in
set_option maxRecDepth 10000 in
theorem lpX0_compare0_7 {p : Program} {l : Launch} {e : Env} {s : State} {m : MethodId} {args : Array Value} {below : List Frame} {meth : Method} {c : Code} {D : va_G} {aC : Nat → ClassId} {b0 : Nat} {Q : State → Prop} {x : Nat} {iv av : Nat → Nat → Int32} {R : ZM} {i1_ : (Nat → Nat → Int32)} {N_ : Nat} (C : zC p l s m c D aC b0 RX0 cX0_compare 4) (hA : ∀ i j, j < 7 → stX0_compare0_7 i1_ i (42 + 1 + 2 * j) 1 = 0) (hB : ∀ i j, j < 7 → stX0_compare0_7 i1_ i (4 + 1 + 2 * j) 1 = 0) (hNb : (7 : Int32) = nI N_) (hN2 : N_ ≤ 7) (hNl : N_ < 2 ^ 31) :
    ∀ (d j : Nat), j + d = N_ → ∀ (sz : Nat) (ls : Array Slot), lv_has ls 4 [(0, .ref (x + 57)), (1, .ref (x + 41)), (2, .ref (x + 3)), (3, .int (nI j))] → (∀ (sz : Nat) (ls : Array Slot), lv_has ls 4 [(0, .ref (x + 57)), (1, .ref (x + 41)), (2, .ref (x + 3)), (3, .int (nI N_))] → Z p l e (rz 1 0 0) s m args below meth c D b0 (cm aC x (stX0_compare0_7 i1_ N_) av R) sz 0 0 Q (F0 m 36 ls [])) → Z p l e (rz 1 0 0) s m args below meth c D b0 (cm aC x (stX0_compare0_7 i1_ j) av R) sz 0 0 Q (F0 m 7 ls []) := by
  obtain ⟨hx, hb, -, -, -⟩ := id C
  intro d
  induction d with
  | zero =>
    intro j hj0 sz ls hl K
    refine zz (fun _ _ => lv_iload_n hx hb dX0_compare_7 rfl (lv_at hl 3 rfl)) ?_
    refine zz (fun _ _ => lv_bipush (v := 7) hx hb dX0_compare_8 (by decide)) ?_
    refine zb (fun _ _ => lv_icmp_ge (tgt := 36) hx hb dX0_compare_10 (by decide)) (fun c_1 => ?_) (fun c_1 => ?_)
    · obtain rfl := fl_eq (j := j) (N := N_) hNb (by omega) hNl c_1
      exact K _ _ (lv_sub hl [0, 1, 2, 3] rfl)
    · exact absurd (fl_lt (j := j) (N := N_) hNb (by omega) hNl c_1) (by omega)
  | succ d ih =>
    intro j hj0 sz ls hl K
    refine zz (fun _ _ => lv_iload_n hx hb dX0_compare_7 rfl (lv_at hl 3 rfl)) ?_
    refine zz (fun _ _ => lv_bipush (v := 7) hx hb dX0_compare_8 (by decide)) ?_
    refine zb (fun _ _ => lv_icmp_ge (tgt := 36) hx hb dX0_compare_10 (by decide)) (fun c_1 => ?_) (fun c_1 => ?_)
    · obtain rfl := fl_eq (j := j) (N := N_) hNb (by omega) hNl c_1
      exact K _ _ (lv_sub hl [0, 1, 2, 3] rfl)
    · have hj9 : j < N_ := fl_lt hNb (by omega) hNl c_1
      refine zz (fun _ _ => lv_aload_n hx hb dX0_compare_13 rfl (lv_at hl 0 rfl)) ?_
      refine zz (fun _ _ => lv_iload_n hx hb dX0_compare_14 rfl (lv_at hl 3 rfl)) ?_
      refine zz (fun _ _ => lv_aload_n hx hb dX0_compare_15 rfl (lv_at hl 1 rfl)) ?_
      refine z_get (v := .ref (x + 42)) C fd_X0_25 (rd_4 (by decide)) rfl dX0_compare_16 ?_
      refine zz (fun _ _ => lv_iload_n hx hb dX0_compare_19 rfl (lv_at hl 3 rfl)) ?_
      refine z_aald C 3 rfl (rd_5 (by decide)) (in_nI (j := j) rfl (by omega) (by decide)) (v := .ref (x + (42 + 1 + 2 * j))) (rf_if (f := fun q => x + (42 + 1 + 2 * q)) (n := 7) rfl (Nat.lt_of_lt_of_le hj9 hN2) (by decide)) dX0_compare_20 ?_
      refine zz (fun _ _ => lv_aload_n hx hb dX0_compare_21 rfl (lv_at hl 2 rfl)) ?_
      refine z_get (v := .ref (x + 4)) C fd_X0_25 (rd_4 (by decide)) rfl dX0_compare_22 ?_
      refine zz (fun _ _ => lv_iload_n hx hb dX0_compare_25 rfl (lv_at hl 3 rfl)) ?_
      refine z_aald C 3 rfl (rd_5 (by decide)) (in_nI (j := j) rfl (by omega) (by decide)) (v := .ref (x + (4 + 1 + 2 * j))) (rf_if (f := fun q => x + (4 + 1 + 2 * q)) (n := 7) rfl (Nat.lt_of_lt_of_le hj9 hN2) (by decide)) dX0_compare_26 ?_
      refine zdV (As := [.int (nI j), .ref (x + (42 + 1 + 2 * j)), .ref (x + (4 + 1 + 2 * j))]) (rest := []) (st' := []) C hl.1 lk_X0_31 (ctX0_compareGraphs0 (kp_5 (k := 42) (by decide) (Nat.lt_of_lt_of_le hj9 hN2)) (kp_5 (k := 4) (by decide) (Nat.lt_of_lt_of_le hj9 hN2)) (hA j j (by omega)) (hB j j (by omega))) (rd_16 (by decide)) rfl rfl rfl (Nat.le_of_ble_eq_true rfl) ⟨by decide, by decide, by decide, by decide⟩ dX0_compare_27 rfl (fun sz => ?_)
      refine zs (fun _ _ => lv_iinc (v := nI j + 1) (lv' := [(3, .int (nI j + 1)), (0, .ref (x + 57)), (1, .ref (x + 41)), (2, .ref (x + 3))]) hx hb dX0_compare_30 hl (k := 3) rfl rfl (by decide) rfl) (fun ls hl => ?_)
      refine zz (fun _ _ => lv_goto (tgt := 7) hx hb dX0_compare_33 (by decide)) ?_
      have hI := ih (j + 1) (by omega)
      simp only [stX0_compare0_7, if_neg c_1] at hI
      have hl := lv_sub hl [1, 2, 3, 0] rfl
      simp only [nI_1] at hl
      exact hI _ _ hl K
theorem cmp_st (iv : Nat → Nat → Int32) : ∀ i, stX0_compare0_7 iv i = iv := by
  intro i
  induction i with
  | zero => rfl
  | succ i ih => simp only [stX0_compare0_7, ih]
def fX0_compare0 (iv : Nat → Nat → Int32) (av : Nat → Nat → Int32) : (Nat → Nat → Int32) × (Nat → Nat → Int32) := ((stX0_compare0_7 (u2 iv 57 3 (0)) 7), av)
set_option maxHeartbeats 1000000 in
set_option maxRecDepth 10000 in
theorem ctX0_compare0 {l : Launch} {D : va_G} {aC : Nat → ClassId} {b0 sz : Nat} {x : Nat} {iv av : Nat → Nat → Int32} {R : ZM} (hA : ∀ j, j < 7 → iv (42 + 1 + 2 * j) 1 = 0) (hB : ∀ j, j < 7 → iv (4 + 1 + 2 * j) 1 = 0) : Ct l D aC b0 yX0_compare cX0_compare 4 none 1 0 0 [.ref (x + 57), .ref (x + 41), .ref (x + 3)] (cm aC x iv av R) sz (zd none (cm aC x (fX0_compare0 iv av).1 (fX0_compare0 iv av).2 R)) := by
  refine Ct.of (by decide) (Nat.le_of_ble_eq_true rfl) ?_
  intro p e s m below meth c ls C hr hlk hnm hl
  have hl : lv_has ls 4 [(0, .ref (x + 57)), (1, .ref (x + 41)), (2, .ref (x + 3))] := hl
  obtain ⟨hx, hb, -, -, -⟩ := id C
  refine zz (fun _ _ => lv_aload_n hx hb dX0_compare_0 rfl (lv_at hl 0 rfl)) ?_
  refine zz (fun _ _ => lv_iconst (v := 0) hx hb dX0_compare_1 (by decide)) ?_
  refine z_put C fp_X0_21 (fun h => by cases h) (rd_16 (by decide)) (Nat.le_of_ble_eq_true rfl) rfl rfl dX0_compare_2 ?_
  refine zeq (wr_16_3 (by decide)) ?_
  refine zz (fun _ _ => lv_iconst (v := 0) hx hb dX0_compare_5 (by decide)) ?_
  refine zs (fun _ _ => lv_istore_n (lv' := [(3, .int (0)), (0, .ref (x + 57)), (1, .ref (x + 41)), (2, .ref (x + 3))]) hx hb dX0_compare_6 rfl hl (by decide) rfl) (fun ls hl => ?_)
  refine lpX0_compare0_7  (N_ := 7) C (iv := iv) (av := av) (i1_ := u2 iv 57 3 0) (fun i j h => by rw [cmp_st, u2_k _ _ _ _ (by omega)]; exact hA j h) (fun i j h => by rw [cmp_st, u2_k _ _ _ _ (by omega)]; exact hB j h) rfl (by decide) (by decide) 7 0 (Nat.zero_add _) _ _ (lv_sub hl [1, 2, 3, 0] rfl) (fun sz ls hl => ?_)
  exact z_vret C hr hlk dX0_compare_36 (by simp only [zd, fX0_compare0, and_self])
theorem fb_o {iv av : Nat → Nat → Int32} {q f : Nat} (h : q < 41) : (fX6_become iv av 41 3).1 q f = iv q f := by
  simp only [fX6_become]
  rw [u2_k _ _ _ _ (by omega), become_o _ _ _ (fun j hj => by omega)]
theorem fb_i {iv av : Nat → Nat → Int32} {j : Nat} (h : j < 7) : (fX6_become iv av 41 3).1 (42 + 1 + 2 * j) 1 = iv (4 + 1 + 2 * j) 1 := by
  simp only [fX6_become]
  rw [u2_k _ _ _ _ (by omega)]
  exact become_i (k := 41) (k2 := 3) (Or.inr (by decide)) 7 j 1 (by decide) h (Or.inl rfl)
def fX8_run0 (iv : Nat → Nat → Int32) (av : Nat → Nat → Int32) : Int32 × (Nat → Nat → Int32) × (Nat → Nat → Int32) := ((fX0_compare0 (u2 (u2 (u2 (fX6_become iv av 41 3).1 2 4 (0)) 0 6 ((-1))) 0 7 (0)) ((fX6_become iv av 41 3).2)).1 57 3, (fX0_compare0 (u2 (u2 (u2 (fX6_become iv av 41 3).1 2 4 (0)) 0 6 ((-1))) 0 7 (0)) ((fX6_become iv av 41 3).2)).1, (fX0_compare0 (u2 (u2 (u2 (fX6_become iv av 41 3).1 2 4 (0)) 0 6 ((-1))) 0 7 (0)) ((fX6_become iv av 41 3).2)).2)
set_option maxHeartbeats 1000000 in
set_option maxRecDepth 10000 in
theorem ctX8_run0 {l : Launch} {D : va_G} {aC : Nat → ClassId} {b0 sz : Nat} {x : Nat} {iv av : Nat → Nat → Int32} {R : ZM} (h0 : iv 0 5 = 0) (hG : ∀ j, j < 7 → iv (4 + 1 + 2 * j) 1 = 0) (hZ : ∀ j, j < 7 → iv (3 + 1 + 1 + 2 * j) 2 = 0 ∨ iv (3 + 1 + 1 + 2 * j) 2 = 1) : Ct l D aC b0 yX8_run cX8_run 3 (some .int) 2 0 0 [.ref (x + 0)] (cm aC x iv av R) sz (zd (some (.int (fX8_run0 iv av).1)) (cm aC x (fX8_run0 iv av).2.1 (fX8_run0 iv av).2.2 R)) := by
  refine Ct.of (by decide) (Nat.le_of_ble_eq_true rfl) ?_
  intro p e s m below meth c ls C hr hlk hnm hl
  have hl : lv_has ls 3 [(0, .ref (x + 0))] := hl
  obtain ⟨hx, hb, -, -, -⟩ := id C
  refine zz (fun _ _ => lv_aload_n hx hb dX8_run_0 rfl (lv_at hl 0 rfl)) ?_
  refine z_get (v := .ref (x + 41)) C fd_X8_30 (rd_1 (by decide)) rfl dX8_run_1 ?_
  refine zz (fun _ _ => lv_aload_n hx hb dX8_run_4 rfl (lv_at hl 0 rfl)) ?_
  refine z_get (v := .ref (x + 3)) C fd_X8_26 (rd_1 (by decide)) rfl dX8_run_5 ?_
  refine zdV (As := [.ref (x + 3)]) (rest := []) (st' := []) C hl.1 lk_X8_151 (ctX6_become (k := 41) (k2 := 3) (by decide) (by decide) (Or.inr (by decide)) (fun j hj => ⟨0, by decide, hG j hj⟩) hZ) (rd_4 (by decide)) rfl rfl rfl (Nat.le_of_ble_eq_true rfl) ⟨by decide, by decide, by decide, by decide⟩ dX8_run_8 rfl (fun sz => ?_)
  refine zz (fun _ _ => lv_aload_n hx hb dX8_run_11 rfl (lv_at hl 0 rfl)) ?_
  refine z_get (v := .ref (x + 2)) C fd_X8_18 (rd_1 (by decide)) rfl dX8_run_12 ?_
  refine zz (fun _ _ => lv_iconst (v := 0) hx hb dX8_run_15 (by decide)) ?_
  refine z_put C fp_X8_155 (fun h => by cases h) (rd_3 (by decide)) (Nat.le_of_ble_eq_true rfl) rfl rfl dX8_run_16 ?_
  refine zeq (wr_3_4 (by decide)) ?_
  refine zz (fun _ _ => lv_iconst (v := 0) hx hb dX8_run_19 (by decide)) ?_
  refine zs (fun _ _ => lv_istore_n (lv' := [(1, .int (0)), (0, .ref (x + 0))]) hx hb dX8_run_20 rfl hl (by decide) rfl) (fun ls hl => ?_)
  refine zz (fun _ _ => lv_iload_n hx hb dX8_run_21 rfl (lv_at hl 0 rfl)) ?_
  refine zz (fun _ _ => lv_aload_n hx hb dX8_run_22 rfl (lv_at hl 1 rfl)) ?_
  refine z_get (v := .int ((fX6_become iv av 41 3).1 0 5)) C fd_X8_40 (rd_1 (by decide)) (by simp [u2]) dX8_run_23 ?_
  refine zval (v' := .int (0)) (congrArg Value.int (by rw [fb_o (by decide)]; exact h0)) ?_
  refine zb (fun _ _ => lv_icmp_ge (tgt := 45) hx hb dX8_run_26 (by decide)) (fun c_1 => ?_) (fun c_1 => ?_)
  · refine zz (fun _ _ => lv_iconst (v := 0) hx hb dX8_run_45 (by decide)) ?_
    refine zs (fun _ _ => lv_istore_n (lv' := [(1, .int (0)), (0, .ref (x + 0))]) hx hb dX8_run_46 rfl hl (by decide) rfl) (fun ls hl => ?_)
    refine zz (fun _ _ => lv_iload_n hx hb dX8_run_47 rfl (lv_at hl 0 rfl)) ?_
    refine zz (fun _ _ => lv_aload_n hx hb dX8_run_48 rfl (lv_at hl 1 rfl)) ?_
    refine z_get (v := .int ((fX6_become iv av 41 3).1 0 5)) C fd_X8_40 (rd_1 (by decide)) (by simp [u2]) dX8_run_49 ?_
    refine zval (v' := .int (0)) (congrArg Value.int (by rw [fb_o (by decide)]; exact h0)) ?_
    refine zb (fun _ _ => lv_icmp_ge (tgt := 117) hx hb dX8_run_52 (by decide)) (fun c_2 => ?_) (fun c_2 => ?_)
    · refine zz (fun _ _ => lv_aload_n hx hb dX8_run_117 rfl (lv_at hl 1 rfl)) ?_
      refine zz (fun _ _ => lv_iconst (v := (-1)) hx hb dX8_run_118 (by decide)) ?_
      refine z_put C fp_X8_44 (fun h => by cases h) (rd_1 (by decide)) (Nat.le_of_ble_eq_true rfl) rfl rfl dX8_run_119 ?_
      refine zeq (wr_1_6 (by decide)) ?_
      refine zz (fun _ _ => lv_aload_n hx hb dX8_run_122 rfl (lv_at hl 1 rfl)) ?_
      refine zz (fun _ _ => lv_aload_n hx hb dX8_run_123 rfl (lv_at hl 1 rfl)) ?_
      refine z_get (v := .ref (x + 2)) C fd_X8_18 (rd_1 (by decide)) rfl dX8_run_124 ?_
      refine z_get (v := .int (0)) C fd_X8_155 (rd_3 (by decide)) (by simp [u2]) dX8_run_127 ?_
      refine z_put C fp_X8_47 (fun h => by cases h) (rd_1 (by decide)) (Nat.le_of_ble_eq_true rfl) rfl rfl dX8_run_130 ?_
      refine zeq (wr_1_7 (by decide)) ?_
      refine zz (fun _ _ => lv_aload_n hx hb dX8_run_133 rfl (lv_at hl 1 rfl)) ?_
      refine z_get (v := .ref (x + 57)) C fd_X8_36 (rd_1 (by decide)) rfl dX8_run_134 ?_
      refine zz (fun _ _ => lv_aload_n hx hb dX8_run_137 rfl (lv_at hl 1 rfl)) ?_
      refine z_get (v := .ref (x + 41)) C fd_X8_30 (rd_1 (by decide)) rfl dX8_run_138 ?_
      refine zz (fun _ _ => lv_aload_n hx hb dX8_run_141 rfl (lv_at hl 1 rfl)) ?_
      refine z_get (v := .ref (x + 3)) C fd_X8_26 (rd_1 (by decide)) rfl dX8_run_142 ?_
      refine zdV (As := [.ref (x + 41), .ref (x + 3)]) (rest := []) (st' := []) C hl.1 lk_X8_169 (ctX0_compare0 (fun j hj => by rw [u2_k _ _ _ _ (by omega), u2_k _ _ _ _ (by omega), u2_k _ _ _ _ (by omega), fb_i hj]; exact hG j hj) (fun j hj => by rw [u2_k _ _ _ _ (by omega), u2_k _ _ _ _ (by omega), u2_k _ _ _ _ (by omega), fb_o (by omega)]; exact hG j hj)) (rd_16 (by decide)) rfl rfl rfl (Nat.le_of_ble_eq_true rfl) ⟨by decide, by decide, by decide, by decide⟩ dX8_run_145 rfl (fun sz => ?_)
      refine zz (fun _ _ => lv_aload_n hx hb dX8_run_148 rfl (lv_at hl 1 rfl)) ?_
      refine z_get (v := .ref (x + 57)) C fd_X8_36 (rd_1 (by decide)) rfl dX8_run_149 ?_
      refine z_get (v := .int ((fX0_compare0 (u2 (u2 (u2 (fX6_become iv av 41 3).1 2 4 (0)) 0 6 ((-1))) 0 7 (0)) ((fX6_become iv av 41 3).2)).1 57 3)) C fd_X8_173 (rd_16 (by decide)) rfl dX8_run_152 ?_
      exact z_iret C hr hlk dX8_run_155 (by simp only [zd, fX8_run0, and_self])
    · exact absurd (by decide) c_2
  · exact absurd (by decide) c_1
