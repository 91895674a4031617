theorem nI_nn {a : Int32} {n : Nat} (h : a = nI n) (hn : n < 2 ^ 31) : ¬ a < 0 := by
  rw [h, Int32.lt_iff_toInt_lt, nI_toInt hn]
  simp
def fX2_become (iv : Nat → Nat → Int32) (av : Nat → Nat → Int32) (k : Nat) (k2 : Nat) : (Nat → Nat → Int32) × (Nat → Nat → Int32) := ((u2 (u2 iv k 1 (iv k2 1)) k 2 (iv k2 2)), (u1 av (k + 1) (va_cpy (av (k2 + 1)) (av (k + 1)) (Int32.toNatClampNeg (0)) (Int32.toNatClampNeg (0)) (Int32.toNatClampNeg (iv k2 1)))))
set_option maxHeartbeats 1000000 in
set_option maxRecDepth 10000 in
theorem ctX2_become {l : Launch} {D : va_G} {aC : Nat → ClassId} {b0 sz : Nat} {x : Nat} {iv av : Nat → Nat → Int32} {R : ZM} {k : Nat} {k2 : Nat} (hk : ck k = 6) (hk2 : ck k2 = 6) {n_ : Nat} (hs : iv k2 1 = nI n_) (hn : n_ ≤ 120) (hz2 : iv k2 2 = 0 ∨ iv k2 2 = 1) : Ct l D aC b0 yX2_become cX2_become 2 none 0 0 0 [.ref (x + k), .ref (x + k2)] (cm aC x iv av R) sz (zd none (cm aC x (fX2_become iv av k k2).1 (fX2_become iv av k k2).2 R)) := by
  refine Ct.of (by decide) (Nat.le_of_ble_eq_true rfl) ?_
  intro p e s m below meth c ls C hr hlk hnm hl
  have hl : lv_has ls 2 [(0, .ref (x + k)), (1, .ref (x + k2))] := hl
  obtain ⟨hx, hb, -, -, -⟩ := id C
  refine zz (fun _ _ => lv_aload_n hx hb dX2_become_0 rfl (lv_at hl 1 rfl)) ?_
  refine z_get (v := .ref (x + (k2 + 1))) C fd_X2_9 (rd_6 hk2) rfl dX2_become_1 ?_
  refine zz (fun _ _ => lv_iconst (v := 0) hx hb dX2_become_4 (by decide)) ?_
  refine zz (fun _ _ => lv_aload_n hx hb dX2_become_5 rfl (lv_at hl 0 rfl)) ?_
  refine z_get (v := .ref (x + (k + 1))) C fd_X2_9 (rd_6 hk) rfl dX2_become_6 ?_
  refine zz (fun _ _ => lv_iconst (v := 0) hx hb dX2_become_9 (by decide)) ?_
  refine zz (fun _ _ => lv_aload_n hx hb dX2_become_10 rfl (lv_at hl 1 rfl)) ?_
  refine z_get (v := .int (iv k2 1)) C fd_X2_15 (rd_6 hk2) rfl dX2_become_11 ?_
  refine z_copy C hl.1 ac_X2_27 (rd_7 (nb_6_1 hk2)) (rd_7 (nb_6_1 hk)) (by decide) (by decide) (nI_nn hs (by omega)) (by rw [hs, nI_clamp (by omega)]; exact (Nat.zero_add _).symm ▸ hn) (by rw [hs, nI_clamp (by omega)]; exact (Nat.zero_add _).symm ▸ hn) (by decide) (by decide) dX2_become_14 (fun sz => ?_)
  refine zeq (wr_7 (nb_6_1 hk)) ?_
  refine zz (fun _ _ => lv_aload_n hx hb dX2_become_17 rfl (lv_at hl 0 rfl)) ?_
  refine zz (fun _ _ => lv_aload_n hx hb dX2_become_18 rfl (lv_at hl 1 rfl)) ?_
  refine z_get (v := .int (iv k2 1)) C fd_X2_15 (rd_6 hk2) rfl dX2_become_19 ?_
  refine z_put C fp_X2_15 (fun h => by cases h) (rd_6 hk) (Nat.le_of_ble_eq_true rfl) rfl rfl dX2_become_22 ?_
  refine zeq (wr_6_1 hk) ?_
  refine zz (fun _ _ => lv_aload_n hx hb dX2_become_25 rfl (lv_at hl 0 rfl)) ?_
  refine zz (fun _ _ => lv_aload_n hx hb dX2_become_26 rfl (lv_at hl 1 rfl)) ?_
  refine z_get (v := .int (iv k2 2)) C fd_X2_19 (rd_6 hk2) (by simp [u2]) dX2_become_27 ?_
  refine z_put C fp_X2_19 (fun h => by cases h) (rd_6 hk) (Nat.le_of_ble_eq_true rfl) (bz hz2) (bf hz2) dX2_become_30 ?_
  refine zeq (wr_6_2 hk) ?_
  exact z_vret C hr hlk dX2_become_33 (by simp only [zd, fX2_become, and_self])
def stX6_become_2 (k : Nat) (k2 : Nat) (i1_ : (Nat → Nat → Int32)) (i2_ : (Nat → Nat → Int32)) : Nat → (Nat → Nat → Int32) × (Nat → Nat → Int32)
  | 0 => (i1_, i2_)
  | j + 1 => ((fX2_become ((stX6_become_2 k k2 i1_ i2_ j).1) ((stX6_become_2 k k2 i1_ i2_ j).2) ((k + 1) + 1 + 2 * j) ((k2 + 1) + 1 + 2 * j)).1, (fX2_become ((stX6_become_2 k k2 i1_ i2_ j).1) ((stX6_become_2 k k2 i1_ i2_ j).2) ((k + 1) + 1 + 2 * j) ((k2 + 1) + 1 + 2 * j)).2)
set_option maxHeartbeats 2000000 in
set_option maxRecDepth 10000 in
theorem lpX6_become_2 {p : Program} {l : Launch} {e : Env} {s : State} {m : MethodId} {args : Array Value} {below : List Frame} {meth : Method} {c : Code} {D : va_G} {aC : Nat → ClassId} {b0 : Nat} {Q : State → Prop} {x : Nat} {iv av : Nat → Nat → Int32} {R : ZM} {k : Nat} {k2 : Nat} {i1_ : (Nat → Nat → Int32)} {i2_ : (Nat → Nat → Int32)} {N_ : Nat} (C : zC p l s m c D aC b0 RX6 cX6_become 3) (hk : ck k = 4) (hk2 : ck k2 = 4) (hG : ∀ i j, i ≤ 7 → j < 7 → ∃ n, n ≤ 120 ∧ (stX6_become_2 k k2 i1_ i2_ i).1 (k2 + 1 + 1 + 2 * j) 1 = nI n) (hZ : ∀ i j, i ≤ 7 → j < 7 → (stX6_become_2 k k2 i1_ i2_ i).1 (k2 + 1 + 1 + 2 * j) 2 = 0 ∨ (stX6_become_2 k k2 i1_ i2_ i).1 (k2 + 1 + 1 + 2 * j) 2 = 1) (hNb : (7 : Int32) = nI N_) (hN2 : N_ ≤ 7) (hNl : N_ < 2 ^ 31) :
    ∀ (d j : Nat), j + d = N_ → ∀ (sz : Nat) (ls : Array Slot), lv_has ls 3 [(0, .ref (x + k)), (1, .ref (x + k2)), (2, .int (nI j))] → (∀ (sz : Nat) (ls : Array Slot), lv_has ls 3 [(0, .ref (x + k)), (1, .ref (x + k2)), (2, .int (nI N_))] → Z p l e (rz 1 0 0) s m args below meth c D b0 (cm aC x ((stX6_become_2 k k2 i1_ i2_ N_).1) ((stX6_become_2 k k2 i1_ i2_ N_).2) R) sz 0 0 Q (F0 m 29 ls [])) → Z p l e (rz 1 0 0) s m args below meth c D b0 (cm aC x ((stX6_become_2 k k2 i1_ i2_ j).1) ((stX6_become_2 k k2 i1_ i2_ j).2) R) sz 0 0 Q (F0 m 2 ls []) := by
  obtain ⟨hx, hb, -, -, -⟩ := id C
  intro d
  induction d with
  | zero =>
    intro j hj0 sz ls hl K
    refine zz (fun _ _ => lv_iload_n hx hb dX6_become_2 rfl (lv_at hl 2 rfl)) ?_
    refine zz (fun _ _ => lv_bipush (v := 7) hx hb dX6_become_3 (by decide)) ?_
    refine zb (fun _ _ => lv_icmp_ge (tgt := 29) hx hb dX6_become_5 (by decide)) (fun c_1 => ?_) (fun c_1 => ?_)
    · obtain rfl := fl_eq (j := j) (N := N_) hNb (by omega) hNl c_1
      exact K _ _ (lv_sub hl [0, 1, 2] rfl)
    · exact absurd (fl_lt (j := j) (N := N_) hNb (by omega) hNl c_1) (by omega)
  | succ d ih =>
    intro j hj0 sz ls hl K
    refine zz (fun _ _ => lv_iload_n hx hb dX6_become_2 rfl (lv_at hl 2 rfl)) ?_
    refine zz (fun _ _ => lv_bipush (v := 7) hx hb dX6_become_3 (by decide)) ?_
    refine zb (fun _ _ => lv_icmp_ge (tgt := 29) hx hb dX6_become_5 (by decide)) (fun c_1 => ?_) (fun c_1 => ?_)
    · obtain rfl := fl_eq (j := j) (N := N_) hNb (by omega) hNl c_1
      exact K _ _ (lv_sub hl [0, 1, 2] rfl)
    · have hj9 : j < N_ := fl_lt hNb (by omega) hNl c_1
      refine zz (fun _ _ => lv_aload_n hx hb dX6_become_8 rfl (lv_at hl 0 rfl)) ?_
      refine z_get (v := .ref (x + (k + 1))) C fd_X6_11 (rd_4 hk) rfl dX6_become_9 ?_
      refine zz (fun _ _ => lv_iload_n hx hb dX6_become_12 rfl (lv_at hl 2 rfl)) ?_
      refine z_aald C 3 rfl (rd_5 (nb_4_1 hk)) (in_nI (j := j) rfl (by omega) (by decide)) (v := .ref (x + ((k + 1) + 1 + 2 * j))) (rf_if (f := fun q => x + (k + 1 + 1 + 2 * q)) (n := 7) rfl (Nat.lt_of_lt_of_le hj9 hN2) (by decide)) dX6_become_13 ?_
      refine zz (fun _ _ => lv_aload_n hx hb dX6_become_14 rfl (lv_at hl 1 rfl)) ?_
      refine z_get (v := .ref (x + (k2 + 1))) C fd_X6_11 (rd_4 hk2) rfl dX6_become_15 ?_
      refine zz (fun _ _ => lv_iload_n hx hb dX6_become_18 rfl (lv_at hl 2 rfl)) ?_
      refine z_aald C 3 rfl (rd_5 (nb_4_1 hk2)) (in_nI (j := j) rfl (by omega) (by decide)) (v := .ref (x + ((k2 + 1) + 1 + 2 * j))) (rf_if (f := fun q => x + (k2 + 1 + 1 + 2 * q)) (n := 7) rfl (Nat.lt_of_lt_of_le hj9 hN2) (by decide)) dX6_become_19 ?_
      obtain ⟨n9, hm9, hn9⟩ := hG j j (by omega) (by omega)
      refine zdV (As := [.ref (x + ((k2 + 1) + 1 + 2 * j))]) (rest := []) (st' := []) C hl.1 lk_X6_41 (ctX2_become (kp_5 (nb_4_1 hk) (Nat.lt_of_lt_of_le hj9 hN2)) (kp_5 (nb_4_1 hk2) (Nat.lt_of_lt_of_le hj9 hN2)) hn9 hm9 (hZ j j (by omega) (by omega))) (rd_6 (kp_5 (nb_4_1 hk) (Nat.lt_of_lt_of_le hj9 hN2))) rfl rfl rfl (Nat.le_of_ble_eq_true rfl) ⟨by decide, by decide, by decide, by decide⟩ dX6_become_20 rfl (fun sz => ?_)
      refine zs (fun _ _ => lv_iinc (v := nI j + 1) (lv' := [(2, .int (nI j + 1)), (0, .ref (x + k)), (1, .ref (x + k2))]) hx hb dX6_become_23 hl (k := 2) rfl rfl (by decide) rfl) (fun ls hl => ?_)
      refine zz (fun _ _ => lv_goto (tgt := 2) hx hb dX6_become_26 (by decide)) ?_
      have hI := ih (j + 1) (by omega)
      simp only [stX6_become_2, if_neg c_1] at hI
      have hl := lv_sub hl [1, 2, 0] rfl
      simp only [nI_1] at hl
      exact hI _ _ hl K
theorem become_o {k k2 : Nat} {iv av : Nat → Nat → Int32} : ∀ (i q f : Nat), (∀ j, j < i → q ≠ k + 1 + 1 + 2 * j) → (stX6_become_2 k k2 iv av i).1 q f = iv q f := by
  intro i
  induction i with
  | zero => intro q f _; rfl
  | succ i ih =>
    intro q f h
    have h1 := h i (Nat.lt_succ_self i)
    simp only [stX6_become_2, fX2_become]
    rw [u2_k _ _ _ _ h1, u2_k _ _ _ _ h1]
    exact ih q f (fun j hj => h j (by omega))
theorem become_i {k k2 : Nat} {iv av : Nat → Nat → Int32} (hd : k + 18 ≤ k2 ∨ k2 + 18 ≤ k) : ∀ (i j f : Nat), i ≤ 7 → j < i → f = 1 ∨ f = 2 → (stX6_become_2 k k2 iv av i).1 (k + 1 + 1 + 2 * j) f = iv (k2 + 1 + 1 + 2 * j) f := by
  intro i
  induction i with
  | zero => intro j f _ hj; exact absurd hj (Nat.not_lt_zero _)
  | succ i ih =>
    intro j f hi hj hf
    simp only [stX6_become_2, fX2_become]
    by_cases q : j = i
    · subst q
      have e : ∀ f, (stX6_become_2 k k2 iv av j).1 (k2 + 1 + 1 + 2 * j) f = iv (k2 + 1 + 1 + 2 * j) f := fun f => become_o _ _ _ (fun z hz => by omega)
      rcases hf with rfl | rfl
      · rw [u2_f _ _ _ (by decide), u2_s, e]
      · rw [u2_s, e]
    · have h1 : k + 1 + 1 + 2 * j ≠ k + 1 + 1 + 2 * i := by omega
      rw [u2_k _ _ _ _ h1, u2_k _ _ _ _ h1]
      exact ih j f (by omega) (by omega) hf
def fX6_become (iv : Nat → Nat → Int32) (av : Nat → Nat → Int32) (k : Nat) (k2 : Nat) : (Nat → Nat → Int32) × (Nat → Nat → Int32) := ((u2 (stX6_become_2 k k2 iv av 7).1 k 1 (((stX6_become_2 k k2 iv av 7).1) k2 1)), (stX6_become_2 k k2 iv av 7).2)
set_option maxHeartbeats 1000000 in
set_option maxRecDepth 10000 in
theorem ctX6_become {l : Launch} {D : va_G} {aC : Nat → ClassId} {b0 sz : Nat} {x : Nat} {iv av : Nat → Nat → Int32} {R : ZM} {k : Nat} {k2 : Nat} (hk : ck k = 4) (hk2 : ck k2 = 4) (hd : k + 18 ≤ k2 ∨ k2 + 18 ≤ k) (hG : ∀ j, j < 7 → ∃ n, n ≤ 120 ∧ iv (k2 + 1 + 1 + 2 * j) 1 = nI n) (hZ : ∀ j, j < 7 → iv (k2 + 1 + 1 + 2 * j) 2 = 0 ∨ iv (k2 + 1 + 1 + 2 * j) 2 = 1) : Ct l D aC b0 yX6_become cX6_become 3 none 1 0 0 [.ref (x + k), .ref (x + k2)] (cm aC x iv av R) sz (zd none (cm aC x (fX6_become iv av k k2).1 (fX6_become iv av k k2).2 R)) := by
  refine Ct.of (by decide) (Nat.le_of_ble_eq_true rfl) ?_
  intro p e s m below meth c ls C hr hlk hnm hl
  have hl : lv_has ls 3 [(0, .ref (x + k)), (1, .ref (x + k2))] := hl
  obtain ⟨hx, hb, -, -, -⟩ := id C
  refine zz (fun _ _ => lv_iconst (v := 0) hx hb dX6_become_0 (by decide)) ?_
  refine zs (fun _ _ => lv_istore_n (lv' := [(2, .int (0)), (0, .ref (x + k)), (1, .ref (x + k2))]) hx hb dX6_become_1 rfl hl (by decide) rfl) (fun ls hl => ?_)
  refine lpX6_become_2  (N_ := 7) C (iv := iv) (av := av) (i1_ := iv) (i2_ := av) hk hk2 (fun i j h1 h2 => by rw [become_o _ _ _ (fun z hz => by omega)]; exact hG j h2) (fun i j h1 h2 => by rw [become_o _ _ _ (fun z hz => by omega)]; exact hZ j h2) rfl (by decide) (by decide) 7 0 (Nat.zero_add _) _ _ (lv_sub hl [1, 2, 0] rfl) (fun sz ls hl => ?_)
  refine zz (fun _ _ => lv_aload_n hx hb dX6_become_29 rfl (lv_at hl 0 rfl)) ?_
  refine zz (fun _ _ => lv_aload_n hx hb dX6_become_30 rfl (lv_at hl 1 rfl)) ?_
  refine z_get (v := .int (((stX6_become_2 k k2 iv av 7).1) k2 1)) C fd_X6_17 (rd_4 hk2) rfl dX6_become_31 ?_
  refine z_put C fp_X6_17 (fun h => by cases h) (rd_4 hk) (Nat.le_of_ble_eq_true rfl) rfl rfl dX6_become_34 ?_
  refine zeq (wr_4_1 hk) ?_
  exact z_vret C hr hlk dX6_become_37 (by simp only [zd, fX6_become, and_self])
