theorem nI_nn {a : Int32} {n : Nat} (h : a = nI n) (hn : n < 2 ^ 31) : ¬ a < 0 := by
  rw [h, Int32.lt_iff_toInt_lt, nI_toInt hn]
  simp
def fX2_become (iv : Nat → Nat → Int32) (av : Nat → Nat → Int32) (k : Nat) (k2 : Nat) : (Nat → Nat → Int32) × (Nat → Nat → Int32) := ((u2 (u2 iv k 1 (iv k2 1)) k 2 (iv k2 2)), (u1 av (k + 1) (va_cpy (av (k2 + 1)) (av (k + 1)) (Int32.toNatClampNeg (0)) (Int32.toNatClampNeg (0)) (Int32.toNatClampNeg (iv k2 1)))))
set_option maxHeartbeats 1000000 in
set_option maxRecDepth 10000 in
theorem ctX2_become {l : Launch} {D : va_G} {aC : Nat → ClassId} {b0 sz : Nat} {x : Nat} {iv av : Nat → Nat → Int32} {R : ZM} {k : Nat} {k2 : Nat} (hk : ck k = 6) (hk2 : ck k2 = 6) {n_ : Nat} (hs : iv k2 1 = nI n_) (hn : n_ ≤ 120) (hz2 : iv k2 2 = 0 ∨ iv k2 2 = 1) : Ct l D aC b0 yX2_become cX2_become 2 none 0 0 0 [.ref (x + k), .ref (x + k2)] (cm aC x iv av R) sz (zd none (cm aC x (fX2_become iv av k k2).1 (fX2_become iv av k k2).2 R)) := by
  refine Ct.of (by decide) (Nat.le_of_ble_eq_true rfl) ?_
  intro p e s m below meth c ls C hr hlk hnm hl
  have hl : lv_has ls 2 [(0, .ref (x + k)), (1, .ref (x + k2))] := hl
  obtain ⟨hx, hb, -, -, -⟩ := id C
  refine zz (fun _ _ => lv_aload_n hx hb dX2_become_0 rfl (lv_at hl 1 rfl)) ?_
  refine z_get (v := .ref (x + (k2 + 1))) C fd_X2_9 (rd_6 hk2) rfl dX2_become_1 ?_
  refine zz (fun _ _ => lv_iconst (v := 0) hx hb dX2_become_4 (by decide)) ?_
  refine zz (fun _ _ => lv_aload_n hx hb dX2_become_5 rfl (lv_at hl 0 rfl)) ?_
  refine z_get (v := .ref (x + (k + 1))) C fd_X2_9 (rd_6 hk) rfl dX2_become_6 ?_
  refine zz (fun _ _ => lv_iconst (v := 0) hx hb dX2_become_9 (by decide)) ?_
  refine zz (fun _ _ => lv_aload_n hx hb dX2_become_10 rfl (lv_at hl 1 rfl)) ?_
  refine z_get (v := .int (iv k2 1)) C fd_X2_15 (rd_6 hk2) rfl dX2_become_11 ?_
  refine z_copy C hl.1 ac_X2_27 (rd_7 (nb_6_1 hk2)) (rd_7 (nb_6_1 hk)) (by decide) (by decide) (nI_nn hs (by omega)) (by rw [hs, nI_clamp (by omega)]; exact (Nat.zero_add _).symm ▸ hn) (by rw [hs, nI_clamp (by omega)]; exact (Nat.zero_add _).symm ▸ hn) (by decide) (by decide) dX2_become_14 (fun sz => ?_)
  refine zeq (wr_7 (nb_6_1 hk)) ?_
  refine zz (fun _ _ => lv_aload_n hx hb dX2_become_17 rfl (lv_at hl 0 rfl)) ?_
  refine zz (fun _ _ => lv_aload_n hx hb dX2_become_18 rfl (lv_at hl 1 rfl)) ?_
  refine z_get (v := .int (iv k2 1)) C fd_X2_15 (rd_6 hk2) rfl dX2_become_19 ?_
  refine z_put C fp_X2_15 (fun h => by cases h) (rd_6 hk) (Nat.le_of_ble_eq_true rfl) rfl rfl dX2_become_22 ?_
  refine zeq (wr_6_1 hk) ?_
  refine zz (fun _ _ => lv_aload_n hx hb dX2_become_25 rfl (lv_at hl 0 rfl)) ?_
  refine zz (fun _ _ => lv_aload_n hx hb dX2_become_26 rfl (lv_at hl 1 rfl)) ?_
  refine z_get (v := .int (iv k2 2)) C fd_X2_19 (rd_6 hk2) (by simp [u2]) dX2_become_27 ?_
  refine z_put C fp_X2_19 (fun h => by cases h) (rd_6 hk) (Nat.le_of_ble_eq_true rfl) (bz hz2) (bf hz2) dX2_become_30 ?_
  refine zeq (wr_6_2 hk) ?_
  exact z_vret C hr hlk dX2_become_33 (by simp only [zd, fX2_become, and_self])
