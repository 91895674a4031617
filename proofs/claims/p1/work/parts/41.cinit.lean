theorem zup_sw {M : ZM} {a b : Nat} {e f : va_E} (h : a ≠ b) : zup (zup M a e) b f = zup (zup M b f) a e := zup_comm M e f h
set_option maxHeartbeats 4000000 in
set_option maxRecDepth 20000 in
theorem ctX2_init {l : Launch} {D : va_G} {aC : Nat → ClassId} {b0 a sz : Nat} {M : ZM} (ha : M a = some (.inr (2, [.null, .int 0, .int 0]))) (hsz : a < sz) : Ct l D aC b0 yX2_init cX2_init 1 none 0 1 120 [.ref a] M sz (zdz none (zup (zup M a (.inr (2, [.ref sz, .int 0, .int 0]))) sz (.inl (aC 0, 120, .inl (fun _ => 0)))) (sz + 1)) := by
  refine Ct.of (by decide) (Nat.le_of_ble_eq_true rfl) ?_
  intro p e s m below meth c ls C hr hlk hnm hl
  have hl : lv_has ls 1 [(0, .ref a)] := hl
  obtain ⟨hx, hb, -, -, -⟩ := id C
  refine zz (fun _ _ => lv_aload_n hx hb dX2_init_0 rfl (lv_at hl 0 rfl)) ?_
  refine z_obj C hl.1 ob_X2_3 (by decide) (Nat.le_of_ble_eq_true rfl) dX2_init_1 ?_
  refine zz (fun _ _ => lv_aload_n hx hb dX2_init_4 rfl (lv_at hl 0 rfl)) ?_
  refine zz (fun _ _ => lv_bipush (v := 120) hx hb dX2_init_5 (by decide)) ?_
  refine z_newi (N' := 120) C (by decide) (by decide) (by decide) (by decide) (by decide) dX2_init_7 ?_
  refine zsz (sz' := sz + 1) rfl (zcs (k := 1) (n := 120) rfl rfl ?_)
  refine z_put C fp_X2_9 (fun _ => hnm) ((zup_ne _ _ (by omega)).trans (ha)) (Nat.le_of_ble_eq_true rfl) rfl rfl dX2_init_9 ?_
  refine zeq (M' := (zup (zup M a (.inr (2, [.ref sz, .int 0, .int 0]))) sz (.inl (aC 0, 120, .inl (fun _ => 0))))) (by rw [zup_sw (a := sz) (b := a) (by omega)]; first | done | rfl) ?_
  refine zz (fun _ _ => lv_aload_n hx hb dX2_init_12 rfl (lv_at hl 0 rfl)) ?_
  refine zz (fun _ _ => lv_iconst (v := 0) hx hb dX2_init_13 (by decide)) ?_
  refine z_put C fp_X2_15 (fun h => by cases h) ((zup_ne _ _ (by omega)).trans (zup_self _ _ _)) (Nat.le_of_ble_eq_true rfl) rfl rfl dX2_init_14 ?_
  refine zeq (M' := (zup (zup M a (.inr (2, [.ref sz, .int 0, .int 0]))) sz (.inl (aC 0, 120, .inl (fun _ => 0))))) (by rw [zup_sw (a := sz) (b := a) (by omega), zup_zup]; first | done | rfl) ?_
  refine zz (fun _ _ => lv_aload_n hx hb dX2_init_17 rfl (lv_at hl 0 rfl)) ?_
  refine zz (fun _ _ => lv_iconst (v := 0) hx hb dX2_init_18 (by decide)) ?_
  refine z_put C fp_X2_19 (fun h => by cases h) ((zup_ne _ _ (by omega)).trans (zup_self _ _ _)) (Nat.le_of_ble_eq_true rfl) rfl rfl dX2_init_19 ?_
  refine zeq (M' := (zup (zup M a (.inr (2, [.ref sz, .int 0, .int 0]))) sz (.inl (aC 0, 120, .inl (fun _ => 0))))) (by rw [zup_sw (a := sz) (b := a) (by omega), zup_zup]; first | done | rfl) ?_
  exact z_vret C hr hlk dX2_init_22 ⟨rfl, rfl, rfl⟩
set_option maxHeartbeats 4000000 in
set_option maxRecDepth 20000 in
theorem ctX0_init {l : Launch} {D : va_G} {aC : Nat → ClassId} {b0 a sz : Nat} {M : ZM} (ha : M a = some (.inr (0, [.null, .null, .null, .int 0]))) (hsz : a < sz) : Ct l D aC b0 yX0_init cX0_init 1 none 0 3 720 [.ref a] M sz (zdz none (zup (zup (zup (zup M a (.inr (0, [.ref sz, .ref (sz + 1), .ref (sz + 2), .int 0]))) sz (.inl (aC 0, 240, .inl (fun _ => 0)))) (sz + 1) (.inl (aC 0, 240, .inl (fun _ => 0)))) (sz + 2) (.inl (aC 0, 240, .inl (fun _ => 0)))) (sz + 3)) := by
  refine Ct.of (by decide) (Nat.le_of_ble_eq_true rfl) ?_
  intro p e s m below meth c ls C hr hlk hnm hl
  have hl : lv_has ls 1 [(0, .ref a)] := hl
  obtain ⟨hx, hb, -, -, -⟩ := id C
  refine zz (fun _ _ => lv_aload_n hx hb dX0_init_0 rfl (lv_at hl 0 rfl)) ?_
  refine z_obj C hl.1 ob_X0_3 (by decide) (Nat.le_of_ble_eq_true rfl) dX0_init_1 ?_
  refine zz (fun _ _ => lv_aload_n hx hb dX0_init_4 rfl (lv_at hl 0 rfl)) ?_
  refine zz (fun _ _ => lv_sipush (v := 240) hx hb dX0_init_5 (by decide)) ?_
  refine z_newi (N' := 240) C (by decide) (by decide) (by decide) (by decide) (by decide) dX0_init_8 ?_
  refine zsz (sz' := sz + 1) rfl (zcs (k := 1) (n := 240) rfl rfl ?_)
  refine z_put C fp_X0_9 (fun _ => hnm) ((zup_ne _ _ (by omega)).trans (ha)) (Nat.le_of_ble_eq_true rfl) rfl rfl dX0_init_10 ?_
  refine zeq (M' := (zup (zup M a (.inr (0, [.ref sz, .null, .null, .int 0]))) sz (.inl (aC 0, 240, .inl (fun _ => 0))))) (by rw [zup_sw (a := sz) (b := a) (by omega)]; first | done | rfl) ?_
  refine zz (fun _ _ => lv_aload_n hx hb dX0_init_13 rfl (lv_at hl 0 rfl)) ?_
  refine zz (fun _ _ => lv_sipush (v := 240) hx hb dX0_init_14 (by decide)) ?_
  refine z_newi (N' := 240) C (by decide) (by decide) (by decide) (by decide) (by decide) dX0_init_17 ?_
  refine zsz (sz' := sz + 2) rfl (zcs (k := 2) (n := 480) rfl rfl ?_)
  refine z_put C fp_X0_15 (fun _ => hnm) ((zup_ne _ _ (by omega)).trans ((zup_ne _ _ (by omega)).trans (zup_self _ _ _))) (Nat.le_of_ble_eq_true rfl) rfl rfl dX0_init_19 ?_
  refine zeq (M' := (zup (zup (zup M a (.inr (0, [.ref sz, .ref (sz + 1), .null, .int 0]))) sz (.inl (aC 0, 240, .inl (fun _ => 0)))) (sz + 1) (.inl (aC 0, 240, .inl (fun _ => 0))))) (by rw [zup_sw (a := sz + 1) (b := a) (by omega), zup_sw (a := sz) (b := a) (by omega), zup_zup]; first | done | rfl) ?_
  refine zz (fun _ _ => lv_aload_n hx hb dX0_init_22 rfl (lv_at hl 0 rfl)) ?_
  refine zz (fun _ _ => lv_sipush (v := 240) hx hb dX0_init_23 (by decide)) ?_
  refine z_newi (N' := 240) C (by decide) (by decide) (by decide) (by decide) (by decide) dX0_init_26 ?_
  refine zsz (sz' := sz + 3) rfl (zcs (k := 3) (n := 720) rfl rfl ?_)
  refine z_put C fp_X0_18 (fun _ => hnm) ((zup_ne _ _ (by omega)).trans ((zup_ne _ _ (by omega)).trans ((zup_ne _ _ (by omega)).trans (zup_self _ _ _)))) (Nat.le_of_ble_eq_true rfl) rfl rfl dX0_init_28 ?_
  refine zeq (M' := (zup (zup (zup (zup M a (.inr (0, [.ref sz, .ref (sz + 1), .ref (sz + 2), .int 0]))) sz (.inl (aC 0, 240, .inl (fun _ => 0)))) (sz + 1) (.inl (aC 0, 240, .inl (fun _ => 0)))) (sz + 2) (.inl (aC 0, 240, .inl (fun _ => 0))))) (by rw [zup_sw (a := sz + 2) (b := a) (by omega), zup_sw (a := sz + 1) (b := a) (by omega), zup_sw (a := sz) (b := a) (by omega), zup_zup]; first | done | rfl) ?_
  refine zz (fun _ _ => lv_aload_n hx hb dX0_init_31 rfl (lv_at hl 0 rfl)) ?_
  refine zz (fun _ _ => lv_iconst (v := 0) hx hb dX0_init_32 (by decide)) ?_
  refine z_put C fp_X0_21 (fun h => by cases h) ((zup_ne _ _ (by omega)).trans ((zup_ne _ _ (by omega)).trans ((zup_ne _ _ (by omega)).trans (zup_self _ _ _)))) (Nat.le_of_ble_eq_true rfl) rfl rfl dX0_init_33 ?_
  refine zeq (M' := (zup (zup (zup (zup M a (.inr (0, [.ref sz, .ref (sz + 1), .ref (sz + 2), .int 0]))) sz (.inl (aC 0, 240, .inl (fun _ => 0)))) (sz + 1) (.inl (aC 0, 240, .inl (fun _ => 0)))) (sz + 2) (.inl (aC 0, 240, .inl (fun _ => 0))))) (by rw [zup_sw (a := sz + 2) (b := a) (by omega), zup_sw (a := sz + 1) (b := a) (by omega), zup_sw (a := sz) (b := a) (by omega), zup_zup]; first | done | rfl) ?_
  exact z_vret C hr hlk dX0_init_36 ⟨rfl, rfl, rfl⟩
set_option maxHeartbeats 4000000 in
set_option maxRecDepth 20000 in
theorem ctX3_init_6 {l : Launch} {D : va_G} {aC : Nat → ClassId} {b0 a sz : Nat} {M : ZM} (ha : M a = some (.inr (3, [.null, .int 0, .int 0]))) (hsz : a < sz) : Ct l D aC b0 yX3_init cX3_init 2 none 0 1 18 [.ref a, .int 6] M sz (zdz none (zup (zup M a (.inr (3, [.ref sz, .int 6, .int 0]))) sz (.inl (aC 0, 18, .inl (fun _ => 0)))) (sz + 1)) := by
  refine Ct.of (by decide) (Nat.le_of_ble_eq_true rfl) ?_
  intro p e s m below meth c ls C hr hlk hnm hl
  have hl : lv_has ls 2 [(0, .ref a), (1, .int 6)] := hl
  obtain ⟨hx, hb, -, -, -⟩ := id C
  refine zz (fun _ _ => lv_aload_n hx hb dX3_init_0 rfl (lv_at hl 0 rfl)) ?_
  refine z_obj C hl.1 ob_X3_1 (by decide) (Nat.le_of_ble_eq_true rfl) dX3_init_1 ?_
  refine zz (fun _ _ => lv_aload_n hx hb dX3_init_4 rfl (lv_at hl 0 rfl)) ?_
  refine zz (fun _ _ => lv_iconst (v := 0) hx hb dX3_init_5 (by decide)) ?_
  refine z_put C fp_X3_7 (fun h => by cases h) (ha) (Nat.le_of_ble_eq_true rfl) rfl rfl dX3_init_6 ?_
  refine zz (fun _ _ => lv_aload_n hx hb dX3_init_9 rfl (lv_at hl 0 rfl)) ?_
  refine zz (fun _ _ => lv_iload_n hx hb dX3_init_10 rfl (lv_at hl 1 rfl)) ?_
  refine z_put C fp_X3_13 (fun _ => hnm) (zup_self _ _ _) (Nat.le_of_ble_eq_true rfl) rfl rfl dX3_init_11 ?_
  refine zeq (M' := (zup M a (.inr (3, [.null, .int 6, .int 0])))) (by rw [zup_zup]; first | done | rfl) ?_
  refine zz (fun _ _ => lv_aload_n hx hb dX3_init_14 rfl (lv_at hl 0 rfl)) ?_
  refine zz (fun _ _ => lv_iconst (v := 3) hx hb dX3_init_15 (by decide)) ?_
  refine zz (fun _ _ => lv_iload_n hx hb dX3_init_16 rfl (lv_at hl 1 rfl)) ?_
  refine zz (fun _ _ => lv_imul hx hb dX3_init_17) ?_
  refine z_newi (N' := 18) C (by decide) (by decide) (by decide) (by decide) (by decide) dX3_init_18 ?_
  refine zsz (sz' := sz + 1) rfl (zcs (k := 1) (n := 18) rfl rfl ?_)
  refine z_put C fp_X3_16 (fun _ => hnm) ((zup_ne _ _ (by omega)).trans (zup_self _ _ _)) (Nat.le_of_ble_eq_true rfl) rfl rfl dX3_init_20 ?_
  refine zeq (M' := (zup (zup M a (.inr (3, [.ref sz, .int 6, .int 0]))) sz (.inl (aC 0, 18, .inl (fun _ => 0))))) (by rw [zup_sw (a := sz) (b := a) (by omega), zup_zup]; first | done | rfl) ?_
  exact z_vret C hr hlk dX3_init_23 ⟨rfl, rfl, rfl⟩
set_option maxHeartbeats 4000000 in
set_option maxRecDepth 20000 in
theorem ctX3_init_4 {l : Launch} {D : va_G} {aC : Nat → ClassId} {b0 a sz : Nat} {M : ZM} (ha : M a = some (.inr (3, [.null, .int 0, .int 0]))) (hsz : a < sz) : Ct l D aC b0 yX3_init cX3_init 2 none 0 1 12 [.ref a, .int 4] M sz (zdz none (zup (zup M a (.inr (3, [.ref sz, .int 4, .int 0]))) sz (.inl (aC 0, 12, .inl (fun _ => 0)))) (sz + 1)) := by
  refine Ct.of (by decide) (Nat.le_of_ble_eq_true rfl) ?_
  intro p e s m below meth c ls C hr hlk hnm hl
  have hl : lv_has ls 2 [(0, .ref a), (1, .int 4)] := hl
  obtain ⟨hx, hb, -, -, -⟩ := id C
  refine zz (fun _ _ => lv_aload_n hx hb dX3_init_0 rfl (lv_at hl 0 rfl)) ?_
  refine z_obj C hl.1 ob_X3_1 (by decide) (Nat.le_of_ble_eq_true rfl) dX3_init_1 ?_
  refine zz (fun _ _ => lv_aload_n hx hb dX3_init_4 rfl (lv_at hl 0 rfl)) ?_
  refine zz (fun _ _ => lv_iconst (v := 0) hx hb dX3_init_5 (by decide)) ?_
  refine z_put C fp_X3_7 (fun h => by cases h) (ha) (Nat.le_of_ble_eq_true rfl) rfl rfl dX3_init_6 ?_
  refine zz (fun _ _ => lv_aload_n hx hb dX3_init_9 rfl (lv_at hl 0 rfl)) ?_
  refine zz (fun _ _ => lv_iload_n hx hb dX3_init_10 rfl (lv_at hl 1 rfl)) ?_
  refine z_put C fp_X3_13 (fun _ => hnm) (zup_self _ _ _) (Nat.le_of_ble_eq_true rfl) rfl rfl dX3_init_11 ?_
  refine zeq (M' := (zup M a (.inr (3, [.null, .int 4, .int 0])))) (by rw [zup_zup]; first | done | rfl) ?_
  refine zz (fun _ _ => lv_aload_n hx hb dX3_init_14 rfl (lv_at hl 0 rfl)) ?_
  refine zz (fun _ _ => lv_iconst (v := 3) hx hb dX3_init_15 (by decide)) ?_
  refine zz (fun _ _ => lv_iload_n hx hb dX3_init_16 rfl (lv_at hl 1 rfl)) ?_
  refine zz (fun _ _ => lv_imul hx hb dX3_init_17) ?_
  refine z_newi (N' := 12) C (by decide) (by decide) (by decide) (by decide) (by decide) dX3_init_18 ?_
  refine zsz (sz' := sz + 1) rfl (zcs (k := 1) (n := 12) rfl rfl ?_)
  refine z_put C fp_X3_16 (fun _ => hnm) ((zup_ne _ _ (by omega)).trans (zup_self _ _ _)) (Nat.le_of_ble_eq_true rfl) rfl rfl dX3_init_20 ?_
  refine zeq (M' := (zup (zup M a (.inr (3, [.ref sz, .int 4, .int 0]))) sz (.inl (aC 0, 12, .inl (fun _ => 0))))) (by rw [zup_sw (a := sz) (b := a) (by omega), zup_zup]; first | done | rfl) ?_
  exact z_vret C hr hlk dX3_init_23 ⟨rfl, rfl, rfl⟩
set_option maxHeartbeats 4000000 in
set_option maxRecDepth 20000 in
theorem ctX3_init_10 {l : Launch} {D : va_G} {aC : Nat → ClassId} {b0 a sz : Nat} {M : ZM} (ha : M a = some (.inr (3, [.null, .int 0, .int 0]))) (hsz : a < sz) : Ct l D aC b0 yX3_init cX3_init 2 none 0 1 30 [.ref a, .int 10] M sz (zdz none (zup (zup M a (.inr (3, [.ref sz, .int 10, .int 0]))) sz (.inl (aC 0, 30, .inl (fun _ => 0)))) (sz + 1)) := by
  refine Ct.of (by decide) (Nat.le_of_ble_eq_true rfl) ?_
  intro p e s m below meth c ls C hr hlk hnm hl
  have hl : lv_has ls 2 [(0, .ref a), (1, .int 10)] := hl
  obtain ⟨hx, hb, -, -, -⟩ := id C
  refine zz (fun _ _ => lv_aload_n hx hb dX3_init_0 rfl (lv_at hl 0 rfl)) ?_
  refine z_obj C hl.1 ob_X3_1 (by decide) (Nat.le_of_ble_eq_true rfl) dX3_init_1 ?_
  refine zz (fun _ _ => lv_aload_n hx hb dX3_init_4 rfl (lv_at hl 0 rfl)) ?_
  refine zz (fun _ _ => lv_iconst (v := 0) hx hb dX3_init_5 (by decide)) ?_
  refine z_put C fp_X3_7 (fun h => by cases h) (ha) (Nat.le_of_ble_eq_true rfl) rfl rfl dX3_init_6 ?_
  refine zz (fun _ _ => lv_aload_n hx hb dX3_init_9 rfl (lv_at hl 0 rfl)) ?_
  refine zz (fun _ _ => lv_iload_n hx hb dX3_init_10 rfl (lv_at hl 1 rfl)) ?_
  refine z_put C fp_X3_13 (fun _ => hnm) (zup_self _ _ _) (Nat.le_of_ble_eq_true rfl) rfl rfl dX3_init_11 ?_
  refine zeq (M' := (zup M a (.inr (3, [.null, .int 10, .int 0])))) (by rw [zup_zup]; first | done | rfl) ?_
  refine zz (fun _ _ => lv_aload_n hx hb dX3_init_14 rfl (lv_at hl 0 rfl)) ?_
  refine zz (fun _ _ => lv_iconst (v := 3) hx hb dX3_init_15 (by decide)) ?_
  refine zz (fun _ _ => lv_iload_n hx hb dX3_init_16 rfl (lv_at hl 1 rfl)) ?_
  refine zz (fun _ _ => lv_imul hx hb dX3_init_17) ?_
  refine z_newi (N' := 30) C (by decide) (by decide) (by decide) (by decide) (by decide) dX3_init_18 ?_
  refine zsz (sz' := sz + 1) rfl (zcs (k := 1) (n := 30) rfl rfl ?_)
  refine z_put C fp_X3_16 (fun _ => hnm) ((zup_ne _ _ (by omega)).trans (zup_self _ _ _)) (Nat.le_of_ble_eq_true rfl) rfl rfl dX3_init_20 ?_
  refine zeq (M' := (zup (zup M a (.inr (3, [.ref sz, .int 10, .int 0]))) sz (.inl (aC 0, 30, .inl (fun _ => 0))))) (by rw [zup_sw (a := sz) (b := a) (by omega), zup_zup]; first | done | rfl) ?_
  exact z_vret C hr hlk dX3_init_23 ⟨rfl, rfl, rfl⟩
set_option maxHeartbeats 4000000 in
set_option maxRecDepth 20000 in
theorem ctX1_init {l : Launch} {D : va_G} {aC : Nat → ClassId} {b0 a sz : Nat} {M : ZM} (ha : M a = some (.inr (1, [.null, .int 0]))) (hsz : a < sz) : Ct l D aC b0 yX1_init cX1_init 1 none 1 2 33 [.ref a] M sz (zdz none (zup (zup (zup M a (.inr (1, [.ref sz, .int 0]))) sz (.inr (3, [.ref (sz + 1), .int 10, .int 0]))) (sz + 1) (.inl (aC 0, 30, .inl (fun _ => 0)))) (sz + 2)) := by
  refine Ct.of (by decide) (Nat.le_of_ble_eq_true rfl) ?_
  intro p e s m below meth c ls C hr hlk hnm hl
  have hl : lv_has ls 1 [(0, .ref a)] := hl
  obtain ⟨hx, hb, -, -, -⟩ := id C
  refine zz (fun _ _ => lv_aload_n hx hb dX1_init_0 rfl (lv_at hl 0 rfl)) ?_
  refine z_obj C hl.1 ob_X1_3 (by decide) (Nat.le_of_ble_eq_true rfl) dX1_init_1 ?_
  refine zz (fun _ _ => lv_aload_n hx hb dX1_init_4 rfl (lv_at hl 0 rfl)) ?_
  refine z_new C nw_X1_9 (by decide) (by decide) dX1_init_5 ?_
  refine zsz (sz' := sz + 1) rfl (zcs (k := 1) (n := 3) rfl rfl ?_)
  refine zz (fun _ _ => lv_dup hx hb dX1_init_8 rfl) ?_
  refine zz (fun _ _ => lv_bipush (v := 10) hx hb dX1_init_9 (by decide)) ?_
  refine zdI (As := [.int 10]) (rest := [.ref sz, .ref a]) C hl.1 lk_X1_11 (ctX3_init_10 (zup_self _ _ _) (by omega)) rfl rfl (Nat.le_of_ble_eq_true rfl) ⟨by decide, by decide, by decide, by decide⟩ dX1_init_11 ?_
  refine zeq (M' := (zup (zup M sz (.inr (3, [.ref (sz + 1), .int 10, .int 0]))) (sz + 1) (.inl (aC 0, 30, .inl (fun _ => 0))))) (by simp only [zup_zup, Nat.add_assoc, Nat.reduceAdd]) ?_
  refine zsz (sz' := sz + 2) rfl (zcs (k := 2) (n := 33) rfl rfl ?_)
  refine z_put C fp_X1_14 (fun _ => hnm) ((zup_ne _ _ (by omega)).trans ((zup_ne _ _ (by omega)).trans (ha))) (Nat.le_of_ble_eq_true rfl) rfl rfl dX1_init_14 ?_
  refine zeq (M' := (zup (zup (zup M a (.inr (1, [.ref sz, .int 0]))) sz (.inr (3, [.ref (sz + 1), .int 10, .int 0]))) (sz + 1) (.inl (aC 0, 30, .inl (fun _ => 0))))) (by rw [zup_sw (a := sz + 1) (b := a) (by omega), zup_sw (a := sz) (b := a) (by omega)]; first | done | rfl) ?_
  refine zz (fun _ _ => lv_aload_n hx hb dX1_init_17 rfl (lv_at hl 0 rfl)) ?_
  refine zz (fun _ _ => lv_iconst (v := 0) hx hb dX1_init_18 (by decide)) ?_
  refine z_put C fp_X1_20 (fun h => by cases h) ((zup_ne _ _ (by omega)).trans ((zup_ne _ _ (by omega)).trans (zup_self _ _ _))) (Nat.le_of_ble_eq_true rfl) rfl rfl dX1_init_19 ?_
  refine zeq (M' := (zup (zup (zup M a (.inr (1, [.ref sz, .int 0]))) sz (.inr (3, [.ref (sz + 1), .int 10, .int 0]))) (sz + 1) (.inl (aC 0, 30, .inl (fun _ => 0))))) (by rw [zup_sw (a := sz + 1) (b := a) (by omega), zup_sw (a := sz) (b := a) (by omega), zup_zup]; first | done | rfl) ?_
  exact z_vret C hr hlk dX1_init_22 ⟨rfl, rfl, rfl⟩
set_option maxHeartbeats 4000000 in
set_option maxRecDepth 20000 in
theorem ctX5_init {l : Launch} {D : va_G} {aC : Nat → ClassId} {b0 a sz : Nat} {M : ZM} (ha : M a = some (.inr (5, [.null, .null, .null, .int 0, .int 0, .int 0, .int 0, .int 0]))) (hsz : a < sz) : Ct l D aC b0 yX5_init cX5_init 1 none 1 5 42 [.ref a] M sz (zdz none (zup (zup (zup (zup (zup (zup M a (.inr (5, [.ref sz, .ref (sz + 2), .ref (sz + 3), .int 0, .int 0, .int 0, .int 0, .int (-1)]))) sz (.inr (3, [.ref (sz + 1), .int 6, .int 0]))) (sz + 1) (.inl (aC 0, 18, .inl (fun _ => 0)))) (sz + 2) (.inl (aC 1, 6, .inl (fun _ => 0)))) (sz + 3) (.inr (3, [.ref (sz + 4), .int 4, .int 0]))) (sz + 4) (.inl (aC 0, 12, .inl (fun _ => 0)))) (sz + 5)) := by
  refine Ct.of (by decide) (Nat.le_of_ble_eq_true rfl) ?_
  intro p e s m below meth c ls C hr hlk hnm hl
  have hl : lv_has ls 1 [(0, .ref a)] := hl
  obtain ⟨hx, hb, -, -, -⟩ := id C
  refine zz (fun _ _ => lv_aload_n hx hb dX5_init_0 rfl (lv_at hl 0 rfl)) ?_
  refine z_obj C hl.1 ob_X5_3 (by decide) (Nat.le_of_ble_eq_true rfl) dX5_init_1 ?_
  refine zz (fun _ _ => lv_aload_n hx hb dX5_init_4 rfl (lv_at hl 0 rfl)) ?_
  refine z_new C nw_X5_9 (by decide) (by decide) dX5_init_5 ?_
  refine zsz (sz' := sz + 1) rfl (zcs (k := 1) (n := 3) rfl rfl ?_)
  refine zz (fun _ _ => lv_dup hx hb dX5_init_8 rfl) ?_
  refine zz (fun _ _ => lv_bipush (v := 6) hx hb dX5_init_9 (by decide)) ?_
  refine zdI (As := [.int 6]) (rest := [.ref sz, .ref a]) C hl.1 lk_X5_11 (ctX3_init_6 (zup_self _ _ _) (by omega)) rfl rfl (Nat.le_of_ble_eq_true rfl) ⟨by decide, by decide, by decide, by decide⟩ dX5_init_11 ?_
  refine zeq (M' := (zup (zup M sz (.inr (3, [.ref (sz + 1), .int 6, .int 0]))) (sz + 1) (.inl (aC 0, 18, .inl (fun _ => 0))))) (by simp only [zup_zup, Nat.add_assoc, Nat.reduceAdd]) ?_
  refine zsz (sz' := sz + 2) rfl (zcs (k := 2) (n := 21) rfl rfl ?_)
  refine z_put C fp_X5_14 (fun _ => hnm) ((zup_ne _ _ (by omega)).trans ((zup_ne _ _ (by omega)).trans (ha))) (Nat.le_of_ble_eq_true rfl) rfl rfl dX5_init_14 ?_
  refine zeq (M' := (zup (zup (zup M a (.inr (5, [.ref sz, .null, .null, .int 0, .int 0, .int 0, .int 0, .int 0]))) sz (.inr (3, [.ref (sz + 1), .int 6, .int 0]))) (sz + 1) (.inl (aC 0, 18, .inl (fun _ => 0))))) (by rw [zup_sw (a := sz + 1) (b := a) (by omega), zup_sw (a := sz) (b := a) (by omega)]; first | done | rfl) ?_
  refine zz (fun _ _ => lv_aload_n hx hb dX5_init_17 rfl (lv_at hl 0 rfl)) ?_
  refine zz (fun _ _ => lv_bipush (v := 6) hx hb dX5_init_18 (by decide)) ?_
  refine z_newz (N' := 6) C (by decide) (by decide) (by decide) (by decide) (by decide) dX5_init_20 ?_
  refine zsz (sz' := sz + 3) rfl (zcs (k := 3) (n := 27) rfl rfl ?_)
  refine z_put C fp_X5_20 (fun _ => hnm) ((zup_ne _ _ (by omega)).trans ((zup_ne _ _ (by omega)).trans ((zup_ne _ _ (by omega)).trans (zup_self _ _ _)))) (Nat.le_of_ble_eq_true rfl) rfl rfl dX5_init_22 ?_
  refine zeq (M' := (zup (zup (zup (zup M a (.inr (5, [.ref sz, .ref (sz + 2), .null, .int 0, .int 0, .int 0, .int 0, .int 0]))) sz (.inr (3, [.ref (sz + 1), .int 6, .int 0]))) (sz + 1) (.inl (aC 0, 18, .inl (fun _ => 0)))) (sz + 2) (.inl (aC 1, 6, .inl (fun _ => 0))))) (by rw [zup_sw (a := sz + 2) (b := a) (by omega), zup_sw (a := sz + 1) (b := a) (by omega), zup_sw (a := sz) (b := a) (by omega), zup_zup]; first | done | rfl) ?_
  refine zz (fun _ _ => lv_aload_n hx hb dX5_init_25 rfl (lv_at hl 0 rfl)) ?_
  refine z_new C nw_X5_9 (by decide) (by decide) dX5_init_26 ?_
  refine zsz (sz' := sz + 4) rfl (zcs (k := 4) (n := 30) rfl rfl ?_)
  refine zz (fun _ _ => lv_dup hx hb dX5_init_29 rfl) ?_
  refine zz (fun _ _ => lv_iconst (v := 4) hx hb dX5_init_30 (by decide)) ?_
  refine zdI (As := [.int 4]) (rest := [.ref (sz + 3), .ref a]) C hl.1 lk_X5_11 (ctX3_init_4 (zup_self _ _ _) (by omega)) rfl rfl (Nat.le_of_ble_eq_true rfl) ⟨by decide, by decide, by decide, by decide⟩ dX5_init_31 ?_
  refine zeq (M' := (zup (zup (zup (zup (zup (zup M a (.inr (5, [.ref sz, .ref (sz + 2), .null, .int 0, .int 0, .int 0, .int 0, .int 0]))) sz (.inr (3, [.ref (sz + 1), .int 6, .int 0]))) (sz + 1) (.inl (aC 0, 18, .inl (fun _ => 0)))) (sz + 2) (.inl (aC 1, 6, .inl (fun _ => 0)))) (sz + 3) (.inr (3, [.ref (sz + 4), .int 4, .int 0]))) (sz + 4) (.inl (aC 0, 12, .inl (fun _ => 0))))) (by simp only [zup_zup, Nat.add_assoc, Nat.reduceAdd]) ?_
  refine zsz (sz' := sz + 5) rfl (zcs (k := 5) (n := 42) rfl rfl ?_)
  refine z_put C fp_X5_24 (fun _ => hnm) ((zup_ne _ _ (by omega)).trans ((zup_ne _ _ (by omega)).trans ((zup_ne _ _ (by omega)).trans ((zup_ne _ _ (by omega)).trans ((zup_ne _ _ (by omega)).trans (zup_self _ _ _)))))) (Nat.le_of_ble_eq_true rfl) rfl rfl dX5_init_34 ?_
  refine zeq (M' := (zup (zup (zup (zup (zup (zup M a (.inr (5, [.ref sz, .ref (sz + 2), .ref (sz + 3), .int 0, .int 0, .int 0, .int 0, .int 0]))) sz (.inr (3, [.ref (sz + 1), .int 6, .int 0]))) (sz + 1) (.inl (aC 0, 18, .inl (fun _ => 0)))) (sz + 2) (.inl (aC 1, 6, .inl (fun _ => 0)))) (sz + 3) (.inr (3, [.ref (sz + 4), .int 4, .int 0]))) (sz + 4) (.inl (aC 0, 12, .inl (fun _ => 0))))) (by rw [zup_sw (a := sz + 4) (b := a) (by omega), zup_sw (a := sz + 3) (b := a) (by omega), zup_sw (a := sz + 2) (b := a) (by omega), zup_sw (a := sz + 1) (b := a) (by omega), zup_sw (a := sz) (b := a) (by omega), zup_zup]; first | done | rfl) ?_
  refine zz (fun _ _ => lv_aload_n hx hb dX5_init_37 rfl (lv_at hl 0 rfl)) ?_
  refine zz (fun _ _ => lv_iconst (v := 0) hx hb dX5_init_38 (by decide)) ?_
  refine z_put C fp_X5_27 (fun h => by cases h) ((zup_ne _ _ (by omega)).trans ((zup_ne _ _ (by omega)).trans ((zup_ne _ _ (by omega)).trans ((zup_ne _ _ (by omega)).trans ((zup_ne _ _ (by omega)).trans (zup_self _ _ _)))))) (Nat.le_of_ble_eq_true rfl) rfl rfl dX5_init_39 ?_
  refine zeq (M' := (zup (zup (zup (zup (zup (zup M a (.inr (5, [.ref sz, .ref (sz + 2), .ref (sz + 3), .int 0, .int 0, .int 0, .int 0, .int 0]))) sz (.inr (3, [.ref (sz + 1), .int 6, .int 0]))) (sz + 1) (.inl (aC 0, 18, .inl (fun _ => 0)))) (sz + 2) (.inl (aC 1, 6, .inl (fun _ => 0)))) (sz + 3) (.inr (3, [.ref (sz + 4), .int 4, .int 0]))) (sz + 4) (.inl (aC 0, 12, .inl (fun _ => 0))))) (by rw [zup_sw (a := sz + 4) (b := a) (by omega), zup_sw (a := sz + 3) (b := a) (by omega), zup_sw (a := sz + 2) (b := a) (by omega), zup_sw (a := sz + 1) (b := a) (by omega), zup_sw (a := sz) (b := a) (by omega), zup_zup]; first | done | rfl) ?_
  refine zz (fun _ _ => lv_aload_n hx hb dX5_init_42 rfl (lv_at hl 0 rfl)) ?_
  refine zz (fun _ _ => lv_iconst (v := 0) hx hb dX5_init_43 (by decide)) ?_
  refine z_put C fp_X5_31 (fun h => by cases h) ((zup_ne _ _ (by omega)).trans ((zup_ne _ _ (by omega)).trans ((zup_ne _ _ (by omega)).trans ((zup_ne _ _ (by omega)).trans ((zup_ne _ _ (by omega)).trans (zup_self _ _ _)))))) (Nat.le_of_ble_eq_true rfl) rfl rfl dX5_init_44 ?_
  refine zeq (M' := (zup (zup (zup (zup (zup (zup M a (.inr (5, [.ref sz, .ref (sz + 2), .ref (sz + 3), .int 0, .int 0, .int 0, .int 0, .int 0]))) sz (.inr (3, [.ref (sz + 1), .int 6, .int 0]))) (sz + 1) (.inl (aC 0, 18, .inl (fun _ => 0)))) (sz + 2) (.inl (aC 1, 6, .inl (fun _ => 0)))) (sz + 3) (.inr (3, [.ref (sz + 4), .int 4, .int 0]))) (sz + 4) (.inl (aC 0, 12, .inl (fun _ => 0))))) (by rw [zup_sw (a := sz + 4) (b := a) (by omega), zup_sw (a := sz + 3) (b := a) (by omega), zup_sw (a := sz + 2) (b := a) (by omega), zup_sw (a := sz + 1) (b := a) (by omega), zup_sw (a := sz) (b := a) (by omega), zup_zup]; first | done | rfl) ?_
  refine zz (fun _ _ => lv_aload_n hx hb dX5_init_47 rfl (lv_at hl 0 rfl)) ?_
  refine zz (fun _ _ => lv_iconst (v := 0) hx hb dX5_init_48 (by decide)) ?_
  refine z_put C fp_X5_34 (fun h => by cases h) ((zup_ne _ _ (by omega)).trans ((zup_ne _ _ (by omega)).trans ((zup_ne _ _ (by omega)).trans ((zup_ne _ _ (by omega)).trans ((zup_ne _ _ (by omega)).trans (zup_self _ _ _)))))) (Nat.le_of_ble_eq_true rfl) rfl rfl dX5_init_49 ?_
  refine zeq (M' := (zup (zup (zup (zup (zup (zup M a (.inr (5, [.ref sz, .ref (sz + 2), .ref (sz + 3), .int 0, .int 0, .int 0, .int 0, .int 0]))) sz (.inr (3, [.ref (sz + 1), .int 6, .int 0]))) (sz + 1) (.inl (aC 0, 18, .inl (fun _ => 0)))) (sz + 2) (.inl (aC 1, 6, .inl (fun _ => 0)))) (sz + 3) (.inr (3, [.ref (sz + 4), .int 4, .int 0]))) (sz + 4) (.inl (aC 0, 12, .inl (fun _ => 0))))) (by rw [zup_sw (a := sz + 4) (b := a) (by omega), zup_sw (a := sz + 3) (b := a) (by omega), zup_sw (a := sz + 2) (b := a) (by omega), zup_sw (a := sz + 1) (b := a) (by omega), zup_sw (a := sz) (b := a) (by omega), zup_zup]; first | done | rfl) ?_
  refine zz (fun _ _ => lv_aload_n hx hb dX5_init_52 rfl (lv_at hl 0 rfl)) ?_
  refine zz (fun _ _ => lv_iconst (v := 0) hx hb dX5_init_53 (by decide)) ?_
  refine z_put C fp_X5_37 (fun h => by cases h) ((zup_ne _ _ (by omega)).trans ((zup_ne _ _ (by omega)).trans ((zup_ne _ _ (by omega)).trans ((zup_ne _ _ (by omega)).trans ((zup_ne _ _ (by omega)).trans (zup_self _ _ _)))))) (Nat.le_of_ble_eq_true rfl) rfl rfl dX5_init_54 ?_
  refine zeq (M' := (zup (zup (zup (zup (zup (zup M a (.inr (5, [.ref sz, .ref (sz + 2), .ref (sz + 3), .int 0, .int 0, .int 0, .int 0, .int 0]))) sz (.inr (3, [.ref (sz + 1), .int 6, .int 0]))) (sz + 1) (.inl (aC 0, 18, .inl (fun _ => 0)))) (sz + 2) (.inl (aC 1, 6, .inl (fun _ => 0)))) (sz + 3) (.inr (3, [.ref (sz + 4), .int 4, .int 0]))) (sz + 4) (.inl (aC 0, 12, .inl (fun _ => 0))))) (by rw [zup_sw (a := sz + 4) (b := a) (by omega), zup_sw (a := sz + 3) (b := a) (by omega), zup_sw (a := sz + 2) (b := a) (by omega), zup_sw (a := sz + 1) (b := a) (by omega), zup_sw (a := sz) (b := a) (by omega), zup_zup]; first | done | rfl) ?_
  refine zz (fun _ _ => lv_aload_n hx hb dX5_init_57 rfl (lv_at hl 0 rfl)) ?_
  refine zz (fun _ _ => lv_iconst (v := (-1)) hx hb dX5_init_58 (by decide)) ?_
  refine z_put C fp_X5_41 (fun h => by cases h) ((zup_ne _ _ (by omega)).trans ((zup_ne _ _ (by omega)).trans ((zup_ne _ _ (by omega)).trans ((zup_ne _ _ (by omega)).trans ((zup_ne _ _ (by omega)).trans (zup_self _ _ _)))))) (Nat.le_of_ble_eq_true rfl) rfl rfl dX5_init_59 ?_
  refine zeq (M' := (zup (zup (zup (zup (zup (zup M a (.inr (5, [.ref sz, .ref (sz + 2), .ref (sz + 3), .int 0, .int 0, .int 0, .int 0, .int (-1)]))) sz (.inr (3, [.ref (sz + 1), .int 6, .int 0]))) (sz + 1) (.inl (aC 0, 18, .inl (fun _ => 0)))) (sz + 2) (.inl (aC 1, 6, .inl (fun _ => 0)))) (sz + 3) (.inr (3, [.ref (sz + 4), .int 4, .int 0]))) (sz + 4) (.inl (aC 0, 12, .inl (fun _ => 0))))) (by rw [zup_sw (a := sz + 4) (b := a) (by omega), zup_sw (a := sz + 3) (b := a) (by omega), zup_sw (a := sz + 2) (b := a) (by omega), zup_sw (a := sz + 1) (b := a) (by omega), zup_sw (a := sz) (b := a) (by omega), zup_zup]; first | done | rfl) ?_
  exact z_vret C hr hlk dX5_init_62 ⟨rfl, rfl, rfl⟩
