theorem ix3 {c mo n : Nat} {a : Int32} (ha : a = nI c) (hc : c < mo) (hn : 3 * mo ≤ n) (hb : n < 2 ^ 31) : vp_in (3 * a) n ∧ vp_in (3 * a + 1) n ∧ vp_in (3 * a + 2) n := by
  subst ha
  have e : (3 : Int32) * nI c = nI (3 * c) := pk_mul 3 c
  refine ⟨?_, ?_, ?_⟩
  · rw [e]; exact vp_in_nI (by omega) hb
  · rw [e, show (1 : Int32) = nI 1 from rfl, nI_add]; exact vp_in_nI (by omega) hb
  · rw [e, show (2 : Int32) = nI 2 from rfl, nI_add]; exact vp_in_nI (by omega) hb
theorem tl_lt (k : Nat) : tl k < 2 ^ 31 := by
  unfold tl
  repeat' split
  all_goals decide
def fX3_isFull (iv : Nat → Nat → Int32) (k : Nat) : Int32 := if iv k 2 < iv k 1 then (0) else (1)
theorem nbfX3_isFull {iv : Nat → Nat → Int32} {k : Nat} : narrow .boolean (.int (fX3_isFull iv k)) = .int (fX3_isFull iv k) := by
  unfold fX3_isFull
  repeat' split
  all_goals try dsimp only
  all_goals first | rfl | assumption
set_option maxHeartbeats 1000000 in
set_option maxRecDepth 10000 in
theorem ctX3_isFull {l : Launch} {D : va_G} {aC : Nat → ClassId} {b0 sz : Nat} {x : Nat} {iv av : Nat → Nat → Int32} {R : ZM} {k : Nat} (hk : ck k = 14) : Ct l D aC b0 yX3_isFull cX3_isFull 1 (some .boolean) 0 0 0 [.ref (x + k)] (cm aC x iv av R) sz (zd (some (.int (fX3_isFull iv k))) (cm aC x iv av R)) := by
  refine Ct.of (by decide) (Nat.le_of_ble_eq_true rfl) ?_
  intro p e s m below meth c ls C hr hlk hnm hl
  have hl : lv_has ls 1 [(0, .ref (x + k))] := hl
  obtain ⟨hx, hb, -, -, -⟩ := id C
  refine zz (fun _ _ => lv_aload_n hx hb dX3_isFull_0 rfl (lv_at hl 0 rfl)) ?_
  refine z_get (v := .int (iv k 2)) C fd_X3_7 (rd_14 hk) rfl dX3_isFull_1 ?_
  refine zz (fun _ _ => lv_aload_n hx hb dX3_isFull_4 rfl (lv_at hl 0 rfl)) ?_
  refine z_get (v := .int (iv k 1)) C fd_X3_13 (rd_14 hk) rfl dX3_isFull_5 ?_
  refine zb (fun _ _ => lv_icmp_lt (tgt := 15) hx hb dX3_isFull_8 (by decide)) (fun c_1 => ?_) (fun c_1 => ?_)
  · refine zz (fun _ _ => lv_iconst (v := 0) hx hb dX3_isFull_15 (by decide)) ?_
    exact z_zret C hr rfl hlk dX3_isFull_16 (by simp only [zd, fX3_isFull, if_pos c_1, and_self])
  · refine zz (fun _ _ => lv_iconst (v := 1) hx hb dX3_isFull_11 (by decide)) ?_
    refine zz (fun _ _ => lv_goto (tgt := 16) hx hb dX3_isFull_12 (by decide)) ?_
    exact z_zret C hr rfl hlk dX3_isFull_16 (by simp only [zd, fX3_isFull, if_neg c_1, and_self])
def fX3_subject (av : Nat → Nat → Int32) (k : Nat) (a_ : Int32) : Int32 := (av (k + 1) (Int32.toNatClampNeg ((3) * (a_))))
set_option maxHeartbeats 1000000 in
set_option maxRecDepth 10000 in
theorem ctX3_subject {l : Launch} {D : va_G} {aC : Nat → ClassId} {b0 sz : Nat} {x : Nat} {iv av : Nat → Nat → Int32} {R : ZM} {k : Nat} {a_ : Int32} (hk : ck k = 14) {c_0 j_0 : Nat} (hj : a_ = nI c_0) (hc : 3 * c_0 + 3 ≤ tl k) : Ct l D aC b0 yX3_subject cX3_subject 2 (some .int) 0 0 0 [.ref (x + k), .int (a_)] (cm aC x iv av R) sz (zd (some (.int (fX3_subject av k a_))) (cm aC x iv av R)) := by
  refine Ct.of (by decide) (Nat.le_of_ble_eq_true rfl) ?_
  intro p e s m below meth c ls C hr hlk hnm hl
  have hl : lv_has ls 2 [(0, .ref (x + k)), (1, .int (a_))] := hl
  obtain ⟨hx, hb, -, -, -⟩ := id C
  refine zz (fun _ _ => lv_aload_n hx hb dX3_subject_0 rfl (lv_at hl 0 rfl)) ?_
  refine z_get (v := .ref (x + (k + 1))) C fd_X3_16 (rd_14 hk) rfl dX3_subject_1 ?_
  refine zz (fun _ _ => lv_iconst (v := 3) hx hb dX3_subject_4 (by decide)) ?_
  refine zz (fun _ _ => lv_iload_n hx hb dX3_subject_5 rfl (lv_at hl 1 rfl)) ?_
  refine zz (fun _ _ => lv_imul hx hb dX3_subject_6) ?_
  refine z_iald (f := av (k + 1)) C (rd_t hk) (ix3 (mo := c_0 + 1) hj (by omega) (by omega) (tl_lt k)).1 dX3_subject_7 ?_
  exact z_iret C hr hlk dX3_subject_8 (by simp only [zd, fX3_subject, and_self])
def fX3_property (av : Nat → Nat → Int32) (k : Nat) (a_ : Int32) : Int32 := (av (k + 1) (Int32.toNatClampNeg (((3) * (a_)) + (1))))
set_option maxHeartbeats 1000000 in
set_option maxRecDepth 10000 in
theorem ctX3_property {l : Launch} {D : va_G} {aC : Nat → ClassId} {b0 sz : Nat} {x : Nat} {iv av : Nat → Nat → Int32} {R : ZM} {k : Nat} {a_ : Int32} (hk : ck k = 14) {c_0 j_0 : Nat} (hj : a_ = nI c_0) (hc : 3 * c_0 + 3 ≤ tl k) : Ct l D aC b0 yX3_property cX3_property 2 (some .int) 0 0 0 [.ref (x + k), .int (a_)] (cm aC x iv av R) sz (zd (some (.int (fX3_property av k a_))) (cm aC x iv av R)) := by
  refine Ct.of (by decide) (Nat.le_of_ble_eq_true rfl) ?_
  intro p e s m below meth c ls C hr hlk hnm hl
  have hl : lv_has ls 2 [(0, .ref (x + k)), (1, .int (a_))] := hl
  obtain ⟨hx, hb, -, -, -⟩ := id C
  refine zz (fun _ _ => lv_aload_n hx hb dX3_property_0 rfl (lv_at hl 0 rfl)) ?_
  refine z_get (v := .ref (x + (k + 1))) C fd_X3_16 (rd_14 hk) rfl dX3_property_1 ?_
  refine zz (fun _ _ => lv_iconst (v := 3) hx hb dX3_property_4 (by decide)) ?_
  refine zz (fun _ _ => lv_iload_n hx hb dX3_property_5 rfl (lv_at hl 1 rfl)) ?_
  refine zz (fun _ _ => lv_imul hx hb dX3_property_6) ?_
  refine zz (fun _ _ => lv_iconst (v := 1) hx hb dX3_property_7 (by decide)) ?_
  refine zz (fun _ _ => lv_iadd hx hb dX3_property_8) ?_
  refine z_iald (f := av (k + 1)) C (rd_t hk) (ix3 (mo := c_0 + 1) hj (by omega) (by omega) (tl_lt k)).2.1 dX3_property_9 ?_
  exact z_iret C hr hlk dX3_property_10 (by simp only [zd, fX3_property, and_self])
def fX3_object (av : Nat → Nat → Int32) (k : Nat) (a_ : Int32) : Int32 := (av (k + 1) (Int32.toNatClampNeg (((3) * (a_)) + (2))))
set_option maxHeartbeats 1000000 in
set_option maxRecDepth 10000 in
theorem ctX3_object {l : Launch} {D : va_G} {aC : Nat → ClassId} {b0 sz : Nat} {x : Nat} {iv av : Nat → Nat → Int32} {R : ZM} {k : Nat} {a_ : Int32} (hk : ck k = 14) {c_0 j_0 : Nat} (hj : a_ = nI c_0) (hc : 3 * c_0 + 3 ≤ tl k) : Ct l D aC b0 yX3_object cX3_object 2 (some .int) 0 0 0 [.ref (x + k), .int (a_)] (cm aC x iv av R) sz (zd (some (.int (fX3_object av k a_))) (cm aC x iv av R)) := by
  refine Ct.of (by decide) (Nat.le_of_ble_eq_true rfl) ?_
  intro p e s m below meth c ls C hr hlk hnm hl
  have hl : lv_has ls 2 [(0, .ref (x + k)), (1, .int (a_))] := hl
  obtain ⟨hx, hb, -, -, -⟩ := id C
  refine zz (fun _ _ => lv_aload_n hx hb dX3_object_0 rfl (lv_at hl 0 rfl)) ?_
  refine z_get (v := .ref (x + (k + 1))) C fd_X3_16 (rd_14 hk) rfl dX3_object_1 ?_
  refine zz (fun _ _ => lv_iconst (v := 3) hx hb dX3_object_4 (by decide)) ?_
  refine zz (fun _ _ => lv_iload_n hx hb dX3_object_5 rfl (lv_at hl 1 rfl)) ?_
  refine zz (fun _ _ => lv_imul hx hb dX3_object_6) ?_
  refine zz (fun _ _ => lv_iconst (v := 2) hx hb dX3_object_7 (by decide)) ?_
  refine zz (fun _ _ => lv_iadd hx hb dX3_object_8) ?_
  refine z_iald (f := av (k + 1)) C (rd_t hk) (ix3 (mo := c_0 + 1) hj (by omega) (by omega) (tl_lt k)).2.2 dX3_object_9 ?_
  exact z_iret C hr hlk dX3_object_10 (by simp only [zd, fX3_object, and_self])
theorem full0 {iv : Nat → Nat → Int32} {k c mo : Nat} (hc : iv k 2 = nI c) (hm : iv k 1 = nI mo) (hcm : c ≤ mo) (hmo : mo < 2 ^ 31) (h : fX3_isFull iv k = 0) : c < mo := by
  unfold fX3_isFull at h
  rw [hc, hm] at h
  rcases Nat.lt_or_ge c mo with q | q
  · exact q
  · rw [if_neg (nI_nlt q (by omega))] at h
    exact absurd h (by decide)
def fX3_append (iv : Nat → Nat → Int32) (av : Nat → Nat → Int32) (k : Nat) (a_ : Int32) (b_ : Int32) (c_ : Int32) : Int32 × (Nat → Nat → Int32) × (Nat → Nat → Int32) := if (fX3_isFull iv k) = 0 then ((iv k 2) + (1), (u2 iv k 2 ((iv k 2) + (1))), (u1 (u1 (u1 av (k + 1) (upd (av (k + 1)) (Int32.toNatClampNeg ((3) * (iv k 2))) (a_))) (k + 1) (upd ((upd (av (k + 1)) (Int32.toNatClampNeg ((3) * (iv k 2))) (a_))) (Int32.toNatClampNeg (((3) * (iv k 2)) + (1))) (b_))) (k + 1) (upd ((upd ((upd (av (k + 1)) (Int32.toNatClampNeg ((3) * (iv k 2))) (a_))) (Int32.toNatClampNeg (((3) * (iv k 2)) + (1))) (b_))) (Int32.toNatClampNeg (((3) * (iv k 2)) + (2))) (c_)))) else (iv k 2, iv, av)
set_option maxHeartbeats 1000000 in
set_option maxRecDepth 10000 in
theorem ctX3_append {l : Launch} {D : va_G} {aC : Nat → ClassId} {b0 sz : Nat} {x : Nat} {iv av : Nat → Nat → Int32} {R : ZM} {k : Nat} {a_ : Int32} {b_ : Int32} {c_ : Int32} (hk : ck k = 14) {c_0 mo : Nat} (hc : iv k 2 = nI c_0) (hm : iv k 1 = nI mo) (hcm : c_0 ≤ mo) (hml : 3 * mo ≤ tl k) : Ct l D aC b0 yX3_append cX3_append 4 (some .int) 1 0 0 [.ref (x + k), .int (a_), .int (b_), .int (c_)] (cm aC x iv av R) sz (zd (some (.int (fX3_append iv av k a_ b_ c_).1)) (cm aC x (fX3_append iv av k a_ b_ c_).2.1 (fX3_append iv av k a_ b_ c_).2.2 R)) := by
  refine Ct.of (by decide) (Nat.le_of_ble_eq_true rfl) ?_
  intro p e s m below meth c ls C hr hlk hnm hl
  have hl : lv_has ls 4 [(0, .ref (x + k)), (1, .int (a_)), (2, .int (b_)), (3, .int (c_))] := hl
  obtain ⟨hx, hb, -, -, -⟩ := id C
  refine zz (fun _ _ => lv_aload_n hx hb dX3_append_0 rfl (lv_at hl 0 rfl)) ?_
  refine zdV (As := []) (rest := []) (st' := [.int ((fX3_isFull iv k))]) C hl.1 lk_X3_20 (ctX3_isFull hk) (rd_14 hk) rfl rfl rfl (Nat.le_of_ble_eq_true rfl) ⟨by decide, by decide, by decide, by decide⟩ dX3_append_1 rfl (fun sz => ?_)
  refine zbn (fun _ _ => lv_if_ne (tgt := 57) hx hb dX3_append_4 (by decide)) (fun c_1 => ?_) (fun c_1 => ?_)
  · refine zz (fun _ _ => lv_aload_n hx hb dX3_append_57 rfl (lv_at hl 0 rfl)) ?_
    refine z_get (v := .int (iv k 2)) C fd_X3_7 (rd_14 hk) rfl dX3_append_58 ?_
    exact z_iret C hr hlk dX3_append_61 (by simp only [zd, fX3_append, if_neg c_1, and_self])
  · refine zz (fun _ _ => lv_aload_n hx hb dX3_append_7 rfl (lv_at hl 0 rfl)) ?_
    refine z_get (v := .ref (x + (k + 1))) C fd_X3_16 (rd_14 hk) rfl dX3_append_8 ?_
    refine zz (fun _ _ => lv_iconst (v := 3) hx hb dX3_append_11 (by decide)) ?_
    refine zz (fun _ _ => lv_aload_n hx hb dX3_append_12 rfl (lv_at hl 0 rfl)) ?_
    refine z_get (v := .int (iv k 2)) C fd_X3_7 (rd_14 hk) rfl dX3_append_13 ?_
    refine zz (fun _ _ => lv_imul hx hb dX3_append_16) ?_
    refine zz (fun _ _ => lv_iload_n hx hb dX3_append_17 rfl (lv_at hl 1 rfl)) ?_
    refine z_iast (f := av (k + 1)) C (rd_t hk) (ix3 hc (full0 hc hm hcm (by have := tl_lt k; omega) c_1) hml (tl_lt k)).1 dX3_append_18 ?_
    refine zeq (wr_t hk) ?_
    refine zz (fun _ _ => lv_aload_n hx hb dX3_append_19 rfl (lv_at hl 0 rfl)) ?_
    refine z_get (v := .ref (x + (k + 1))) C fd_X3_16 (rd_14 hk) rfl dX3_append_20 ?_
    refine zz (fun _ _ => lv_iconst (v := 3) hx hb dX3_append_23 (by decide)) ?_
    refine zz (fun _ _ => lv_aload_n hx hb dX3_append_24 rfl (lv_at hl 0 rfl)) ?_
    refine z_get (v := .int (iv k 2)) C fd_X3_7 (rd_14 hk) rfl dX3_append_25 ?_
    refine zz (fun _ _ => lv_imul hx hb dX3_append_28) ?_
    refine zz (fun _ _ => lv_iconst (v := 1) hx hb dX3_append_29 (by decide)) ?_
    refine zz (fun _ _ => lv_iadd hx hb dX3_append_30) ?_
    refine zz (fun _ _ => lv_iload_n hx hb dX3_append_31 rfl (lv_at hl 2 rfl)) ?_
    refine z_iast (n := (tl k)) (f := (upd (av (k + 1)) (Int32.toNatClampNeg ((3) * (iv k 2))) (a_))) C ((rd_t hk).trans (by simp [u1])) (ix3 hc (full0 hc hm hcm (by have := tl_lt k; omega) c_1) hml (tl_lt k)).2.1 dX3_append_32 ?_
    refine zeq (wr_t hk) ?_
    refine zz (fun _ _ => lv_aload_n hx hb dX3_append_33 rfl (lv_at hl 0 rfl)) ?_
    refine z_get (v := .ref (x + (k + 1))) C fd_X3_16 (rd_14 hk) rfl dX3_append_34 ?_
    refine zz (fun _ _ => lv_iconst (v := 3) hx hb dX3_append_37 (by decide)) ?_
    refine zz (fun _ _ => lv_aload_n hx hb dX3_append_38 rfl (lv_at hl 0 rfl)) ?_
    refine z_get (v := .int (iv k 2)) C fd_X3_7 (rd_14 hk) rfl dX3_append_39 ?_
    refine zz (fun _ _ => lv_imul hx hb dX3_append_42) ?_
    refine zz (fun _ _ => lv_iconst (v := 2) hx hb dX3_append_43 (by decide)) ?_
    refine zz (fun _ _ => lv_iadd hx hb dX3_append_44) ?_
    refine zz (fun _ _ => lv_iload_n hx hb dX3_append_45 rfl (lv_at hl 3 rfl)) ?_
    refine z_iast (n := (tl k)) (f := (upd ((upd (av (k + 1)) (Int32.toNatClampNeg ((3) * (iv k 2))) (a_))) (Int32.toNatClampNeg (((3) * (iv k 2)) + (1))) (b_))) C ((rd_t hk).trans (by simp [u1])) (ix3 hc (full0 hc hm hcm (by have := tl_lt k; omega) c_1) hml (tl_lt k)).2.2 dX3_append_46 ?_
    refine zeq (wr_t hk) ?_
    refine zz (fun _ _ => lv_aload_n hx hb dX3_append_47 rfl (lv_at hl 0 rfl)) ?_
    refine zz (fun _ _ => lv_dup hx hb dX3_append_48 rfl) ?_
    refine z_get (v := .int (iv k 2)) C fd_X3_7 (rd_14 hk) rfl dX3_append_49 ?_
    refine zz (fun _ _ => lv_iconst (v := 1) hx hb dX3_append_52 (by decide)) ?_
    refine zz (fun _ _ => lv_iadd hx hb dX3_append_53) ?_
    refine z_put C fp_X3_7 (fun h => by cases h) (rd_14 hk) (Nat.le_of_ble_eq_true rfl) rfl rfl dX3_append_54 ?_
    refine zeq (wr_14_2 hk) ?_
    refine zz (fun _ _ => lv_aload_n hx hb dX3_append_57 rfl (lv_at hl 0 rfl)) ?_
    refine z_get (v := .int ((iv k 2) + (1))) C fd_X3_7 (rd_14 hk) (by simp [u2]) dX3_append_58 ?_
    exact z_iret C hr hlk dX3_append_61 (by simp only [zd, fX3_append, if_pos c_1, and_self])
