def tE (aC : Nat → ClassId) (base j : Nat) : va_E := .inl (aC 4, 12, .inr (.inr (.inr (.inr (fun i => if i < j then some (base + 6 * i) else none)))))
def tC (aC : Nat → ClassId) (base i t : Nat) : va_E := if t = 0 then .inr (5, [.ref (base + 6 * i + 1), .ref (base + 6 * i + 3), .ref (base + 6 * i + 4), .int 0, .int 0, .int 0, .int 0, .int (-1)]) else if t = 1 then .inr (3, [.ref (base + 6 * i + 2), .int 6, .int 0]) else if t = 2 then .inl (aC 0, 18, .inl (fun _ => 0)) else if t = 3 then .inl (aC 1, 6, .inl (fun _ => 0)) else if t = 4 then .inr (3, [.ref (base + 6 * i + 5), .int 4, .int 0]) else .inl (aC 0, 12, .inl (fun _ => 0))
theorem tE_0 (aC : Nat → ClassId) (base : Nat) : (.inl (aC 4, 12, .inr (.inr (.inr (.inr (fun _ => none))))) : va_E) = tE aC base 0 := by simp [tE]
/-- a Changes at q -/
def chM (aC : Nat → ClassId) (M : ZM) (q : Nat) : ZM := zup (zup (zup (zup (zup M q (.inr (0, [.null, .null, .null, .int 0]))) q (.inr (0, [.ref (q + 1), .ref (q + 1 + 1), .ref (q + 1 + 2), .int 0]))) (q + 1) (.inl (aC 0, 240, .inl (fun _ => 0)))) (q + 1 + 1) (.inl (aC 0, 240, .inl (fun _ => 0)))) (q + 1 + 2) (.inl (aC 0, 240, .inl (fun _ => 0)))
theorem chM_out (aC : Nat → ClassId) (M : ZM) {q z : Nat} (h : z < q ∨ q + 4 ≤ z) : chM aC M q z = M z := by
  unfold chM
  rw [zup_ne _ _ (by omega), zup_ne _ _ (by omega), zup_ne _ _ (by omega), zup_ne _ _ (by omega), zup_ne _ _ (by omega)]
theorem woM_out (aC : Nat → ClassId) (M : ZM) {a sz z : Nat} (ha : a < sz) (hz : z ≠ a) (h : z < sz ∨ sz + 38 ≤ z) : woM aC M a sz z = M z := by
  unfold woM
  rw [oM_out _ (by omega) (by omega), zup_ne _ _ (by omega), zup_ne _ _ hz, seM_out _ _ (by omega), zup_ne _ _ (by omega), zup_ne _ _ hz, stM_out _ _ (by omega)]
theorem woM_a (aC : Nat → ClassId) (M : ZM) {a sz : Nat} (ha : a < sz) : woM aC M a sz a = some (.inr (7, [.ref sz, .ref (sz + 16), .ref (sz + 17), .ref (sz + 25), .int 0])) := by
  unfold woM
  rw [oM_out _ (by omega) (by omega), zup_ne _ _ (by omega), zup_self]
set_option maxHeartbeats 4000000 in
set_option maxRecDepth 20000 in
theorem lpX8_init {p : Program} {l : Launch} {e : Env} {s : State} {m : MethodId} {args : Array Value} {below : List Frame} {meth : Method} {c : Code} {D : va_G} {aC : Nat → ClassId} {b0 a ar base : Nat} {Q : State → Prop} {M : ZM} {fs : List Value} (C : zC p l s m c D aC b0 RX8 cX8_init 2) (ha : M a = some (.inr (8, .ref ar :: fs))) (h1 : a < ar) (h2 : ar < base) :
    ∀ (d j : Nat), j + d = 12 → ∀ (ls : Array Slot), lv_has ls 2 [(0, .ref a), (1, .int (nI j))] → (∀ (ls : Array Slot), lv_has ls 2 [(0, .ref a), (1, .int (nI 12))] → Z p l e (rz 3 132 3675) s m args below meth c D b0 (oM M ar (tE aC base) base 6 (tC aC base) 12) (base + 6 * 12) (60 + 6 * 12) (3075 + 50 * 12) Q (F0 m 99 ls [])) → Z p l e (rz 3 132 3675) s m args below meth c D b0 (oM M ar (tE aC base) base 6 (tC aC base) j) (base + 6 * j) (60 + 6 * j) (3075 + 50 * j) Q (F0 m 74 ls []) := by
  obtain ⟨hx, hb, -, -, -⟩ := id C
  intro d
  induction d with
  | zero =>
    intro j hj0 ls hl K
    refine zz (fun _ _ => lv_iload_n hx hb dX8_init_74 rfl (lv_at hl 1 rfl)) ?_
    refine zz (fun _ _ => lv_bipush (v := 12) hx hb dX8_init_75 (by decide)) ?_
    refine zb (fun _ _ => lv_icmp_ge (tgt := 99) hx hb dX8_init_77 (by decide)) (fun c_1 => ?_) (fun c_1 => ?_)
    · obtain rfl : j = 12 := by omega
      exact K _ hl
    · exact absurd (fl_lt (j := j) (N := 12) rfl (by omega) (by decide) c_1) (by omega)
  | succ d ih =>
    intro j hj0 ls hl K
    refine zz (fun _ _ => lv_iload_n hx hb dX8_init_74 rfl (lv_at hl 1 rfl)) ?_
    refine zz (fun _ _ => lv_bipush (v := 12) hx hb dX8_init_75 (by decide)) ?_
    refine zb (fun _ _ => lv_icmp_ge (tgt := 99) hx hb dX8_init_77 (by decide)) (fun c_1 => ?_) (fun c_1 => ?_)
    · obtain rfl := fl_eq (j := j) (N := 12) rfl (by omega) (by decide) c_1
      exact K _ hl
    · refine zz (fun _ _ => lv_aload_n hx hb dX8_init_80 rfl (lv_at hl 0 rfl)) ?_
      refine z_get (v := .ref ar) C fd_X8_11 ((oM_out _ (by omega) (by omega)).trans ha) rfl dX8_init_81 ?_
      refine zz (fun _ _ => lv_iload_n hx hb dX8_init_84 rfl (lv_at hl 1 rfl)) ?_
      refine z_new C nw_X8_9 (by show 60 + 6 * j + 1 ≤ 132; omega) (by show 3075 + 50 * j + 8 ≤ 3675; omega) dX8_init_85 ?_
      refine zz (fun _ _ => lv_dup hx hb dX8_init_88 rfl) ?_
      refine zdI (As := []) (rest := [.ref (base + 6 * j), .int (nI j), .ref ar]) C hl.1 lk_X8_50 (ctX5_init (zup_self _ _ _) (by omega)) rfl rfl (Nat.le_of_ble_eq_true rfl) ⟨by decide, by decide, by show 60 + 6 * j + 1 + 5 ≤ 132; omega, by show 3075 + 50 * j + 8 + 42 ≤ 3675; omega⟩ dX8_init_89 ?_
      refine z_aast C 4 (r := (RX5, TX5, 8)) (ci := 5) rfl ((zup_ne _ _ (by omega)).trans ((zup_ne _ _ (by omega)).trans ((zup_ne _ _ (by omega)).trans ((zup_ne _ _ (by omega)).trans ((zup_ne _ _ (by omega)).trans ((zup_ne _ _ (by omega)).trans ((zup_ne _ _ (by omega)).trans (oM_ar _ _ _ _ _ _ _)))))))) ((zup_ne _ _ (by omega)).trans ((zup_ne _ _ (by omega)).trans ((zup_ne _ _ (by omega)).trans ((zup_ne _ _ (by omega)).trans ((zup_ne _ _ (by omega)).trans (zup_self _ _ _)))))) rfl (in_nI (j := j) rfl (by omega) (by decide)) dX8_init_92 ?_
      refine zeq (M' := oM M ar (tE aC base) base 6 (tC aC base) (j + 1)) (by rw [nI_clamp (by omega), refs_up (fun i => base + 6 * i) j, zup_zup]; exact oM_s6 (cell := tC aC base) (ae := tE aC base) (j := j) h2) ?_
      refine zsz (sz' := base + 6 * (j + 1)) (by omega) (zcs (k := 60 + 6 * (j + 1)) (n := 3075 + 50 * (j + 1)) (by omega) (by omega) ?_)
      refine zs (fun _ _ => lv_iinc (v := nI j + 1) (lv' := [(1, .int (nI j + 1)), (0, .ref a)]) hx hb dX8_init_93 hl (k := 1) rfl rfl (by decide) rfl) (fun ls hl => ?_)
      refine zz (fun _ _ => lv_goto (tgt := 74) hx hb dX8_init_96 (by decide)) ?_
      have hl := lv_sub hl [1, 0] rfl
      simp only [nI_1] at hl
      exact ih (j + 1) (by omega) _ hl K
def usP1 (aC : Nat → ClassId) (M : ZM) (a sz : Nat) : ZM := zup (zup M a (.inr (8, [.ref sz, .null, .null, .null, .null, .int 0, .int 0, .int 0]))) sz (.inl (aC 4, 12, .inr (.inr (.inr (.inr (fun _ => none))))))
def usP3 (aC : Nat → ClassId) (M : ZM) (a sz : Nat) : ZM := zup (woM aC (zup (usP1 aC M a sz) (sz + 1) (.inr (7, [.null, .null, .null, .null, .int 0]))) (sz + 1) (sz + 2)) a (.inr (8, [.ref sz, .ref (sz + 1), .ref (sz + 2), .null, .null, .int 0, .int 0, .int 0]))
def usP5 (aC : Nat → ClassId) (M : ZM) (a sz : Nat) : ZM := zup (stM aC (usP3 aC M a sz) (sz + 40)) a (.inr (8, [.ref sz, .ref (sz + 1), .ref (sz + 2), .ref (sz + 40), .null, .int 0, .int 0, .int 0]))
def usP7 (aC : Nat → ClassId) (M : ZM) (a sz : Nat) : ZM := zup (chM aC (usP5 aC M a sz) (sz + 56)) a (.inr (8, [.ref sz, .ref (sz + 1), .ref (sz + 2), .ref (sz + 40), .ref (sz + 56), .int 0, .int (-1), .int 0]))
/-- an UpdateSteps at a, its cells from sz on -/
def usM (aC : Nat → ClassId) (M : ZM) (a sz : Nat) : ZM := oM (usP7 aC M a sz) sz (tE aC (sz + 60)) (sz + 60) 6 (tC aC (sz + 60)) 12
theorem usP7_sz (aC : Nat → ClassId) (M : ZM) {a sz : Nat} (h : a < sz) : usP7 aC M a sz sz = some (tE aC (sz + 60) 0) := by
  unfold usP7
  rw [zup_ne _ _ (by omega), chM_out _ _ (by omega)]
  unfold usP5
  rw [zup_ne _ _ (by omega), stM_out _ _ (by omega)]
  unfold usP3
  rw [zup_ne _ _ (by omega), woM_out _ _ (by omega) (by omega) (by omega), zup_ne _ _ (by omega)]
  unfold usP1
  rw [zup_self, tE_0 aC (sz + 60)]
set_option maxHeartbeats 4000000 in
set_option maxRecDepth 20000 in
theorem ctX8_init {l : Launch} {D : va_G} {aC : Nat → ClassId} {b0 a sz : Nat} {M : ZM} (ha : M a = some (.inr (8, [.null, .null, .null, .null, .null, .int 0, .int 0, .int 0]))) (hsz : a < sz) : Ct l D aC b0 yX8_init cX8_init 2 none 3 132 3675 [.ref a] M sz (zdz none (usM aC M a sz) (sz + 132)) := by
  refine Ct.of (by decide) (Nat.le_of_ble_eq_true rfl) ?_
  intro p e s m below meth c ls C hr hlk hnm hl
  have hl : lv_has ls 2 [(0, .ref a)] := hl
  obtain ⟨hx, hb, -, -, -⟩ := id C
  refine zz (fun _ _ => lv_aload_n hx hb dX8_init_0 rfl (lv_at hl 0 rfl)) ?_
  refine z_obj C hl.1 ob_X8_1 (by decide) (Nat.le_of_ble_eq_true rfl) dX8_init_1 ?_
  refine zz (fun _ _ => lv_aload_n hx hb dX8_init_4 rfl (lv_at hl 0 rfl)) ?_
  refine zz (fun _ _ => lv_bipush (v := 12) hx hb dX8_init_5 (by decide)) ?_
  refine z_newq (N' := 12) C 4 rfl (by decide) an_X8_9 (by decide) (by decide) (by decide) (by decide) (by decide) dX8_init_7 ?_
  refine z_put C fp_X8_11 (fun _ => hnm) ((zup_ne _ _ (by omega)).trans ha) (Nat.le_of_ble_eq_true rfl) rfl rfl dX8_init_10 ?_
  refine zeq (M' := usP1 aC M a sz) (by rw [zup_sw (a := sz) (b := a) (by omega)]; rfl) (zsz (sz' := sz + 1) rfl (zcs (k := 1) (n := 12) rfl rfl ?_))
  refine zz (fun _ _ => lv_aload_n hx hb dX8_init_13 rfl (lv_at hl 0 rfl)) ?_
  refine z_new C nw_X8_15 (by decide) (by decide) dX8_init_14 ?_
  refine zz (fun _ _ => lv_dup hx hb dX8_init_17 rfl) ?_
  refine zdI (As := []) (rest := [.ref (sz + 1), .ref a]) C hl.1 lk_X8_17 (ctX7_init (zup_self _ _ _) (by omega)) rfl rfl (Nat.le_of_ble_eq_true rfl) ⟨by decide, by decide, by decide, by decide⟩ dX8_init_18 ?_
  refine z_put C fp_X8_18 (fun _ => hnm) ((woM_out _ _ (by omega) (by omega) (by omega)).trans ((zup_ne _ _ (by omega)).trans ((zup_ne _ _ (by omega)).trans (zup_self _ _ _)))) (Nat.le_of_ble_eq_true rfl) rfl rfl dX8_init_21 ?_
  refine zz (fun _ _ => lv_aload_n hx hb dX8_init_24 rfl (lv_at hl 0 rfl)) ?_
  refine zz (fun _ _ => lv_aload_n hx hb dX8_init_25 rfl (lv_at hl 0 rfl)) ?_
  refine z_get (v := .ref (sz + 1)) C fd_X8_18 (zup_self _ _ _) rfl dX8_init_26 ?_
  refine z_get (v := .ref (sz + 2)) C fd_X8_22 ((zup_ne _ _ (by omega)).trans (woM_a _ _ (by omega))) rfl dX8_init_29 ?_
  refine z_put C fp_X8_26 (fun _ => hnm) (zup_self _ _ _) (Nat.le_of_ble_eq_true rfl) rfl rfl dX8_init_32 ?_
  refine zeq (M' := usP3 aC M a sz) (by rw [zup_zup]; rfl) (zsz (sz' := sz + 40) rfl (zcs (k := 40) (n := 1464) rfl rfl ?_))
  refine zz (fun _ _ => lv_aload_n hx hb dX8_init_35 rfl (lv_at hl 0 rfl)) ?_
  refine z_new C nw_X8_27 (by decide) (by decide) dX8_init_36 ?_
  refine zz (fun _ _ => lv_dup hx hb dX8_init_39 rfl) ?_
  refine zdI (As := []) (rest := [.ref (sz + 40), .ref a]) C hl.1 lk_X8_29 (ctX6_init (zup_self _ _ _) (by omega)) rfl rfl (Nat.le_of_ble_eq_true rfl) ⟨by decide, by decide, by decide, by decide⟩ dX8_init_40 ?_
  refine zeq (M' := stM aC (usP3 aC M a sz) (sz + 40)) rfl ?_
  refine z_put C fp_X8_30 (fun _ => hnm) ((stM_out _ _ (by omega)).trans (zup_self _ _ _)) (Nat.le_of_ble_eq_true rfl) rfl rfl dX8_init_43 ?_
  refine zeq (M' := usP5 aC M a sz) rfl (zsz (sz' := sz + 56) rfl (zcs (k := 56) (n := 2334) rfl rfl ?_))
  refine zz (fun _ _ => lv_aload_n hx hb dX8_init_46 rfl (lv_at hl 0 rfl)) ?_
  refine z_new C nw_X8_33 (by decide) (by decide) dX8_init_47 ?_
  refine zz (fun _ _ => lv_dup hx hb dX8_init_50 rfl) ?_
  refine zdI (As := []) (rest := [.ref (sz + 56), .ref a]) C hl.1 lk_X8_35 (ctX0_init (zup_self _ _ _) (by omega)) rfl rfl (Nat.le_of_ble_eq_true rfl) ⟨by decide, by decide, by decide, by decide⟩ dX8_init_51 ?_
  refine zeq (M' := chM aC (usP5 aC M a sz) (sz + 56)) rfl ?_
  refine z_put C fp_X8_36 (fun _ => hnm) ((chM_out _ _ (by omega)).trans (zup_self _ _ _)) (Nat.le_of_ble_eq_true rfl) rfl rfl dX8_init_54 ?_
  refine zz (fun _ _ => lv_aload_n hx hb dX8_init_57 rfl (lv_at hl 0 rfl)) ?_
  refine zz (fun _ _ => lv_iconst (v := 0) hx hb dX8_init_58 (by decide)) ?_
  refine z_put C fp_X8_40 (fun h => by cases h) (zup_self _ _ _) (Nat.le_of_ble_eq_true rfl) rfl rfl dX8_init_59 ?_
  refine zz (fun _ _ => lv_aload_n hx hb dX8_init_62 rfl (lv_at hl 0 rfl)) ?_
  refine zz (fun _ _ => lv_iconst (v := (-1)) hx hb dX8_init_63 (by decide)) ?_
  refine z_put C fp_X8_44 (fun h => by cases h) (zup_self _ _ _) (Nat.le_of_ble_eq_true rfl) rfl rfl dX8_init_64 ?_
  refine zz (fun _ _ => lv_aload_n hx hb dX8_init_67 rfl (lv_at hl 0 rfl)) ?_
  refine zz (fun _ _ => lv_iconst (v := 0) hx hb dX8_init_68 (by decide)) ?_
  refine z_put C fp_X8_47 (fun h => by cases h) (zup_self _ _ _) (Nat.le_of_ble_eq_true rfl) rfl rfl dX8_init_69 ?_
  refine zeq (M' := oM (usP7 aC M a sz) sz (tE aC (sz + 60)) (sz + 60) 6 (tC aC (sz + 60)) 0) (by rw [zup_zup, zup_zup, zup_zup, ← oM_0]; exact Eq.trans rfl (zup_id (usP7_sz aC M hsz)).symm) (zsz (sz' := sz + 60 + 6 * 0) rfl (zwid (k := 60 + 6 * 0) (n := 3075 + 50 * 0) (by decide) (by decide) ?_))
  refine zz (fun _ _ => lv_iconst (v := 0) hx hb dX8_init_72 (by decide)) ?_
  refine zs (fun _ _ => lv_istore_n (lv' := [(1, .int 0), (0, .ref a)]) hx hb dX8_init_73 rfl hl (by decide) rfl) (fun ls hl => ?_)
  refine lpX8_init C (zup_self _ _ _) hsz (by omega) 12 0 (by decide) _ (lv_sub hl [1, 0] rfl) (fun ls hl => ?_)
  exact z_vret C hr hlk dX8_init_99 ⟨rfl, rfl, rfl⟩
