theorem zup_id {M : ZM} {a : Nat} {e : va_E} (h : M a = some e) : zup M a e = M := by
  funext q
  by_cases hq : q = a
  · subst hq; rw [zup_self, h]
  · rw [zup_ne _ _ hq]
def fE (aC : Nat → ClassId) (base j : Nat) : va_E := .inl (aC 2, 4, .inr (.inr (.inr (.inr (fun i => if i < j then some (base + 3 * i) else none)))))
def fC (aC : Nat → ClassId) (base i t : Nat) : va_E := if t = 0 then .inr (1, [.ref (base + 3 * i + 1), .int 0]) else if t = 1 then .inr (3, [.ref (base + 3 * i + 2), .int 10, .int 0]) else .inl (aC 0, 30, .inl (fun _ => 0))
theorem fE_0 (aC : Nat → ClassId) (base : Nat) : (.inl (aC 2, 4, .inr (.inr (.inr (.inr (fun _ => none))))) : va_E) = fE aC base 0 := by simp [fE]
set_option maxHeartbeats 4000000 in
set_option maxRecDepth 20000 in
theorem lpX7_init {p : Program} {l : Launch} {e : Env} {s : State} {m : MethodId} {args : Array Value} {below : List Frame} {meth : Method} {c : Code} {D : va_G} {aC : Nat → ClassId} {b0 a ar base q1 q2 q3 : Nat} {Q : State → Prop} {M : ZM} (C : zC p l s m c D aC b0 RX7 cX7_init 2) (ha : M a = some (.inr (7, [.ref q1, .ref ar, .ref q2, .ref q3, .int 0]))) (h1 : a < ar) (h2 : ar < base) :
    ∀ (d j : Nat), j + d = 4 → ∀ (ls : Array Slot), lv_has ls 2 [(0, .ref a), (1, .int (nI j))] → (∀ (ls : Array Slot), lv_has ls 2 [(0, .ref a), (1, .int (nI 4))] → Z p l e (rz 2 38 1447) s m args below meth c D b0 (oM M ar (fE aC base) base 3 (fC aC base) 4) (base + 3 * 4) (26 + 3 * 4) (1307 + 35 * 4) Q (F0 m 72 ls [])) → Z p l e (rz 2 38 1447) s m args below meth c D b0 (oM M ar (fE aC base) base 3 (fC aC base) j) (base + 3 * j) (26 + 3 * j) (1307 + 35 * j) Q (F0 m 48 ls []) := by
  obtain ⟨hx, hb, -, -, -⟩ := id C
  intro d
  induction d with
  | zero =>
    intro j hj0 ls hl K
    refine zz (fun _ _ => lv_iload_n hx hb dX7_init_48 rfl (lv_at hl 1 rfl)) ?_
    refine zz (fun _ _ => lv_iconst (v := 4) hx hb dX7_init_49 (by decide)) ?_
    refine zb (fun _ _ => lv_icmp_ge (tgt := 72) hx hb dX7_init_50 (by decide)) (fun c_1 => ?_) (fun c_1 => ?_)
    · obtain rfl : j = 4 := by omega
      exact K _ hl
    · exact absurd (fl_lt (j := j) (N := 4) rfl (by omega) (by decide) c_1) (by omega)
  | succ d ih =>
    intro j hj0 ls hl K
    refine zz (fun _ _ => lv_iload_n hx hb dX7_init_48 rfl (lv_at hl 1 rfl)) ?_
    refine zz (fun _ _ => lv_iconst (v := 4) hx hb dX7_init_49 (by decide)) ?_
    refine zb (fun _ _ => lv_icmp_ge (tgt := 72) hx hb dX7_init_50 (by decide)) (fun c_1 => ?_) (fun c_1 => ?_)
    · obtain rfl := fl_eq (j := j) (N := 4) rfl (by omega) (by decide) c_1
      exact K _ hl
    · refine zz (fun _ _ => lv_aload_n hx hb dX7_init_53 rfl (lv_at hl 0 rfl)) ?_
      refine z_get (v := .ref ar) C fd_X7_20 ((oM_out _ (by omega) (by omega)).trans ha) rfl dX7_init_54 ?_
      refine zz (fun _ _ => lv_iload_n hx hb dX7_init_57 rfl (lv_at hl 1 rfl)) ?_
      refine z_new C nw_X7_18 (by show 26 + 3 * j + 1 ≤ 38; omega) (by show 1307 + 35 * j + 2 ≤ 1447; omega) dX7_init_58 ?_
      refine zz (fun _ _ => lv_dup hx hb dX7_init_61 rfl) ?_
      refine zdI (As := []) (rest := [.ref (base + 3 * j), .int (nI j), .ref ar]) C hl.1 lk_X7_39 (ctX1_init (zup_self _ _ _) (by omega)) rfl rfl (Nat.le_of_ble_eq_true rfl) ⟨by decide, by decide, by show 26 + 3 * j + 1 + 2 ≤ 38; omega, by show 1307 + 35 * j + 2 + 33 ≤ 1447; omega⟩ dX7_init_62 ?_
      refine z_aast C 2 (r := (RX1, TX1, 2)) (ci := 1) rfl ((zup_ne _ _ (by omega)).trans ((zup_ne _ _ (by omega)).trans ((zup_ne _ _ (by omega)).trans ((zup_ne _ _ (by omega)).trans (oM_ar _ _ _ _ _ _ _))))) ((zup_ne _ _ (by omega)).trans ((zup_ne _ _ (by omega)).trans (zup_self _ _ _))) rfl (in_nI (j := j) rfl (by omega) (by decide)) dX7_init_65 ?_
      refine zeq (M' := oM M ar (fE aC base) base 3 (fC aC base) (j + 1)) (by rw [nI_clamp (by omega), refs_up (fun i => base + 3 * i) j, zup_zup]; exact oM_s3 (cell := fC aC base) (ae := fE aC base) (j := j) h2) ?_
      refine zsz (sz' := base + 3 * (j + 1)) (by omega) (zcs (k := 26 + 3 * (j + 1)) (n := 1307 + 35 * (j + 1)) (by omega) (by omega) ?_)
      refine zs (fun _ _ => lv_iinc (v := nI j + 1) (lv' := [(1, .int (nI j + 1)), (0, .ref a)]) hx hb dX7_init_66 hl (k := 1) rfl rfl (by decide) rfl) (fun ls hl => ?_)
      refine zz (fun _ _ => lv_goto (tgt := 48) hx hb dX7_init_69 (by decide)) ?_
      have hl := lv_sub hl [1, 0] rfl
      simp only [nI_1] at hl
      exact ih (j + 1) (by omega) _ hl K
/-- a Store at q, made with its cells from q + 1 on -/
def stM (aC : Nat → ClassId) (M : ZM) (q : Nat) : ZM := zup (sM aC (zup (zup M q (.inr (6, [.null, .int 0]))) q (.inr (6, [.ref (q + 1), .int 0]))) (q + 1) 7) (q + 1 + 1) (.inr (2, [.ref (q + 1 + 2), .int 0, .int 1]))
theorem stM_out (aC : Nat → ClassId) (M : ZM) {q z : Nat} (h : z < q ∨ q + 16 ≤ z) : stM aC M q z = M z := by
  unfold stM
  rw [zup_ne _ _ (by omega), sM_out _ _ (by omega), zup_ne _ _ (by omega), zup_ne _ _ (by omega)]
/-- a Search at q -/
def seM (aC : Nat → ClassId) (M : ZM) (q : Nat) : ZM := zup (zup (gM aC (zup M q (.inr (4, [.null, .null, .int 0, .int 0]))) (q + 1) 5 4) q (.inr (4, [.ref (q + 1), .ref (q + 1 + 6), .int 0, .int 0]))) (q + 1 + 6) (.inl (aC 0, 400, .inl (fun _ => 0)))
theorem seM_out (aC : Nat → ClassId) (M : ZM) {q z : Nat} (h : z < q ∨ q + 8 ≤ z) : seM aC M q z = M z := by
  unfold seM
  rw [zup_ne _ _ (by omega), zup_ne _ _ (by omega), gM_out _ _ (by omega), zup_ne _ _ (by omega)]
/-- a Worker at a, its cells from sz on -/
def woM (aC : Nat → ClassId) (M : ZM) (a sz : Nat) : ZM := oM (zup (zup (seM aC (zup (zup (stM aC M sz) a (.inr (7, [.ref sz, .ref (sz + 16), .null, .null, .int 0]))) (sz + 16) (.inl (aC 2, 4, .inr (.inr (.inr (.inr (fun _ => none))))))) (sz + 17)) a (.inr (7, [.ref sz, .ref (sz + 16), .ref (sz + 17), .ref (sz + 25), .int 0]))) (sz + 25) (.inl (aC 0, 4, .inl (fun _ => 0)))) (sz + 16) (fE aC (sz + 26)) (sz + 26) 3 (fC aC (sz + 26)) 4
set_option maxHeartbeats 4000000 in
set_option maxRecDepth 20000 in
theorem ctX7_init {l : Launch} {D : va_G} {aC : Nat → ClassId} {b0 a sz : Nat} {M : ZM} (ha : M a = some (.inr (7, [.null, .null, .null, .null, .int 0]))) (hsz : a < sz) : Ct l D aC b0 yX7_init cX7_init 2 none 2 38 1447 [.ref a] M sz (zdz none (woM aC M a sz) (sz + 38)) := by
  refine Ct.of (by decide) (Nat.le_of_ble_eq_true rfl) ?_
  intro p e s m below meth c ls C hr hlk hnm hl
  have hl : lv_has ls 2 [(0, .ref a)] := hl
  obtain ⟨hx, hb, -, -, -⟩ := id C
  refine zz (fun _ _ => lv_aload_n hx hb dX7_init_0 rfl (lv_at hl 0 rfl)) ?_
  refine z_obj C hl.1 ob_X7_3 (by decide) (Nat.le_of_ble_eq_true rfl) dX7_init_1 ?_
  refine zz (fun _ _ => lv_aload_n hx hb dX7_init_4 rfl (lv_at hl 0 rfl)) ?_
  refine z_new C nw_X7_9 (by decide) (by decide) dX7_init_5 ?_
  refine zz (fun _ _ => lv_dup hx hb dX7_init_8 rfl) ?_
  refine zdI (As := []) (rest := [.ref sz, .ref a]) C hl.1 lk_X7_11 (ctX6_init (zup_self _ _ _) (by omega)) rfl rfl (Nat.le_of_ble_eq_true rfl) ⟨by decide, by decide, by decide, by decide⟩ dX7_init_9 ?_
  refine zeq (M' := stM aC M sz) rfl (zsz (sz' := sz + 16) rfl (zcs (k := 16) (n := 870) rfl rfl ?_))
  refine z_put C fp_X7_12 (fun _ => hnm) ((stM_out _ _ (by omega)).trans ha) (Nat.le_of_ble_eq_true rfl) rfl rfl dX7_init_12 ?_
  refine zz (fun _ _ => lv_aload_n hx hb dX7_init_15 rfl (lv_at hl 0 rfl)) ?_
  refine zz (fun _ _ => lv_iconst (v := 4) hx hb dX7_init_16 (by decide)) ?_
  refine z_newq (N' := 4) C 2 rfl (by decide) an_X7_18 (by decide) (by decide) (by decide) (by decide) (by decide) dX7_init_17 ?_
  refine z_put C fp_X7_20 (fun _ => hnm) ((zup_ne _ _ (by omega)).trans (zup_self _ _ _)) (Nat.le_of_ble_eq_true rfl) rfl rfl dX7_init_20 ?_
  refine zeq (M' := zup (zup (stM aC M sz) a (.inr (7, [.ref sz, .ref (sz + 16), .null, .null, .int 0]))) (sz + 16) (.inl (aC 2, 4, .inr (.inr (.inr (.inr (fun _ => none))))))) (by rw [zup_sw (a := sz + 16) (b := a) (by omega), zup_zup]; rfl) (zsz (sz' := sz + 17) rfl (zcs (k := 17) (n := 874) rfl rfl ?_))
  refine zz (fun _ _ => lv_aload_n hx hb dX7_init_23 rfl (lv_at hl 0 rfl)) ?_
  refine z_new C nw_X7_24 (by decide) (by decide) dX7_init_24 ?_
  refine zz (fun _ _ => lv_dup hx hb dX7_init_27 rfl) ?_
  refine zdI (As := []) (rest := [.ref (sz + 17), .ref a]) C hl.1 lk_X7_26 (ctX4_init (zup_self _ _ _) (by omega)) rfl rfl (Nat.le_of_ble_eq_true rfl) ⟨by decide, by decide, by decide, by decide⟩ dX7_init_28 ?_
  refine zeq (M' := seM aC (zup (zup (stM aC M sz) a (.inr (7, [.ref sz, .ref (sz + 16), .null, .null, .int 0]))) (sz + 16) (.inl (aC 2, 4, .inr (.inr (.inr (.inr (fun _ => none))))))) (sz + 17)) rfl (zsz (sz' := sz + 25) rfl (zcs (k := 25) (n := 1303) rfl rfl ?_))
  refine z_put C fp_X7_27 (fun _ => hnm) ((seM_out _ _ (by omega)).trans ((zup_ne _ _ (by omega)).trans (zup_self _ _ _))) (Nat.le_of_ble_eq_true rfl) rfl rfl dX7_init_31 ?_
  refine zz (fun _ _ => lv_aload_n hx hb dX7_init_34 rfl (lv_at hl 0 rfl)) ?_
  refine zz (fun _ _ => lv_iconst (v := 4) hx hb dX7_init_35 (by decide)) ?_
  refine z_newi (N' := 4) C (by decide) (by decide) (by decide) (by decide) (by decide) dX7_init_36 ?_
  refine z_put C fp_X7_31 (fun _ => hnm) ((zup_ne _ _ (by omega)).trans (zup_self _ _ _)) (Nat.le_of_ble_eq_true rfl) rfl rfl dX7_init_38 ?_
  refine zz (fun _ _ => lv_aload_n hx hb dX7_init_41 rfl (lv_at hl 0 rfl)) ?_
  refine zz (fun _ _ => lv_iconst (v := 0) hx hb dX7_init_42 (by decide)) ?_
  refine z_put C fp_X7_35 (fun h => by cases h) (zup_self _ _ _) (Nat.le_of_ble_eq_true rfl) rfl rfl dX7_init_43 ?_
  refine zeq (M' := oM (zup (zup (seM aC (zup (zup (stM aC M sz) a (.inr (7, [.ref sz, .ref (sz + 16), .null, .null, .int 0]))) (sz + 16) (.inl (aC 2, 4, .inr (.inr (.inr (.inr (fun _ => none))))))) (sz + 17)) a (.inr (7, [.ref sz, .ref (sz + 16), .ref (sz + 17), .ref (sz + 25), .int 0]))) (sz + 25) (.inl (aC 0, 4, .inl (fun _ => 0)))) (sz + 16) (fE aC (sz + 26)) (sz + 26) 3 (fC aC (sz + 26)) 0) ?_ (zsz (sz' := sz + 26 + 3 * 0) rfl (zcs (k := 26 + 3 * 0) (n := 1307 + 35 * 0) rfl rfl ?_))
  · rw [zup_zup, zup_sw (a := sz + 25) (b := a) (by omega), zup_zup, ← oM_0]
    refine Eq.trans ?_ (zup_id (a := sz + 16) (e := fE aC (sz + 26) 0) ?_).symm
    · rfl
    · rw [zup_ne _ _ (by omega), zup_ne _ _ (by omega), seM_out _ _ (by omega), zup_self, fE_0 aC (sz + 26)]
  refine zz (fun _ _ => lv_iconst (v := 0) hx hb dX7_init_46 (by decide)) ?_
  refine zs (fun _ _ => lv_istore_n (lv' := [(1, .int 0), (0, .ref a)]) hx hb dX7_init_47 rfl hl (by decide) rfl) (fun ls hl => ?_)
  refine lpX7_init C ((zup_ne _ _ (by omega)).trans (zup_self _ _ _)) (by omega) (by omega) 4 0 (by decide) _ (lv_sub hl [1, 0] rfl) (fun ls hl => ?_)
  exact z_vret C hr hlk dX7_init_72 ⟨rfl, rfl, rfl⟩
