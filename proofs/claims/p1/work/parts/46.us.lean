def tE (aC : Nat → ClassId) (base j : Nat) : va_E := .inl (aC 4, 12, .inr (.inr (.inr (.inr (fun i => if i < j then some (base + 6 * i) else none)))))
def tC (aC : Nat → ClassId) (base i t : Nat) : va_E := if t = 0 then .inr (5, [.ref (base + 6 * i + 1), .ref (base + 6 * i + 3), .ref (base + 6 * i + 4), .int 0, .int 0, .int 0, .int 0, .int (-1)]) else if t = 1 then .inr (3, [.ref (base + 6 * i + 2), .int 6, .int 0]) else if t = 2 then .inl (aC 0, 18, .inl (fun _ => 0)) else if t = 3 then .inl (aC 1, 6, .inl (fun _ => 0)) else if t = 4 then .inr (3, [.ref (base + 6 * i + 5), .int 4, .int 0]) else .inl (aC 0, 12, .inl (fun _ => 0))
theorem tE_0 (aC : Nat → ClassId) (base : Nat) : (.inl (aC 4, 12, .inr (.inr (.inr (.inr (fun _ => none))))) : va_E) = tE aC base 0 := by simp [tE]
/-- a Changes at q -/
def chM (aC : Nat → ClassId) (M : ZM) (q : Nat) : ZM := zup (zup (zup (zup (zup M q (.inr (0, [.null, .null, .null, .int 0]))) q (.inr (0, [.ref (q + 1), .ref (q + 1 + 1), .ref (q + 1 + 2), .int 0]))) (q + 1) (.inl (aC 0, 240, .inl (fun _ => 0)))) (q + 1 + 1) (.inl (aC 0, 240, .inl (fun _ => 0)))) (q + 1 + 2) (.inl (aC 0, 240, .inl (fun _ => 0)))
theorem chM_out (aC : Nat → ClassId) (M : ZM) {q z : Nat} (h : z < q ∨ q + 4 ≤ z) : chM aC M q z = M z := by
  unfold chM
  rw [zup_ne _ _ (by omega), zup_ne _ _ (by omega), zup_ne _ _ (by omega), zup_ne _ _ (by omega), zup_ne _ _ (by omega)]
theorem woM_out (aC : Nat → ClassId) (M : ZM) {a sz z : Nat} (ha : a < sz) (hz : z ≠ a) (h : z < sz ∨ sz + 38 ≤ z) : woM aC M a sz z = M z := by
  unfold woM
  rw [oM_out _ (by omega) (by omega), zup_ne _ _ (by omega), zup_ne _ _ hz, seM_out _ _ (by omega), zup_ne _ _ (by omega), zup_ne _ _ hz, stM_out _ _ (by omega)]
theorem woM_a (aC : Nat → ClassId) (M : ZM) {a sz : Nat} (ha : a < sz) : woM aC M a sz a = some (.inr (7, [.ref sz, .ref (sz + 16), .ref (sz + 17), .ref (sz + 25), .int 0])) := by
  unfold woM
  rw [oM_out _ (by omega) (by omega), zup_ne _ _ (by omega), zup_self]
set_option maxHeartbeats 4000000 in
set_option maxRecDepth 20000 in
theorem lpX8_init {p : Program} {l : Launch} {e : Env} {s : State} {m : MethodId} {args : Array Value} {below : List Frame} {meth : Method} {c : Code} {D : va_G} {aC : Nat → ClassId} {b0 a ar base : Nat} {Q : State → Prop} {M : ZM} {fs : List Value} (C : zC p l s m c D aC b0 RX8 cX8_init 2) (ha : M a = some (.inr (8, .ref ar :: fs))) (h1 : a < ar) (h2 : ar < base) :
    ∀ (d j : Nat), j + d = 12 → ∀ (ls : Array Slot), lv_has ls 2 [(0, .ref a), (1, .int (nI j))] → (∀ (ls : Array Slot), lv_has ls 2 [(0, .ref a), (1, .int (nI 12))] → Z p l e (rz 3 132 3675) s m args below meth c D b0 (oM M ar (tE aC base) base 6 (tC aC base) 12) (base + 6 * 12) (60 + 6 * 12) (3075 + 50 * 12) Q (F0 m 99 ls [])) → Z p l e (rz 3 132 3675) s m args below meth c D b0 (oM M ar (tE aC base) base 6 (tC aC base) j) (base + 6 * j) (60 + 6 * j) (3075 + 50 * j) Q (F0 m 74 ls []) := by
  obtain ⟨hx, hb, -, -, -⟩ := id C
  intro d
  induction d with
  | zero =>
    intro j hj0 ls hl K
    refine zz (fun _ _ => lv_iload_n hx hb dX8_init_74 rfl (lv_at hl 1 rfl)) ?_
    refine zz (fun _ _ => lv_bipush (v := 12) hx hb dX8_init_75 (by decide)) ?_
    refine zb (fun _ _ => lv_icmp_ge (tgt := 99) hx hb dX8_init_77 (by decide)) (fun c_1 => ?_) (fun c_1 => ?_)
    · obtain rfl : j = 12 := by omega
      exact K _ hl
    · exact absurd (fl_lt (j := j) (N := 12) rfl (by omega) (by decide) c_1) (by omega)
  | succ d ih =>
    intro j hj0 ls hl K
    refine zz (fun _ _ => lv_iload_n hx hb dX8_init_74 rfl (lv_at hl 1 rfl)) ?_
    refine zz (fun _ _ => lv_bipush (v := 12) hx hb dX8_init_75 (by decide)) ?_
    refine zb (fun _ _ => lv_icmp_ge (tgt := 99) hx hb dX8_init_77 (by decide)) (fun c_1 => ?_) (fun c_1 => ?_)
    · obtain rfl := fl_eq (j := j) (N := 12) rfl (by omega) (by decide) c_1
      exact K _ hl
    · refine zz (fun _ _ => lv_aload_n hx hb dX8_init_80 rfl (lv_at hl 0 rfl)) ?_
      refine z_get (v := .ref ar) C fd_X8_11 ((oM_out _ (by omega) (by omega)).trans ha) rfl dX8_init_81 ?_
      refine zz (fun _ _ => lv_iload_n hx hb dX8_init_84 rfl (lv_at hl 1 rfl)) ?_
      refine z_new C nw_X8_9 (by show 60 + 6 * j + 1 ≤ 132; omega) (by show 3075 + 50 * j + 8 ≤ 3675; omega) dX8_init_85 ?_
      refine zz (fun _ _ => lv_dup hx hb dX8_init_88 rfl) ?_
      refine zdI (As := []) (rest := [.ref (base + 6 * j), .int (nI j), .ref ar]) C hl.1 lk_X8_50 (ctX5_init (zup_self _ _ _) (by omega)) rfl rfl (Nat.le_of_ble_eq_true rfl) ⟨by decide, by decide, by show 60 + 6 * j + 1 + 5 ≤ 132; omega, by show 3075 + 50 * j + 8 + 42 ≤ 3675; omega⟩ dX8_init_89 ?_
      refine z_aast C 4 (r := (RX5, TX5, 8)) (ci := 5) rfl ((zup_ne _ _ (by omega)).trans ((zup_ne _ _ (by omega)).trans ((zup_ne _ _ (by omega)).trans ((zup_ne _ _ (by omega)).trans ((zup_ne _ _ (by omega)).trans ((zup_ne _ _ (by omega)).trans ((zup_ne _ _ (by omega)).trans (oM_ar _ _ _ _ _ _ _)))))))) ((zup_ne _ _ (by omega)).trans ((zup_ne _ _ (by omega)).trans ((zup_ne _ _ (by omega)).trans ((zup_ne _ _ (by omega)).trans ((zup_ne _ _ (by omega)).trans (zup_self _ _ _)))))) rfl (in_nI (j := j) rfl (by omega) (by decide)) dX8_init_92 ?_
      refine zeq (M' := oM M ar (tE aC base) base 6 (tC aC base) (j + 1)) (by rw [nI_clamp (by omega), refs_up (fun i => base + 6 * i) j, zup_zup]; exact oM_s6 (cell := tC aC base) (ae := tE aC base) (j := j) h2) ?_
      refine zsz (sz' := base + 6 * (j + 1)) (by omega) (zcs (k := 60 + 6 * (j + 1)) (n := 3075 + 50 * (j + 1)) (by omega) (by omega) ?_)
      refine zs (fun _ _ => lv_iinc (v := nI j + 1) (lv' := [(1, .int (nI j + 1)), (0, .ref a)]) hx hb dX8_init_93 hl (k := 1) rfl rfl (by decide) rfl) (fun ls hl => ?_)
      refine zz (fun _ _ => lv_goto (tgt := 74) hx hb dX8_init_96 (by decide)) ?_
      have hl := lv_sub hl [1, 0] rfl
      simp only [nI_1] at hl
      exact ih (j + 1) (by omega) _ hl K
