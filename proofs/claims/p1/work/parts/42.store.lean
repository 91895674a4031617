/-- the cells of a Store while its graphs are made: j of them are there -/
def sM (aC : Nat → ClassId) (M : ZM) (sz j : Nat) : ZM := fun q => if q = sz then some (.inl (aC 3, 7, .inr (.inr (.inr (.inr (fun i => if i < j then some (sz + (1 + 2 * i)) else none)))))) else if sz < q ∧ q < sz + (1 + 2 * j) then (if (q - sz) % 2 = 1 then some (.inr (2, [.ref (q + 1), .int 0, .int 0])) else some (.inl (aC 0, 120, .inl (fun _ => 0)))) else M q
theorem sM_sz (aC : Nat → ClassId) (M : ZM) (sz j : Nat) : sM aC M sz j sz = some (.inl (aC 3, 7, .inr (.inr (.inr (.inr (fun i => if i < j then some (sz + (1 + 2 * i)) else none)))))) := by simp [sM]
theorem sM_out (aC : Nat → ClassId) (M : ZM) {sz j q : Nat} (h : q < sz ∨ sz + (1 + 2 * j) ≤ q) : sM aC M sz j q = M q := by
  simp only [sM]
  rw [if_neg (by omega), if_neg (by omega)]
theorem sM_g (aC : Nat → ClassId) (M : ZM) {sz j i : Nat} (h : i < j) : sM aC M sz j (sz + (1 + 2 * i)) = some (.inr (2, [.ref (sz + (1 + 2 * i) + 1), .int 0, .int 0])) := by
  simp only [sM]
  rw [if_neg (by omega), if_pos (by omega), if_pos (by omega)]
theorem sM_0 (aC : Nat → ClassId) (M : ZM) (sz : Nat) : zup M sz (.inl (aC 3, 7, .inr (.inr (.inr (.inr (fun _ => none)))))) = sM aC M sz 0 := by
  funext q
  by_cases h : q = sz
  · subst h; rw [zup_self, sM_sz]; simp
  · rw [zup_ne _ _ h, sM_out _ _ (by omega)]
theorem sM_s (aC : Nat → ClassId) (M : ZM) (sz j : Nat) : zup (zup (zup (zup (sM aC M sz j) (sz + (1 + 2 * j)) (.inr (2, [.null, .int 0, .int 0]))) (sz + (1 + 2 * j)) (.inr (2, [.ref (sz + (1 + 2 * j) + 1), .int 0, .int 0]))) (sz + (1 + 2 * j) + 1) (.inl (aC 0, 120, .inl (fun _ => 0)))) sz (.inl (aC 3, 7, .inr (.inr (.inr (.inr (va_up (fun i => if i < j then some (sz + (1 + 2 * i)) else none) j (some (sz + (1 + 2 * j))))))))) = sM aC M sz (j + 1) := by
  funext q
  by_cases h : q = sz
  · subst h
    rw [zup_self, sM_sz]
    refine congrArg (fun g => some (Sum.inl (aC 3, 7, Sum.inr (Sum.inr (Sum.inr (Sum.inr g)))))) (funext fun i => ?_)
    by_cases h1 : i = j
    · subst h1; simp [va_up]
    · by_cases h2 : i < j
      · simp [va_up, h1, h2, Nat.lt_succ_of_lt h2]
      · simp [va_up, h1, h2, show ¬ i < j + 1 by omega]
  · rw [zup_ne _ _ h]
    by_cases h1 : q = sz + (1 + 2 * j) + 1
    · subst h1
      rw [zup_self]
      simp only [sM]
      rw [if_neg (by omega), if_pos (by omega), if_neg (by omega)]
    · rw [zup_ne _ _ h1]
      by_cases h2 : q = sz + (1 + 2 * j)
      · subst h2
        rw [zup_self]
        simp only [sM]
        rw [if_neg (by omega), if_pos (by omega), if_pos (by omega)]
      · rw [zup_ne _ _ h2, zup_ne _ _ h2]
        simp only [sM]
        rw [if_neg h, if_neg h]
        by_cases h3 : sz < q ∧ q < sz + (1 + 2 * j)
        · rw [if_pos h3, if_pos (show sz < q ∧ q < sz + (1 + 2 * (j + 1)) from ⟨h3.1, by omega⟩)]
        · rw [if_neg h3, if_neg (by omega)]
set_option maxHeartbeats 4000000 in
set_option maxRecDepth 20000 in
theorem lpX6_init {p : Program} {l : Launch} {e : Env} {s : State} {m : MethodId} {args : Array Value} {below : List Frame} {meth : Method} {c : Code} {D : va_G} {aC : Nat → ClassId} {b0 a sz : Nat} {Q : State → Prop} {M : ZM} (C : zC p l s m c D aC b0 RX6 cX6_init 2) (ha : M a = some (.inr (6, [.ref sz, .int 0]))) (hsz : a < sz) :
    ∀ (d j : Nat), j + d = 7 → ∀ (ls : Array Slot), lv_has ls 2 [(0, .ref a), (1, .int (nI j))] → (∀ (ls : Array Slot), lv_has ls 2 [(0, .ref a), (1, .int (nI 7))] → Z p l e (rz 1 15 868) s m args below meth c D b0 (sM aC M sz 7) (sz + (1 + 2 * 7)) (1 + 2 * 7) (7 + 123 * 7) Q (F0 m 45 ls [])) → Z p l e (rz 1 15 868) s m args below meth c D b0 (sM aC M sz j) (sz + (1 + 2 * j)) (1 + 2 * j) (7 + 123 * j) Q (F0 m 20 ls []) := by
  obtain ⟨hx, hb, -, -, -⟩ := id C
  intro d
  induction d with
  | zero =>
    intro j hj0 ls hl K
    refine zz (fun _ _ => lv_iload_n hx hb dX6_init_20 rfl (lv_at hl 1 rfl)) ?_
    refine zz (fun _ _ => lv_bipush (v := 7) hx hb dX6_init_21 (by decide)) ?_
    refine zb (fun _ _ => lv_icmp_ge (tgt := 45) hx hb dX6_init_23 (by decide)) (fun c_1 => ?_) (fun c_1 => ?_)
    · obtain rfl : j = 7 := by omega
      exact K _ hl
    · exact absurd (fl_lt (j := j) (N := 7) rfl (by omega) (by decide) c_1) (by omega)
  | succ d ih =>
    intro j hj0 ls hl K
    refine zz (fun _ _ => lv_iload_n hx hb dX6_init_20 rfl (lv_at hl 1 rfl)) ?_
    refine zz (fun _ _ => lv_bipush (v := 7) hx hb dX6_init_21 (by decide)) ?_
    refine zb (fun _ _ => lv_icmp_ge (tgt := 45) hx hb dX6_init_23 (by decide)) (fun c_1 => ?_) (fun c_1 => ?_)
    · obtain rfl := fl_eq (j := j) (N := 7) rfl (by omega) (by decide) c_1
      exact K _ hl
    · refine zz (fun _ _ => lv_aload_n hx hb dX6_init_26 rfl (lv_at hl 0 rfl)) ?_
      refine z_get (v := .ref sz) C fd_X6_11 ((sM_out _ _ (by omega)).trans ha) rfl dX6_init_27 ?_
      refine zz (fun _ _ => lv_iload_n hx hb dX6_init_30 rfl (lv_at hl 1 rfl)) ?_
      refine z_new C nw_X6_9 (by show 1 + 2 * j + 1 ≤ 15; omega) (by show 7 + 123 * j + 3 ≤ 868; omega) dX6_init_31 ?_
      refine zz (fun _ _ => lv_dup hx hb dX6_init_34 rfl) ?_
      refine zdI (As := []) (rest := [.ref (sz + (1 + 2 * j)), .int (nI j), .ref sz]) C hl.1 lk_X6_21 (ctX2_init (zup_self _ _ _) (by omega)) rfl rfl (Nat.le_of_ble_eq_true rfl) ⟨by decide, by decide, by show 1 + 2 * j + 1 + 1 ≤ 15; omega, by show 7 + 123 * j + 3 + 120 ≤ 868; omega⟩ dX6_init_35 ?_
      refine z_aast C 3 (r := (RX2, TX2, 3)) (ci := 2) rfl ((zup_ne _ _ (by omega)).trans ((zup_ne _ _ (by omega)).trans ((zup_ne _ _ (by omega)).trans (sM_sz _ _ _ _)))) ((zup_ne _ _ (by omega)).trans (zup_self _ _ _)) rfl (in_nI (j := j) rfl (by omega) (by decide)) dX6_init_38 ?_
      refine zeq (M' := sM aC M sz (j + 1)) (by rw [nI_clamp (by omega)]; exact sM_s aC M sz j) ?_
      refine zsz (sz' := sz + (1 + 2 * (j + 1))) (by omega) (zcs (k := 1 + 2 * (j + 1)) (n := 7 + 123 * (j + 1)) (by omega) (by omega) ?_)
      refine zs (fun _ _ => lv_iinc (v := nI j + 1) (lv' := [(1, .int (nI j + 1)), (0, .ref a)]) hx hb dX6_init_39 hl (k := 1) rfl rfl (by decide) rfl) (fun ls hl => ?_)
      refine zz (fun _ _ => lv_goto (tgt := 20) hx hb dX6_init_42 (by decide)) ?_
      have hl := lv_sub hl [1, 0] rfl
      simp only [nI_1] at hl
      exact ih (j + 1) (by omega) _ hl K
set_option maxHeartbeats 4000000 in
set_option maxRecDepth 20000 in
theorem ctX6_init {l : Launch} {D : va_G} {aC : Nat → ClassId} {b0 a sz : Nat} {M : ZM} (ha : M a = some (.inr (6, [.null, .int 0]))) (hsz : a < sz) : Ct l D aC b0 yX6_init cX6_init 2 none 1 15 868 [.ref a] M sz (zdz none (zup (sM aC (zup M a (.inr (6, [.ref sz, .int 0]))) sz 7) (sz + 1) (.inr (2, [.ref (sz + 2), .int 0, .int 1]))) (sz + 15)) := by
  refine Ct.of (by decide) (Nat.le_of_ble_eq_true rfl) ?_
  intro p e s m below meth c ls C hr hlk hnm hl
  have hl : lv_has ls 2 [(0, .ref a)] := hl
  obtain ⟨hx, hb, -, -, -⟩ := id C
  refine zz (fun _ _ => lv_aload_n hx hb dX6_init_0 rfl (lv_at hl 0 rfl)) ?_
  refine z_obj C hl.1 ob_X6_3 (by decide) (Nat.le_of_ble_eq_true rfl) dX6_init_1 ?_
  refine zz (fun _ _ => lv_aload_n hx hb dX6_init_4 rfl (lv_at hl 0 rfl)) ?_
  refine zz (fun _ _ => lv_bipush (v := 7) hx hb dX6_init_5 (by decide)) ?_
  refine z_newq (N' := 7) C 3 rfl (by decide) an_X6_9 (by decide) (by decide) (by decide) (by decide) (by decide) dX6_init_7 ?_
  refine z_put C fp_X6_11 (fun _ => hnm) ((zup_ne _ _ (by omega)).trans ha) (Nat.le_of_ble_eq_true rfl) rfl rfl dX6_init_10 ?_
  refine zz (fun _ _ => lv_aload_n hx hb dX6_init_13 rfl (lv_at hl 0 rfl)) ?_
  refine zz (fun _ _ => lv_iconst (v := 0) hx hb dX6_init_14 (by decide)) ?_
  refine z_put C fp_X6_17 (fun h => by cases h) (zup_self _ _ _) (Nat.le_of_ble_eq_true rfl) rfl rfl dX6_init_15 ?_
  refine zeq (M' := sM aC (zup M a (.inr (6, [.ref sz, .int 0]))) sz 0) (by rw [zup_zup, zup_sw (a := sz) (b := a) (by omega)]; exact sM_0 aC _ sz) ?_
  refine zz (fun _ _ => lv_iconst (v := 0) hx hb dX6_init_18 (by decide)) ?_
  refine zs (fun _ _ => lv_istore_n (lv' := [(1, .int 0), (0, .ref a)]) hx hb dX6_init_19 rfl hl (by decide) rfl) (fun ls hl => ?_)
  refine lpX6_init C (zup_self _ _ _) hsz 7 0 (by decide) _ (lv_sub hl [1, 0] rfl) (fun ls hl => ?_)
  refine zz (fun _ _ => lv_aload_n hx hb dX6_init_45 rfl (lv_at hl 0 rfl)) ?_
  refine z_get (v := .ref sz) C fd_X6_11 ((sM_out _ _ (by omega)).trans (zup_self _ _ _)) rfl dX6_init_46 ?_
  refine zz (fun _ _ => lv_iconst (v := 0) hx hb dX6_init_49 (by decide)) ?_
  refine z_aald C 3 rfl (sM_sz _ _ _ _) (in_nI (j := 0) rfl (by decide) (by decide)) (v := .ref (sz + 1)) rfl dX6_init_50 ?_
  refine zz (fun _ _ => lv_iconst (v := 1) hx hb dX6_init_51 (by decide)) ?_
  refine z_put C fp_X6_22 (fun h => by cases h) (sM_g (i := 0) _ _ (by decide)) (Nat.le_of_ble_eq_true rfl) rfl rfl dX6_init_52 ?_
  exact z_vret C hr hlk dX6_init_55 ⟨rfl, rfl, rfl⟩
