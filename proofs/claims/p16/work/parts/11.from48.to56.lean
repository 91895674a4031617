section
/-- the search for a place by halves -/
def bs (f : Nat → Int32) (x : Int32) : Nat → Nat → Nat → Nat
  | 0, lo, _ => lo
  | n + 1, lo, hi => if lo < hi then (if x ≤ f ((lo + hi) / 2) then bs f x n lo ((lo + hi) / 2) else bs f x n ((lo + hi) / 2 + 1) hi) else lo
theorem bs_le (f : Nat → Int32) (x : Int32) : ∀ (n lo hi : Nat), lo ≤ hi → lo ≤ bs f x n lo hi ∧ bs f x n lo hi ≤ hi := by
  intro n
  induction n with
  | zero => intro lo hi h; exact ⟨Nat.le_refl _, h⟩
  | succ n ih =>
    intro lo hi h
    simp only [bs]
    split
    · split
      · have := ih lo ((lo + hi) / 2) (by omega); omega
      · have := ih ((lo + hi) / 2 + 1) hi (by omega); omega
    · exact ⟨Nat.le_refl _, h⟩
theorem mid_eq {lo hi : Nat} (h : lo + hi < 2 ^ 31) : ((nI lo + nI hi).toUInt32 >>> ((1 : Int32).toUInt32 &&& Int32.toUInt32 31)).toInt32 = nI ((lo + hi) / 2) := by
  rw [nI_add]
  exact pk_ushrN (n := lo + hi) (by omega) 1 1 (by decide)
set_option maxHeartbeats 2000000 in
set_option maxRecDepth 10000 in
theorem lpX2_placeOf {p : Program} {l : Launch} {e : Env} {Rm : Room} {s : State} {m : MethodId} {args : Array Value} {below : List Frame} {meth : Method} {c : Code} {D : va_G} {aC : Nat → ClassId} {b0 cells slots : Nat} {Q : State → Prop} {x k sz : Nat} {iv av : Nat → Nat → Int32} {R : ZM} {a_ : Int32} (C : zC p l s m c D aC b0 RX2 cX2_placeOf 5) (hk : ck k = 6) :
    ∀ (n lo hi : Nat), hi ≤ lo + n → lo ≤ hi → hi ≤ 120 → ∀ (ls : Array Slot), lv_has ls 5 [(0, .ref (x + k)), (1, .int a_), (2, .int (nI lo)), (3, .int (nI hi))] → (∀ (ls : Array Slot), lv_has ls 5 [(0, .ref (x + k)), (1, .int a_), (2, .int (nI (bs (av (k + 1)) a_ n lo hi)))] → Z p l e Rm s m args below meth c D b0 (cm aC x iv av R) sz cells slots Q (F0 m 44 ls [])) → Z p l e Rm s m args below meth c D b0 (cm aC x iv av R) sz cells slots Q (F0 m 7 ls []) := by
  obtain ⟨hx, hb, -, -, -⟩ := id C
  intro n
  induction n with
  | zero =>
    intro lo hi h1 h2 h3 ls hl K
    refine zz (fun _ _ => lv_iload_n hx hb dX2_placeOf_7 rfl (lv_at hl 2 rfl)) ?_
    refine zz (fun _ _ => lv_iload_n hx hb dX2_placeOf_8 rfl (lv_at hl 3 rfl)) ?_
    refine zb (fun _ _ => lv_icmp_ge (tgt := 44) hx hb dX2_placeOf_9 (by decide)) (fun c_1 => ?_) (fun c_1 => ?_)
    · exact K _ (lv_sub hl [0, 1, 2] rfl)
    · exact absurd (nI_le (by omega) (by omega)) c_1
  | succ n ih =>
    intro lo hi h1 h2 h3 ls hl K
    refine zz (fun _ _ => lv_iload_n hx hb dX2_placeOf_7 rfl (lv_at hl 2 rfl)) ?_
    refine zz (fun _ _ => lv_iload_n hx hb dX2_placeOf_8 rfl (lv_at hl 3 rfl)) ?_
    refine zb (fun _ _ => lv_icmp_ge (tgt := 44) hx hb dX2_placeOf_9 (by decide)) (fun c_1 => ?_) (fun c_1 => ?_)
    · have h4 : ¬ lo < hi := fun q => nI_ge q (by omega) c_1
      simp only [bs, if_neg h4] at K
      exact K _ (lv_sub hl [0, 1, 2] rfl)
    · have h4 : lo < hi := by
        rcases Nat.lt_or_ge lo hi with q | q
        · exact q
        · exact absurd (nI_le q (by omega)) c_1
      refine zz (fun _ _ => lv_iload_n hx hb dX2_placeOf_12 rfl (lv_at hl 2 rfl)) ?_
      refine zz (fun _ _ => lv_iload_n hx hb dX2_placeOf_13 rfl (lv_at hl 3 rfl)) ?_
      refine zz (fun _ _ => lv_iadd hx hb dX2_placeOf_14) ?_
      refine zz (fun _ _ => lv_iconst (v := 1) hx hb dX2_placeOf_15 (by decide)) ?_
      refine zz (fun _ _ => lv_iushr (v := nI ((lo + hi) / 2)) hx hb dX2_placeOf_16 (mid_eq (by omega))) ?_
      refine zs (fun _ _ => lv_istore (lv' := [(4, .int (nI ((lo + hi) / 2))), (0, .ref (x + k)), (1, .int a_), (2, .int (nI lo)), (3, .int (nI hi))]) hx hb dX2_placeOf_17 hl (by decide) rfl) (fun ls hl => ?_)
      refine zz (fun _ _ => lv_aload_n hx hb dX2_placeOf_19 rfl (lv_at hl 1 rfl)) ?_
      refine z_get (v := .ref (x + (k + 1))) C fd_X2_9 (rd_6 hk) rfl dX2_placeOf_20 ?_
      refine zz (fun _ _ => lv_iload hx hb dX2_placeOf_23 (lv_at hl 0 rfl)) ?_
      refine z_iald (f := av (k + 1)) C (rd_7 (nb_6_1 hk)) (in_nI (j := (lo + hi) / 2) rfl (by omega) (by decide)) dX2_placeOf_25 ?_
      refine zval (v' := .int (av (k + 1) ((lo + hi) / 2))) (by rw [nI_clamp (by omega)]) ?_
      refine zz (fun _ _ => lv_iload_n hx hb dX2_placeOf_26 rfl (lv_at hl 2 rfl)) ?_
      refine zb (fun _ _ => lv_icmp_ge (tgt := 38) hx hb dX2_placeOf_27 (by decide)) (fun c_2 => ?_) (fun c_2 => ?_)
      · refine zz (fun _ _ => lv_iload hx hb dX2_placeOf_38 (lv_at hl 0 rfl)) ?_
        refine zs (fun _ _ => lv_istore_n (lv' := [(3, .int (nI ((lo + hi) / 2))), (4, .int (nI ((lo + hi) / 2))), (0, .ref (x + k)), (1, .int a_), (2, .int (nI lo))]) hx hb dX2_placeOf_40 rfl hl (by decide) rfl) (fun ls hl => ?_)
        refine zz (fun _ _ => lv_goto (tgt := 7) hx hb dX2_placeOf_41 (by decide)) ?_
        simp only [bs, if_pos h4, if_pos c_2] at K
        exact ih lo ((lo + hi) / 2) (by omega) (by omega) (by omega) _ (lv_sub hl [2, 3, 4, 0] rfl) K
      · refine zz (fun _ _ => lv_iload hx hb dX2_placeOf_30 (lv_at hl 0 rfl)) ?_
        refine zz (fun _ _ => lv_iconst (v := 1) hx hb dX2_placeOf_32 (by decide)) ?_
        refine zz (fun _ _ => lv_iadd hx hb dX2_placeOf_33) ?_
        refine zval (v' := .int (nI ((lo + hi) / 2 + 1))) (congrArg Value.int (nI_1 _)) ?_
        refine zs (fun _ _ => lv_istore_n (lv' := [(2, .int (nI ((lo + hi) / 2 + 1))), (4, .int (nI ((lo + hi) / 2))), (0, .ref (x + k)), (1, .int a_), (3, .int (nI hi))]) hx hb dX2_placeOf_34 rfl hl (by decide) rfl) (fun ls hl => ?_)
        refine zz (fun _ _ => lv_goto (tgt := 41) hx hb dX2_placeOf_35 (by decide)) ?_
        refine zz (fun _ _ => lv_goto (tgt := 7) hx hb dX2_placeOf_41 (by decide)) ?_
        simp only [bs, if_pos h4, if_neg c_2] at K
        exact ih ((lo + hi) / 2 + 1) hi (by omega) (by omega) (by omega) _ (lv_sub hl [2, 3, 0, 4] rfl) K
/-- Graph.placeOf: n facts, their numbers in av (k + 1) -/
def fX2_placeOf (iv av : Nat → Nat → Int32) (k : Nat) (a_ : Int32) : Int32 := nI (bs (av (k + 1)) a_ (iv k 1).toNatClampNeg 0 (iv k 1).toNatClampNeg)
set_option maxHeartbeats 2000000 in
set_option maxRecDepth 10000 in
theorem ctX2_placeOf {l : Launch} {D : va_G} {aC : Nat → ClassId} {b0 sz x k : Nat} {iv av : Nat → Nat → Int32} {R : ZM} {a_ : Int32} (hk : ck k = 6) {n_ : Nat} (hs : iv k 1 = nI n_) (hn : n_ ≤ 120) : Ct l D aC b0 yX2_placeOf cX2_placeOf 5 (some .int) 0 0 0 [.ref (x + k), .int a_] (cm aC x iv av R) sz (zd (some (.int (fX2_placeOf iv av k a_))) (cm aC x iv av R)) := by
  refine Ct.of (by decide) (Nat.le_of_ble_eq_true rfl) ?_
  intro p e s m below meth c ls C hr hlk hnm hl
  have hl : lv_has ls 5 [(0, .ref (x + k)), (1, .int a_)] := hl
  obtain ⟨hx, hb, -, -, -⟩ := id C
  have hN : (iv k 1).toNatClampNeg = n_ := by rw [hs, nI_clamp (by omega)]
  refine zz (fun _ _ => lv_iconst (v := 0) hx hb dX2_placeOf_0 (by decide)) ?_
  refine zs (fun _ _ => lv_istore_n (lv' := [(2, .int 0), (0, .ref (x + k)), (1, .int a_)]) hx hb dX2_placeOf_1 rfl hl (by decide) rfl) (fun ls hl => ?_)
  refine zz (fun _ _ => lv_aload_n hx hb dX2_placeOf_2 rfl (lv_at hl 1 rfl)) ?_
  refine z_get (v := .int (iv k 1)) C fd_X2_15 (rd_6 hk) rfl dX2_placeOf_3 ?_
  refine zval (v' := .int (nI n_)) (congrArg Value.int hs) ?_
  refine zs (fun _ _ => lv_istore_n (lv' := [(3, .int (nI n_)), (2, .int 0), (0, .ref (x + k)), (1, .int a_)]) hx hb dX2_placeOf_6 rfl hl (by decide) rfl) (fun ls hl => ?_)
  refine lpX2_placeOf C hk n_ 0 n_ (by omega) (Nat.zero_le _) hn _ (lv_sub hl [2, 3, 1, 0] rfl) (fun ls hl => ?_)
  refine zz (fun _ _ => lv_iload_n hx hb dX2_placeOf_44 rfl (lv_at hl 2 rfl)) ?_
  exact z_iret C hr hlk dX2_placeOf_45 ⟨by simp only [fX2_placeOf, hN], rfl⟩
end
section
theorem place_ix {iv av : Nat → Nat → Int32} {k n : Nat} {a : Int32} (hs : iv k 1 = nI n) (hn : n ≤ 120) (h : ¬ iv k 1 ≤ fX2_placeOf iv av k a) : vp_in (fX2_placeOf iv av k a) 120 := by
  unfold fX2_placeOf at h ⊢
  rw [hs, nI_clamp (by omega)] at h ⊢
  have hb := (bs_le (av (k + 1)) a n 0 n (Nat.zero_le _)).2
  refine vp_in_nI ?_ (by decide)
  rcases Nat.lt_or_ge (bs (av (k + 1)) a n 0 n) n with q | q
  · omega
  · exact absurd (nI_le q (by omega)) h
def fX2_holds (iv : Nat → Nat → Int32) (av : Nat → Nat → Int32) (k : Nat) (a_ : Int32) : Int32 := if iv k 1 ≤ (fX2_placeOf iv av k a_) then (0) else if av (k + 1) (Int32.toNatClampNeg ((fX2_placeOf iv av k a_))) = a_ then (1) else (0)
theorem nbfX2_holds {iv : Nat → Nat → Int32} {av : Nat → Nat → Int32} {k : Nat} {a_ : Int32} : narrow .boolean (.int (fX2_holds iv av k a_)) = .int (fX2_holds iv av k a_) := by
  unfold fX2_holds
  repeat' split
  all_goals try dsimp only
  all_goals first | rfl | assumption
set_option maxHeartbeats 1000000 in
set_option maxRecDepth 10000 in
theorem ctX2_holds {l : Launch} {D : va_G} {aC : Nat → ClassId} {b0 sz : Nat} {x : Nat} {iv av : Nat → Nat → Int32} {R : ZM} {k : Nat} {a_ : Int32} (hk : ck k = 6) {n_ : Nat} (hs : iv k 1 = nI n_) (hn : n_ ≤ 120) : Ct l D aC b0 yX2_holds cX2_holds 3 (some .boolean) 1 0 0 [.ref (x + k), .int (a_)] (cm aC x iv av R) sz (zd (some (.int (fX2_holds iv av k a_))) (cm aC x iv av R)) := by
  refine Ct.of (by decide) (Nat.le_of_ble_eq_true rfl) ?_
  intro p e s m below meth c ls C hr hlk hnm hl
  have hl : lv_has ls 3 [(0, .ref (x + k)), (1, .int (a_))] := hl
  obtain ⟨hx, hb, -, -, -⟩ := id C
  refine zz (fun _ _ => lv_aload_n hx hb dX2_holds_0 rfl (lv_at hl 0 rfl)) ?_
  refine zz (fun _ _ => lv_iload_n hx hb dX2_holds_1 rfl (lv_at hl 1 rfl)) ?_
  refine zdV (As := [.int (a_)]) (rest := []) (st' := [.int ((fX2_placeOf iv av k a_))]) C hl.1 lk_X2_23 (ctX2_placeOf hk hs hn) (rd_6 hk) rfl rfl rfl (Nat.le_of_ble_eq_true rfl) ⟨by decide, by decide, by decide, by decide⟩ dX2_holds_2 rfl (fun sz => ?_)
  refine zs (fun _ _ => lv_istore_n (lv' := [(2, .int ((fX2_placeOf iv av k a_))), (0, .ref (x + k)), (1, .int (a_))]) hx hb dX2_holds_5 rfl hl (by decide) rfl) (fun ls hl => ?_)
  refine zz (fun _ _ => lv_iload_n hx hb dX2_holds_6 rfl (lv_at hl 0 rfl)) ?_
  refine zz (fun _ _ => lv_aload_n hx hb dX2_holds_7 rfl (lv_at hl 1 rfl)) ?_
  refine z_get (v := .int (iv k 1)) C fd_X2_15 (rd_6 hk) rfl dX2_holds_8 ?_
  refine zb (fun _ _ => lv_icmp_ge (tgt := 28) hx hb dX2_holds_11 (by decide)) (fun c_1 => ?_) (fun c_1 => ?_)
  · refine zz (fun _ _ => lv_iconst (v := 0) hx hb dX2_holds_28 (by decide)) ?_
    exact z_zret C hr rfl hlk dX2_holds_29 (by simp only [zd, fX2_holds, if_pos c_1, and_self])
  · refine zz (fun _ _ => lv_aload_n hx hb dX2_holds_14 rfl (lv_at hl 1 rfl)) ?_
    refine z_get (v := .ref (x + (k + 1))) C fd_X2_9 (rd_6 hk) rfl dX2_holds_15 ?_
    refine zz (fun _ _ => lv_iload_n hx hb dX2_holds_18 rfl (lv_at hl 0 rfl)) ?_
    refine z_iald (f := av (k + 1)) C (rd_7 (nb_6_1 hk)) (place_ix hs hn c_1) dX2_holds_19 ?_
    refine zz (fun _ _ => lv_iload_n hx hb dX2_holds_20 rfl (lv_at hl 2 rfl)) ?_
    refine zbn (fun _ _ => lv_icmp_ne (tgt := 28) hx hb dX2_holds_21 (by decide)) (fun c_2 => ?_) (fun c_2 => ?_)
    · refine zz (fun _ _ => lv_iconst (v := 0) hx hb dX2_holds_28 (by decide)) ?_
      exact z_zret C hr rfl hlk dX2_holds_29 (by simp only [zd, fX2_holds, if_neg c_1, if_neg c_2, and_self])
    · refine zz (fun _ _ => lv_iconst (v := 1) hx hb dX2_holds_24 (by decide)) ?_
      refine zz (fun _ _ => lv_goto (tgt := 29) hx hb dX2_holds_25 (by decide)) ?_
      exact z_zret C hr rfl hlk dX2_holds_29 (by simp only [zd, fX2_holds, if_neg c_1, if_pos c_2, and_self])
def fX8_has (iv : Nat → Nat → Int32) (av : Nat → Nat → Int32) (a_ : Int32) (b_ : Int32) (c_ : Int32) (d_ : Int32) : Nat × Int32 := if (fX8_graphNumbered a_) = 0 then if (fX8_isPart b_) = 0 then (0, 0) else if (fX8_isPart c_) = 0 then (0, 0) else if (fX8_isPart d_) = 0 then (0, 0) else if (fX2_holds iv av (4 + 1 + 2 * (Int32.toNatClampNeg (a_))) (fX8_factOf b_ c_ d_)) = 0 then (0, 0) else (0, 1) else ((fX8_graphNumbered a_), 0)
set_option maxHeartbeats 1000000 in
set_option maxRecDepth 10000 in
theorem ctX8_has {l : Launch} {D : va_G} {aC : Nat → ClassId} {b0 sz : Nat} {x : Nat} {iv av : Nat → Nat → Int32} {R : ZM} {a_ : Int32} {b_ : Int32} {c_ : Int32} {d_ : Int32} (hsz : ∀ j, j < 7 → ∃ n, n ≤ 120 ∧ iv (4 + 1 + 2 * j) 1 = nI n) : CtX l D aC b0 yX8_has cX8_has 6 (some .boolean) 2 1 6 [.ref (x + 0), .int (a_), .int (b_), .int (c_), .int (d_)] (cm aC x iv av R) sz (zdx (fX8_has iv av a_ b_ c_ d_).1 (some (.int (fX8_has iv av a_ b_ c_ d_).2)) (cm aC x iv av R)) (zxx (fX8_has iv av a_ b_ c_ d_).1 (cm aC x iv av R)) := by
  refine CtX.of (by decide) (Nat.le_of_ble_eq_true rfl) ?_
  intro p e s m below meth c ls C hr hlk hnt hl
  have hl : lv_has ls 6 [(0, .ref (x + 0)), (1, .int (a_)), (2, .int (b_)), (3, .int (c_)), (4, .int (d_))] := hl
  obtain ⟨hx, hb, -, -, -⟩ := id C
  refine zz (fun _ _ => lv_aload_n hx hb dX8_has_0 rfl (lv_at hl 0 rfl)) ?_
  refine zz (fun _ _ => lv_iload_n hx hb dX8_has_1 rfl (lv_at hl 1 rfl)) ?_
  refine z_callVX (As := [.int (a_)]) (rest := []) C hl.1 lk_X8_176 ml_X8_176 (ctX8_graphNumbered ) (rd_1 (by decide)) rfl rfl rfl (Nat.le_of_ble_eq_true rfl) ⟨by decide, by decide, by decide, by decide⟩ dX8_has_2 (fun E9 M9 hp9 _ _ _ _ a1 a2 a3 a4 a5 => ?_) (fun r9 M9 sz hp9 => ?_)
  · obtain ⟨h9, rfl, rfl⟩ := hp9
    exact z_out hnt hlk (by decide) (by decide) ⟨by simp only [fX8_has, if_neg h9]; exact h9, by simp only [fX8_has, if_neg h9], by simp only [fX8_has, if_neg h9]⟩ a1 a2 a3 a4 a5
  obtain ⟨c_1, rfl, rfl⟩ := hp9
  refine zst (st' := [.ref (x + (4 + 1 + 2 * (Int32.toNatClampNeg (a_))))]) rfl ?_
  refine zs (fun _ _ => lv_astore (lv' := [(5, .ref (x + (4 + 1 + 2 * (Int32.toNatClampNeg (a_))))), (0, .ref (x + 0)), (1, .int (a_)), (2, .int (b_)), (3, .int (c_)), (4, .int (d_))]) hx hb dX8_has_5 hl (by decide) rfl) (fun ls hl => ?_)
  refine zz (fun _ _ => lv_iload_n hx hb dX8_has_7 rfl (lv_at hl 3 rfl)) ?_
  refine zdS (As := [.int (b_)]) (rest := []) (st' := [.int ((fX8_isPart b_))]) C hl.1 lk_X8_203 (ctX8_isPart ) rfl rfl (Nat.le_of_ble_eq_true rfl) ⟨by decide, by decide, by decide, by decide⟩ dX8_has_8 rfl (fun sz => ?_)
  refine zb (fun _ _ => lv_if_eq (tgt := 48) hx hb dX8_has_11 (by decide)) (fun c_2 => ?_) (fun c_2 => ?_)
  · refine zz (fun _ _ => lv_iconst (v := 0) hx hb dX8_has_48 (by decide)) ?_
    exact z_ret (by decide) (by decide) (z_zret C hr rfl hlk dX8_has_49 ⟨by simp only [fX8_has, if_pos c_1, if_pos c_2], by simp only [fX8_has, if_pos c_1, if_pos c_2], by simp only [fX8_has, if_pos c_1, if_pos c_2]⟩)
  · refine zz (fun _ _ => lv_iload_n hx hb dX8_has_14 rfl (lv_at hl 4 rfl)) ?_
    refine zdS (As := [.int (c_)]) (rest := []) (st' := [.int ((fX8_isPart c_))]) C hl.1 lk_X8_203 (ctX8_isPart ) rfl rfl (Nat.le_of_ble_eq_true rfl) ⟨by decide, by decide, by decide, by decide⟩ dX8_has_15 rfl (fun sz => ?_)
    refine zb (fun _ _ => lv_if_eq (tgt := 48) hx hb dX8_has_18 (by decide)) (fun c_3 => ?_) (fun c_3 => ?_)
    · refine zz (fun _ _ => lv_iconst (v := 0) hx hb dX8_has_48 (by decide)) ?_
      exact z_ret (by decide) (by decide) (z_zret C hr rfl hlk dX8_has_49 ⟨by simp only [fX8_has, if_pos c_1, if_neg c_2, if_pos c_3], by simp only [fX8_has, if_pos c_1, if_neg c_2, if_pos c_3], by simp only [fX8_has, if_pos c_1, if_neg c_2, if_pos c_3]⟩)
    · refine zz (fun _ _ => lv_iload hx hb dX8_has_21 (lv_at hl 5 rfl)) ?_
      refine zdS (As := [.int (d_)]) (rest := []) (st' := [.int ((fX8_isPart d_))]) C hl.1 lk_X8_203 (ctX8_isPart ) rfl rfl (Nat.le_of_ble_eq_true rfl) ⟨by decide, by decide, by decide, by decide⟩ dX8_has_23 rfl (fun sz => ?_)
      refine zb (fun _ _ => lv_if_eq (tgt := 48) hx hb dX8_has_26 (by decide)) (fun c_4 => ?_) (fun c_4 => ?_)
      · refine zz (fun _ _ => lv_iconst (v := 0) hx hb dX8_has_48 (by decide)) ?_
        exact z_ret (by decide) (by decide) (z_zret C hr rfl hlk dX8_has_49 ⟨by simp only [fX8_has, if_pos c_1, if_neg c_2, if_neg c_3, if_pos c_4], by simp only [fX8_has, if_pos c_1, if_neg c_2, if_neg c_3, if_pos c_4], by simp only [fX8_has, if_pos c_1, if_neg c_2, if_neg c_3, if_pos c_4]⟩)
      · refine zz (fun _ _ => lv_aload hx hb dX8_has_29 (lv_at hl 0 rfl)) ?_
        refine zz (fun _ _ => lv_iload_n hx hb dX8_has_31 rfl (lv_at hl 3 rfl)) ?_
        refine zz (fun _ _ => lv_iload_n hx hb dX8_has_32 rfl (lv_at hl 4 rfl)) ?_
        refine zz (fun _ _ => lv_iload hx hb dX8_has_33 (lv_at hl 5 rfl)) ?_
        refine zdS (As := [.int (b_), .int (c_), .int (d_)]) (rest := [.ref (x + (4 + 1 + 2 * (Int32.toNatClampNeg (a_))))]) (st' := [.int ((fX8_factOf b_ c_ d_)), .ref (x + (4 + 1 + 2 * (Int32.toNatClampNeg (a_))))]) C hl.1 lk_X8_206 (ctX8_factOf ) rfl rfl (Nat.le_of_ble_eq_true rfl) ⟨by decide, by decide, by decide, by decide⟩ dX8_has_35 rfl (fun sz => ?_)
        obtain ⟨n9, hn9, hs9⟩ := hsz _ (gn_lt c_1)
        refine zdV (As := [.int ((fX8_factOf b_ c_ d_))]) (rest := []) (st' := [.int ((fX2_holds iv av (4 + 1 + 2 * (Int32.toNatClampNeg (a_))) (fX8_factOf b_ c_ d_)))]) C hl.1 lk_X8_209 (ctX2_holds (kp_5 (k := 4) (by decide) (gn_lt c_1)) hs9 hn9) (rd_6 (kp_5 (k := 4) (by decide) (gn_lt c_1))) rfl rfl rfl (Nat.le_of_ble_eq_true rfl) ⟨by decide, by decide, by decide, by decide⟩ dX8_has_38 rfl (fun sz => ?_)
        refine zb (fun _ _ => lv_if_eq (tgt := 48) hx hb dX8_has_41 (by decide)) (fun c_5 => ?_) (fun c_5 => ?_)
        · refine zz (fun _ _ => lv_iconst (v := 0) hx hb dX8_has_48 (by decide)) ?_
          exact z_ret (by decide) (by decide) (z_zret C hr rfl hlk dX8_has_49 ⟨by simp only [fX8_has, if_pos c_1, if_neg c_2, if_neg c_3, if_neg c_4, if_pos c_5], by simp only [fX8_has, if_pos c_1, if_neg c_2, if_neg c_3, if_neg c_4, if_pos c_5], by simp only [fX8_has, if_pos c_1, if_neg c_2, if_neg c_3, if_neg c_4, if_pos c_5]⟩)
        · refine zz (fun _ _ => lv_iconst (v := 1) hx hb dX8_has_44 (by decide)) ?_
          refine zz (fun _ _ => lv_goto (tgt := 49) hx hb dX8_has_45 (by decide)) ?_
          exact z_ret (by decide) (by decide) (z_zret C hr rfl hlk dX8_has_49 ⟨by simp only [fX8_has, if_pos c_1, if_neg c_2, if_neg c_3, if_neg c_4, if_neg c_5], by simp only [fX8_has, if_pos c_1, if_neg c_2, if_neg c_3, if_neg c_4, if_neg c_5], by simp only [fX8_has, if_pos c_1, if_neg c_2, if_neg c_3, if_neg c_4, if_neg c_5]⟩)
end
section
/-! the law's own methods: a call, its answer into out[0], its throws caught -/
section ZR9
variable {p : Program} {l : Launch} {e : Env} {R : Room} {s : State} {m : MethodId} {args : Array Value} {below : List Frame} {meth : Method} {c : Code} {D : va_G} {aC : Nat → ClassId} {b0 : Nat} {M : ZM} {sz cells slots : Nat} {Q : State → Prop} {own : String} {cc : ByteArray} {nL pc : Nat} {ls : Array Slot} {rest : List Value} {a : Nat}
theorem z_last (C : zC p l s m c D aC b0 own cc nL) {n : Nat} {f : Nat → Int64} {i : Int32} {x : Int64} (ha : M a = some (.inl (aC 6, n, .inr (.inl f)))) (hin : vp_in i n) (hdg : decode cc pc = .ok (.lastore, 1))
    (kk : Z p l e R s m args below meth c D b0 (zup M a (.inl (aC 6, n, .inr (.inl (vp_updL f i.toNatClampNeg x))))) sz cells slots Q (F0 m (pc + 1) ls rest)) : Z p l e R s m args below meth c D b0 M sz cells slots Q (F0 m pc ls (.long x :: .int i :: .ref a :: rest)) := by
  obtain ⟨hx, hb, -, hown, -, hK, hg, -⟩ := C
  intro H locs h1 h2 h3
  obtain ⟨hb1, hc1⟩ := h1 a _ ha
  refine W.last hx hb hc1 ((hK.2 6 _ rfl).1 n (fun j => .long (f j))) (fun q => by cases q) (by show ¬ (i < 0 ∨ (arrV _ _ _).slots.size ≤ _); rw [arrV_size]; exact hin) rfl rfl hdg fun H1 e z oq => ?_
  refine kk H1 _ (h1.set ha ?_ oq) (z.trans h2) (h3.put z oq hb1)
  show H1[a]? = some (vp_cell _ _)
  rw [e, vp_cell_l, vp_cell_l, arrV_store]
  congr 2
  funext q
  by_cases hq : q = i.toNatClampNeg
  · subst hq
    simp [updV, vp_updL]
  · simp [updV, vp_updL, hq]
/-- caught by row x; the rows ahead of it name other classes -/
theorem z_catch (C : zC p l s m c D aC b0 own cc nL) {E name : String} {M' : ZM} (pre : List ExceptionTableEntry) (x : ExceptionTableEntry) (suf : List ExceptionTableEntry) (hsplit : c.exceptionTable.toList = pre ++ x :: suf)
    (hpass : ∀ z ∈ pre, covers z pc = false ∨ (z.catchType ≠ 0 ∧ ∃ nm : String, Cond.classLink own z.catchType nm ∈ zW ∧ (E, nm) ∈ zNo)) (hx9 : covers x pc = true) (h0 : x.catchType ≠ 0) (hlk : Cond.classLink own x.catchType name ∈ zW) (hcast : Cond.castable E name ∈ zN)
    {H1 : Heap} {locs1 : List Loc} {q9 : Addr} {ce : Cell} (h1 : zM D b0 M' H1) (h3 : va_S (zA b0) s.heap H1 locs1) (hce : H1[q9]? = some ce) (hcv : ce.vm = .none) (hcl : s.vm.findClass E = some ce.cls)
    (kk : ∀ sz' : Nat, Z p l e R s m args below meth c D b0 M' sz' cells slots Q (F0 m x.handlerPc ls [.ref q9])) : vx_W p l e R s m args below meth c H1 locs1 cells slots Q (F0 m pc ls rest) q9 := by
  obtain ⟨hx, hb, -, hown, -, hK, hg, -⟩ := C
  refine vx_catch hown pre x suf hsplit (fun z hz => ?_) hx9 h0 (zg_w hg hlk) (zg_n hg hcast) hce hcv hcl (kk H1.size H1 locs1 h1 rfl h3)
  rcases hpass z hz with q | ⟨q0, nm, q1, q2⟩
  · exact Or.inl q
  · exact Or.inr ⟨q0, nm, zg_w hg q1, hg.2.2.2.2.1 _ q2⟩
end ZR9
def CtW (l : Launch) (D : va_G) (aC : Nat → ClassId) (b0 : Nat) (y : MethodName) (cc : ByteArray) (maxL : Nat) (ret : Option FieldType) (hh : List (Nat × Nat × Nat × Nat)) (n mc ms : Nat) (av : List Value) (M : ZM) (sz : Nat) (P : Option Value → ZM → Nat → Prop) : Prop :=
  Met l y [.codeWith y cc maxL ret hh] (rz n mc ms) (zPc l D aC b0 av M sz) (zQc D b0 P) mc ms (zA b0)
theorem CtW.of {l : Launch} {D : va_G} {aC : Nat → ClassId} {b0 : Nat} {y : MethodName} {cc : ByteArray} {maxL : Nat} {ret : Option FieldType} {hh : List (Nat × Nat × Nat × Nat)} {n mc ms : Nat} {av : List Value} {M : ZM} {sz : Nat} {P : Option Value → ZM → Nat → Prop} (hy : plainName y.cls = true) (hlen : (lg_sl av).length ≤ maxL)
    (body : ∀ (p : Program) (e : Env) (s : State) (m : MethodId) (below : List Frame) (meth : Method) (c : Code) (ls : Array Slot), zC p l s m c D aC b0 y.cls cc maxL → meth.sig.returnType = ret → meth.locks = false → c.exceptionTable.toList = tableOf hh → lv_has ls maxL (lv_args 0 av) →
      Z p l e (rz n mc ms) s m av.toArray below meth c D b0 M sz 0 0 (MQ below (zQc D b0 P) av.toArray s mc ms (zA b0)) (F0 m 0 ls [])) : CtW l D aC b0 y cc maxL ret hh n mc ms av M sz P := by
  unfold CtW Met
  refine MetFree.of_bodyS (code := cc) (maxLocals := maxL) (ret := ret) hy ?_ ?_
  · intro args s m h hn
    obtain ⟨m9, meth, c, hn9, h1, h2, h3, h4, -, h5, h6, -⟩ := Cond.codeWith_spec (atoms_spec (ws := [.codeWith y cc maxL ret hh]) h _ List.mem_cons_self)
    cases hn.symm.trans hn9
    exact ⟨meth, c, h1, h2, h3, h4, h5, h6⟩
  · intro p e s m args below meth c s₁ B hml hv _
    obtain ⟨rfl, hG, hM, hz⟩ := hv
    have hh0 : s₁.heap = s.heap := by rw [B.state]; rfl
    have ht := vx_table (x := y) B (atoms_spec (ws := [.codeWith y cc maxL ret hh]) B.pre _ List.mem_cons_self)
    have hl := lv_entry av (n := maxL) hlen
    have K := fun ls => body p e s m below meth c ls ⟨B.exec, B.bytes, hml, findClass_of_methodNamed B.named, hG⟩ B.returns B.notSynchronized ht
    have hW : W p l e (rz n mc ms) s m av.toArray below meth c s.heap [] 0 0 (MQ below (zQc D b0 P) av.toArray s mc ms (zA b0)) (entryFrame m av.toArray maxL) := by
      rw [lg_entry_eq]
      generalize (lg_sl av ++ List.replicate (maxL - (lg_sl av).length) Slot.unset).toArray = ls at hl ⊢
      exact K ls hl s.heap [] hM hz va_S.rf
    obtain ⟨t, a1, o, b1, b2, b3⟩ := hW s₁ hh0 (Stand.of_body B)
    exact ⟨t, o, a1, b1, b2, b3.1, b3.2⟩
theorem cm_zup {aC : Nat → ClassId} {x : Nat} {iv av : Nat → Nat → Int32} {R : ZM} {w : Nat} {e : va_E} (h : w < x ∨ x + 133 ≤ w) : zup (cm aC x iv av R) w e = cm aC x iv av (zup R w e) := by
  funext q
  by_cases hq : q = w
  · subst hq; rw [zup_self, cm_out h, zup_self]
  · rw [zup_ne _ _ hq]
    by_cases hb : x ≤ q ∧ q < x + 133
    · simp only [cm]; rw [if_pos hb, if_pos hb]
    · rw [cm_out (by omega), cm_out (by omega), zup_ne _ _ hq]
end
section
set_option maxHeartbeats 2000000 in
set_option maxRecDepth 10000 in
theorem wL_step {l : Launch} {D : va_G} {aC : Nat → ClassId} {b0 sz xa w f : Nat} {v : Int32} {M M0 : ZM} {fs : List Value} {g : Nat → Int64} {a_ : Int32} {b_ : Int32} {c_ : Int32} (hM : CtX l D aC b0 yX8_step cX8_step 4 (some .int) 2 1 6 [.ref xa, .int a_, .int b_, .int c_] M sz (zdx f (some (.int v)) M0) (zxx f M0)) (hf : f = 0 ∨ f = 1 ∨ f = 2) (hxa : M xa = some (.inr (8, fs))) (hw : M0 w = some (.inl (aC 6, 1, .inr (.inl g)))) : CtW l D aC b0 yL_step cL_step 6 (some .int) [(0, 12, 15, 13), (0, 12, 19, 15)] 3 1 6 [.ref xa, .int a_, .int b_, .int c_, .ref w] M sz (zd (some (.int (if f = 0 then 0 else if f = 1 then 1 else 2))) (if f = 0 then zup M0 w (.inl (aC 6, 1, .inr (.inl (vp_updL g 0 v.toInt64)))) else M0)) := by
  refine CtW.of (by decide) (Nat.le_of_ble_eq_true rfl) ?_
  intro p e s m below meth c ls C hr hlk ht hl
  have hl : lv_has ls 6 [(0, .ref xa), (1, .int a_), (2, .int b_), (3, .int c_), (4, .ref w)] := hl
  obtain ⟨hx, hb, -, -, -⟩ := id C
  refine zz (fun _ _ => lv_aload hx hb dL_step_0 (lv_at hl 4 rfl)) ?_
  refine zz (fun _ _ => lv_iconst (v := 0) hx hb dL_step_2 (by decide)) ?_
  refine zz (fun _ _ => lv_aload_n hx hb dL_step_3 rfl (lv_at hl 0 rfl)) ?_
  refine zz (fun _ _ => lv_iload_n hx hb dL_step_4 rfl (lv_at hl 1 rfl)) ?_
  refine zz (fun _ _ => lv_iload_n hx hb dL_step_5 rfl (lv_at hl 2 rfl)) ?_
  refine zz (fun _ _ => lv_iload_n hx hb dL_step_6 rfl (lv_at hl 3 rfl)) ?_
  refine z_callVX (As := [.int a_, .int b_, .int c_]) (rest := [.int 0, .ref w]) C hl.1 lk_L_7 ml_L_7 hM hxa rfl rfl rfl (Nat.le_of_ble_eq_true rfl) ⟨by decide, by decide, by decide, by decide⟩ dL_step_7 (fun E9 M9 hp9 _ _ q9 _ a1 a2 a3 a4 a5 => ?_) (fun r9 M9 sz hp9 => ?_)
  · obtain ⟨h9, rfl, rfl⟩ := hp9
    rcases hf with h0 | h0 | h0
    · exact absurd h0 h9
    · subst h0
      refine z_catch (E := "java/lang/IllegalArgumentException") (name := "java/lang/IllegalArgumentException") C [] ⟨0, 12, 15, 13⟩ [⟨0, 12, 19, 15⟩] (ht.trans rfl) (fun _ h => nomatch h) (by decide) (by decide) (zWi 492 (by decide +kernel) rfl) (zNi 510 (by decide +kernel) rfl) a1 a2 a3 a4 a5 (fun sz9 => ?_)
      refine zs (fun _ _ => lv_astore (lv' := [(5, .ref q9), (0, .ref xa), (1, .int a_), (2, .int b_), (3, .int c_), (4, .ref w)]) hx hb dL_step_15 hl (by decide) rfl) (fun ls hl => ?_)
      refine zz (fun _ _ => lv_iconst (v := 1) hx hb dL_step_17 (by decide)) ?_
      exact zcs (by decide) (by decide) (z_iret C hr hlk dL_step_18 ⟨by decide, by simp⟩)
    · subst h0
      refine z_catch (E := "java/lang/IllegalStateException") (name := "java/lang/IllegalStateException") C [⟨0, 12, 15, 13⟩] ⟨0, 12, 19, 15⟩ [] (ht.trans rfl) (fun z hz => by
      rcases List.mem_cons.mp hz with rfl | hz
      · exact Or.inr ⟨by decide, "java/lang/IllegalArgumentException", (zWi 492 (by decide +kernel) rfl), by decide⟩
      exact nomatch hz) (by decide) (by decide) (zWi 493 (by decide +kernel) rfl) (zNi 578 (by decide +kernel) rfl) a1 a2 a3 a4 a5 (fun sz9 => ?_)
      refine zs (fun _ _ => lv_astore (lv' := [(5, .ref q9), (0, .ref xa), (1, .int a_), (2, .int b_), (3, .int c_), (4, .ref w)]) hx hb dL_step_19 hl (by decide) rfl) (fun ls hl => ?_)
      refine zz (fun _ _ => lv_iconst (v := 2) hx hb dL_step_21 (by decide)) ?_
      exact zcs (by decide) (by decide) (z_iret C hr hlk dL_step_22 ⟨by decide, by simp⟩)
  obtain ⟨rfl, rfl, rfl⟩ := hp9
  refine zst (st' := [.int v, .int 0, .ref w]) rfl ?_
  refine zz (fun _ _ => lv_i2l (v := v.toInt64) hx hb dL_step_10 rfl) ?_
  refine z_last C hw (in_nI (j := 0) rfl (by decide) (by decide)) dL_step_11 ?_
  refine zz (fun _ _ => lv_goto (tgt := 23) hx hb dL_step_12 (by decide)) ?_
  refine zz (fun _ _ => lv_iconst (v := 0) hx hb dL_step_23 (by decide)) ?_
  exact zcs (by decide) (by decide) (z_iret C hr hlk dL_step_24 ⟨rfl, rfl⟩)
set_option maxHeartbeats 2000000 in
set_option maxRecDepth 10000 in
theorem wL_silent {l : Launch} {D : va_G} {aC : Nat → ClassId} {b0 sz xa w f : Nat} {v : Int32} {M M0 : ZM} {fs : List Value} {g : Nat → Int64} {a_ : Int32} {b_ : Int32} (hM : CtX l D aC b0 yX8_silent cX8_silent 5 (some .boolean) 1 1 6 [.ref xa, .int a_, .int b_] M sz (zdx f (some (.int v)) M0) (zxx f M0)) (hf : f = 0 ∨ f = 3) (hxa : M xa = some (.inr (8, fs))) (hw : M0 w = some (.inl (aC 6, 1, .inr (.inl g)))) : CtW l D aC b0 yL_silent cL_silent 5 (some .int) [(0, 17, 20, 21)] 2 1 6 [.ref xa, .int a_, .int b_, .ref w] M sz (zd (some (.int (if f = 0 then 0 else 1))) (if f = 0 then zup M0 w (.inl (aC 6, 1, .inr (.inl (vp_updL g 0 (if v = 0 then 0 else 1))))) else M0)) := by
  refine CtW.of (by decide) (Nat.le_of_ble_eq_true rfl) ?_
  intro p e s m below meth c ls C hr hlk ht hl
  have hl : lv_has ls 5 [(0, .ref xa), (1, .int a_), (2, .int b_), (3, .ref w)] := hl
  obtain ⟨hx, hb, -, -, -⟩ := id C
  refine zz (fun _ _ => lv_aload_n hx hb dL_silent_0 rfl (lv_at hl 3 rfl)) ?_
  refine zz (fun _ _ => lv_iconst (v := 0) hx hb dL_silent_1 (by decide)) ?_
  refine zz (fun _ _ => lv_aload_n hx hb dL_silent_2 rfl (lv_at hl 0 rfl)) ?_
  refine zz (fun _ _ => lv_iload_n hx hb dL_silent_3 rfl (lv_at hl 1 rfl)) ?_
  refine zz (fun _ _ => lv_iload_n hx hb dL_silent_4 rfl (lv_at hl 2 rfl)) ?_
  refine z_callVX (As := [.int a_, .int b_]) (rest := [.int 0, .ref w]) C hl.1 lk_L_17 ml_L_17 hM hxa rfl rfl rfl (Nat.le_of_ble_eq_true rfl) ⟨by decide, by decide, by decide, by decide⟩ dL_silent_5 (fun E9 M9 hp9 _ _ q9 _ a1 a2 a3 a4 a5 => ?_) (fun r9 M9 sz hp9 => ?_)
  · obtain ⟨h9, rfl, rfl⟩ := hp9
    rcases hf with h0 | h0
    · exact absurd h0 h9
    · subst h0
      refine z_catch (E := "java/lang/IndexOutOfBoundsException") (name := "java/lang/IndexOutOfBoundsException") C [] ⟨0, 17, 20, 21⟩ [] (ht.trans rfl) (fun _ h => nomatch h) (by decide) (by decide) (zWi 599 (by decide +kernel) rfl) (zNi 610 (by decide +kernel) rfl) a1 a2 a3 a4 a5 (fun sz9 => ?_)
      refine zs (fun _ _ => lv_astore (lv' := [(4, .ref q9), (0, .ref xa), (1, .int a_), (2, .int b_), (3, .ref w)]) hx hb dL_silent_20 hl (by decide) rfl) (fun ls hl => ?_)
      refine zz (fun _ _ => lv_iconst (v := 1) hx hb dL_silent_22 (by decide)) ?_
      exact zcs (by decide) (by decide) (z_iret C hr hlk dL_silent_23 ⟨by decide, by simp⟩)
  obtain ⟨rfl, rfl, rfl⟩ := hp9
  refine zst (st' := [.int v, .int 0, .ref w]) rfl ?_
  refine zb (fun _ _ => lv_if_eq (tgt := 15) hx hb dL_silent_8 (by decide)) (fun c_1 => ?_) (fun c_1 => ?_)
  · refine zz (fun _ _ => lv_lconst (v := 0) hx hb dL_silent_15 (by decide)) ?_
    refine z_last C hw (in_nI (j := 0) rfl (by decide) (by decide)) dL_silent_16 ?_
    refine zz (fun _ _ => lv_goto (tgt := 24) hx hb dL_silent_17 (by decide)) ?_
    refine zz (fun _ _ => lv_iconst (v := 0) hx hb dL_silent_24 (by decide)) ?_
    exact zcs (by decide) (by decide) (z_iret C hr hlk dL_silent_25 ⟨rfl, by simp [c_1]⟩)
  · refine zz (fun _ _ => lv_lconst (v := 1) hx hb dL_silent_11 (by decide)) ?_
    refine zz (fun _ _ => lv_goto (tgt := 16) hx hb dL_silent_12 (by decide)) ?_
    refine z_last C hw (in_nI (j := 0) rfl (by decide) (by decide)) dL_silent_16 ?_
    refine zz (fun _ _ => lv_goto (tgt := 24) hx hb dL_silent_17 (by decide)) ?_
    refine zz (fun _ _ => lv_iconst (v := 0) hx hb dL_silent_24 (by decide)) ?_
    exact zcs (by decide) (by decide) (z_iret C hr hlk dL_silent_25 ⟨rfl, by simp [c_1]⟩)
set_option maxHeartbeats 2000000 in
set_option maxRecDepth 10000 in
theorem wL_template {l : Launch} {D : va_G} {aC : Nat → ClassId} {b0 sz xa w f : Nat} {v : Int32} {M M0 : ZM} {fs : List Value} {g : Nat → Int64} {a_ : Int32} {b_ : Int32} {c_ : Int32} {d_ : Int32} {e_ : Int32} (hM : CtX l D aC b0 yX8_template cX8_template 8 (some .int) 3 2 12 [.ref xa, .int a_, .int b_, .int c_, .int d_, .int e_] M sz (zdx f (some (.int v)) M0) (zxx f M0)) (hf : f = 0 ∨ f = 3 ∨ f = 1 ∨ f = 2) (hxa : M xa = some (.inr (8, fs))) (hw : M0 w = some (.inl (aC 6, 1, .inr (.inl g)))) : CtW l D aC b0 yL_template cL_template 8 (some .int) [(0, 16, 19, 21), (0, 16, 23, 13), (0, 16, 27, 15)] 4 2 12 [.ref xa, .int a_, .int b_, .int c_, .int d_, .int e_, .ref w] M sz (zd (some (.int (if f = 0 then 0 else if f = 3 then 1 else if f = 1 then 2 else 3))) (if f = 0 then zup M0 w (.inl (aC 6, 1, .inr (.inl (vp_updL g 0 v.toInt64)))) else M0)) := by
  refine CtW.of (by decide) (Nat.le_of_ble_eq_true rfl) ?_
  intro p e s m below meth c ls C hr hlk ht hl
  have hl : lv_has ls 8 [(0, .ref xa), (1, .int a_), (2, .int b_), (3, .int c_), (4, .int d_), (5, .int e_), (6, .ref w)] := hl
  obtain ⟨hx, hb, -, -, -⟩ := id C
  refine zz (fun _ _ => lv_aload hx hb dL_template_0 (lv_at hl 6 rfl)) ?_
  refine zz (fun _ _ => lv_iconst (v := 0) hx hb dL_template_2 (by decide)) ?_
  refine zz (fun _ _ => lv_aload_n hx hb dL_template_3 rfl (lv_at hl 0 rfl)) ?_
  refine zz (fun _ _ => lv_iload_n hx hb dL_template_4 rfl (lv_at hl 1 rfl)) ?_
  refine zz (fun _ _ => lv_iload_n hx hb dL_template_5 rfl (lv_at hl 2 rfl)) ?_
  refine zz (fun _ _ => lv_iload_n hx hb dL_template_6 rfl (lv_at hl 3 rfl)) ?_
  refine zz (fun _ _ => lv_iload hx hb dL_template_7 (lv_at hl 4 rfl)) ?_
  refine zz (fun _ _ => lv_iload hx hb dL_template_9 (lv_at hl 5 rfl)) ?_
  refine z_callVX (As := [.int a_, .int b_, .int c_, .int d_, .int e_]) (rest := [.int 0, .ref w]) C hl.1 lk_L_23 ml_L_23 hM hxa rfl rfl rfl (Nat.le_of_ble_eq_true rfl) ⟨by decide, by decide, by decide, by decide⟩ dL_template_11 (fun E9 M9 hp9 _ _ q9 _ a1 a2 a3 a4 a5 => ?_) (fun r9 M9 sz hp9 => ?_)
  · obtain ⟨h9, rfl, rfl⟩ := hp9
    rcases hf with h0 | h0 | h0 | h0
    · exact absurd h0 h9
    · subst h0
      refine z_catch (E := "java/lang/IndexOutOfBoundsException") (name := "java/lang/IndexOutOfBoundsException") C [] ⟨0, 16, 19, 21⟩ [⟨0, 16, 23, 13⟩, ⟨0, 16, 27, 15⟩] (ht.trans rfl) (fun _ h => nomatch h) (by decide) (by decide) (zWi 599 (by decide +kernel) rfl) (zNi 610 (by decide +kernel) rfl) a1 a2 a3 a4 a5 (fun sz9 => ?_)
      refine zs (fun _ _ => lv_astore (lv' := [(7, .ref q9), (0, .ref xa), (1, .int a_), (2, .int b_), (3, .int c_), (4, .int d_), (5, .int e_), (6, .ref w)]) hx hb dL_template_19 hl (by decide) rfl) (fun ls hl => ?_)
      refine zz (fun _ _ => lv_iconst (v := 1) hx hb dL_template_21 (by decide)) ?_
      exact zcs (by decide) (by decide) (z_iret C hr hlk dL_template_22 ⟨by decide, by simp⟩)
    · subst h0
      refine z_catch (E := "java/lang/IllegalArgumentException") (name := "java/lang/IllegalArgumentException") C [⟨0, 16, 19, 21⟩] ⟨0, 16, 23, 13⟩ [⟨0, 16, 27, 15⟩] (ht.trans rfl) (fun z hz => by
      rcases List.mem_cons.mp hz with rfl | hz
      · exact Or.inr ⟨by decide, "java/lang/IndexOutOfBoundsException", (zWi 599 (by decide +kernel) rfl), by decide⟩
      exact nomatch hz) (by decide) (by decide) (zWi 492 (by decide +kernel) rfl) (zNi 510 (by decide +kernel) rfl) a1 a2 a3 a4 a5 (fun sz9 => ?_)
      refine zs (fun _ _ => lv_astore (lv' := [(7, .ref q9), (0, .ref xa), (1, .int a_), (2, .int b_), (3, .int c_), (4, .int d_), (5, .int e_), (6, .ref w)]) hx hb dL_template_23 hl (by decide) rfl) (fun ls hl => ?_)
      refine zz (fun _ _ => lv_iconst (v := 2) hx hb dL_template_25 (by decide)) ?_
      exact zcs (by decide) (by decide) (z_iret C hr hlk dL_template_26 ⟨by decide, by simp⟩)
    · subst h0
      refine z_catch (E := "java/lang/IllegalStateException") (name := "java/lang/IllegalStateException") C [⟨0, 16, 19, 21⟩, ⟨0, 16, 23, 13⟩] ⟨0, 16, 27, 15⟩ [] (ht.trans rfl) (fun z hz => by
      rcases List.mem_cons.mp hz with rfl | hz
      · exact Or.inr ⟨by decide, "java/lang/IndexOutOfBoundsException", (zWi 599 (by decide +kernel) rfl), by decide⟩
      rcases List.mem_cons.mp hz with rfl | hz
      · exact Or.inr ⟨by decide, "java/lang/IllegalArgumentException", (zWi 492 (by decide +kernel) rfl), by decide⟩
      exact nomatch hz) (by decide) (by decide) (zWi 493 (by decide +kernel) rfl) (zNi 578 (by decide +kernel) rfl) a1 a2 a3 a4 a5 (fun sz9 => ?_)
      refine zs (fun _ _ => lv_astore (lv' := [(7, .ref q9), (0, .ref xa), (1, .int a_), (2, .int b_), (3, .int c_), (4, .int d_), (5, .int e_), (6, .ref w)]) hx hb dL_template_27 hl (by decide) rfl) (fun ls hl => ?_)
      refine zz (fun _ _ => lv_iconst (v := 3) hx hb dL_template_29 (by decide)) ?_
      exact zcs (by decide) (by decide) (z_iret C hr hlk dL_template_30 ⟨by decide, by simp⟩)
  obtain ⟨rfl, rfl, rfl⟩ := hp9
  refine zst (st' := [.int v, .int 0, .ref w]) rfl ?_
  refine zz (fun _ _ => lv_i2l (v := v.toInt64) hx hb dL_template_14 rfl) ?_
  refine z_last C hw (in_nI (j := 0) rfl (by decide) (by decide)) dL_template_15 ?_
  refine zz (fun _ _ => lv_goto (tgt := 31) hx hb dL_template_16 (by decide)) ?_
  refine zz (fun _ _ => lv_iconst (v := 0) hx hb dL_template_31 (by decide)) ?_
  exact zcs (by decide) (by decide) (z_iret C hr hlk dL_template_32 ⟨rfl, rfl⟩)
set_option maxHeartbeats 2000000 in
set_option maxRecDepth 10000 in
theorem wL_pattern {l : Launch} {D : va_G} {aC : Nat → ClassId} {b0 sz xa w f : Nat} {v : Int32} {M M0 : ZM} {fs : List Value} {g : Nat → Int64} {a_ : Int32} {b_ : Int32} {c_ : Int32} {d_ : Int32} (hM : CtX l D aC b0 yX8_pattern cX8_pattern 6 (some .int) 2 2 12 [.ref xa, .int a_, .int b_, .int c_, .int d_] M sz (zdx f (some (.int v)) M0) (zxx f M0)) (hf : f = 0 ∨ f = 3 ∨ f = 1 ∨ f = 2) (hxa : M xa = some (.inr (8, fs))) (hw : M0 w = some (.inl (aC 6, 1, .inr (.inl g)))) : CtW l D aC b0 yL_pattern cL_pattern 7 (some .int) [(0, 14, 17, 21), (0, 14, 21, 13), (0, 14, 25, 15)] 3 2 12 [.ref xa, .int a_, .int b_, .int c_, .int d_, .ref w] M sz (zd (some (.int (if f = 0 then 0 else if f = 3 then 1 else if f = 1 then 2 else 3))) (if f = 0 then zup M0 w (.inl (aC 6, 1, .inr (.inl (vp_updL g 0 v.toInt64)))) else M0)) := by
  refine CtW.of (by decide) (Nat.le_of_ble_eq_true rfl) ?_
  intro p e s m below meth c ls C hr hlk ht hl
  have hl : lv_has ls 7 [(0, .ref xa), (1, .int a_), (2, .int b_), (3, .int c_), (4, .int d_), (5, .ref w)] := hl
  obtain ⟨hx, hb, -, -, -⟩ := id C
  refine zz (fun _ _ => lv_aload hx hb dL_pattern_0 (lv_at hl 5 rfl)) ?_
  refine zz (fun _ _ => lv_iconst (v := 0) hx hb dL_pattern_2 (by decide)) ?_
  refine zz (fun _ _ => lv_aload_n hx hb dL_pattern_3 rfl (lv_at hl 0 rfl)) ?_
  refine zz (fun _ _ => lv_iload_n hx hb dL_pattern_4 rfl (lv_at hl 1 rfl)) ?_
  refine zz (fun _ _ => lv_iload_n hx hb dL_pattern_5 rfl (lv_at hl 2 rfl)) ?_
  refine zz (fun _ _ => lv_iload_n hx hb dL_pattern_6 rfl (lv_at hl 3 rfl)) ?_
  refine zz (fun _ _ => lv_iload hx hb dL_pattern_7 (lv_at hl 4 rfl)) ?_
  refine z_callVX (As := [.int a_, .int b_, .int c_, .int d_]) (rest := [.int 0, .ref w]) C hl.1 lk_L_27 ml_L_27 hM hxa rfl rfl rfl (Nat.le_of_ble_eq_true rfl) ⟨by decide, by decide, by decide, by decide⟩ dL_pattern_9 (fun E9 M9 hp9 _ _ q9 _ a1 a2 a3 a4 a5 => ?_) (fun r9 M9 sz hp9 => ?_)
  · obtain ⟨h9, rfl, rfl⟩ := hp9
    rcases hf with h0 | h0 | h0 | h0
    · exact absurd h0 h9
    · subst h0
      refine z_catch (E := "java/lang/IndexOutOfBoundsException") (name := "java/lang/IndexOutOfBoundsException") C [] ⟨0, 14, 17, 21⟩ [⟨0, 14, 21, 13⟩, ⟨0, 14, 25, 15⟩] (ht.trans rfl) (fun _ h => nomatch h) (by decide) (by decide) (zWi 599 (by decide +kernel) rfl) (zNi 610 (by decide +kernel) rfl) a1 a2 a3 a4 a5 (fun sz9 => ?_)
      refine zs (fun _ _ => lv_astore (lv' := [(6, .ref q9), (0, .ref xa), (1, .int a_), (2, .int b_), (3, .int c_), (4, .int d_), (5, .ref w)]) hx hb dL_pattern_17 hl (by decide) rfl) (fun ls hl => ?_)
      refine zz (fun _ _ => lv_iconst (v := 1) hx hb dL_pattern_19 (by decide)) ?_
      exact zcs (by decide) (by decide) (z_iret C hr hlk dL_pattern_20 ⟨by decide, by simp⟩)
    · subst h0
      refine z_catch (E := "java/lang/IllegalArgumentException") (name := "java/lang/IllegalArgumentException") C [⟨0, 14, 17, 21⟩] ⟨0, 14, 21, 13⟩ [⟨0, 14, 25, 15⟩] (ht.trans rfl) (fun z hz => by
      rcases List.mem_cons.mp hz with rfl | hz
      · exact Or.inr ⟨by decide, "java/lang/IndexOutOfBoundsException", (zWi 599 (by decide +kernel) rfl), by decide⟩
      exact nomatch hz) (by decide) (by decide) (zWi 492 (by decide +kernel) rfl) (zNi 510 (by decide +kernel) rfl) a1 a2 a3 a4 a5 (fun sz9 => ?_)
      refine zs (fun _ _ => lv_astore (lv' := [(6, .ref q9), (0, .ref xa), (1, .int a_), (2, .int b_), (3, .int c_), (4, .int d_), (5, .ref w)]) hx hb dL_pattern_21 hl (by decide) rfl) (fun ls hl => ?_)
      refine zz (fun _ _ => lv_iconst (v := 2) hx hb dL_pattern_23 (by decide)) ?_
      exact zcs (by decide) (by decide) (z_iret C hr hlk dL_pattern_24 ⟨by decide, by simp⟩)
    · subst h0
      refine z_catch (E := "java/lang/IllegalStateException") (name := "java/lang/IllegalStateException") C [⟨0, 14, 17, 21⟩, ⟨0, 14, 21, 13⟩] ⟨0, 14, 25, 15⟩ [] (ht.trans rfl) (fun z hz => by
      rcases List.mem_cons.mp hz with rfl | hz
      · exact Or.inr ⟨by decide, "java/lang/IndexOutOfBoundsException", (zWi 599 (by decide +kernel) rfl), by decide⟩
      rcases List.mem_cons.mp hz with rfl | hz
      · exact Or.inr ⟨by decide, "java/lang/IllegalArgumentException", (zWi 492 (by decide +kernel) rfl), by decide⟩
      exact nomatch hz) (by decide) (by decide) (zWi 493 (by decide +kernel) rfl) (zNi 578 (by decide +kernel) rfl) a1 a2 a3 a4 a5 (fun sz9 => ?_)
      refine zs (fun _ _ => lv_astore (lv' := [(6, .ref q9), (0, .ref xa), (1, .int a_), (2, .int b_), (3, .int c_), (4, .int d_), (5, .ref w)]) hx hb dL_pattern_25 hl (by decide) rfl) (fun ls hl => ?_)
      refine zz (fun _ _ => lv_iconst (v := 3) hx hb dL_pattern_27 (by decide)) ?_
      exact zcs (by decide) (by decide) (z_iret C hr hlk dL_pattern_28 ⟨by decide, by simp⟩)
  obtain ⟨rfl, rfl, rfl⟩ := hp9
  refine zst (st' := [.int v, .int 0, .ref w]) rfl ?_
  refine zz (fun _ _ => lv_i2l (v := v.toInt64) hx hb dL_pattern_12 rfl) ?_
  refine z_last C hw (in_nI (j := 0) rfl (by decide) (by decide)) dL_pattern_13 ?_
  refine zz (fun _ _ => lv_goto (tgt := 29) hx hb dL_pattern_14 (by decide)) ?_
  refine zz (fun _ _ => lv_iconst (v := 0) hx hb dL_pattern_29 (by decide)) ?_
  exact zcs (by decide) (by decide) (z_iret C hr hlk dL_pattern_30 ⟨rfl, rfl⟩)
set_option maxHeartbeats 2000000 in
set_option maxRecDepth 10000 in
theorem wL_file {l : Launch} {D : va_G} {aC : Nat → ClassId} {b0 sz xa w f : Nat} {v : Int32} {M M0 : ZM} {fs : List Value} {g : Nat → Int64} {a_ : Int32} {b_ : Int32} {c_ : Int32} {d_ : Int32} (hM : CtX l D aC b0 yX8_file cX8_file 6 (some .int) 2 2 12 [.ref xa, .int a_, .int b_, .int c_, .int d_] M sz (zdx f (some (.int v)) M0) (zxx f M0)) (hf : f = 0 ∨ f = 3 ∨ f = 1 ∨ f = 2) (hxa : M xa = some (.inr (8, fs))) (hw : M0 w = some (.inl (aC 6, 1, .inr (.inl g)))) : CtW l D aC b0 yL_file cL_file 7 (some .int) [(0, 14, 17, 21), (0, 14, 21, 13), (0, 14, 25, 15)] 3 2 12 [.ref xa, .int a_, .int b_, .int c_, .int d_, .ref w] M sz (zd (some (.int (if f = 0 then 0 else if f = 3 then 1 else if f = 1 then 2 else 3))) (if f = 0 then zup M0 w (.inl (aC 6, 1, .inr (.inl (vp_updL g 0 v.toInt64)))) else M0)) := by
  refine CtW.of (by decide) (Nat.le_of_ble_eq_true rfl) ?_
  intro p e s m below meth c ls C hr hlk ht hl
  have hl : lv_has ls 7 [(0, .ref xa), (1, .int a_), (2, .int b_), (3, .int c_), (4, .int d_), (5, .ref w)] := hl
  obtain ⟨hx, hb, -, -, -⟩ := id C
  refine zz (fun _ _ => lv_aload hx hb dL_file_0 (lv_at hl 5 rfl)) ?_
  refine zz (fun _ _ => lv_iconst (v := 0) hx hb dL_file_2 (by decide)) ?_
  refine zz (fun _ _ => lv_aload_n hx hb dL_file_3 rfl (lv_at hl 0 rfl)) ?_
  refine zz (fun _ _ => lv_iload_n hx hb dL_file_4 rfl (lv_at hl 1 rfl)) ?_
  refine zz (fun _ _ => lv_iload_n hx hb dL_file_5 rfl (lv_at hl 2 rfl)) ?_
  refine zz (fun _ _ => lv_iload_n hx hb dL_file_6 rfl (lv_at hl 3 rfl)) ?_
  refine zz (fun _ _ => lv_iload hx hb dL_file_7 (lv_at hl 4 rfl)) ?_
  refine z_callVX (As := [.int a_, .int b_, .int c_, .int d_]) (rest := [.int 0, .ref w]) C hl.1 lk_L_31 ml_L_31 hM hxa rfl rfl rfl (Nat.le_of_ble_eq_true rfl) ⟨by decide, by decide, by decide, by decide⟩ dL_file_9 (fun E9 M9 hp9 _ _ q9 _ a1 a2 a3 a4 a5 => ?_) (fun r9 M9 sz hp9 => ?_)
  · obtain ⟨h9, rfl, rfl⟩ := hp9
    rcases hf with h0 | h0 | h0 | h0
    · exact absurd h0 h9
    · subst h0
      refine z_catch (E := "java/lang/IndexOutOfBoundsException") (name := "java/lang/IndexOutOfBoundsException") C [] ⟨0, 14, 17, 21⟩ [⟨0, 14, 21, 13⟩, ⟨0, 14, 25, 15⟩] (ht.trans rfl) (fun _ h => nomatch h) (by decide) (by decide) (zWi 599 (by decide +kernel) rfl) (zNi 610 (by decide +kernel) rfl) a1 a2 a3 a4 a5 (fun sz9 => ?_)
      refine zs (fun _ _ => lv_astore (lv' := [(6, .ref q9), (0, .ref xa), (1, .int a_), (2, .int b_), (3, .int c_), (4, .int d_), (5, .ref w)]) hx hb dL_file_17 hl (by decide) rfl) (fun ls hl => ?_)
      refine zz (fun _ _ => lv_iconst (v := 1) hx hb dL_file_19 (by decide)) ?_
      exact zcs (by decide) (by decide) (z_iret C hr hlk dL_file_20 ⟨by decide, by simp⟩)
    · subst h0
      refine z_catch (E := "java/lang/IllegalArgumentException") (name := "java/lang/IllegalArgumentException") C [⟨0, 14, 17, 21⟩] ⟨0, 14, 21, 13⟩ [⟨0, 14, 25, 15⟩] (ht.trans rfl) (fun z hz => by
      rcases List.mem_cons.mp hz with rfl | hz
      · exact Or.inr ⟨by decide, "java/lang/IndexOutOfBoundsException", (zWi 599 (by decide +kernel) rfl), by decide⟩
      exact nomatch hz) (by decide) (by decide) (zWi 492 (by decide +kernel) rfl) (zNi 510 (by decide +kernel) rfl) a1 a2 a3 a4 a5 (fun sz9 => ?_)
      refine zs (fun _ _ => lv_astore (lv' := [(6, .ref q9), (0, .ref xa), (1, .int a_), (2, .int b_), (3, .int c_), (4, .int d_), (5, .ref w)]) hx hb dL_file_21 hl (by decide) rfl) (fun ls hl => ?_)
      refine zz (fun _ _ => lv_iconst (v := 2) hx hb dL_file_23 (by decide)) ?_
      exact zcs (by decide) (by decide) (z_iret C hr hlk dL_file_24 ⟨by decide, by simp⟩)
    · subst h0
      refine z_catch (E := "java/lang/IllegalStateException") (name := "java/lang/IllegalStateException") C [⟨0, 14, 17, 21⟩, ⟨0, 14, 21, 13⟩] ⟨0, 14, 25, 15⟩ [] (ht.trans rfl) (fun z hz => by
      rcases List.mem_cons.mp hz with rfl | hz
      · exact Or.inr ⟨by decide, "java/lang/IndexOutOfBoundsException", (zWi 599 (by decide +kernel) rfl), by decide⟩
      rcases List.mem_cons.mp hz with rfl | hz
      · exact Or.inr ⟨by decide, "java/lang/IllegalArgumentException", (zWi 492 (by decide +kernel) rfl), by decide⟩
      exact nomatch hz) (by decide) (by decide) (zWi 493 (by decide +kernel) rfl) (zNi 578 (by decide +kernel) rfl) a1 a2 a3 a4 a5 (fun sz9 => ?_)
      refine zs (fun _ _ => lv_astore (lv' := [(6, .ref q9), (0, .ref xa), (1, .int a_), (2, .int b_), (3, .int c_), (4, .int d_), (5, .ref w)]) hx hb dL_file_25 hl (by decide) rfl) (fun ls hl => ?_)
      refine zz (fun _ _ => lv_iconst (v := 3) hx hb dL_file_27 (by decide)) ?_
      exact zcs (by decide) (by decide) (z_iret C hr hlk dL_file_28 ⟨by decide, by simp⟩)
  obtain ⟨rfl, rfl, rfl⟩ := hp9
  refine zst (st' := [.int v, .int 0, .ref w]) rfl ?_
  refine zz (fun _ _ => lv_i2l (v := v.toInt64) hx hb dL_file_12 rfl) ?_
  refine z_last C hw (in_nI (j := 0) rfl (by decide) (by decide)) dL_file_13 ?_
  refine zz (fun _ _ => lv_goto (tgt := 29) hx hb dL_file_14 (by decide)) ?_
  refine zz (fun _ _ => lv_iconst (v := 0) hx hb dL_file_29 (by decide)) ?_
  exact zcs (by decide) (by decide) (z_iret C hr hlk dL_file_30 ⟨rfl, rfl⟩)
set_option maxHeartbeats 2000000 in
set_option maxRecDepth 10000 in
theorem wL_torn {l : Launch} {D : va_G} {aC : Nat → ClassId} {b0 sz xa w f : Nat} {v : Int32} {M M0 : ZM} {fs : List Value} {g : Nat → Int64} {a_ : Int32} {b_ : Int32} (hM : CtX l D aC b0 yX8_torn cX8_torn 5 (some .boolean) 1 1 6 [.ref xa, .int a_, .int b_] M sz (zdx f (some (.int v)) M0) (zxx f M0)) (hf : f = 0 ∨ f = 3) (hxa : M xa = some (.inr (8, fs))) (hw : M0 w = some (.inl (aC 6, 1, .inr (.inl g)))) : CtW l D aC b0 yL_torn cL_torn 5 (some .int) [(0, 17, 20, 21)] 2 1 6 [.ref xa, .int a_, .int b_, .ref w] M sz (zd (some (.int (if f = 0 then 0 else 1))) (if f = 0 then zup M0 w (.inl (aC 6, 1, .inr (.inl (vp_updL g 0 (if v = 0 then 0 else 1))))) else M0)) := by
  refine CtW.of (by decide) (Nat.le_of_ble_eq_true rfl) ?_
  intro p e s m below meth c ls C hr hlk ht hl
  have hl : lv_has ls 5 [(0, .ref xa), (1, .int a_), (2, .int b_), (3, .ref w)] := hl
  obtain ⟨hx, hb, -, -, -⟩ := id C
  refine zz (fun _ _ => lv_aload_n hx hb dL_torn_0 rfl (lv_at hl 3 rfl)) ?_
  refine zz (fun _ _ => lv_iconst (v := 0) hx hb dL_torn_1 (by decide)) ?_
  refine zz (fun _ _ => lv_aload_n hx hb dL_torn_2 rfl (lv_at hl 0 rfl)) ?_
  refine zz (fun _ _ => lv_iload_n hx hb dL_torn_3 rfl (lv_at hl 1 rfl)) ?_
  refine zz (fun _ _ => lv_iload_n hx hb dL_torn_4 rfl (lv_at hl 2 rfl)) ?_
  refine z_callVX (As := [.int a_, .int b_]) (rest := [.int 0, .ref w]) C hl.1 lk_L_34 ml_L_34 hM hxa rfl rfl rfl (Nat.le_of_ble_eq_true rfl) ⟨by decide, by decide, by decide, by decide⟩ dL_torn_5 (fun E9 M9 hp9 _ _ q9 _ a1 a2 a3 a4 a5 => ?_) (fun r9 M9 sz hp9 => ?_)
  · obtain ⟨h9, rfl, rfl⟩ := hp9
    rcases hf with h0 | h0
    · exact absurd h0 h9
    · subst h0
      refine z_catch (E := "java/lang/IndexOutOfBoundsException") (name := "java/lang/IndexOutOfBoundsException") C [] ⟨0, 17, 20, 21⟩ [] (ht.trans rfl) (fun _ h => nomatch h) (by decide) (by decide) (zWi 599 (by decide +kernel) rfl) (zNi 610 (by decide +kernel) rfl) a1 a2 a3 a4 a5 (fun sz9 => ?_)
      refine zs (fun _ _ => lv_astore (lv' := [(4, .ref q9), (0, .ref xa), (1, .int a_), (2, .int b_), (3, .ref w)]) hx hb dL_torn_20 hl (by decide) rfl) (fun ls hl => ?_)
      refine zz (fun _ _ => lv_iconst (v := 1) hx hb dL_torn_22 (by decide)) ?_
      exact zcs (by decide) (by decide) (z_iret C hr hlk dL_torn_23 ⟨by decide, by simp⟩)
  obtain ⟨rfl, rfl, rfl⟩ := hp9
  refine zst (st' := [.int v, .int 0, .ref w]) rfl ?_
  refine zb (fun _ _ => lv_if_eq (tgt := 15) hx hb dL_torn_8 (by decide)) (fun c_1 => ?_) (fun c_1 => ?_)
  · refine zz (fun _ _ => lv_lconst (v := 0) hx hb dL_torn_15 (by decide)) ?_
    refine z_last C hw (in_nI (j := 0) rfl (by decide) (by decide)) dL_torn_16 ?_
    refine zz (fun _ _ => lv_goto (tgt := 24) hx hb dL_torn_17 (by decide)) ?_
    refine zz (fun _ _ => lv_iconst (v := 0) hx hb dL_torn_24 (by decide)) ?_
    exact zcs (by decide) (by decide) (z_iret C hr hlk dL_torn_25 ⟨rfl, by simp [c_1]⟩)
  · refine zz (fun _ _ => lv_lconst (v := 1) hx hb dL_torn_11 (by decide)) ?_
    refine zz (fun _ _ => lv_goto (tgt := 16) hx hb dL_torn_12 (by decide)) ?_
    refine z_last C hw (in_nI (j := 0) rfl (by decide) (by decide)) dL_torn_16 ?_
    refine zz (fun _ _ => lv_goto (tgt := 24) hx hb dL_torn_17 (by decide)) ?_
    refine zz (fun _ _ => lv_iconst (v := 0) hx hb dL_torn_24 (by decide)) ?_
    exact zcs (by decide) (by decide) (z_iret C hr hlk dL_torn_25 ⟨rfl, by simp [c_1]⟩)
set_option maxHeartbeats 2000000 in
set_option maxRecDepth 10000 in
theorem wL_many {l : Launch} {D : va_G} {aC : Nat → ClassId} {b0 sz xa w f : Nat} {v : Int32} {M M0 : ZM} {fs : List Value} {g : Nat → Int64} {a_ : Int32} (hM : CtX l D aC b0 yX8_many cX8_many 3 (some .int) 2 1 6 [.ref xa, .int a_] M sz (zdx f (some (.int v)) M0) (zxx f M0)) (hf : f = 0 ∨ f = 3) (hxa : M xa = some (.inr (8, fs))) (hw : M0 w = some (.inl (aC 6, 1, .inr (.inl g)))) : CtW l D aC b0 yL_many cL_many 4 (some .int) [(0, 9, 12, 21)] 3 1 6 [.ref xa, .int a_, .ref w] M sz (zd (some (.int (if f = 0 then 0 else 1))) (if f = 0 then zup M0 w (.inl (aC 6, 1, .inr (.inl (vp_updL g 0 v.toInt64)))) else M0)) := by
  refine CtW.of (by decide) (Nat.le_of_ble_eq_true rfl) ?_
  intro p e s m below meth c ls C hr hlk ht hl
  have hl : lv_has ls 4 [(0, .ref xa), (1, .int a_), (2, .ref w)] := hl
  obtain ⟨hx, hb, -, -, -⟩ := id C
  refine zz (fun _ _ => lv_aload_n hx hb dL_many_0 rfl (lv_at hl 2 rfl)) ?_
  refine zz (fun _ _ => lv_iconst (v := 0) hx hb dL_many_1 (by decide)) ?_
  refine zz (fun _ _ => lv_aload_n hx hb dL_many_2 rfl (lv_at hl 0 rfl)) ?_
  refine zz (fun _ _ => lv_iload_n hx hb dL_many_3 rfl (lv_at hl 1 rfl)) ?_
  refine z_callVX (As := [.int a_]) (rest := [.int 0, .ref w]) C hl.1 lk_L_37 ml_L_37 hM hxa rfl rfl rfl (Nat.le_of_ble_eq_true rfl) ⟨by decide, by decide, by decide, by decide⟩ dL_many_4 (fun E9 M9 hp9 _ _ q9 _ a1 a2 a3 a4 a5 => ?_) (fun r9 M9 sz hp9 => ?_)
  · obtain ⟨h9, rfl, rfl⟩ := hp9
    rcases hf with h0 | h0
    · exact absurd h0 h9
    · subst h0
      refine z_catch (E := "java/lang/IndexOutOfBoundsException") (name := "java/lang/IndexOutOfBoundsException") C [] ⟨0, 9, 12, 21⟩ [] (ht.trans rfl) (fun _ h => nomatch h) (by decide) (by decide) (zWi 599 (by decide +kernel) rfl) (zNi 610 (by decide +kernel) rfl) a1 a2 a3 a4 a5 (fun sz9 => ?_)
      refine zs (fun _ _ => lv_astore_n (lv' := [(3, .ref q9), (0, .ref xa), (1, .int a_), (2, .ref w)]) hx hb dL_many_12 rfl hl (by decide) rfl) (fun ls hl => ?_)
      refine zz (fun _ _ => lv_iconst (v := 1) hx hb dL_many_13 (by decide)) ?_
      exact zcs (by decide) (by decide) (z_iret C hr hlk dL_many_14 ⟨by decide, by simp⟩)
  obtain ⟨rfl, rfl, rfl⟩ := hp9
  refine zst (st' := [.int v, .int 0, .ref w]) rfl ?_
  refine zz (fun _ _ => lv_i2l (v := v.toInt64) hx hb dL_many_7 rfl) ?_
  refine z_last C hw (in_nI (j := 0) rfl (by decide) (by decide)) dL_many_8 ?_
  refine zz (fun _ _ => lv_goto (tgt := 15) hx hb dL_many_9 (by decide)) ?_
  refine zz (fun _ _ => lv_iconst (v := 0) hx hb dL_many_15 (by decide)) ?_
  exact zcs (by decide) (by decide) (z_iret C hr hlk dL_many_16 ⟨rfl, rfl⟩)
set_option maxHeartbeats 2000000 in
set_option maxRecDepth 10000 in
theorem wL_at {l : Launch} {D : va_G} {aC : Nat → ClassId} {b0 sz xa w f : Nat} {v : Int32} {M M0 : ZM} {fs : List Value} {g : Nat → Int64} {a_ : Int32} {b_ : Int32} {c_ : Int32} (hM : CtX l D aC b0 yX8_at cX8_at 5 (some .int) 2 2 12 [.ref xa, .int a_, .int b_, .int c_] M sz (zdx f (some (.int v)) M0) (zxx f M0)) (hf : f = 0 ∨ f = 3 ∨ f = 1) (hxa : M xa = some (.inr (8, fs))) (hw : M0 w = some (.inl (aC 6, 1, .inr (.inl g)))) : CtW l D aC b0 yL_at cL_at 6 (some .int) [(0, 12, 15, 21), (0, 12, 19, 13)] 3 2 12 [.ref xa, .int a_, .int b_, .int c_, .ref w] M sz (zd (some (.int (if f = 0 then 0 else if f = 3 then 1 else 2))) (if f = 0 then zup M0 w (.inl (aC 6, 1, .inr (.inl (vp_updL g 0 v.toInt64)))) else M0)) := by
  refine CtW.of (by decide) (Nat.le_of_ble_eq_true rfl) ?_
  intro p e s m below meth c ls C hr hlk ht hl
  have hl : lv_has ls 6 [(0, .ref xa), (1, .int a_), (2, .int b_), (3, .int c_), (4, .ref w)] := hl
  obtain ⟨hx, hb, -, -, -⟩ := id C
  refine zz (fun _ _ => lv_aload hx hb dL_at_0 (lv_at hl 4 rfl)) ?_
  refine zz (fun _ _ => lv_iconst (v := 0) hx hb dL_at_2 (by decide)) ?_
  refine zz (fun _ _ => lv_aload_n hx hb dL_at_3 rfl (lv_at hl 0 rfl)) ?_
  refine zz (fun _ _ => lv_iload_n hx hb dL_at_4 rfl (lv_at hl 1 rfl)) ?_
  refine zz (fun _ _ => lv_iload_n hx hb dL_at_5 rfl (lv_at hl 2 rfl)) ?_
  refine zz (fun _ _ => lv_iload_n hx hb dL_at_6 rfl (lv_at hl 3 rfl)) ?_
  refine z_callVX (As := [.int a_, .int b_, .int c_]) (rest := [.int 0, .ref w]) C hl.1 lk_L_41 ml_L_41 hM hxa rfl rfl rfl (Nat.le_of_ble_eq_true rfl) ⟨by decide, by decide, by decide, by decide⟩ dL_at_7 (fun E9 M9 hp9 _ _ q9 _ a1 a2 a3 a4 a5 => ?_) (fun r9 M9 sz hp9 => ?_)
  · obtain ⟨h9, rfl, rfl⟩ := hp9
    rcases hf with h0 | h0 | h0
    · exact absurd h0 h9
    · subst h0
      refine z_catch (E := "java/lang/IndexOutOfBoundsException") (name := "java/lang/IndexOutOfBoundsException") C [] ⟨0, 12, 15, 21⟩ [⟨0, 12, 19, 13⟩] (ht.trans rfl) (fun _ h => nomatch h) (by decide) (by decide) (zWi 599 (by decide +kernel) rfl) (zNi 610 (by decide +kernel) rfl) a1 a2 a3 a4 a5 (fun sz9 => ?_)
      refine zs (fun _ _ => lv_astore (lv' := [(5, .ref q9), (0, .ref xa), (1, .int a_), (2, .int b_), (3, .int c_), (4, .ref w)]) hx hb dL_at_15 hl (by decide) rfl) (fun ls hl => ?_)
      refine zz (fun _ _ => lv_iconst (v := 1) hx hb dL_at_17 (by decide)) ?_
      exact zcs (by decide) (by decide) (z_iret C hr hlk dL_at_18 ⟨by decide, by simp⟩)
    · subst h0
      refine z_catch (E := "java/lang/IllegalArgumentException") (name := "java/lang/IllegalArgumentException") C [⟨0, 12, 15, 21⟩] ⟨0, 12, 19, 13⟩ [] (ht.trans rfl) (fun z hz => by
      rcases List.mem_cons.mp hz with rfl | hz
      · exact Or.inr ⟨by decide, "java/lang/IndexOutOfBoundsException", (zWi 599 (by decide +kernel) rfl), by decide⟩
      exact nomatch hz) (by decide) (by decide) (zWi 492 (by decide +kernel) rfl) (zNi 510 (by decide +kernel) rfl) a1 a2 a3 a4 a5 (fun sz9 => ?_)
      refine zs (fun _ _ => lv_astore (lv' := [(5, .ref q9), (0, .ref xa), (1, .int a_), (2, .int b_), (3, .int c_), (4, .ref w)]) hx hb dL_at_19 hl (by decide) rfl) (fun ls hl => ?_)
      refine zz (fun _ _ => lv_iconst (v := 2) hx hb dL_at_21 (by decide)) ?_
      exact zcs (by decide) (by decide) (z_iret C hr hlk dL_at_22 ⟨by decide, by simp⟩)
  obtain ⟨rfl, rfl, rfl⟩ := hp9
  refine zst (st' := [.int v, .int 0, .ref w]) rfl ?_
  refine zz (fun _ _ => lv_i2l (v := v.toInt64) hx hb dL_at_10 rfl) ?_
  refine z_last C hw (in_nI (j := 0) rfl (by decide) (by decide)) dL_at_11 ?_
  refine zz (fun _ _ => lv_goto (tgt := 23) hx hb dL_at_12 (by decide)) ?_
  refine zz (fun _ _ => lv_iconst (v := 0) hx hb dL_at_23 (by decide)) ?_
  exact zcs (by decide) (by decide) (z_iret C hr hlk dL_at_24 ⟨rfl, rfl⟩)
set_option maxHeartbeats 2000000 in
set_option maxRecDepth 10000 in
theorem wL_has {l : Launch} {D : va_G} {aC : Nat → ClassId} {b0 sz xa w f : Nat} {v : Int32} {M M0 : ZM} {fs : List Value} {g : Nat → Int64} {a_ : Int32} {b_ : Int32} {c_ : Int32} {d_ : Int32} (hM : CtX l D aC b0 yX8_has cX8_has 6 (some .boolean) 2 1 6 [.ref xa, .int a_, .int b_, .int c_, .int d_] M sz (zdx f (some (.int v)) M0) (zxx f M0)) (hf : f = 0 ∨ f = 3) (hxa : M xa = some (.inr (8, fs))) (hw : M0 w = some (.inl (aC 6, 1, .inr (.inl g)))) : CtW l D aC b0 yL_has cL_has 7 (some .int) [(0, 21, 24, 21)] 3 1 6 [.ref xa, .int a_, .int b_, .int c_, .int d_, .ref w] M sz (zd (some (.int (if f = 0 then 0 else 1))) (if f = 0 then zup M0 w (.inl (aC 6, 1, .inr (.inl (vp_updL g 0 (if v = 0 then 0 else 1))))) else M0)) := by
  refine CtW.of (by decide) (Nat.le_of_ble_eq_true rfl) ?_
  intro p e s m below meth c ls C hr hlk ht hl
  have hl : lv_has ls 7 [(0, .ref xa), (1, .int a_), (2, .int b_), (3, .int c_), (4, .int d_), (5, .ref w)] := hl
  obtain ⟨hx, hb, -, -, -⟩ := id C
  refine zz (fun _ _ => lv_aload hx hb dL_has_0 (lv_at hl 5 rfl)) ?_
  refine zz (fun _ _ => lv_iconst (v := 0) hx hb dL_has_2 (by decide)) ?_
  refine zz (fun _ _ => lv_aload_n hx hb dL_has_3 rfl (lv_at hl 0 rfl)) ?_
  refine zz (fun _ _ => lv_iload_n hx hb dL_has_4 rfl (lv_at hl 1 rfl)) ?_
  refine zz (fun _ _ => lv_iload_n hx hb dL_has_5 rfl (lv_at hl 2 rfl)) ?_
  refine zz (fun _ _ => lv_iload_n hx hb dL_has_6 rfl (lv_at hl 3 rfl)) ?_
  refine zz (fun _ _ => lv_iload hx hb dL_has_7 (lv_at hl 4 rfl)) ?_
  refine z_callVX (As := [.int a_, .int b_, .int c_, .int d_]) (rest := [.int 0, .ref w]) C hl.1 lk_L_44 ml_L_44 hM hxa rfl rfl rfl (Nat.le_of_ble_eq_true rfl) ⟨by decide, by decide, by decide, by decide⟩ dL_has_9 (fun E9 M9 hp9 _ _ q9 _ a1 a2 a3 a4 a5 => ?_) (fun r9 M9 sz hp9 => ?_)
  · obtain ⟨h9, rfl, rfl⟩ := hp9
    rcases hf with h0 | h0
    · exact absurd h0 h9
    · subst h0
      refine z_catch (E := "java/lang/IndexOutOfBoundsException") (name := "java/lang/IndexOutOfBoundsException") C [] ⟨0, 21, 24, 21⟩ [] (ht.trans rfl) (fun _ h => nomatch h) (by decide) (by decide) (zWi 599 (by decide +kernel) rfl) (zNi 610 (by decide +kernel) rfl) a1 a2 a3 a4 a5 (fun sz9 => ?_)
      refine zs (fun _ _ => lv_astore (lv' := [(6, .ref q9), (0, .ref xa), (1, .int a_), (2, .int b_), (3, .int c_), (4, .int d_), (5, .ref w)]) hx hb dL_has_24 hl (by decide) rfl) (fun ls hl => ?_)
      refine zz (fun _ _ => lv_iconst (v := 1) hx hb dL_has_26 (by decide)) ?_
      exact zcs (by decide) (by decide) (z_iret C hr hlk dL_has_27 ⟨by decide, by simp⟩)
  obtain ⟨rfl, rfl, rfl⟩ := hp9
  refine zst (st' := [.int v, .int 0, .ref w]) rfl ?_
  refine zb (fun _ _ => lv_if_eq (tgt := 19) hx hb dL_has_12 (by decide)) (fun c_1 => ?_) (fun c_1 => ?_)
  · refine zz (fun _ _ => lv_lconst (v := 0) hx hb dL_has_19 (by decide)) ?_
    refine z_last C hw (in_nI (j := 0) rfl (by decide) (by decide)) dL_has_20 ?_
    refine zz (fun _ _ => lv_goto (tgt := 28) hx hb dL_has_21 (by decide)) ?_
    refine zz (fun _ _ => lv_iconst (v := 0) hx hb dL_has_28 (by decide)) ?_
    exact zcs (by decide) (by decide) (z_iret C hr hlk dL_has_29 ⟨rfl, by simp [c_1]⟩)
  · refine zz (fun _ _ => lv_lconst (v := 1) hx hb dL_has_15 (by decide)) ?_
    refine zz (fun _ _ => lv_goto (tgt := 20) hx hb dL_has_16 (by decide)) ?_
    refine z_last C hw (in_nI (j := 0) rfl (by decide) (by decide)) dL_has_20 ?_
    refine zz (fun _ _ => lv_goto (tgt := 28) hx hb dL_has_21 (by decide)) ?_
    refine zz (fun _ _ => lv_iconst (v := 0) hx hb dL_has_28 (by decide)) ?_
    exact zcs (by decide) (by decide) (z_iret C hr hlk dL_has_29 ⟨rfl, by simp [c_1]⟩)
set_option maxHeartbeats 2000000 in
set_option maxRecDepth 10000 in
theorem wL_changed {l : Launch} {D : va_G} {aC : Nat → ClassId} {b0 sz xa w f : Nat} {v : Int32} {M M0 : ZM} {fs : List Value} {g : Nat → Int64} {a_ : Int32} {b_ : Int32} (hM : CtX l D aC b0 yX8_changed cX8_changed 3 (some .int) 1 1 6 [.ref xa, .int a_, .int b_] M sz (zdx f (some (.int v)) M0) (zxx f M0)) (hf : f = 0 ∨ f = 3 ∨ f = 1) (hxa : M xa = some (.inr (8, fs))) (hw : M0 w = some (.inl (aC 6, 1, .inr (.inl g)))) : CtW l D aC b0 yL_changed cL_changed 5 (some .int) [(0, 10, 13, 21), (0, 10, 17, 13)] 2 1 6 [.ref xa, .int a_, .int b_, .ref w] M sz (zd (some (.int (if f = 0 then 0 else if f = 3 then 1 else 2))) (if f = 0 then zup M0 w (.inl (aC 6, 1, .inr (.inl (vp_updL g 0 v.toInt64)))) else M0)) := by
  refine CtW.of (by decide) (Nat.le_of_ble_eq_true rfl) ?_
  intro p e s m below meth c ls C hr hlk ht hl
  have hl : lv_has ls 5 [(0, .ref xa), (1, .int a_), (2, .int b_), (3, .ref w)] := hl
  obtain ⟨hx, hb, -, -, -⟩ := id C
  refine zz (fun _ _ => lv_aload_n hx hb dL_changed_0 rfl (lv_at hl 3 rfl)) ?_
  refine zz (fun _ _ => lv_iconst (v := 0) hx hb dL_changed_1 (by decide)) ?_
  refine zz (fun _ _ => lv_aload_n hx hb dL_changed_2 rfl (lv_at hl 0 rfl)) ?_
  refine zz (fun _ _ => lv_iload_n hx hb dL_changed_3 rfl (lv_at hl 1 rfl)) ?_
  refine zz (fun _ _ => lv_iload_n hx hb dL_changed_4 rfl (lv_at hl 2 rfl)) ?_
  refine z_callVX (As := [.int a_, .int b_]) (rest := [.int 0, .ref w]) C hl.1 lk_L_48 ml_L_48 hM hxa rfl rfl rfl (Nat.le_of_ble_eq_true rfl) ⟨by decide, by decide, by decide, by decide⟩ dL_changed_5 (fun E9 M9 hp9 _ _ q9 _ a1 a2 a3 a4 a5 => ?_) (fun r9 M9 sz hp9 => ?_)
  · obtain ⟨h9, rfl, rfl⟩ := hp9
    rcases hf with h0 | h0 | h0
    · exact absurd h0 h9
    · subst h0
      refine z_catch (E := "java/lang/IndexOutOfBoundsException") (name := "java/lang/IndexOutOfBoundsException") C [] ⟨0, 10, 13, 21⟩ [⟨0, 10, 17, 13⟩] (ht.trans rfl) (fun _ h => nomatch h) (by decide) (by decide) (zWi 599 (by decide +kernel) rfl) (zNi 610 (by decide +kernel) rfl) a1 a2 a3 a4 a5 (fun sz9 => ?_)
      refine zs (fun _ _ => lv_astore (lv' := [(4, .ref q9), (0, .ref xa), (1, .int a_), (2, .int b_), (3, .ref w)]) hx hb dL_changed_13 hl (by decide) rfl) (fun ls hl => ?_)
      refine zz (fun _ _ => lv_iconst (v := 1) hx hb dL_changed_15 (by decide)) ?_
      exact zcs (by decide) (by decide) (z_iret C hr hlk dL_changed_16 ⟨by decide, by simp⟩)
    · subst h0
      refine z_catch (E := "java/lang/IllegalArgumentException") (name := "java/lang/IllegalArgumentException") C [⟨0, 10, 13, 21⟩] ⟨0, 10, 17, 13⟩ [] (ht.trans rfl) (fun z hz => by
      rcases List.mem_cons.mp hz with rfl | hz
      · exact Or.inr ⟨by decide, "java/lang/IndexOutOfBoundsException", (zWi 599 (by decide +kernel) rfl), by decide⟩
      exact nomatch hz) (by decide) (by decide) (zWi 492 (by decide +kernel) rfl) (zNi 510 (by decide +kernel) rfl) a1 a2 a3 a4 a5 (fun sz9 => ?_)
      refine zs (fun _ _ => lv_astore (lv' := [(4, .ref q9), (0, .ref xa), (1, .int a_), (2, .int b_), (3, .ref w)]) hx hb dL_changed_17 hl (by decide) rfl) (fun ls hl => ?_)
      refine zz (fun _ _ => lv_iconst (v := 2) hx hb dL_changed_19 (by decide)) ?_
      exact zcs (by decide) (by decide) (z_iret C hr hlk dL_changed_20 ⟨by decide, by simp⟩)
  obtain ⟨rfl, rfl, rfl⟩ := hp9
  refine zst (st' := [.int v, .int 0, .ref w]) rfl ?_
  refine zz (fun _ _ => lv_i2l (v := v.toInt64) hx hb dL_changed_8 rfl) ?_
  refine z_last C hw (in_nI (j := 0) rfl (by decide) (by decide)) dL_changed_9 ?_
  refine zz (fun _ _ => lv_goto (tgt := 21) hx hb dL_changed_10 (by decide)) ?_
  refine zz (fun _ _ => lv_iconst (v := 0) hx hb dL_changed_21 (by decide)) ?_
  exact zcs (by decide) (by decide) (z_iret C hr hlk dL_changed_22 ⟨rfl, rfl⟩)
set_option maxHeartbeats 2000000 in
set_option maxRecDepth 10000 in
theorem wL_solutions {l : Launch} {D : va_G} {aC : Nat → ClassId} {b0 sz xa w f : Nat} {v : Int32} {M M0 : ZM} {fs : List Value} {g : Nat → Int64} {a_ : Int32} (hM : CtX l D aC b0 yX8_solutions cX8_solutions 2 (some .int) 1 1 6 [.ref xa, .int a_] M sz (zdx f (some (.int v)) M0) (zxx f M0)) (hf : f = 0 ∨ f = 3) (hxa : M xa = some (.inr (8, fs))) (hw : M0 w = some (.inl (aC 6, 1, .inr (.inl g)))) : CtW l D aC b0 yL_solutions cL_solutions 4 (some .int) [(0, 9, 12, 21)] 2 1 6 [.ref xa, .int a_, .ref w] M sz (zd (some (.int (if f = 0 then 0 else 1))) (if f = 0 then zup M0 w (.inl (aC 6, 1, .inr (.inl (vp_updL g 0 v.toInt64)))) else M0)) := by
  refine CtW.of (by decide) (Nat.le_of_ble_eq_true rfl) ?_
  intro p e s m below meth c ls C hr hlk ht hl
  have hl : lv_has ls 4 [(0, .ref xa), (1, .int a_), (2, .ref w)] := hl
  obtain ⟨hx, hb, -, -, -⟩ := id C
  refine zz (fun _ _ => lv_aload_n hx hb dL_solutions_0 rfl (lv_at hl 2 rfl)) ?_
  refine zz (fun _ _ => lv_iconst (v := 0) hx hb dL_solutions_1 (by decide)) ?_
  refine zz (fun _ _ => lv_aload_n hx hb dL_solutions_2 rfl (lv_at hl 0 rfl)) ?_
  refine zz (fun _ _ => lv_iload_n hx hb dL_solutions_3 rfl (lv_at hl 1 rfl)) ?_
  refine z_callVX (As := [.int a_]) (rest := [.int 0, .ref w]) C hl.1 lk_L_52 ml_L_52 hM hxa rfl rfl rfl (Nat.le_of_ble_eq_true rfl) ⟨by decide, by decide, by decide, by decide⟩ dL_solutions_4 (fun E9 M9 hp9 _ _ q9 _ a1 a2 a3 a4 a5 => ?_) (fun r9 M9 sz hp9 => ?_)
  · obtain ⟨h9, rfl, rfl⟩ := hp9
    rcases hf with h0 | h0
    · exact absurd h0 h9
    · subst h0
      refine z_catch (E := "java/lang/IndexOutOfBoundsException") (name := "java/lang/IndexOutOfBoundsException") C [] ⟨0, 9, 12, 21⟩ [] (ht.trans rfl) (fun _ h => nomatch h) (by decide) (by decide) (zWi 599 (by decide +kernel) rfl) (zNi 610 (by decide +kernel) rfl) a1 a2 a3 a4 a5 (fun sz9 => ?_)
      refine zs (fun _ _ => lv_astore_n (lv' := [(3, .ref q9), (0, .ref xa), (1, .int a_), (2, .ref w)]) hx hb dL_solutions_12 rfl hl (by decide) rfl) (fun ls hl => ?_)
      refine zz (fun _ _ => lv_iconst (v := 1) hx hb dL_solutions_13 (by decide)) ?_
      exact zcs (by decide) (by decide) (z_iret C hr hlk dL_solutions_14 ⟨by decide, by simp⟩)
  obtain ⟨rfl, rfl, rfl⟩ := hp9
  refine zst (st' := [.int v, .int 0, .ref w]) rfl ?_
  refine zz (fun _ _ => lv_i2l (v := v.toInt64) hx hb dL_solutions_7 rfl) ?_
  refine z_last C hw (in_nI (j := 0) rfl (by decide) (by decide)) dL_solutions_8 ?_
  refine zz (fun _ _ => lv_goto (tgt := 15) hx hb dL_solutions_9 (by decide)) ?_
  refine zz (fun _ _ => lv_iconst (v := 0) hx hb dL_solutions_15 (by decide)) ?_
  exact zcs (by decide) (by decide) (z_iret C hr hlk dL_solutions_16 ⟨rfl, rfl⟩)
set_option maxHeartbeats 2000000 in
set_option maxRecDepth 10000 in
theorem wL_told {l : Launch} {D : va_G} {aC : Nat → ClassId} {b0 sz xa w f : Nat} {v : Int32} {M M0 : ZM} {fs : List Value} {g : Nat → Int64} {a_ : Int32} (hM : CtX l D aC b0 yX8_told cX8_told 2 (some .int) 1 1 6 [.ref xa, .int a_] M sz (zdx f (some (.int v)) M0) (zxx f M0)) (hf : f = 0 ∨ f = 1) (hxa : M xa = some (.inr (8, fs))) (hw : M0 w = some (.inl (aC 6, 1, .inr (.inl g)))) : CtW l D aC b0 yL_told cL_told 4 (some .int) [(0, 9, 12, 13)] 2 1 6 [.ref xa, .int a_, .ref w] M sz (zd (some (.int (if f = 0 then 0 else 1))) (if f = 0 then zup M0 w (.inl (aC 6, 1, .inr (.inl (vp_updL g 0 v.toInt64)))) else M0)) := by
  refine CtW.of (by decide) (Nat.le_of_ble_eq_true rfl) ?_
  intro p e s m below meth c ls C hr hlk ht hl
  have hl : lv_has ls 4 [(0, .ref xa), (1, .int a_), (2, .ref w)] := hl
  obtain ⟨hx, hb, -, -, -⟩ := id C
  refine zz (fun _ _ => lv_aload_n hx hb dL_told_0 rfl (lv_at hl 2 rfl)) ?_
  refine zz (fun _ _ => lv_iconst (v := 0) hx hb dL_told_1 (by decide)) ?_
  refine zz (fun _ _ => lv_aload_n hx hb dL_told_2 rfl (lv_at hl 0 rfl)) ?_
  refine zz (fun _ _ => lv_iload_n hx hb dL_told_3 rfl (lv_at hl 1 rfl)) ?_
  refine z_callVX (As := [.int a_]) (rest := [.int 0, .ref w]) C hl.1 lk_L_55 ml_L_55 hM hxa rfl rfl rfl (Nat.le_of_ble_eq_true rfl) ⟨by decide, by decide, by decide, by decide⟩ dL_told_4 (fun E9 M9 hp9 _ _ q9 _ a1 a2 a3 a4 a5 => ?_) (fun r9 M9 sz hp9 => ?_)
  · obtain ⟨h9, rfl, rfl⟩ := hp9
    rcases hf with h0 | h0
    · exact absurd h0 h9
    · subst h0
      refine z_catch (E := "java/lang/IllegalArgumentException") (name := "java/lang/IllegalArgumentException") C [] ⟨0, 9, 12, 13⟩ [] (ht.trans rfl) (fun _ h => nomatch h) (by decide) (by decide) (zWi 492 (by decide +kernel) rfl) (zNi 510 (by decide +kernel) rfl) a1 a2 a3 a4 a5 (fun sz9 => ?_)
      refine zs (fun _ _ => lv_astore_n (lv' := [(3, .ref q9), (0, .ref xa), (1, .int a_), (2, .ref w)]) hx hb dL_told_12 rfl hl (by decide) rfl) (fun ls hl => ?_)
      refine zz (fun _ _ => lv_iconst (v := 1) hx hb dL_told_13 (by decide)) ?_
      exact zcs (by decide) (by decide) (z_iret C hr hlk dL_told_14 ⟨by decide, by simp⟩)
  obtain ⟨rfl, rfl, rfl⟩ := hp9
  refine zst (st' := [.int v, .int 0, .ref w]) rfl ?_
  refine zz (fun _ _ => lv_i2l (v := v.toInt64) hx hb dL_told_7 rfl) ?_
  refine z_last C hw (in_nI (j := 0) rfl (by decide) (by decide)) dL_told_8 ?_
  refine zz (fun _ _ => lv_goto (tgt := 15) hx hb dL_told_9 (by decide)) ?_
  refine zz (fun _ _ => lv_iconst (v := 0) hx hb dL_told_15 (by decide)) ?_
  exact zcs (by decide) (by decide) (z_iret C hr hlk dL_told_16 ⟨rfl, rfl⟩)
end
section
def fX9_isBefore (A : Nat → Nat → Int32) (a_ : Int32) (b_ : Int32) : Int32 := if A 20 (Int32.toNatClampNeg (a_)) = A 20 (Int32.toNatClampNeg (b_)) then if A 21 (Int32.toNatClampNeg (a_)) = A 21 (Int32.toNatClampNeg (b_)) then if A 22 (Int32.toNatClampNeg (b_)) ≤ A 22 (Int32.toNatClampNeg (a_)) then (0) else (1) else if A 21 (Int32.toNatClampNeg (b_)) ≤ A 21 (Int32.toNatClampNeg (a_)) then (0) else (1) else if A 20 (Int32.toNatClampNeg (b_)) ≤ A 20 (Int32.toNatClampNeg (a_)) then (0) else (1)
theorem nbfX9_isBefore {A : Nat → Nat → Int32} {a_ : Int32} {b_ : Int32} : narrow .boolean (.int (fX9_isBefore A a_ b_)) = .int (fX9_isBefore A a_ b_) := by
  unfold fX9_isBefore
  repeat' split
  all_goals try dsimp only
  all_goals first | rfl | assumption
set_option maxHeartbeats 1000000 in
set_option maxRecDepth 10000 in
theorem ctX9_isBefore {l : Launch} {D : va_G} {aC : Nat → ClassId} {b0 sz : Nat} {r : Nat} {v : Nat → Int32} {A : Nat → Nat → Int32} {R : ZM} {a_ : Int32} {b_ : Int32} (hia : vp_in a_ 120) (hib : vp_in b_ 120) : Ct l D aC b0 yX9_isBefore cX9_isBefore 3 (some .boolean) 0 0 0 [.ref (r), .int (a_), .int (b_)] (mm aC r v A R) sz (zd (some (.int (fX9_isBefore A a_ b_))) (mm aC r v A R)) := by
  refine Ct.of (by decide) (Nat.le_of_ble_eq_true rfl) ?_
  intro p e s m below meth c ls C hr hlk hnm hl
  have hl : lv_has ls 3 [(0, .ref (r)), (1, .int (a_)), (2, .int (b_))] := hl
  obtain ⟨hx, hb, -, -, -⟩ := id C
  refine zz (fun _ _ => lv_aload_n hx hb dX9_isBefore_0 rfl (lv_at hl 0 rfl)) ?_
  refine z_get (v := .ref (r + 20)) C fd_X9_68 rm_0 rfl dX9_isBefore_1 ?_
  refine zz (fun _ _ => lv_iload_n hx hb dX9_isBefore_4 rfl (lv_at hl 1 rfl)) ?_
  refine z_iald (f := A 20) C rm_20 (by first | assumption | (apply vp_in_nI <;> omega)) dX9_isBefore_5 ?_
  refine zz (fun _ _ => lv_aload_n hx hb dX9_isBefore_6 rfl (lv_at hl 0 rfl)) ?_
  refine z_get (v := .ref (r + 20)) C fd_X9_68 rm_0 rfl dX9_isBefore_7 ?_
  refine zz (fun _ _ => lv_iload_n hx hb dX9_isBefore_10 rfl (lv_at hl 2 rfl)) ?_
  refine z_iald (f := A 20) C rm_20 (by first | assumption | (apply vp_in_nI <;> omega)) dX9_isBefore_11 ?_
  refine zb (fun _ _ => lv_icmp_eq (tgt := 36) hx hb dX9_isBefore_12 (by decide)) (fun c_1 => ?_) (fun c_1 => ?_)
  · refine zz (fun _ _ => lv_aload_n hx hb dX9_isBefore_36 rfl (lv_at hl 0 rfl)) ?_
    refine z_get (v := .ref (r + 21)) C fd_X9_71 rm_0 rfl dX9_isBefore_37 ?_
    refine zz (fun _ _ => lv_iload_n hx hb dX9_isBefore_40 rfl (lv_at hl 1 rfl)) ?_
    refine z_iald (f := A 21) C rm_21 (by first | assumption | (apply vp_in_nI <;> omega)) dX9_isBefore_41 ?_
    refine zz (fun _ _ => lv_aload_n hx hb dX9_isBefore_42 rfl (lv_at hl 0 rfl)) ?_
    refine z_get (v := .ref (r + 21)) C fd_X9_71 rm_0 rfl dX9_isBefore_43 ?_
    refine zz (fun _ _ => lv_iload_n hx hb dX9_isBefore_46 rfl (lv_at hl 2 rfl)) ?_
    refine z_iald (f := A 21) C rm_21 (by first | assumption | (apply vp_in_nI <;> omega)) dX9_isBefore_47 ?_
    refine zb (fun _ _ => lv_icmp_eq (tgt := 74) hx hb dX9_isBefore_48 (by decide)) (fun c_2 => ?_) (fun c_2 => ?_)
    · refine zz (fun _ _ => lv_aload_n hx hb dX9_isBefore_74 rfl (lv_at hl 0 rfl)) ?_
      refine z_get (v := .ref (r + 22)) C fd_X9_74 rm_0 rfl dX9_isBefore_75 ?_
      refine zz (fun _ _ => lv_iload_n hx hb dX9_isBefore_78 rfl (lv_at hl 1 rfl)) ?_
      refine z_iald (f := A 22) C rm_22 (by first | assumption | (apply vp_in_nI <;> omega)) dX9_isBefore_79 ?_
      refine zz (fun _ _ => lv_aload_n hx hb dX9_isBefore_80 rfl (lv_at hl 0 rfl)) ?_
      refine z_get (v := .ref (r + 22)) C fd_X9_74 rm_0 rfl dX9_isBefore_81 ?_
      refine zz (fun _ _ => lv_iload_n hx hb dX9_isBefore_84 rfl (lv_at hl 2 rfl)) ?_
      refine z_iald (f := A 22) C rm_22 (by first | assumption | (apply vp_in_nI <;> omega)) dX9_isBefore_85 ?_
      refine zb (fun _ _ => lv_icmp_ge (tgt := 93) hx hb dX9_isBefore_86 (by decide)) (fun c_3 => ?_) (fun c_3 => ?_)
      · refine zz (fun _ _ => lv_iconst (v := 0) hx hb dX9_isBefore_93 (by decide)) ?_
        exact z_zret C hr rfl hlk dX9_isBefore_94 (by simp only [zd, fX9_isBefore, if_pos c_1, if_pos c_2, if_pos c_3, and_self])
      · refine zz (fun _ _ => lv_iconst (v := 1) hx hb dX9_isBefore_89 (by decide)) ?_
        refine zz (fun _ _ => lv_goto (tgt := 94) hx hb dX9_isBefore_90 (by decide)) ?_
        exact z_zret C hr rfl hlk dX9_isBefore_94 (by simp only [zd, fX9_isBefore, if_pos c_1, if_pos c_2, if_neg c_3, and_self])
    · refine zz (fun _ _ => lv_aload_n hx hb dX9_isBefore_51 rfl (lv_at hl 0 rfl)) ?_
      refine z_get (v := .ref (r + 21)) C fd_X9_71 rm_0 rfl dX9_isBefore_52 ?_
      refine zz (fun _ _ => lv_iload_n hx hb dX9_isBefore_55 rfl (lv_at hl 1 rfl)) ?_
      refine z_iald (f := A 21) C rm_21 (by first | assumption | (apply vp_in_nI <;> omega)) dX9_isBefore_56 ?_
      refine zz (fun _ _ => lv_aload_n hx hb dX9_isBefore_57 rfl (lv_at hl 0 rfl)) ?_
      refine z_get (v := .ref (r + 21)) C fd_X9_71 rm_0 rfl dX9_isBefore_58 ?_
      refine zz (fun _ _ => lv_iload_n hx hb dX9_isBefore_61 rfl (lv_at hl 2 rfl)) ?_
      refine z_iald (f := A 21) C rm_21 (by first | assumption | (apply vp_in_nI <;> omega)) dX9_isBefore_62 ?_
      refine zb (fun _ _ => lv_icmp_ge (tgt := 70) hx hb dX9_isBefore_63 (by decide)) (fun c_4 => ?_) (fun c_4 => ?_)
      · refine zz (fun _ _ => lv_iconst (v := 0) hx hb dX9_isBefore_70 (by decide)) ?_
        refine zz (fun _ _ => lv_goto (tgt := 94) hx hb dX9_isBefore_71 (by decide)) ?_
        exact z_zret C hr rfl hlk dX9_isBefore_94 (by simp only [zd, fX9_isBefore, if_pos c_1, if_neg c_2, if_pos c_4, and_self])
      · refine zz (fun _ _ => lv_iconst (v := 1) hx hb dX9_isBefore_66 (by decide)) ?_
        refine zz (fun _ _ => lv_goto (tgt := 94) hx hb dX9_isBefore_67 (by decide)) ?_
        exact z_zret C hr rfl hlk dX9_isBefore_94 (by simp only [zd, fX9_isBefore, if_pos c_1, if_neg c_2, if_neg c_4, and_self])
  · refine zz (fun _ _ => lv_aload_n hx hb dX9_isBefore_15 rfl (lv_at hl 0 rfl)) ?_
    refine z_get (v := .ref (r + 20)) C fd_X9_68 rm_0 rfl dX9_isBefore_16 ?_
    refine zz (fun _ _ => lv_iload_n hx hb dX9_isBefore_19 rfl (lv_at hl 1 rfl)) ?_
    refine z_iald (f := A 20) C rm_20 (by first | assumption | (apply vp_in_nI <;> omega)) dX9_isBefore_20 ?_
    refine zz (fun _ _ => lv_aload_n hx hb dX9_isBefore_21 rfl (lv_at hl 0 rfl)) ?_
    refine z_get (v := .ref (r + 20)) C fd_X9_68 rm_0 rfl dX9_isBefore_22 ?_
    refine zz (fun _ _ => lv_iload_n hx hb dX9_isBefore_25 rfl (lv_at hl 2 rfl)) ?_
    refine z_iald (f := A 20) C rm_20 (by first | assumption | (apply vp_in_nI <;> omega)) dX9_isBefore_26 ?_
    refine zb (fun _ _ => lv_icmp_ge (tgt := 34) hx hb dX9_isBefore_27 (by decide)) (fun c_5 => ?_) (fun c_5 => ?_)
    · refine zz (fun _ _ => lv_iconst (v := 0) hx hb dX9_isBefore_34 (by decide)) ?_
      exact z_zret C hr rfl hlk dX9_isBefore_35 (by simp only [zd, fX9_isBefore, if_neg c_1, if_pos c_5, and_self])
    · refine zz (fun _ _ => lv_iconst (v := 1) hx hb dX9_isBefore_30 (by decide)) ?_
      refine zz (fun _ _ => lv_goto (tgt := 35) hx hb dX9_isBefore_31 (by decide)) ?_
      exact z_zret C hr rfl hlk dX9_isBefore_35 (by simp only [zd, fX9_isBefore, if_neg c_1, if_neg c_5, and_self])
theorem isBefore_irr (A : Nat → Nat → Int32) (a : Int32) : fX9_isBefore A a a = 0 := by
  unfold fX9_isBefore
  simp
def stX9_lineUp_7 (A : Nat → Nat → Int32) (a_ : Int32) (i1_ : Int32) : Nat → Int32
  | 0 => (i1_)
  | j + 1 => if A 19 (Int32.toNatClampNeg (nI j)) = a_ then (((stX9_lineUp_7 A a_ i1_ j)) + (1)) else (((stX9_lineUp_7 A a_ i1_ j)) + (0))
set_option maxHeartbeats 2000000 in
set_option maxRecDepth 10000 in
theorem lpX9_lineUp_7 {p : Program} {l : Launch} {e : Env} {Rm : Room} {s : State} {m : MethodId} {args : Array Value} {below : List Frame} {meth : Method} {c : Code} {D : va_G} {aC : Nat → ClassId} {b0 cells slots : Nat} {Q : State → Prop} {r : Nat} {v : Nat → Int32} {A : Nat → Nat → Int32} {R : ZM} {a_ : Int32} {i1_ : Int32} {N_ : Nat} (C : zC p l s m c D aC b0 RX9 cX9_lineUp 5) (hNb : v 20 = nI N_) (hN2 : N_ ≤ 120) (hNl : N_ < 2 ^ 31) :
    ∀ (d j : Nat), j + d = N_ → ∀ (sz : Nat) (ls : Array Slot), lv_has ls 5 [(0, .ref (r)), (1, .int (a_)), (2, .int (nI j))] → (∀ (sz : Nat) (ls : Array Slot), lv_has ls 5 [(0, .ref (r)), (1, .int (a_)), (2, .int (nI N_))] → Z p l e Rm s m args below meth c D b0 (mm aC r (upd v 47 (stX9_lineUp_7 A a_ i1_ N_)) A R) sz cells slots Q (F0 m 45 ls [])) → Z p l e Rm s m args below meth c D b0 (mm aC r (upd v 47 (stX9_lineUp_7 A a_ i1_ j)) A R) sz cells slots Q (F0 m 7 ls []) := by
  obtain ⟨hx, hb, -, -, -⟩ := id C
  intro d
  induction d with
  | zero =>
    intro j hj0 sz ls hl K
    refine zz (fun _ _ => lv_iload_n hx hb dX9_lineUp_7 rfl (lv_at hl 2 rfl)) ?_
    refine zz (fun _ _ => lv_aload_n hx hb dX9_lineUp_8 rfl (lv_at hl 0 rfl)) ?_
    refine z_get (v := .int (v 20)) C fd_X9_160 rm_0 rfl dX9_lineUp_9 ?_
    refine zb (fun _ _ => lv_icmp_ge (tgt := 45) hx hb dX9_lineUp_12 (by decide)) (fun c_1 => ?_) (fun c_1 => ?_)
    · obtain rfl := fl_eq (j := j) (N := N_) hNb (by omega) hNl c_1
      exact K _ _ (lv_sub hl [0, 1, 2] rfl)
    · exact absurd (fl_lt (j := j) (N := N_) hNb (by omega) hNl c_1) (by omega)
  | succ d ih =>
    intro j hj0 sz ls hl K
    refine zz (fun _ _ => lv_iload_n hx hb dX9_lineUp_7 rfl (lv_at hl 2 rfl)) ?_
    refine zz (fun _ _ => lv_aload_n hx hb dX9_lineUp_8 rfl (lv_at hl 0 rfl)) ?_
    refine z_get (v := .int (v 20)) C fd_X9_160 rm_0 rfl dX9_lineUp_9 ?_
    refine zb (fun _ _ => lv_icmp_ge (tgt := 45) hx hb dX9_lineUp_12 (by decide)) (fun c_1 => ?_) (fun c_1 => ?_)
    · obtain rfl := fl_eq (j := j) (N := N_) hNb (by omega) hNl c_1
      exact K _ _ (lv_sub hl [0, 1, 2] rfl)
    · have hj9 : j < N_ := fl_lt hNb (by omega) hNl c_1
      refine zz (fun _ _ => lv_aload_n hx hb dX9_lineUp_15 rfl (lv_at hl 0 rfl)) ?_
      refine zz (fun _ _ => lv_dup hx hb dX9_lineUp_16 rfl) ?_
      refine z_get (v := .int ((stX9_lineUp_7 A a_ i1_ j))) C fd_X9_174 rm_0 rfl dX9_lineUp_17 ?_
      refine zz (fun _ _ => lv_aload_n hx hb dX9_lineUp_20 rfl (lv_at hl 0 rfl)) ?_
      refine z_get (v := .ref (r + 19)) C fd_X9_65 rm_0 rfl dX9_lineUp_21 ?_
      refine zz (fun _ _ => lv_iload_n hx hb dX9_lineUp_24 rfl (lv_at hl 2 rfl)) ?_
      refine z_iald (f := A 19) C rm_19 (in_nI (j := j) rfl (by omega) (by decide)) dX9_lineUp_25 ?_
      refine zz (fun _ _ => lv_iload_n hx hb dX9_lineUp_26 rfl (lv_at hl 1 rfl)) ?_
      refine zbn (fun _ _ => lv_icmp_ne (tgt := 34) hx hb dX9_lineUp_27 (by decide)) (fun c_2 => ?_) (fun c_2 => ?_)
      · refine zz (fun _ _ => lv_iconst (v := 0) hx hb dX9_lineUp_34 (by decide)) ?_
        refine zz (fun _ _ => lv_iadd hx hb dX9_lineUp_35) ?_
        refine z_put C fp_X9_174 (fun h => by cases h) rm_0 (Nat.le_of_ble_eq_true rfl) rfl rfl dX9_lineUp_36 ?_
        refine zeq wm_f47 ?_
        refine zeq (M' := (mm aC r (upd v 47 (((stX9_lineUp_7 A a_ i1_ j)) + (0))) A R)) (by rw [upd_upd]) ?_
        refine zs (fun _ _ => lv_iinc (v := nI j + 1) (lv' := [(2, .int (nI j + 1)), (0, .ref (r)), (1, .int (a_))]) hx hb dX9_lineUp_39 hl (k := 2) rfl rfl (by decide) rfl) (fun ls hl => ?_)
        refine zz (fun _ _ => lv_goto (tgt := 7) hx hb dX9_lineUp_42 (by decide)) ?_
        have hI := ih (j + 1) (by omega)
        simp only [stX9_lineUp_7, if_neg c_1, if_neg c_2] at hI
        have hl := lv_sub hl [1, 2, 0] rfl
        simp only [nI_1] at hl
        exact hI _ _ hl K
      · refine zz (fun _ _ => lv_iconst (v := 1) hx hb dX9_lineUp_30 (by decide)) ?_
        refine zz (fun _ _ => lv_goto (tgt := 35) hx hb dX9_lineUp_31 (by decide)) ?_
        refine zz (fun _ _ => lv_iadd hx hb dX9_lineUp_35) ?_
        refine z_put C fp_X9_174 (fun h => by cases h) rm_0 (Nat.le_of_ble_eq_true rfl) rfl rfl dX9_lineUp_36 ?_
        refine zeq wm_f47 ?_
        refine zeq (M' := (mm aC r (upd v 47 (((stX9_lineUp_7 A a_ i1_ j)) + (1))) A R)) (by rw [upd_upd]) ?_
        refine zs (fun _ _ => lv_iinc (v := nI j + 1) (lv' := [(2, .int (nI j + 1)), (0, .ref (r)), (1, .int (a_))]) hx hb dX9_lineUp_39 hl (k := 2) rfl rfl (by decide) rfl) (fun ls hl => ?_)
        refine zz (fun _ _ => lv_goto (tgt := 7) hx hb dX9_lineUp_42 (by decide)) ?_
        have hI := ih (j + 1) (by omega)
        simp only [stX9_lineUp_7, if_neg c_1, if_pos c_2] at hI
        have hl := lv_sub hl [1, 2, 0] rfl
        simp only [nI_1] at hl
        exact hI _ _ hl K
def stX9_lineUp_70 (A : Nat → Nat → Int32) (k9 : Nat) (a_ : Int32) (i1_ : Int32) : Nat → Int32
  | 0 => (i1_)
  | j + 1 => if A 19 (Int32.toNatClampNeg (nI j)) = a_ then if (fX9_isBefore A (nI j) (nI k9)) = 0 then (((stX9_lineUp_70 A k9 a_ i1_ j)) + (0)) else (((stX9_lineUp_70 A k9 a_ i1_ j)) + (1)) else (((stX9_lineUp_70 A k9 a_ i1_ j)) + (0))
set_option maxHeartbeats 2000000 in
set_option maxRecDepth 10000 in
theorem lpX9_lineUp_70 {p : Program} {l : Launch} {e : Env} {s : State} {m : MethodId} {args : Array Value} {below : List Frame} {meth : Method} {c : Code} {D : va_G} {aC : Nat → ClassId} {b0 : Nat} {Q : State → Prop} {r : Nat} {v : Nat → Int32} {A : Nat → Nat → Int32} {R : ZM} {k9 : Nat} {a_ : Int32} {i1_ : Int32} {N_ : Nat} (C : zC p l s m c D aC b0 RX9 cX9_lineUp 5) (hk9 : k9 < 120) (hNb : v 20 = nI N_) (hN2 : N_ ≤ 120) (hNl : N_ < 2 ^ 31) :
    ∀ (d j : Nat), j + d = N_ → ∀ (sz : Nat) (ls : Array Slot), lv_has ls 5 [(0, .ref (r)), (1, .int (a_)), (2, .int (nI k9)), (3, .int ((stX9_lineUp_70 A k9 a_ i1_ j))), (4, .int (nI j))] → (∀ (sz : Nat) (ls : Array Slot), lv_has ls 5 [(0, .ref (r)), (1, .int (a_)), (2, .int (nI k9)), (3, .int ((stX9_lineUp_70 A k9 a_ i1_ N_))), (4, .int (nI N_))] → Z p l e (rz 1 0 0) s m args below meth c D b0 (mm aC r v A R) sz 0 0 Q (F0 m 114 ls [])) → Z p l e (rz 1 0 0) s m args below meth c D b0 (mm aC r v A R) sz 0 0 Q (F0 m 70 ls []) := by
  obtain ⟨hx, hb, -, -, -⟩ := id C
  intro d
  induction d with
  | zero =>
    intro j hj0 sz ls hl K
    refine zz (fun _ _ => lv_iload hx hb dX9_lineUp_70 (lv_at hl 4 rfl)) ?_
    refine zz (fun _ _ => lv_aload_n hx hb dX9_lineUp_72 rfl (lv_at hl 0 rfl)) ?_
    refine z_get (v := .int (v 20)) C fd_X9_160 rm_0 rfl dX9_lineUp_73 ?_
    refine zb (fun _ _ => lv_icmp_ge (tgt := 114) hx hb dX9_lineUp_76 (by decide)) (fun c_1 => ?_) (fun c_1 => ?_)
    · obtain rfl := fl_eq (j := j) (N := N_) hNb (by omega) hNl c_1
      exact K _ _ (lv_sub hl [0, 1, 2, 3, 4] rfl)
    · exact absurd (fl_lt (j := j) (N := N_) hNb (by omega) hNl c_1) (by omega)
  | succ d ih =>
    intro j hj0 sz ls hl K
    refine zz (fun _ _ => lv_iload hx hb dX9_lineUp_70 (lv_at hl 4 rfl)) ?_
    refine zz (fun _ _ => lv_aload_n hx hb dX9_lineUp_72 rfl (lv_at hl 0 rfl)) ?_
    refine z_get (v := .int (v 20)) C fd_X9_160 rm_0 rfl dX9_lineUp_73 ?_
    refine zb (fun _ _ => lv_icmp_ge (tgt := 114) hx hb dX9_lineUp_76 (by decide)) (fun c_1 => ?_) (fun c_1 => ?_)
    · obtain rfl := fl_eq (j := j) (N := N_) hNb (by omega) hNl c_1
      exact K _ _ (lv_sub hl [0, 1, 2, 3, 4] rfl)
    · have hj9 : j < N_ := fl_lt hNb (by omega) hNl c_1
      refine zz (fun _ _ => lv_iload_n hx hb dX9_lineUp_79 rfl (lv_at hl 3 rfl)) ?_
      refine zz (fun _ _ => lv_aload_n hx hb dX9_lineUp_80 rfl (lv_at hl 0 rfl)) ?_
      refine z_get (v := .ref (r + 19)) C fd_X9_65 rm_0 rfl dX9_lineUp_81 ?_
      refine zz (fun _ _ => lv_iload hx hb dX9_lineUp_84 (lv_at hl 4 rfl)) ?_
      refine z_iald (f := A 19) C rm_19 (in_nI (j := j) rfl (by omega) (by decide)) dX9_lineUp_86 ?_
      refine zz (fun _ _ => lv_iload_n hx hb dX9_lineUp_87 rfl (lv_at hl 1 rfl)) ?_
      refine zbn (fun _ _ => lv_icmp_ne (tgt := 105) hx hb dX9_lineUp_88 (by decide)) (fun c_2 => ?_) (fun c_2 => ?_)
      · refine zz (fun _ _ => lv_iconst (v := 0) hx hb dX9_lineUp_105 (by decide)) ?_
        refine zz (fun _ _ => lv_iadd hx hb dX9_lineUp_106) ?_
        refine zs (fun _ _ => lv_istore_n (lv' := [(3, .int (((stX9_lineUp_70 A k9 a_ i1_ j)) + (0))), (0, .ref (r)), (1, .int (a_)), (2, .int (nI k9)), (4, .int (nI j))]) hx hb dX9_lineUp_107 rfl hl (by decide) rfl) (fun ls hl => ?_)
        refine zs (fun _ _ => lv_iinc (v := nI j + 1) (lv' := [(4, .int (nI j + 1)), (3, .int (((stX9_lineUp_70 A k9 a_ i1_ j)) + (0))), (0, .ref (r)), (1, .int (a_)), (2, .int (nI k9))]) hx hb dX9_lineUp_108 hl (k := 4) rfl rfl (by decide) rfl) (fun ls hl => ?_)
        refine zz (fun _ _ => lv_goto (tgt := 70) hx hb dX9_lineUp_111 (by decide)) ?_
        have hI := ih (j + 1) (by omega)
        simp only [stX9_lineUp_70, if_neg c_1, if_neg c_2] at hI
        have hl := lv_sub hl [2, 3, 4, 1, 0] rfl
        simp only [nI_1] at hl
        exact hI _ _ hl K
      · refine zz (fun _ _ => lv_aload_n hx hb dX9_lineUp_91 rfl (lv_at hl 0 rfl)) ?_
        refine zz (fun _ _ => lv_iload hx hb dX9_lineUp_92 (lv_at hl 4 rfl)) ?_
        refine zz (fun _ _ => lv_iload_n hx hb dX9_lineUp_94 rfl (lv_at hl 2 rfl)) ?_
        refine zdV (As := [.int (nI j), .int (nI k9)]) (rest := [.int ((stX9_lineUp_70 A k9 a_ i1_ j))]) (st' := [.int ((fX9_isBefore A (nI j) (nI k9))), .int ((stX9_lineUp_70 A k9 a_ i1_ j))]) C hl.1 lk_X9_177 (ctX9_isBefore (in_nI (j := j) rfl (by omega) (by decide)) (in_nI (j := k9) rfl hk9 (by decide))) rm_0 rfl rfl rfl (Nat.le_of_ble_eq_true rfl) ⟨by decide, by decide, by decide, by decide⟩ dX9_lineUp_95 rfl (fun sz => ?_)
        refine zb (fun _ _ => lv_if_eq (tgt := 105) hx hb dX9_lineUp_98 (by decide)) (fun c_3 => ?_) (fun c_3 => ?_)
        · refine zz (fun _ _ => lv_iconst (v := 0) hx hb dX9_lineUp_105 (by decide)) ?_
          refine zz (fun _ _ => lv_iadd hx hb dX9_lineUp_106) ?_
          refine zs (fun _ _ => lv_istore_n (lv' := [(3, .int (((stX9_lineUp_70 A k9 a_ i1_ j)) + (0))), (0, .ref (r)), (1, .int (a_)), (2, .int (nI k9)), (4, .int (nI j))]) hx hb dX9_lineUp_107 rfl hl (by decide) rfl) (fun ls hl => ?_)
          refine zs (fun _ _ => lv_iinc (v := nI j + 1) (lv' := [(4, .int (nI j + 1)), (3, .int (((stX9_lineUp_70 A k9 a_ i1_ j)) + (0))), (0, .ref (r)), (1, .int (a_)), (2, .int (nI k9))]) hx hb dX9_lineUp_108 hl (k := 4) rfl rfl (by decide) rfl) (fun ls hl => ?_)
          refine zz (fun _ _ => lv_goto (tgt := 70) hx hb dX9_lineUp_111 (by decide)) ?_
          have hI := ih (j + 1) (by omega)
          simp only [stX9_lineUp_70, if_neg c_1, if_pos c_2, if_pos c_3] at hI
          have hl := lv_sub hl [2, 3, 4, 1, 0] rfl
          simp only [nI_1] at hl
          exact hI _ _ hl K
        · refine zz (fun _ _ => lv_iconst (v := 1) hx hb dX9_lineUp_101 (by decide)) ?_
          refine zz (fun _ _ => lv_goto (tgt := 106) hx hb dX9_lineUp_102 (by decide)) ?_
          refine zz (fun _ _ => lv_iadd hx hb dX9_lineUp_106) ?_
          refine zs (fun _ _ => lv_istore_n (lv' := [(3, .int (((stX9_lineUp_70 A k9 a_ i1_ j)) + (1))), (0, .ref (r)), (1, .int (a_)), (2, .int (nI k9)), (4, .int (nI j))]) hx hb dX9_lineUp_107 rfl hl (by decide) rfl) (fun ls hl => ?_)
          refine zs (fun _ _ => lv_iinc (v := nI j + 1) (lv' := [(4, .int (nI j + 1)), (3, .int (((stX9_lineUp_70 A k9 a_ i1_ j)) + (1))), (0, .ref (r)), (1, .int (a_)), (2, .int (nI k9))]) hx hb dX9_lineUp_108 hl (k := 4) rfl rfl (by decide) rfl) (fun ls hl => ?_)
          refine zz (fun _ _ => lv_goto (tgt := 70) hx hb dX9_lineUp_111 (by decide)) ?_
          have hI := ih (j + 1) (by omega)
          simp only [stX9_lineUp_70, if_neg c_1, if_pos c_2, if_neg c_3] at hI
          have hl := lv_sub hl [2, 3, 4, 1, 0] rfl
          simp only [nI_1] at hl
          exact hI _ _ hl K
theorem lineUp_n (A : Nat → Nat → Int32) (a : Int32) : ∀ n, ∃ t, t ≤ n ∧ stX9_lineUp_7 A a 0 n = nI t := by
  intro n
  induction n with
  | zero => exact ⟨0, Nat.le_refl _, rfl⟩
  | succ n ih =>
    obtain ⟨t, ht, e⟩ := ih
    simp only [stX9_lineUp_7, e]
    split
    · exact ⟨t + 1, by omega, by rw [nI_1]⟩
    · exact ⟨t, by omega, by simp⟩
theorem lineUp_k (A : Nat → Nat → Int32) (k : Nat) (a : Int32) : ∀ n, ∃ t, t ≤ n ∧ (k < n → t < n) ∧ stX9_lineUp_70 A k a 0 n = nI t := by
  intro n
  induction n with
  | zero => exact ⟨0, Nat.le_refl _, fun h => absurd h (Nat.not_lt_zero _), rfl⟩
  | succ n ih =>
    obtain ⟨t, ht, hk, e⟩ := ih
    simp only [stX9_lineUp_70, e]
    split
    · split
      · exact ⟨t, by omega, fun _ => by omega, by simp⟩
      · rename_i hne
        refine ⟨t + 1, by omega, fun h => ?_, by rw [nI_1]⟩
        by_cases q : k = n
        · subst q
          exact absurd (isBefore_irr A _) hne
        · have := hk (by omega)
          omega
    · exact ⟨t, by omega, fun _ => by omega, by simp⟩
theorem lineUp_ix (A : Nat → Nat → Int32) {k n : Nat} {b : Int32} (a : Int32) (hb : b = nI n) (hk : k < n) (hn : n ≤ 120) : vp_in (stX9_lineUp_70 A k a 0 b.toNatClampNeg) 120 := by
  rw [hb, nI_clamp (by omega)]
  obtain ⟨t, _, h, e⟩ := lineUp_k A k a n
  rw [e]
  exact vp_in_nI (by have := h hk; omega) (by decide)
def stX9_lineUp_47 (v : Nat → Int32) (A : Nat → Nat → Int32) (a_ : Int32) (i1_ : (Nat → Int32)) : Nat → (Nat → Int32)
  | 0 => (i1_)
  | j + 1 => if A 19 (Int32.toNatClampNeg (nI j)) = a_ then ((upd ((stX9_lineUp_47 v A a_ i1_ j)) (Int32.toNatClampNeg ((stX9_lineUp_70 (u1 A 37 (stX9_lineUp_47 v A a_ i1_ j)) j a_ 0 (Int32.toNatClampNeg (v 20))))) (nI j))) else ((stX9_lineUp_47 v A a_ i1_ j))
set_option maxHeartbeats 2000000 in
set_option maxRecDepth 10000 in
theorem lpX9_lineUp_47 {p : Program} {l : Launch} {e : Env} {s : State} {m : MethodId} {args : Array Value} {below : List Frame} {meth : Method} {c : Code} {D : va_G} {aC : Nat → ClassId} {b0 : Nat} {Q : State → Prop} {r : Nat} {v : Nat → Int32} {A : Nat → Nat → Int32} {R : ZM} {a_ : Int32} {i1_ : (Nat → Int32)} {N_ : Nat} (C : zC p l s m c D aC b0 RX9 cX9_lineUp 5) (hNb : v 20 = nI N_) (hN2 : N_ ≤ 120) (hNl : N_ < 2 ^ 31) :
    ∀ (d j : Nat), j + d = N_ → ∀ (sz : Nat) (ls : Array Slot), lv_has ls 5 [(0, .ref (r)), (1, .int (a_)), (2, .int (nI j))] → (∀ (sz : Nat) (ls : Array Slot), lv_has ls 5 [(0, .ref (r)), (1, .int (a_)), (2, .int (nI N_))] → Z p l e (rz 1 0 0) s m args below meth c D b0 (mm aC r v (u1 A 37 (stX9_lineUp_47 v A a_ i1_ N_)) R) sz 0 0 Q (F0 m 127 ls [])) → Z p l e (rz 1 0 0) s m args below meth c D b0 (mm aC r v (u1 A 37 (stX9_lineUp_47 v A a_ i1_ j)) R) sz 0 0 Q (F0 m 47 ls []) := by
  obtain ⟨hx, hb, -, -, -⟩ := id C
  intro d
  induction d with
  | zero =>
    intro j hj0 sz ls hl K
    refine zz (fun _ _ => lv_iload_n hx hb dX9_lineUp_47 rfl (lv_at hl 2 rfl)) ?_
    refine zz (fun _ _ => lv_aload_n hx hb dX9_lineUp_48 rfl (lv_at hl 0 rfl)) ?_
    refine z_get (v := .int (v 20)) C fd_X9_160 rm_0 rfl dX9_lineUp_49 ?_
    refine zb (fun _ _ => lv_icmp_ge (tgt := 127) hx hb dX9_lineUp_52 (by decide)) (fun c_1 => ?_) (fun c_1 => ?_)
    · obtain rfl := fl_eq (j := j) (N := N_) hNb (by omega) hNl c_1
      exact K _ _ (lv_sub hl [0, 1, 2] rfl)
    · exact absurd (fl_lt (j := j) (N := N_) hNb (by omega) hNl c_1) (by omega)
  | succ d ih =>
    intro j hj0 sz ls hl K
    refine zz (fun _ _ => lv_iload_n hx hb dX9_lineUp_47 rfl (lv_at hl 2 rfl)) ?_
    refine zz (fun _ _ => lv_aload_n hx hb dX9_lineUp_48 rfl (lv_at hl 0 rfl)) ?_
    refine z_get (v := .int (v 20)) C fd_X9_160 rm_0 rfl dX9_lineUp_49 ?_
    refine zb (fun _ _ => lv_icmp_ge (tgt := 127) hx hb dX9_lineUp_52 (by decide)) (fun c_1 => ?_) (fun c_1 => ?_)
    · obtain rfl := fl_eq (j := j) (N := N_) hNb (by omega) hNl c_1
      exact K _ _ (lv_sub hl [0, 1, 2] rfl)
    · have hj9 : j < N_ := fl_lt hNb (by omega) hNl c_1
      refine zz (fun _ _ => lv_aload_n hx hb dX9_lineUp_55 rfl (lv_at hl 0 rfl)) ?_
      refine z_get (v := .ref (r + 19)) C fd_X9_65 rm_0 rfl dX9_lineUp_56 ?_
      refine zz (fun _ _ => lv_iload_n hx hb dX9_lineUp_59 rfl (lv_at hl 2 rfl)) ?_
      refine z_iald (f := A 19) C rm_19 (in_nI (j := j) rfl (by omega) (by decide)) dX9_lineUp_60 ?_
      refine zz (fun _ _ => lv_iload_n hx hb dX9_lineUp_61 rfl (lv_at hl 1 rfl)) ?_
      refine zbn (fun _ _ => lv_icmp_ne (tgt := 121) hx hb dX9_lineUp_62 (by decide)) (fun c_2 => ?_) (fun c_2 => ?_)
      · refine zs (fun _ _ => lv_iinc (v := nI j + 1) (lv' := [(2, .int (nI j + 1)), (0, .ref (r)), (1, .int (a_))]) hx hb dX9_lineUp_121 hl (k := 2) rfl rfl (by decide) rfl) (fun ls hl => ?_)
        refine zz (fun _ _ => lv_goto (tgt := 47) hx hb dX9_lineUp_124 (by decide)) ?_
        have hI := ih (j + 1) (by omega)
        simp only [stX9_lineUp_47, if_neg c_1, if_neg c_2] at hI
        have hl := lv_sub hl [1, 2, 0] rfl
        simp only [nI_1] at hl
        exact hI _ _ hl K
      · refine zz (fun _ _ => lv_iconst (v := 0) hx hb dX9_lineUp_65 (by decide)) ?_
        refine zs (fun _ _ => lv_istore_n (lv' := [(3, .int (0)), (0, .ref (r)), (1, .int (a_)), (2, .int (nI j))]) hx hb dX9_lineUp_66 rfl hl (by decide) rfl) (fun ls hl => ?_)
        refine zz (fun _ _ => lv_iconst (v := 0) hx hb dX9_lineUp_67 (by decide)) ?_
        refine zs (fun _ _ => lv_istore (lv' := [(4, .int (0)), (3, .int (0)), (0, .ref (r)), (1, .int (a_)), (2, .int (nI j))]) hx hb dX9_lineUp_68 hl (by decide) rfl) (fun ls hl => ?_)
        refine lpX9_lineUp_70 (v := v) (A := (u1 A 37 (stX9_lineUp_47 v A a_ i1_ j))) (N_ := (Int32.toNatClampNeg (v 20))) C (k9 := j) (by omega) (nI_sn hNb hN2 (by decide)) (nI_sle hNb hN2 (by decide)) (Nat.lt_of_le_of_lt (nI_sle hNb hN2 (by decide)) (by decide)) (Int32.toNatClampNeg (v 20)) 0 (Nat.zero_add _) _ _ (lv_sub hl [2, 3, 4, 1, 0] rfl) (fun sz ls hl => ?_)
        refine zz (fun _ _ => lv_aload_n hx hb dX9_lineUp_114 rfl (lv_at hl 0 rfl)) ?_
        refine z_get (v := .ref (r + 37)) C fd_X9_123 rm_0 rfl dX9_lineUp_115 ?_
        refine zz (fun _ _ => lv_iload_n hx hb dX9_lineUp_118 rfl (lv_at hl 3 rfl)) ?_
        refine zz (fun _ _ => lv_iload_n hx hb dX9_lineUp_119 rfl (lv_at hl 2 rfl)) ?_
        refine z_iast (f := (stX9_lineUp_47 v A a_ i1_ j)) C rm_37 (lineUp_ix _ _ hNb hj9 hN2) dX9_lineUp_120 ?_
        refine zeq wm_37 ?_
        refine zeq (M' := (mm aC r v (u1 A 37 (upd ((stX9_lineUp_47 v A a_ i1_ j)) (Int32.toNatClampNeg ((stX9_lineUp_70 (u1 A 37 (stX9_lineUp_47 v A a_ i1_ j)) j a_ 0 (Int32.toNatClampNeg (v 20))))) (nI j))) R)) (by rw [u1_u1]) ?_
        refine zs (fun _ _ => lv_iinc (v := nI j + 1) (lv' := [(2, .int (nI j + 1)), (0, .ref (r)), (1, .int (a_)), (3, .int ((stX9_lineUp_70 (u1 A 37 (stX9_lineUp_47 v A a_ i1_ j)) j a_ 0 (Int32.toNatClampNeg (v 20))))), (4, .int (nI (Int32.toNatClampNeg (v 20))))]) hx hb dX9_lineUp_121 hl (k := 2) rfl rfl (by decide) rfl) (fun ls hl => ?_)
        refine zz (fun _ _ => lv_goto (tgt := 47) hx hb dX9_lineUp_124 (by decide)) ?_
        have hI := ih (j + 1) (by omega)
        simp only [stX9_lineUp_47, if_neg c_1, if_pos c_2] at hI
        have hl := lv_sub hl [1, 2, 0] rfl
        simp only [nI_1] at hl
        exact hI _ _ hl K
def fX9_lineUp (v : Nat → Int32) (A : Nat → Nat → Int32) (a_ : Int32) : (Nat → Int32) × (Nat → Nat → Int32) := ((upd (upd v 47 0) 47 (stX9_lineUp_7 A a_ 0 (Int32.toNatClampNeg (v 20)))), (u1 A 37 (stX9_lineUp_47 (upd (upd v 47 0) 47 (stX9_lineUp_7 A a_ 0 (Int32.toNatClampNeg (v 20)))) A a_ (A 37) (Int32.toNatClampNeg (v 20)))))
set_option maxHeartbeats 1000000 in
set_option maxRecDepth 10000 in
theorem ctX9_lineUp {l : Launch} {D : va_G} {aC : Nat → ClassId} {b0 sz : Nat} {r : Nat} {v : Nat → Int32} {A : Nat → Nat → Int32} {R : ZM} {a_ : Int32} {n_ : Nat} (hs : v 20 = nI n_) (hn : n_ ≤ 120) : Ct l D aC b0 yX9_lineUp cX9_lineUp 5 none 1 0 0 [.ref (r), .int (a_)] (mm aC r v A R) sz (zd none (mm aC r (fX9_lineUp v A a_).1 (fX9_lineUp v A a_).2 R)) := by
  refine Ct.of (by decide) (Nat.le_of_ble_eq_true rfl) ?_
  intro p e s m below meth c ls C hr hlk hnm hl
  have hl : lv_has ls 5 [(0, .ref (r)), (1, .int (a_))] := hl
  obtain ⟨hx, hb, -, -, -⟩ := id C
  refine zz (fun _ _ => lv_aload_n hx hb dX9_lineUp_0 rfl (lv_at hl 0 rfl)) ?_
  refine zz (fun _ _ => lv_iconst (v := 0) hx hb dX9_lineUp_1 (by decide)) ?_
  refine z_put C fp_X9_174 (fun h => by cases h) rm_0 (Nat.le_of_ble_eq_true rfl) rfl rfl dX9_lineUp_2 ?_
  refine zeq wm_f47 ?_
  refine zz (fun _ _ => lv_iconst (v := 0) hx hb dX9_lineUp_5 (by decide)) ?_
  refine zs (fun _ _ => lv_istore_n (lv' := [(2, .int (0)), (0, .ref (r)), (1, .int (a_))]) hx hb dX9_lineUp_6 rfl hl (by decide) rfl) (fun ls hl => ?_)
  refine zeq (M' := (mm aC r (upd (upd v 47 0) 47 0) A R)) (by rw [upd_id2 (v := (upd v 47 0)) (k := 47) (g := 0) rfl]) ?_
  refine lpX9_lineUp_7 (v := (upd v 47 0)) (A := A) (N_ := (Int32.toNatClampNeg (v 20))) C (nI_sn hs hn (by decide)) (nI_sle hs hn (by decide)) (Nat.lt_of_le_of_lt (nI_sle hs hn (by decide)) (by decide)) (Int32.toNatClampNeg (v 20)) 0 (Nat.zero_add _) _ _ (lv_sub hl [1, 2, 0] rfl) (fun sz ls hl => ?_)
  refine zz (fun _ _ => lv_iconst (v := 0) hx hb dX9_lineUp_45 (by decide)) ?_
  refine zs (fun _ _ => lv_istore_n (lv' := [(2, .int (0)), (0, .ref (r)), (1, .int (a_))]) hx hb dX9_lineUp_46 rfl hl (by decide) rfl) (fun ls hl => ?_)
  refine zeq (M' := (mm aC r (upd (upd v 47 0) 47 (stX9_lineUp_7 A a_ 0 (Int32.toNatClampNeg (v 20)))) (u1 A 37 (A 37)) R)) (by rw [u1_id2 (A := A) (k := 37) (g := A 37) rfl]) ?_
  refine lpX9_lineUp_47 (v := (upd (upd v 47 0) 47 (stX9_lineUp_7 A a_ 0 (Int32.toNatClampNeg (v 20))))) (A := A) (N_ := (Int32.toNatClampNeg (v 20))) C (nI_sn hs hn (by decide)) (nI_sle hs hn (by decide)) (Nat.lt_of_le_of_lt (nI_sle hs hn (by decide)) (by decide)) (Int32.toNatClampNeg (v 20)) 0 (Nat.zero_add _) _ _ (lv_sub hl [1, 2, 0] rfl) (fun sz ls hl => ?_)
  exact z_vret C hr hlk dX9_lineUp_127 (by simp only [zd, fX9_lineUp, and_self])
theorem isIn_in {a c : Int32} {n : Nat} (h : ¬ fX9_isIn a 0 c = 0) (hc : c = nI n) (hn : n < 2 ^ 31 - 1) : vp_in a (n + 1) := by
  unfold fX9_isIn at h
  split at h
  · exact absurd rfl h
  · split at h
    · exact absurd rfl h
    · rename_i h1 h2
      rw [hc] at h2
      refine vp_in_iff.mpr ⟨?_, ?_⟩
      · simpa [Int32.lt_iff_toInt_lt] using h1
      · rw [Int32.lt_iff_toInt_lt, nI_toInt (by omega)] at h2
        omega
theorem lineUp_o (v : Nat → Int32) (A : Nat → Nat → Int32) (a : Int32) (f : Nat → Int32) (hf : ∀ j, j < 120 → ∃ t, t < 120 ∧ f j = nI t) : ∀ n, n ≤ 120 → ∀ j, j < 120 → ∃ t, t < 120 ∧ stX9_lineUp_47 v A a f n j = nI t := by
  intro n
  induction n with
  | zero => intro _ j hj; exact hf j hj
  | succ n ih =>
    intro hn j hj
    simp only [stX9_lineUp_47]
    split
    · unfold upd
      split
      · exact ⟨n, by omega, rfl⟩
      · exact ih (by omega) j hj
    · exact ih (by omega) j hj
theorem lineUp_r {v : Nat → Int32} {A : Nat → Nat → Int32} {a : Int32} {n : Nat} (hs : v 20 = nI n) (hn : n ≤ 120) : ∃ t, t ≤ 120 ∧ (fX9_lineUp v A a).1 47 = nI t := by
  obtain ⟨t, ht, e⟩ := lineUp_n A a n
  refine ⟨t, by omega, ?_⟩
  simp only [fX9_lineUp, hs, nI_clamp (show n < 2 ^ 31 by omega)]
  simpa [upd] using e
theorem lineUp_q {v : Nat → Int32} {A : Nat → Nat → Int32} {a : Int32} {n : Nat} (hs : v 20 = nI n) (hn : n ≤ 120) (hO : ∀ j, j < 120 → ∃ t, t < 120 ∧ A 37 j = nI t) : ∀ j, j < 120 → ∃ t, t < 120 ∧ (fX9_lineUp v A a).2 37 j = nI t := by
  intro j hj
  have := fun w => lineUp_o w A a (A 37) hO n hn j hj
  simp only [fX9_lineUp, hs, nI_clamp (show n < 2 ^ 31 by omega)]
  simpa [u1] using this _
theorem ex_in {f : Nat → Int32} {a : Int32} (h : ∀ j, j < 120 → ∃ t, t < 120 ∧ f j = nI t) (ha : vp_in a 120) : vp_in (f a.toNatClampNeg) 120 := by
  obtain ⟨t, ht, e⟩ := h _ (vin_lt ha)
  rw [e]
  exact vp_in_nI ht (by decide)
def fX9_many (v : Nat → Int32) (A : Nat → Nat → Int32) (a_ : Int32) : Int32 × (Nat → Int32) × (Nat → Nat → Int32) := if (fX9_isIn a_ 0 6) = 0 then (0, (upd v 0 1), A) else if A 23 (Int32.toNatClampNeg (a_)) = 0 then ((-1), (upd v 0 0), A) else ((fX9_lineUp (upd v 0 0) A a_).1 47, (fX9_lineUp (upd v 0 0) A a_).1, (fX9_lineUp (upd v 0 0) A a_).2)
set_option maxHeartbeats 1000000 in
set_option maxRecDepth 10000 in
theorem ctX9_many {l : Launch} {D : va_G} {aC : Nat → ClassId} {b0 sz : Nat} {r : Nat} {v : Nat → Int32} {A : Nat → Nat → Int32} {R : ZM} {a_ : Int32} {n_ : Nat} (hs : v 20 = nI n_) (hn : n_ ≤ 120) : Ct l D aC b0 yX9_many cX9_many 2 (some .int) 2 0 0 [.ref (r), .int (a_)] (mm aC r v A R) sz (zd (some (.int (fX9_many v A a_).1)) (mm aC r (fX9_many v A a_).2.1 (fX9_many v A a_).2.2 R)) := by
  refine Ct.of (by decide) (Nat.le_of_ble_eq_true rfl) ?_
  intro p e s m below meth c ls C hr hlk hnm hl
  have hl : lv_has ls 2 [(0, .ref (r)), (1, .int (a_))] := hl
  obtain ⟨hx, hb, -, -, -⟩ := id C
  refine zz (fun _ _ => lv_aload_n hx hb dX9_many_0 rfl (lv_at hl 0 rfl)) ?_
  refine zz (fun _ _ => lv_iload_n hx hb dX9_many_1 rfl (lv_at hl 1 rfl)) ?_
  refine zz (fun _ _ => lv_iconst (v := 0) hx hb dX9_many_2 (by decide)) ?_
  refine zz (fun _ _ => lv_bipush (v := 6) hx hb dX9_many_3 (by decide)) ?_
  refine zdS (As := [.int (a_), .int (0), .int (6)]) (rest := [.ref (r)]) (st' := [.int ((fX9_isIn a_ 0 6)), .ref (r)]) C hl.1 lk_X9_135 (ctX9_isIn ) rfl rfl (Nat.le_of_ble_eq_true rfl) ⟨by decide, by decide, by decide, by decide⟩ dX9_many_5 rfl (fun sz => ?_)
  refine zb (fun _ _ => lv_if_eq (tgt := 15) hx hb dX9_many_8 (by decide)) (fun c_1 => ?_) (fun c_1 => ?_)
  · refine zz (fun _ _ => lv_iconst (v := 1) hx hb dX9_many_15 (by decide)) ?_
    refine z_put C fp_X9_129 (fun h => by cases h) rm_0 (Nat.le_of_ble_eq_true rfl) rfl rfl dX9_many_16 ?_
    refine zeq wm_f0 ?_
    refine zz (fun _ _ => lv_aload_n hx hb dX9_many_19 rfl (lv_at hl 0 rfl)) ?_
    refine z_get (v := .int (1)) C fd_X9_129 rm_0 rfl dX9_many_20 ?_
    refine zb (fun _ _ => lv_if_gt (tgt := 35) hx hb dX9_many_23 (by decide)) (fun c_2 => ?_) (fun c_2 => ?_)
    · refine zz (fun _ _ => lv_aload_n hx hb dX9_many_35 rfl (lv_at hl 0 rfl)) ?_
      refine z_get (v := .int (1)) C fd_X9_129 rm_0 rfl dX9_many_36 ?_
      refine zb (fun _ _ => lv_if_le (tgt := 46) hx hb dX9_many_39 (by decide)) (fun c_3 => ?_) (fun c_3 => ?_)
      · exact absurd c_3 (by decide)
      · refine zz (fun _ _ => lv_iconst (v := 0) hx hb dX9_many_42 (by decide)) ?_
        refine zz (fun _ _ => lv_goto (tgt := 47) hx hb dX9_many_43 (by decide)) ?_
        exact z_iret C hr hlk dX9_many_47 (by simp only [zd, fX9_many, if_pos c_1, and_self])
    · exact absurd (by decide) c_2
  · refine zz (fun _ _ => lv_iconst (v := 0) hx hb dX9_many_11 (by decide)) ?_
    refine zz (fun _ _ => lv_goto (tgt := 16) hx hb dX9_many_12 (by decide)) ?_
    refine z_put C fp_X9_129 (fun h => by cases h) rm_0 (Nat.le_of_ble_eq_true rfl) rfl rfl dX9_many_16 ?_
    refine zeq wm_f0 ?_
    refine zz (fun _ _ => lv_aload_n hx hb dX9_many_19 rfl (lv_at hl 0 rfl)) ?_
    refine z_get (v := .int (0)) C fd_X9_129 rm_0 rfl dX9_many_20 ?_
    refine zb (fun _ _ => lv_if_gt (tgt := 35) hx hb dX9_many_23 (by decide)) (fun c_4 => ?_) (fun c_4 => ?_)
    · exact absurd c_4 (by decide)
    · refine zz (fun _ _ => lv_aload_n hx hb dX9_many_26 rfl (lv_at hl 0 rfl)) ?_
      refine z_get (v := .ref (r + 23)) C fd_X9_77 rm_0 rfl dX9_many_27 ?_
      refine zz (fun _ _ => lv_iload_n hx hb dX9_many_30 rfl (lv_at hl 1 rfl)) ?_
      refine z_zald (f := A 23) C rm_23 (isIn_in (n := 6) c_1 rfl (by decide)) dX9_many_31 ?_
      refine zbn (fun _ _ => lv_if_ne (tgt := 48) hx hb dX9_many_32 (by decide)) (fun c_5 => ?_) (fun c_5 => ?_)
      · refine zz (fun _ _ => lv_aload_n hx hb dX9_many_48 rfl (lv_at hl 0 rfl)) ?_
        refine zz (fun _ _ => lv_iload_n hx hb dX9_many_49 rfl (lv_at hl 1 rfl)) ?_
        refine zdV (As := [.int (a_)]) (rest := []) (st' := []) C hl.1 lk_X9_187 (ctX9_lineUp hs hn) rm_0 rfl rfl rfl (Nat.le_of_ble_eq_true rfl) ⟨by decide, by decide, by decide, by decide⟩ dX9_many_50 rfl (fun sz => ?_)
        refine zz (fun _ _ => lv_aload_n hx hb dX9_many_53 rfl (lv_at hl 0 rfl)) ?_
        refine z_get (v := .int ((fX9_lineUp (upd v 0 0) A a_).1 47)) C fd_X9_174 rm_0 rfl dX9_many_54 ?_
        exact z_iret C hr hlk dX9_many_57 (by simp only [zd, fX9_many, if_neg c_1, if_neg c_5, and_self])
      · refine zz (fun _ _ => lv_aload_n hx hb dX9_many_35 rfl (lv_at hl 0 rfl)) ?_
        refine z_get (v := .int (0)) C fd_X9_129 rm_0 rfl dX9_many_36 ?_
        refine zb (fun _ _ => lv_if_le (tgt := 46) hx hb dX9_many_39 (by decide)) (fun c_6 => ?_) (fun c_6 => ?_)
        · refine zz (fun _ _ => lv_iconst (v := (-1)) hx hb dX9_many_46 (by decide)) ?_
          exact z_iret C hr hlk dX9_many_47 (by simp only [zd, fX9_many, if_neg c_1, if_pos c_5, and_self])
        · exact absurd (by decide) c_6
theorem at_ix {v : Nat → Int32} {A : Nat → Nat → Int32} {a b : Int32} {n : Nat} (hs : v 20 = nI n) (hn : n ≤ 120) (h1 : ¬ b < 0) (h2 : b < (fX9_lineUp v A a).1 47) : vp_in b 120 := by
  obtain ⟨t, ht, e⟩ := lineUp_r (A := A) (a := a) hs hn
  exact ix_lt2 h1 h2 e ht (by decide)
def fX9_at (v : Nat → Int32) (A : Nat → Nat → Int32) (a_ : Int32) (b_ : Int32) (c_ : Int32) : Int32 × (Nat → Int32) × (Nat → Nat → Int32) := if (fX9_isIn a_ 0 6) = 0 then (0, (upd v 0 1), A) else if b_ < 0 then (0, (upd (fX9_lineUp (upd v 0 1) A a_).1 0 1), (fX9_lineUp (upd v 0 1) A a_).2) else if b_ < (fX9_lineUp (upd v 0 1) A a_).1 47 then if (fX9_isIn c_ 0 2) = 0 then (0, (upd (fX9_lineUp (upd v 0 1) A a_).1 0 2), (fX9_lineUp (upd v 0 1) A a_).2) else if c_ = 0 then ((fX9_lineUp (upd v 0 1) A a_).2 20 (Int32.toNatClampNeg ((fX9_lineUp (upd v 0 1) A a_).2 37 (Int32.toNatClampNeg (b_)))), (upd (fX9_lineUp (upd v 0 1) A a_).1 0 0), (fX9_lineUp (upd v 0 1) A a_).2) else if c_ = 1 then ((fX9_lineUp (upd v 0 1) A a_).2 21 (Int32.toNatClampNeg ((fX9_lineUp (upd v 0 1) A a_).2 37 (Int32.toNatClampNeg (b_)))), (upd (fX9_lineUp (upd v 0 1) A a_).1 0 0), (fX9_lineUp (upd v 0 1) A a_).2) else ((fX9_lineUp (upd v 0 1) A a_).2 22 (Int32.toNatClampNeg ((fX9_lineUp (upd v 0 1) A a_).2 37 (Int32.toNatClampNeg (b_)))), (upd (fX9_lineUp (upd v 0 1) A a_).1 0 0), (fX9_lineUp (upd v 0 1) A a_).2) else (0, (upd (fX9_lineUp (upd v 0 1) A a_).1 0 1), (fX9_lineUp (upd v 0 1) A a_).2)
set_option maxHeartbeats 1000000 in
set_option maxRecDepth 10000 in
theorem ctX9_at {l : Launch} {D : va_G} {aC : Nat → ClassId} {b0 sz : Nat} {r : Nat} {v : Nat → Int32} {A : Nat → Nat → Int32} {R : ZM} {a_ : Int32} {b_ : Int32} {c_ : Int32} {n_ : Nat} (hs : v 20 = nI n_) (hn : n_ ≤ 120) (hO : ∀ j, j < 120 → ∃ t, t < 120 ∧ A 37 j = nI t) : Ct l D aC b0 yX9_at cX9_at 4 (some .int) 2 0 0 [.ref (r), .int (a_), .int (b_), .int (c_)] (mm aC r v A R) sz (zd (some (.int (fX9_at v A a_ b_ c_).1)) (mm aC r (fX9_at v A a_ b_ c_).2.1 (fX9_at v A a_ b_ c_).2.2 R)) := by
  refine Ct.of (by decide) (Nat.le_of_ble_eq_true rfl) ?_
  intro p e s m below meth c ls C hr hlk hnm hl
  have hl : lv_has ls 4 [(0, .ref (r)), (1, .int (a_)), (2, .int (b_)), (3, .int (c_))] := hl
  obtain ⟨hx, hb, -, -, -⟩ := id C
  refine zz (fun _ _ => lv_aload_n hx hb dX9_at_0 rfl (lv_at hl 0 rfl)) ?_
  refine zz (fun _ _ => lv_iconst (v := 1) hx hb dX9_at_1 (by decide)) ?_
  refine z_put C fp_X9_129 (fun h => by cases h) rm_0 (Nat.le_of_ble_eq_true rfl) rfl rfl dX9_at_2 ?_
  refine zeq wm_f0 ?_
  refine zz (fun _ _ => lv_iload_n hx hb dX9_at_5 rfl (lv_at hl 1 rfl)) ?_
  refine zz (fun _ _ => lv_iconst (v := 0) hx hb dX9_at_6 (by decide)) ?_
  refine zz (fun _ _ => lv_bipush (v := 6) hx hb dX9_at_7 (by decide)) ?_
  refine zdS (As := [.int (a_), .int (0), .int (6)]) (rest := []) (st' := [.int ((fX9_isIn a_ 0 6))]) C hl.1 lk_X9_135 (ctX9_isIn ) rfl rfl (Nat.le_of_ble_eq_true rfl) ⟨by decide, by decide, by decide, by decide⟩ dX9_at_9 rfl (fun sz => ?_)
  refine zb (fun _ _ => lv_if_eq (tgt := 54) hx hb dX9_at_12 (by decide)) (fun c_1 => ?_) (fun c_1 => ?_)
  · refine zz (fun _ _ => lv_aload_n hx hb dX9_at_54 rfl (lv_at hl 0 rfl)) ?_
    refine z_get (v := .int (1)) C fd_X9_129 rm_0 rfl dX9_at_55 ?_
    refine zb (fun _ _ => lv_if_le (tgt := 63) hx hb dX9_at_58 (by decide)) (fun c_2 => ?_) (fun c_2 => ?_)
    · exact absurd c_2 (by decide)
    · refine zz (fun _ _ => lv_iconst (v := 0) hx hb dX9_at_61 (by decide)) ?_
      exact z_iret C hr hlk dX9_at_62 (by simp only [zd, fX9_at, if_pos c_1, and_self])
  · refine zz (fun _ _ => lv_aload_n hx hb dX9_at_15 rfl (lv_at hl 0 rfl)) ?_
    refine zz (fun _ _ => lv_iload_n hx hb dX9_at_16 rfl (lv_at hl 1 rfl)) ?_
    refine zdV (As := [.int (a_)]) (rest := []) (st' := []) C hl.1 lk_X9_187 (ctX9_lineUp hs hn) rm_0 rfl rfl rfl (Nat.le_of_ble_eq_true rfl) ⟨by decide, by decide, by decide, by decide⟩ dX9_at_17 rfl (fun sz => ?_)
    refine zz (fun _ _ => lv_aload_n hx hb dX9_at_20 rfl (lv_at hl 0 rfl)) ?_
    refine zz (fun _ _ => lv_iload_n hx hb dX9_at_21 rfl (lv_at hl 2 rfl)) ?_
    refine zb (fun _ _ => lv_if_lt (tgt := 33) hx hb dX9_at_22 (by decide)) (fun c_3 => ?_) (fun c_3 => ?_)
    · refine zz (fun _ _ => lv_iconst (v := 1) hx hb dX9_at_33 (by decide)) ?_
      refine zz (fun _ _ => lv_goto (tgt := 51) hx hb dX9_at_34 (by decide)) ?_
      refine z_put C fp_X9_129 (fun h => by cases h) rm_0 (Nat.le_of_ble_eq_true rfl) rfl rfl dX9_at_51 ?_
      refine zeq wm_f0 ?_
      refine zz (fun _ _ => lv_aload_n hx hb dX9_at_54 rfl (lv_at hl 0 rfl)) ?_
      refine z_get (v := .int (1)) C fd_X9_129 rm_0 rfl dX9_at_55 ?_
      refine zb (fun _ _ => lv_if_le (tgt := 63) hx hb dX9_at_58 (by decide)) (fun c_4 => ?_) (fun c_4 => ?_)
      · exact absurd c_4 (by decide)
      · refine zz (fun _ _ => lv_iconst (v := 0) hx hb dX9_at_61 (by decide)) ?_
        exact z_iret C hr hlk dX9_at_62 (by simp only [zd, fX9_at, if_neg c_1, if_pos c_3, and_self])
    · refine zz (fun _ _ => lv_iload_n hx hb dX9_at_25 rfl (lv_at hl 2 rfl)) ?_
      refine zz (fun _ _ => lv_aload_n hx hb dX9_at_26 rfl (lv_at hl 0 rfl)) ?_
      refine z_get (v := .int ((fX9_lineUp (upd v 0 1) A a_).1 47)) C fd_X9_174 rm_0 rfl dX9_at_27 ?_
      refine zb (fun _ _ => lv_icmp_lt (tgt := 37) hx hb dX9_at_30 (by decide)) (fun c_5 => ?_) (fun c_5 => ?_)
      · refine zz (fun _ _ => lv_iload_n hx hb dX9_at_37 rfl (lv_at hl 3 rfl)) ?_
        refine zz (fun _ _ => lv_iconst (v := 0) hx hb dX9_at_38 (by decide)) ?_
        refine zz (fun _ _ => lv_iconst (v := 2) hx hb dX9_at_39 (by decide)) ?_
        refine zdS (As := [.int (c_), .int (0), .int (2)]) (rest := [.ref (r)]) (st' := [.int ((fX9_isIn c_ 0 2)), .ref (r)]) C hl.1 lk_X9_135 (ctX9_isIn ) rfl rfl (Nat.le_of_ble_eq_true rfl) ⟨by decide, by decide, by decide, by decide⟩ dX9_at_40 rfl (fun sz => ?_)
        refine zbn (fun _ _ => lv_if_ne (tgt := 50) hx hb dX9_at_43 (by decide)) (fun c_6 => ?_) (fun c_6 => ?_)
        · refine zz (fun _ _ => lv_iconst (v := 0) hx hb dX9_at_50 (by decide)) ?_
          refine z_put C fp_X9_129 (fun h => by cases h) rm_0 (Nat.le_of_ble_eq_true rfl) rfl rfl dX9_at_51 ?_
          refine zeq wm_f0 ?_
          refine zz (fun _ _ => lv_aload_n hx hb dX9_at_54 rfl (lv_at hl 0 rfl)) ?_
          refine z_get (v := .int (0)) C fd_X9_129 rm_0 rfl dX9_at_55 ?_
          refine zb (fun _ _ => lv_if_le (tgt := 63) hx hb dX9_at_58 (by decide)) (fun c_7 => ?_) (fun c_7 => ?_)
          · refine zz (fun _ _ => lv_iload_n hx hb dX9_at_63 rfl (lv_at hl 3 rfl)) ?_
            refine zbn (fun _ _ => lv_if_ne (tgt := 81) hx hb dX9_at_64 (by decide)) (fun c_8 => ?_) (fun c_8 => ?_)
            · refine zz (fun _ _ => lv_iload_n hx hb dX9_at_81 rfl (lv_at hl 3 rfl)) ?_
              refine zz (fun _ _ => lv_iconst (v := 1) hx hb dX9_at_82 (by decide)) ?_
              refine zbn (fun _ _ => lv_icmp_ne (tgt := 100) hx hb dX9_at_83 (by decide)) (fun c_9 => ?_) (fun c_9 => ?_)
              · refine zz (fun _ _ => lv_aload_n hx hb dX9_at_100 rfl (lv_at hl 0 rfl)) ?_
                refine z_get (v := .ref (r + 22)) C fd_X9_74 rm_0 rfl dX9_at_101 ?_
                refine zz (fun _ _ => lv_aload_n hx hb dX9_at_104 rfl (lv_at hl 0 rfl)) ?_
                refine z_get (v := .ref (r + 37)) C fd_X9_123 rm_0 rfl dX9_at_105 ?_
                refine zz (fun _ _ => lv_iload_n hx hb dX9_at_108 rfl (lv_at hl 2 rfl)) ?_
                refine z_iald (f := (fX9_lineUp (upd v 0 1) A a_).2 37) C rm_37 (at_ix (v := upd v 0 1) (A := A) (a := a_) hs hn c_3 c_5) dX9_at_109 ?_
                refine z_iald (f := (fX9_lineUp (upd v 0 1) A a_).2 22) C rm_22 (ex_in (lineUp_q (v := upd v 0 1) hs hn hO) (at_ix (v := upd v 0 1) (A := A) (a := a_) hs hn c_3 c_5)) dX9_at_110 ?_
                exact z_iret C hr hlk dX9_at_111 (by simp only [zd, fX9_at, if_neg c_1, if_neg c_3, if_pos c_5, if_neg c_6, if_neg c_8, if_neg c_9, and_self])
              · refine zz (fun _ _ => lv_aload_n hx hb dX9_at_86 rfl (lv_at hl 0 rfl)) ?_
                refine z_get (v := .ref (r + 21)) C fd_X9_71 rm_0 rfl dX9_at_87 ?_
                refine zz (fun _ _ => lv_aload_n hx hb dX9_at_90 rfl (lv_at hl 0 rfl)) ?_
                refine z_get (v := .ref (r + 37)) C fd_X9_123 rm_0 rfl dX9_at_91 ?_
                refine zz (fun _ _ => lv_iload_n hx hb dX9_at_94 rfl (lv_at hl 2 rfl)) ?_
                refine z_iald (f := (fX9_lineUp (upd v 0 1) A a_).2 37) C rm_37 (at_ix (v := upd v 0 1) (A := A) (a := a_) hs hn c_3 c_5) dX9_at_95 ?_
                refine z_iald (f := (fX9_lineUp (upd v 0 1) A a_).2 21) C rm_21 (ex_in (lineUp_q (v := upd v 0 1) hs hn hO) (at_ix (v := upd v 0 1) (A := A) (a := a_) hs hn c_3 c_5)) dX9_at_96 ?_
                refine zz (fun _ _ => lv_goto (tgt := 111) hx hb dX9_at_97 (by decide)) ?_
                exact z_iret C hr hlk dX9_at_111 (by simp only [zd, fX9_at, if_neg c_1, if_neg c_3, if_pos c_5, if_neg c_6, if_neg c_8, if_pos c_9, and_self])
            · refine zz (fun _ _ => lv_aload_n hx hb dX9_at_67 rfl (lv_at hl 0 rfl)) ?_
              refine z_get (v := .ref (r + 20)) C fd_X9_68 rm_0 rfl dX9_at_68 ?_
              refine zz (fun _ _ => lv_aload_n hx hb dX9_at_71 rfl (lv_at hl 0 rfl)) ?_
              refine z_get (v := .ref (r + 37)) C fd_X9_123 rm_0 rfl dX9_at_72 ?_
              refine zz (fun _ _ => lv_iload_n hx hb dX9_at_75 rfl (lv_at hl 2 rfl)) ?_
              refine z_iald (f := (fX9_lineUp (upd v 0 1) A a_).2 37) C rm_37 (at_ix (v := upd v 0 1) (A := A) (a := a_) hs hn c_3 c_5) dX9_at_76 ?_
              refine z_iald (f := (fX9_lineUp (upd v 0 1) A a_).2 20) C rm_20 (ex_in (lineUp_q (v := upd v 0 1) hs hn hO) (at_ix (v := upd v 0 1) (A := A) (a := a_) hs hn c_3 c_5)) dX9_at_77 ?_
              refine zz (fun _ _ => lv_goto (tgt := 111) hx hb dX9_at_78 (by decide)) ?_
              exact z_iret C hr hlk dX9_at_111 (by simp only [zd, fX9_at, if_neg c_1, if_neg c_3, if_pos c_5, if_neg c_6, if_pos c_8, and_self])
          · exact absurd (by decide) c_7
        · refine zz (fun _ _ => lv_iconst (v := 2) hx hb dX9_at_46 (by decide)) ?_
          refine zz (fun _ _ => lv_goto (tgt := 51) hx hb dX9_at_47 (by decide)) ?_
          refine z_put C fp_X9_129 (fun h => by cases h) rm_0 (Nat.le_of_ble_eq_true rfl) rfl rfl dX9_at_51 ?_
          refine zeq wm_f0 ?_
          refine zz (fun _ _ => lv_aload_n hx hb dX9_at_54 rfl (lv_at hl 0 rfl)) ?_
          refine z_get (v := .int (2)) C fd_X9_129 rm_0 rfl dX9_at_55 ?_
          refine zb (fun _ _ => lv_if_le (tgt := 63) hx hb dX9_at_58 (by decide)) (fun c_10 => ?_) (fun c_10 => ?_)
          · exact absurd c_10 (by decide)
          · refine zz (fun _ _ => lv_iconst (v := 0) hx hb dX9_at_61 (by decide)) ?_
            exact z_iret C hr hlk dX9_at_62 (by simp only [zd, fX9_at, if_neg c_1, if_neg c_3, if_pos c_5, if_pos c_6, and_self])
      · refine zz (fun _ _ => lv_iconst (v := 1) hx hb dX9_at_33 (by decide)) ?_
        refine zz (fun _ _ => lv_goto (tgt := 51) hx hb dX9_at_34 (by decide)) ?_
        refine z_put C fp_X9_129 (fun h => by cases h) rm_0 (Nat.le_of_ble_eq_true rfl) rfl rfl dX9_at_51 ?_
        refine zeq wm_f0 ?_
        refine zz (fun _ _ => lv_aload_n hx hb dX9_at_54 rfl (lv_at hl 0 rfl)) ?_
        refine z_get (v := .int (1)) C fd_X9_129 rm_0 rfl dX9_at_55 ?_
        refine zb (fun _ _ => lv_if_le (tgt := 63) hx hb dX9_at_58 (by decide)) (fun c_11 => ?_) (fun c_11 => ?_)
        · exact absurd c_11 (by decide)
        · refine zz (fun _ _ => lv_iconst (v := 0) hx hb dX9_at_61 (by decide)) ?_
          exact z_iret C hr hlk dX9_at_62 (by simp only [zd, fX9_at, if_neg c_1, if_neg c_3, if_neg c_5, and_self])
end
section
def fX9_noteAll0 (v : Nat → Int32) (A : Nat → Nat → Int32) : (Nat → Int32) × (Nat → Nat → Int32) := ((upd v 34 0), A)
set_option maxHeartbeats 1000000 in
set_option maxRecDepth 10000 in
theorem ctX9_noteAll0 {l : Launch} {D : va_G} {aC : Nat → ClassId} {b0 sz : Nat} {r : Nat} {v : Nat → Int32} {A : Nat → Nat → Int32} {R : ZM} (h20 : v 20 = 0) (h27 : v 27 = 0) : Ct l D aC b0 yX9_noteAll cX9_noteAll 2 none 0 0 0 [.ref (r)] (mm aC r v A R) sz (zd none (mm aC r (fX9_noteAll0 v A).1 (fX9_noteAll0 v A).2 R)) := by
  refine Ct.of (by decide) (Nat.le_of_ble_eq_true rfl) ?_
  intro p e s m below meth c ls C hr hlk hnm hl
  have hl : lv_has ls 2 [(0, .ref (r))] := hl
  obtain ⟨hx, hb, -, -, -⟩ := id C
  refine zz (fun _ _ => lv_aload_n hx hb dX9_noteAll_0 rfl (lv_at hl 0 rfl)) ?_
  refine zz (fun _ _ => lv_iconst (v := 0) hx hb dX9_noteAll_1 (by decide)) ?_
  refine z_put C fp_X9_250 (fun h => by cases h) rm_0 (Nat.le_of_ble_eq_true rfl) rfl rfl dX9_noteAll_2 ?_
  refine zeq wm_f34 ?_
  refine zz (fun _ _ => lv_iconst (v := 0) hx hb dX9_noteAll_5 (by decide)) ?_
  refine zs (fun _ _ => lv_istore_n (lv' := [(1, .int (0)), (0, .ref (r))]) hx hb dX9_noteAll_6 rfl hl (by decide) rfl) (fun ls hl => ?_)
  refine zz (fun _ _ => lv_iload_n hx hb dX9_noteAll_7 rfl (lv_at hl 0 rfl)) ?_
  refine zz (fun _ _ => lv_aload_n hx hb dX9_noteAll_8 rfl (lv_at hl 1 rfl)) ?_
  refine z_get (v := .int (v 20)) C fd_X9_160 rm_0 rfl dX9_noteAll_9 ?_
  refine zval (v' := .int (0)) (congrArg Value.int h20) ?_
  refine zb (fun _ _ => lv_icmp_ge (tgt := 81) hx hb dX9_noteAll_12 (by decide)) (fun c_1 => ?_) (fun c_1 => ?_)
  · refine zz (fun _ _ => lv_iconst (v := 0) hx hb dX9_noteAll_81 (by decide)) ?_
    refine zs (fun _ _ => lv_istore_n (lv' := [(1, .int (0)), (0, .ref (r))]) hx hb dX9_noteAll_82 rfl hl (by decide) rfl) (fun ls hl => ?_)
    refine zz (fun _ _ => lv_iload_n hx hb dX9_noteAll_83 rfl (lv_at hl 0 rfl)) ?_
    refine zz (fun _ _ => lv_aload_n hx hb dX9_noteAll_84 rfl (lv_at hl 1 rfl)) ?_
    refine z_get (v := .int (v 27)) C fd_X9_244 rm_0 rfl dX9_noteAll_85 ?_
    refine zval (v' := .int (0)) (congrArg Value.int h27) ?_
    refine zb (fun _ _ => lv_icmp_ge (tgt := 157) hx hb dX9_noteAll_88 (by decide)) (fun c_2 => ?_) (fun c_2 => ?_)
    · exact z_vret C hr hlk dX9_noteAll_157 (by simp only [zd, fX9_noteAll0, and_self])
    · exact absurd (by decide) c_2
  · exact absurd (by decide) c_1
def stX9_run0_21 (i1_ : (Nat → Int32)) : Nat → (Nat → Int32)
  | 0 => (i1_)
  | j + 1 => ((upd ((stX9_run0_21 i1_ j)) (Int32.toNatClampNeg (nI j)) ((-1))))
set_option maxHeartbeats 2000000 in
set_option maxRecDepth 10000 in
theorem lpX9_run0_21 {p : Program} {l : Launch} {e : Env} {Rm : Room} {s : State} {m : MethodId} {args : Array Value} {below : List Frame} {meth : Method} {c : Code} {D : va_G} {aC : Nat → ClassId} {b0 cells slots : Nat} {Q : State → Prop} {r : Nat} {v : Nat → Int32} {A : Nat → Nat → Int32} {R : ZM} {i1_ : (Nat → Int32)} {N_ : Nat} (C : zC p l s m c D aC b0 RX9 cX9_run 3) (hNb : (12 : Int32) = nI N_) (hN2 : N_ ≤ 12) (hNl : N_ < 2 ^ 31) :
    ∀ (d j : Nat), j + d = N_ → ∀ (sz : Nat) (ls : Array Slot), lv_has ls 3 [(0, .ref (r)), (1, .int (nI j))] → (∀ (sz : Nat) (ls : Array Slot), lv_has ls 3 [(0, .ref (r)), (1, .int (nI N_))] → Z p l e Rm s m args below meth c D b0 (mm aC r v (u1 A 34 (stX9_run0_21 i1_ N_)) R) sz cells slots Q (F0 m 40 ls [])) → Z p l e Rm s m args below meth c D b0 (mm aC r v (u1 A 34 (stX9_run0_21 i1_ j)) R) sz cells slots Q (F0 m 21 ls []) := by
  obtain ⟨hx, hb, -, -, -⟩ := id C
  intro d
  induction d with
  | zero =>
    intro j hj0 sz ls hl K
    refine zz (fun _ _ => lv_iload_n hx hb dX9_run_21 rfl (lv_at hl 1 rfl)) ?_
    refine zz (fun _ _ => lv_bipush (v := 12) hx hb dX9_run_22 (by decide)) ?_
    refine zb (fun _ _ => lv_icmp_ge (tgt := 40) hx hb dX9_run_24 (by decide)) (fun c_1 => ?_) (fun c_1 => ?_)
    · obtain rfl := fl_eq (j := j) (N := N_) hNb (by omega) hNl c_1
      exact K _ _ (lv_sub hl [0, 1] rfl)
    · exact absurd (fl_lt (j := j) (N := N_) hNb (by omega) hNl c_1) (by omega)
  | succ d ih =>
    intro j hj0 sz ls hl K
    refine zz (fun _ _ => lv_iload_n hx hb dX9_run_21 rfl (lv_at hl 1 rfl)) ?_
    refine zz (fun _ _ => lv_bipush (v := 12) hx hb dX9_run_22 (by decide)) ?_
    refine zb (fun _ _ => lv_icmp_ge (tgt := 40) hx hb dX9_run_24 (by decide)) (fun c_1 => ?_) (fun c_1 => ?_)
    · obtain rfl := fl_eq (j := j) (N := N_) hNb (by omega) hNl c_1
      exact K _ _ (lv_sub hl [0, 1] rfl)
    · have hj9 : j < N_ := fl_lt hNb (by omega) hNl c_1
      refine zz (fun _ _ => lv_aload_n hx hb dX9_run_27 rfl (lv_at hl 0 rfl)) ?_
      refine z_get (v := .ref (r + 34)) C fd_X9_110 rm_0 rfl dX9_run_28 ?_
      refine zz (fun _ _ => lv_iload_n hx hb dX9_run_31 rfl (lv_at hl 1 rfl)) ?_
      refine zz (fun _ _ => lv_iconst (v := (-1)) hx hb dX9_run_32 (by decide)) ?_
      refine z_iast (f := (stX9_run0_21 i1_ j)) C rm_34 (in_nI (j := j) rfl (by omega) (by decide)) dX9_run_33 ?_
      refine zeq wm_34 ?_
      refine zeq (M' := (mm aC r v (u1 A 34 (upd ((stX9_run0_21 i1_ j)) (Int32.toNatClampNeg (nI j)) ((-1)))) R)) (by rw [u1_u1]) ?_
      refine zs (fun _ _ => lv_iinc (v := nI j + 1) (lv' := [(1, .int (nI j + 1)), (0, .ref (r))]) hx hb dX9_run_34 hl (k := 1) rfl rfl (by decide) rfl) (fun ls hl => ?_)
      refine zz (fun _ _ => lv_goto (tgt := 21) hx hb dX9_run_37 (by decide)) ?_
      have hI := ih (j + 1) (by omega)
      simp only [stX9_run0_21, if_neg c_1] at hI
      have hl := lv_sub hl [1, 0] rfl
      simp only [nI_1] at hl
      exact hI _ _ hl K
def fX9_run0 (v : Nat → Int32) (A : Nat → Nat → Int32) : Int32 × (Nat → Int32) × (Nat → Nat → Int32) := ((fX9_noteAll0 (upd (upd (fX9_keep (upd v 0 0) A).1 41 0) 42 (-1)) (u1 (fX9_keep (upd v 0 0) A).2 34 (stX9_run0_21 ((fX9_keep (upd v 0 0) A).2 34) 12))).1 34, (fX9_noteAll0 (upd (upd (fX9_keep (upd v 0 0) A).1 41 0) 42 (-1)) (u1 (fX9_keep (upd v 0 0) A).2 34 (stX9_run0_21 ((fX9_keep (upd v 0 0) A).2 34) 12))).1, (fX9_noteAll0 (upd (upd (fX9_keep (upd v 0 0) A).1 41 0) 42 (-1)) (u1 (fX9_keep (upd v 0 0) A).2 34 (stX9_run0_21 ((fX9_keep (upd v 0 0) A).2 34) 12))).2)
set_option maxHeartbeats 1000000 in
set_option maxRecDepth 10000 in
theorem ctX9_run0 {l : Launch} {D : va_G} {aC : Nat → ClassId} {b0 sz : Nat} {r : Nat} {v : Nat → Int32} {A : Nat → Nat → Int32} {R : ZM} (h1 : v 1 = 0) (h20 : v 20 = 0) (hz : ∀ j, j < 7 → A 23 j = 0 ∨ A 23 j = 1) : Ct l D aC b0 yX9_run cX9_run 3 (some .int) 1 0 0 [.ref (r)] (mm aC r v A R) sz (zd (some (.int (fX9_run0 v A).1)) (mm aC r (fX9_run0 v A).2.1 (fX9_run0 v A).2.2 R)) := by
  refine Ct.of (by decide) (Nat.le_of_ble_eq_true rfl) ?_
  intro p e s m below meth c ls C hr hlk hnm hl
  have hl : lv_has ls 3 [(0, .ref (r))] := hl
  obtain ⟨hx, hb, -, -, -⟩ := id C
  refine zz (fun _ _ => lv_aload_n hx hb dX9_run_0 rfl (lv_at hl 0 rfl)) ?_
  refine zz (fun _ _ => lv_iconst (v := 0) hx hb dX9_run_1 (by decide)) ?_
  refine z_put C fp_X9_129 (fun h => by cases h) rm_0 (Nat.le_of_ble_eq_true rfl) rfl rfl dX9_run_2 ?_
  refine zeq wm_f0 ?_
  refine zz (fun _ _ => lv_aload_n hx hb dX9_run_5 rfl (lv_at hl 0 rfl)) ?_
  refine zdV (As := []) (rest := []) (st' := []) C hl.1 lk_X9_264 (ctX9_keep (n_ := 0) h20 (by decide) hz) rm_0 rfl rfl rfl (Nat.le_of_ble_eq_true rfl) ⟨by decide, by decide, by decide, by decide⟩ dX9_run_6 rfl (fun sz => ?_)
  refine zz (fun _ _ => lv_aload_n hx hb dX9_run_9 rfl (lv_at hl 0 rfl)) ?_
  refine zz (fun _ _ => lv_iconst (v := 0) hx hb dX9_run_10 (by decide)) ?_
  refine z_put C fp_X9_196 (fun h => by cases h) rm_0 (Nat.le_of_ble_eq_true rfl) rfl rfl dX9_run_11 ?_
  refine zeq wm_f41 ?_
  refine zz (fun _ _ => lv_aload_n hx hb dX9_run_14 rfl (lv_at hl 0 rfl)) ?_
  refine zz (fun _ _ => lv_iconst (v := (-1)) hx hb dX9_run_15 (by decide)) ?_
  refine z_put C fp_X9_113 (fun h => by cases h) rm_0 (Nat.le_of_ble_eq_true rfl) rfl rfl dX9_run_16 ?_
  refine zeq wm_f42 ?_
  refine zz (fun _ _ => lv_iconst (v := 0) hx hb dX9_run_19 (by decide)) ?_
  refine zs (fun _ _ => lv_istore_n (lv' := [(1, .int (0)), (0, .ref (r))]) hx hb dX9_run_20 rfl hl (by decide) rfl) (fun ls hl => ?_)
  refine zeq (M' := (mm aC r (upd (upd (fX9_keep (upd v 0 0) A).1 41 0) 42 (-1)) (u1 (fX9_keep (upd v 0 0) A).2 34 ((fX9_keep (upd v 0 0) A).2 34)) R)) (by rw [u1_id2 (A := (fX9_keep (upd v 0 0) A).2) (k := 34) (g := (fX9_keep (upd v 0 0) A).2 34) rfl]) ?_
  refine lpX9_run0_21 (v := (upd (upd (fX9_keep (upd v 0 0) A).1 41 0) 42 (-1))) (A := (fX9_keep (upd v 0 0) A).2) (N_ := 12) C rfl (by decide) (by decide) 12 0 (Nat.zero_add _) _ _ (lv_sub hl [1, 0] rfl) (fun sz ls hl => ?_)
  refine zz (fun _ _ => lv_iconst (v := 0) hx hb dX9_run_40 (by decide)) ?_
  refine zs (fun _ _ => lv_istore_n (lv' := [(1, .int (0)), (0, .ref (r))]) hx hb dX9_run_41 rfl hl (by decide) rfl) (fun ls hl => ?_)
  refine zz (fun _ _ => lv_iload_n hx hb dX9_run_42 rfl (lv_at hl 0 rfl)) ?_
  refine zz (fun _ _ => lv_aload_n hx hb dX9_run_43 rfl (lv_at hl 1 rfl)) ?_
  refine z_get (v := .int ((fX9_keep (upd v 0 0) A).1 1)) C fd_X9_132 rm_0 rfl dX9_run_44 ?_
  refine zval (v' := .int (0)) (congrArg Value.int (by simp [fX9_keep, upd, h1])) ?_
  refine zb (fun _ _ => lv_icmp_ge (tgt := 98) hx hb dX9_run_47 (by decide)) (fun c_1 => ?_) (fun c_1 => ?_)
  · refine zz (fun _ _ => lv_aload_n hx hb dX9_run_98 rfl (lv_at hl 1 rfl)) ?_
    refine zdV (As := []) (rest := []) (st' := []) C hl.1 lk_X9_273 (ctX9_noteAll0 (by simp [fX9_keep, upd, h20]) (by simp [fX9_keep, upd, h20])) rm_0 rfl rfl rfl (Nat.le_of_ble_eq_true rfl) ⟨by decide, by decide, by decide, by decide⟩ dX9_run_99 rfl (fun sz => ?_)
    refine zz (fun _ _ => lv_aload_n hx hb dX9_run_102 rfl (lv_at hl 1 rfl)) ?_
    refine z_get (v := .int ((fX9_noteAll0 (upd (upd (fX9_keep (upd v 0 0) A).1 41 0) 42 (-1)) (u1 (fX9_keep (upd v 0 0) A).2 34 (stX9_run0_21 ((fX9_keep (upd v 0 0) A).2 34) 12))).1 34)) C fd_X9_250 rm_0 rfl dX9_run_103 ?_
    exact z_iret C hr hlk dX9_run_106 (by simp only [zd, fX9_run0, and_self])
  · exact absurd (by decide) c_1
end
section
theorem nI_nn {a : Int32} {n : Nat} (h : a = nI n) (hn : n < 2 ^ 31) : ¬ a < 0 := by
  rw [h, Int32.lt_iff_toInt_lt, nI_toInt hn]
  simp
def fX2_become (iv : Nat → Nat → Int32) (av : Nat → Nat → Int32) (k : Nat) (k2 : Nat) : (Nat → Nat → Int32) × (Nat → Nat → Int32) := ((u2 (u2 iv k 1 (iv k2 1)) k 2 (iv k2 2)), (u1 av (k + 1) (va_cpy (av (k2 + 1)) (av (k + 1)) (Int32.toNatClampNeg (0)) (Int32.toNatClampNeg (0)) (Int32.toNatClampNeg (iv k2 1)))))
set_option maxHeartbeats 1000000 in
set_option maxRecDepth 10000 in
theorem ctX2_become {l : Launch} {D : va_G} {aC : Nat → ClassId} {b0 sz : Nat} {x : Nat} {iv av : Nat → Nat → Int32} {R : ZM} {k : Nat} {k2 : Nat} (hk : ck k = 6) (hk2 : ck k2 = 6) {n_ : Nat} (hs : iv k2 1 = nI n_) (hn : n_ ≤ 120) (hz2 : iv k2 2 = 0 ∨ iv k2 2 = 1) : Ct l D aC b0 yX2_become cX2_become 2 none 0 0 0 [.ref (x + k), .ref (x + k2)] (cm aC x iv av R) sz (zd none (cm aC x (fX2_become iv av k k2).1 (fX2_become iv av k k2).2 R)) := by
  refine Ct.of (by decide) (Nat.le_of_ble_eq_true rfl) ?_
  intro p e s m below meth c ls C hr hlk hnm hl
  have hl : lv_has ls 2 [(0, .ref (x + k)), (1, .ref (x + k2))] := hl
  obtain ⟨hx, hb, -, -, -⟩ := id C
  refine zz (fun _ _ => lv_aload_n hx hb dX2_become_0 rfl (lv_at hl 1 rfl)) ?_
  refine z_get (v := .ref (x + (k2 + 1))) C fd_X2_9 (rd_6 hk2) rfl dX2_become_1 ?_
  refine zz (fun _ _ => lv_iconst (v := 0) hx hb dX2_become_4 (by decide)) ?_
  refine zz (fun _ _ => lv_aload_n hx hb dX2_become_5 rfl (lv_at hl 0 rfl)) ?_
  refine z_get (v := .ref (x + (k + 1))) C fd_X2_9 (rd_6 hk) rfl dX2_become_6 ?_
  refine zz (fun _ _ => lv_iconst (v := 0) hx hb dX2_become_9 (by decide)) ?_
  refine zz (fun _ _ => lv_aload_n hx hb dX2_become_10 rfl (lv_at hl 1 rfl)) ?_
  refine z_get (v := .int (iv k2 1)) C fd_X2_15 (rd_6 hk2) rfl dX2_become_11 ?_
  refine z_copy C hl.1 ac_X2_27 (rd_7 (nb_6_1 hk2)) (rd_7 (nb_6_1 hk)) (by decide) (by decide) (nI_nn hs (by omega)) (by rw [hs, nI_clamp (by omega)]; exact (Nat.zero_add _).symm ▸ hn) (by rw [hs, nI_clamp (by omega)]; exact (Nat.zero_add _).symm ▸ hn) (by decide) (by decide) dX2_become_14 (fun sz => ?_)
  refine zeq (wr_7 (nb_6_1 hk)) ?_
  refine zz (fun _ _ => lv_aload_n hx hb dX2_become_17 rfl (lv_at hl 0 rfl)) ?_
  refine zz (fun _ _ => lv_aload_n hx hb dX2_become_18 rfl (lv_at hl 1 rfl)) ?_
  refine z_get (v := .int (iv k2 1)) C fd_X2_15 (rd_6 hk2) rfl dX2_become_19 ?_
  refine z_put C fp_X2_15 (fun h => by cases h) (rd_6 hk) (Nat.le_of_ble_eq_true rfl) rfl rfl dX2_become_22 ?_
  refine zeq (wr_6_1 hk) ?_
  refine zz (fun _ _ => lv_aload_n hx hb dX2_become_25 rfl (lv_at hl 0 rfl)) ?_
  refine zz (fun _ _ => lv_aload_n hx hb dX2_become_26 rfl (lv_at hl 1 rfl)) ?_
  refine z_get (v := .int (iv k2 2)) C fd_X2_19 (rd_6 hk2) (by simp [u2]) dX2_become_27 ?_
  refine z_put C fp_X2_19 (fun h => by cases h) (rd_6 hk) (Nat.le_of_ble_eq_true rfl) (bz hz2) (bf hz2) dX2_become_30 ?_
  refine zeq (wr_6_2 hk) ?_
  exact z_vret C hr hlk dX2_become_33 (by simp only [zd, fX2_become, and_self])
def stX6_become_2 (k : Nat) (k2 : Nat) (i1_ : (Nat → Nat → Int32)) (i2_ : (Nat → Nat → Int32)) : Nat → (Nat → Nat → Int32) × (Nat → Nat → Int32)
  | 0 => (i1_, i2_)
  | j + 1 => ((fX2_become ((stX6_become_2 k k2 i1_ i2_ j).1) ((stX6_become_2 k k2 i1_ i2_ j).2) ((k + 1) + 1 + 2 * j) ((k2 + 1) + 1 + 2 * j)).1, (fX2_become ((stX6_become_2 k k2 i1_ i2_ j).1) ((stX6_become_2 k k2 i1_ i2_ j).2) ((k + 1) + 1 + 2 * j) ((k2 + 1) + 1 + 2 * j)).2)
set_option maxHeartbeats 2000000 in
set_option maxRecDepth 10000 in
theorem lpX6_become_2 {p : Program} {l : Launch} {e : Env} {s : State} {m : MethodId} {args : Array Value} {below : List Frame} {meth : Method} {c : Code} {D : va_G} {aC : Nat → ClassId} {b0 : Nat} {Q : State → Prop} {x : Nat} {iv av : Nat → Nat → Int32} {R : ZM} {k : Nat} {k2 : Nat} {i1_ : (Nat → Nat → Int32)} {i2_ : (Nat → Nat → Int32)} {N_ : Nat} (C : zC p l s m c D aC b0 RX6 cX6_become 3) (hk : ck k = 4) (hk2 : ck k2 = 4) (hG : ∀ i j, i ≤ 7 → j < 7 → ∃ n, n ≤ 120 ∧ (stX6_become_2 k k2 i1_ i2_ i).1 (k2 + 1 + 1 + 2 * j) 1 = nI n) (hZ : ∀ i j, i ≤ 7 → j < 7 → (stX6_become_2 k k2 i1_ i2_ i).1 (k2 + 1 + 1 + 2 * j) 2 = 0 ∨ (stX6_become_2 k k2 i1_ i2_ i).1 (k2 + 1 + 1 + 2 * j) 2 = 1) (hNb : (7 : Int32) = nI N_) (hN2 : N_ ≤ 7) (hNl : N_ < 2 ^ 31) :
    ∀ (d j : Nat), j + d = N_ → ∀ (sz : Nat) (ls : Array Slot), lv_has ls 3 [(0, .ref (x + k)), (1, .ref (x + k2)), (2, .int (nI j))] → (∀ (sz : Nat) (ls : Array Slot), lv_has ls 3 [(0, .ref (x + k)), (1, .ref (x + k2)), (2, .int (nI N_))] → Z p l e (rz 1 0 0) s m args below meth c D b0 (cm aC x ((stX6_become_2 k k2 i1_ i2_ N_).1) ((stX6_become_2 k k2 i1_ i2_ N_).2) R) sz 0 0 Q (F0 m 29 ls [])) → Z p l e (rz 1 0 0) s m args below meth c D b0 (cm aC x ((stX6_become_2 k k2 i1_ i2_ j).1) ((stX6_become_2 k k2 i1_ i2_ j).2) R) sz 0 0 Q (F0 m 2 ls []) := by
  obtain ⟨hx, hb, -, -, -⟩ := id C
  intro d
  induction d with
  | zero =>
    intro j hj0 sz ls hl K
    refine zz (fun _ _ => lv_iload_n hx hb dX6_become_2 rfl (lv_at hl 2 rfl)) ?_
    refine zz (fun _ _ => lv_bipush (v := 7) hx hb dX6_become_3 (by decide)) ?_
    refine zb (fun _ _ => lv_icmp_ge (tgt := 29) hx hb dX6_become_5 (by decide)) (fun c_1 => ?_) (fun c_1 => ?_)
    · obtain rfl := fl_eq (j := j) (N := N_) hNb (by omega) hNl c_1
      exact K _ _ (lv_sub hl [0, 1, 2] rfl)
    · exact absurd (fl_lt (j := j) (N := N_) hNb (by omega) hNl c_1) (by omega)
  | succ d ih =>
    intro j hj0 sz ls hl K
    refine zz (fun _ _ => lv_iload_n hx hb dX6_become_2 rfl (lv_at hl 2 rfl)) ?_
    refine zz (fun _ _ => lv_bipush (v := 7) hx hb dX6_become_3 (by decide)) ?_
    refine zb (fun _ _ => lv_icmp_ge (tgt := 29) hx hb dX6_become_5 (by decide)) (fun c_1 => ?_) (fun c_1 => ?_)
    · obtain rfl := fl_eq (j := j) (N := N_) hNb (by omega) hNl c_1
      exact K _ _ (lv_sub hl [0, 1, 2] rfl)
    · have hj9 : j < N_ := fl_lt hNb (by omega) hNl c_1
      refine zz (fun _ _ => lv_aload_n hx hb dX6_become_8 rfl (lv_at hl 0 rfl)) ?_
      refine z_get (v := .ref (x + (k + 1))) C fd_X6_11 (rd_4 hk) rfl dX6_become_9 ?_
      refine zz (fun _ _ => lv_iload_n hx hb dX6_become_12 rfl (lv_at hl 2 rfl)) ?_
      refine z_aald C 3 rfl (rd_5 (nb_4_1 hk)) (in_nI (j := j) rfl (by omega) (by decide)) (v := .ref (x + ((k + 1) + 1 + 2 * j))) (rf_if (f := fun q => x + (k + 1 + 1 + 2 * q)) (n := 7) rfl (Nat.lt_of_lt_of_le hj9 hN2) (by decide)) dX6_become_13 ?_
      refine zz (fun _ _ => lv_aload_n hx hb dX6_become_14 rfl (lv_at hl 1 rfl)) ?_
      refine z_get (v := .ref (x + (k2 + 1))) C fd_X6_11 (rd_4 hk2) rfl dX6_become_15 ?_
      refine zz (fun _ _ => lv_iload_n hx hb dX6_become_18 rfl (lv_at hl 2 rfl)) ?_
      refine z_aald C 3 rfl (rd_5 (nb_4_1 hk2)) (in_nI (j := j) rfl (by omega) (by decide)) (v := .ref (x + ((k2 + 1) + 1 + 2 * j))) (rf_if (f := fun q => x + (k2 + 1 + 1 + 2 * q)) (n := 7) rfl (Nat.lt_of_lt_of_le hj9 hN2) (by decide)) dX6_become_19 ?_
      obtain ⟨n9, hm9, hn9⟩ := hG j j (by omega) (by omega)
      refine zdV (As := [.ref (x + ((k2 + 1) + 1 + 2 * j))]) (rest := []) (st' := []) C hl.1 lk_X6_41 (ctX2_become (kp_5 (nb_4_1 hk) (Nat.lt_of_lt_of_le hj9 hN2)) (kp_5 (nb_4_1 hk2) (Nat.lt_of_lt_of_le hj9 hN2)) hn9 hm9 (hZ j j (by omega) (by omega))) (rd_6 (kp_5 (nb_4_1 hk) (Nat.lt_of_lt_of_le hj9 hN2))) rfl rfl rfl (Nat.le_of_ble_eq_true rfl) ⟨by decide, by decide, by decide, by decide⟩ dX6_become_20 rfl (fun sz => ?_)
      refine zs (fun _ _ => lv_iinc (v := nI j + 1) (lv' := [(2, .int (nI j + 1)), (0, .ref (x + k)), (1, .ref (x + k2))]) hx hb dX6_become_23 hl (k := 2) rfl rfl (by decide) rfl) (fun ls hl => ?_)
      refine zz (fun _ _ => lv_goto (tgt := 2) hx hb dX6_become_26 (by decide)) ?_
      have hI := ih (j + 1) (by omega)
      simp only [stX6_become_2, if_neg c_1] at hI
      have hl := lv_sub hl [1, 2, 0] rfl
      simp only [nI_1] at hl
      exact hI _ _ hl K
theorem become_o {k k2 : Nat} {iv av : Nat → Nat → Int32} : ∀ (i q f : Nat), (∀ j, j < i → q ≠ k + 1 + 1 + 2 * j) → (stX6_become_2 k k2 iv av i).1 q f = iv q f := by
  intro i
  induction i with
  | zero => intro q f _; rfl
  | succ i ih =>
    intro q f h
    have h1 := h i (Nat.lt_succ_self i)
    simp only [stX6_become_2, fX2_become]
    rw [u2_k _ _ _ _ h1, u2_k _ _ _ _ h1]
    exact ih q f (fun j hj => h j (by omega))
theorem become_i {k k2 : Nat} {iv av : Nat → Nat → Int32} (hd : k + 18 ≤ k2 ∨ k2 + 18 ≤ k) : ∀ (i j f : Nat), i ≤ 7 → j < i → f = 1 ∨ f = 2 → (stX6_become_2 k k2 iv av i).1 (k + 1 + 1 + 2 * j) f = iv (k2 + 1 + 1 + 2 * j) f := by
  intro i
  induction i with
  | zero => intro j f _ hj; exact absurd hj (Nat.not_lt_zero _)
  | succ i ih =>
    intro j f hi hj hf
    simp only [stX6_become_2, fX2_become]
    by_cases q : j = i
    · subst q
      have e : ∀ f, (stX6_become_2 k k2 iv av j).1 (k2 + 1 + 1 + 2 * j) f = iv (k2 + 1 + 1 + 2 * j) f := fun f => become_o _ _ _ (fun z hz => by omega)
      rcases hf with rfl | rfl
      · rw [u2_f _ _ _ (by decide), u2_s, e]
      · rw [u2_s, e]
    · have h1 : k + 1 + 1 + 2 * j ≠ k + 1 + 1 + 2 * i := by omega
      rw [u2_k _ _ _ _ h1, u2_k _ _ _ _ h1]
      exact ih j f (by omega) (by omega) hf
def fX6_become (iv : Nat → Nat → Int32) (av : Nat → Nat → Int32) (k : Nat) (k2 : Nat) : (Nat → Nat → Int32) × (Nat → Nat → Int32) := ((u2 (stX6_become_2 k k2 iv av 7).1 k 1 (((stX6_become_2 k k2 iv av 7).1) k2 1)), (stX6_become_2 k k2 iv av 7).2)
set_option maxHeartbeats 1000000 in
set_option maxRecDepth 10000 in
theorem ctX6_become {l : Launch} {D : va_G} {aC : Nat → ClassId} {b0 sz : Nat} {x : Nat} {iv av : Nat → Nat → Int32} {R : ZM} {k : Nat} {k2 : Nat} (hk : ck k = 4) (hk2 : ck k2 = 4) (hd : k + 18 ≤ k2 ∨ k2 + 18 ≤ k) (hG : ∀ j, j < 7 → ∃ n, n ≤ 120 ∧ iv (k2 + 1 + 1 + 2 * j) 1 = nI n) (hZ : ∀ j, j < 7 → iv (k2 + 1 + 1 + 2 * j) 2 = 0 ∨ iv (k2 + 1 + 1 + 2 * j) 2 = 1) : Ct l D aC b0 yX6_become cX6_become 3 none 1 0 0 [.ref (x + k), .ref (x + k2)] (cm aC x iv av R) sz (zd none (cm aC x (fX6_become iv av k k2).1 (fX6_become iv av k k2).2 R)) := by
  refine Ct.of (by decide) (Nat.le_of_ble_eq_true rfl) ?_
  intro p e s m below meth c ls C hr hlk hnm hl
  have hl : lv_has ls 3 [(0, .ref (x + k)), (1, .ref (x + k2))] := hl
  obtain ⟨hx, hb, -, -, -⟩ := id C
  refine zz (fun _ _ => lv_iconst (v := 0) hx hb dX6_become_0 (by decide)) ?_
  refine zs (fun _ _ => lv_istore_n (lv' := [(2, .int (0)), (0, .ref (x + k)), (1, .ref (x + k2))]) hx hb dX6_become_1 rfl hl (by decide) rfl) (fun ls hl => ?_)
  refine lpX6_become_2  (N_ := 7) C (iv := iv) (av := av) (i1_ := iv) (i2_ := av) hk hk2 (fun i j h1 h2 => by rw [become_o _ _ _ (fun z hz => by omega)]; exact hG j h2) (fun i j h1 h2 => by rw [become_o _ _ _ (fun z hz => by omega)]; exact hZ j h2) rfl (by decide) (by decide) 7 0 (Nat.zero_add _) _ _ (lv_sub hl [1, 2, 0] rfl) (fun sz ls hl => ?_)
  refine zz (fun _ _ => lv_aload_n hx hb dX6_become_29 rfl (lv_at hl 0 rfl)) ?_
  refine zz (fun _ _ => lv_aload_n hx hb dX6_become_30 rfl (lv_at hl 1 rfl)) ?_
  refine z_get (v := .int (((stX6_become_2 k k2 iv av 7).1) k2 1)) C fd_X6_17 (rd_4 hk2) rfl dX6_become_31 ?_
  refine z_put C fp_X6_17 (fun h => by cases h) (rd_4 hk) (Nat.le_of_ble_eq_true rfl) rfl rfl dX6_become_34 ?_
  refine zeq (wr_4_1 hk) ?_
  exact z_vret C hr hlk dX6_become_37 (by simp only [zd, fX6_become, and_self])
end
section
def fX0_compareGraphs0  : Unit := ()
set_option maxHeartbeats 1000000 in
set_option maxRecDepth 10000 in
theorem ctX0_compareGraphs0 {l : Launch} {D : va_G} {aC : Nat → ClassId} {b0 sz : Nat} {x : Nat} {iv av : Nat → Nat → Int32} {R : ZM} {k : Nat} {k2 : Nat} {a_ : Int32} (hk : ck k = 6) (hk2 : ck k2 = 6) (h1 : iv k 1 = 0) (h2 : iv k2 1 = 0) : Ct l D aC b0 yX0_compareGraphs cX0_compareGraphs 6 none 0 0 0 [.ref (x + 57), .int (a_), .ref (x + k), .ref (x + k2)] (cm aC x iv av R) sz (zd none (cm aC x iv av R)) := by
  refine Ct.of (by decide) (Nat.le_of_ble_eq_true rfl) ?_
  intro p e s m below meth c ls C hr hlk hnm hl
  have hl : lv_has ls 6 [(0, .ref (x + 57)), (1, .int (a_)), (2, .ref (x + k)), (3, .ref (x + k2))] := hl
  obtain ⟨hx, hb, -, -, -⟩ := id C
  refine zz (fun _ _ => lv_iconst (v := 0) hx hb dX0_compareGraphs_0 (by decide)) ?_
  refine zs (fun _ _ => lv_istore (lv' := [(4, .int (0)), (0, .ref (x + 57)), (1, .int (a_)), (2, .ref (x + k)), (3, .ref (x + k2))]) hx hb dX0_compareGraphs_1 hl (by decide) rfl) (fun ls hl => ?_)
  refine zz (fun _ _ => lv_iconst (v := 0) hx hb dX0_compareGraphs_3 (by decide)) ?_
  refine zs (fun _ _ => lv_istore (lv' := [(5, .int (0)), (4, .int (0)), (0, .ref (x + 57)), (1, .int (a_)), (2, .ref (x + k)), (3, .ref (x + k2))]) hx hb dX0_compareGraphs_4 hl (by decide) rfl) (fun ls hl => ?_)
  refine zz (fun _ _ => lv_iload hx hb dX0_compareGraphs_6 (lv_at hl 1 rfl)) ?_
  refine zz (fun _ _ => lv_aload_n hx hb dX0_compareGraphs_8 rfl (lv_at hl 4 rfl)) ?_
  refine z_get (v := .int (iv k 1)) C fd_X0_35 (rd_6 hk) rfl dX0_compareGraphs_9 ?_
  refine zval (v' := .int (0)) (congrArg Value.int h1) ?_
  refine zb (fun _ _ => lv_icmp_lt (tgt := 24) hx hb dX0_compareGraphs_12 (by decide)) (fun c_1 => ?_) (fun c_1 => ?_)
  · exact absurd c_1 (by decide)
  · refine zz (fun _ _ => lv_iload hx hb dX0_compareGraphs_15 (lv_at hl 0 rfl)) ?_
    refine zz (fun _ _ => lv_aload_n hx hb dX0_compareGraphs_17 rfl (lv_at hl 5 rfl)) ?_
    refine z_get (v := .int (iv k2 1)) C fd_X0_35 (rd_6 hk2) rfl dX0_compareGraphs_18 ?_
    refine zval (v' := .int (0)) (congrArg Value.int h2) ?_
    refine zb (fun _ _ => lv_icmp_ge (tgt := 132) hx hb dX0_compareGraphs_21 (by decide)) (fun c_2 => ?_) (fun c_2 => ?_)
    · exact z_vret C hr hlk dX0_compareGraphs_132 (by simp only [zd, fX0_compareGraphs0, and_self])
    · exact absurd (by decide) c_2
def stX0_compare0_7 (i1_ : (Nat → Nat → Int32)) : Nat → (Nat → Nat → Int32)
  | 0 => (i1_)
  | j + 1 => ((stX0_compare0_7 i1_ j))
set_option maxHeartbeats 2000000 in
set_option maxRecDepth 10000 in
theorem lpX0_compare0_7 {p : Program} {l : Launch} {e : Env} {s : State} {m : MethodId} {args : Array Value} {below : List Frame} {meth : Method} {c : Code} {D : va_G} {aC : Nat → ClassId} {b0 : Nat} {Q : State → Prop} {x : Nat} {iv av : Nat → Nat → Int32} {R : ZM} {i1_ : (Nat → Nat → Int32)} {N_ : Nat} (C : zC p l s m c D aC b0 RX0 cX0_compare 4) (hA : ∀ i j, j < 7 → stX0_compare0_7 i1_ i (42 + 1 + 2 * j) 1 = 0) (hB : ∀ i j, j < 7 → stX0_compare0_7 i1_ i (4 + 1 + 2 * j) 1 = 0) (hNb : (7 : Int32) = nI N_) (hN2 : N_ ≤ 7) (hNl : N_ < 2 ^ 31) :
    ∀ (d j : Nat), j + d = N_ → ∀ (sz : Nat) (ls : Array Slot), lv_has ls 4 [(0, .ref (x + 57)), (1, .ref (x + 41)), (2, .ref (x + 3)), (3, .int (nI j))] → (∀ (sz : Nat) (ls : Array Slot), lv_has ls 4 [(0, .ref (x + 57)), (1, .ref (x + 41)), (2, .ref (x + 3)), (3, .int (nI N_))] → Z p l e (rz 1 0 0) s m args below meth c D b0 (cm aC x (stX0_compare0_7 i1_ N_) av R) sz 0 0 Q (F0 m 36 ls [])) → Z p l e (rz 1 0 0) s m args below meth c D b0 (cm aC x (stX0_compare0_7 i1_ j) av R) sz 0 0 Q (F0 m 7 ls []) := by
  obtain ⟨hx, hb, -, -, -⟩ := id C
  intro d
  induction d with
  | zero =>
    intro j hj0 sz ls hl K
    refine zz (fun _ _ => lv_iload_n hx hb dX0_compare_7 rfl (lv_at hl 3 rfl)) ?_
    refine zz (fun _ _ => lv_bipush (v := 7) hx hb dX0_compare_8 (by decide)) ?_
    refine zb (fun _ _ => lv_icmp_ge (tgt := 36) hx hb dX0_compare_10 (by decide)) (fun c_1 => ?_) (fun c_1 => ?_)
    · obtain rfl := fl_eq (j := j) (N := N_) hNb (by omega) hNl c_1
      exact K _ _ (lv_sub hl [0, 1, 2, 3] rfl)
    · exact absurd (fl_lt (j := j) (N := N_) hNb (by omega) hNl c_1) (by omega)
  | succ d ih =>
    intro j hj0 sz ls hl K
    refine zz (fun _ _ => lv_iload_n hx hb dX0_compare_7 rfl (lv_at hl 3 rfl)) ?_
    refine zz (fun _ _ => lv_bipush (v := 7) hx hb dX0_compare_8 (by decide)) ?_
    refine zb (fun _ _ => lv_icmp_ge (tgt := 36) hx hb dX0_compare_10 (by decide)) (fun c_1 => ?_) (fun c_1 => ?_)
    · obtain rfl := fl_eq (j := j) (N := N_) hNb (by omega) hNl c_1
      exact K _ _ (lv_sub hl [0, 1, 2, 3] rfl)
    · have hj9 : j < N_ := fl_lt hNb (by omega) hNl c_1
      refine zz (fun _ _ => lv_aload_n hx hb dX0_compare_13 rfl (lv_at hl 0 rfl)) ?_
      refine zz (fun _ _ => lv_iload_n hx hb dX0_compare_14 rfl (lv_at hl 3 rfl)) ?_
      refine zz (fun _ _ => lv_aload_n hx hb dX0_compare_15 rfl (lv_at hl 1 rfl)) ?_
      refine z_get (v := .ref (x + 42)) C fd_X0_25 (rd_4 (by decide)) rfl dX0_compare_16 ?_
      refine zz (fun _ _ => lv_iload_n hx hb dX0_compare_19 rfl (lv_at hl 3 rfl)) ?_
      refine z_aald C 3 rfl (rd_5 (by decide)) (in_nI (j := j) rfl (by omega) (by decide)) (v := .ref (x + (42 + 1 + 2 * j))) (rf_if (f := fun q => x + (42 + 1 + 2 * q)) (n := 7) rfl (Nat.lt_of_lt_of_le hj9 hN2) (by decide)) dX0_compare_20 ?_
      refine zz (fun _ _ => lv_aload_n hx hb dX0_compare_21 rfl (lv_at hl 2 rfl)) ?_
      refine z_get (v := .ref (x + 4)) C fd_X0_25 (rd_4 (by decide)) rfl dX0_compare_22 ?_
      refine zz (fun _ _ => lv_iload_n hx hb dX0_compare_25 rfl (lv_at hl 3 rfl)) ?_
      refine z_aald C 3 rfl (rd_5 (by decide)) (in_nI (j := j) rfl (by omega) (by decide)) (v := .ref (x + (4 + 1 + 2 * j))) (rf_if (f := fun q => x + (4 + 1 + 2 * q)) (n := 7) rfl (Nat.lt_of_lt_of_le hj9 hN2) (by decide)) dX0_compare_26 ?_
      refine zdV (As := [.int (nI j), .ref (x + (42 + 1 + 2 * j)), .ref (x + (4 + 1 + 2 * j))]) (rest := []) (st' := []) C hl.1 lk_X0_31 (ctX0_compareGraphs0 (kp_5 (k := 42) (by decide) (Nat.lt_of_lt_of_le hj9 hN2)) (kp_5 (k := 4) (by decide) (Nat.lt_of_lt_of_le hj9 hN2)) (hA j j (by omega)) (hB j j (by omega))) (rd_16 (by decide)) rfl rfl rfl (Nat.le_of_ble_eq_true rfl) ⟨by decide, by decide, by decide, by decide⟩ dX0_compare_27 rfl (fun sz => ?_)
      refine zs (fun _ _ => lv_iinc (v := nI j + 1) (lv' := [(3, .int (nI j + 1)), (0, .ref (x + 57)), (1, .ref (x + 41)), (2, .ref (x + 3))]) hx hb dX0_compare_30 hl (k := 3) rfl rfl (by decide) rfl) (fun ls hl => ?_)
      refine zz (fun _ _ => lv_goto (tgt := 7) hx hb dX0_compare_33 (by decide)) ?_
      have hI := ih (j + 1) (by omega)
      simp only [stX0_compare0_7, if_neg c_1] at hI
      have hl := lv_sub hl [1, 2, 3, 0] rfl
      simp only [nI_1] at hl
      exact hI _ _ hl K
theorem cmp_st (iv : Nat → Nat → Int32) : ∀ i, stX0_compare0_7 iv i = iv := by
  intro i
  induction i with
  | zero => rfl
  | succ i ih => simp only [stX0_compare0_7, ih]
def fX0_compare0 (iv : Nat → Nat → Int32) (av : Nat → Nat → Int32) : (Nat → Nat → Int32) × (Nat → Nat → Int32) := ((stX0_compare0_7 (u2 iv 57 3 (0)) 7), av)
set_option maxHeartbeats 1000000 in
set_option maxRecDepth 10000 in
theorem ctX0_compare0 {l : Launch} {D : va_G} {aC : Nat → ClassId} {b0 sz : Nat} {x : Nat} {iv av : Nat → Nat → Int32} {R : ZM} (hA : ∀ j, j < 7 → iv (42 + 1 + 2 * j) 1 = 0) (hB : ∀ j, j < 7 → iv (4 + 1 + 2 * j) 1 = 0) : Ct l D aC b0 yX0_compare cX0_compare 4 none 1 0 0 [.ref (x + 57), .ref (x + 41), .ref (x + 3)] (cm aC x iv av R) sz (zd none (cm aC x (fX0_compare0 iv av).1 (fX0_compare0 iv av).2 R)) := by
  refine Ct.of (by decide) (Nat.le_of_ble_eq_true rfl) ?_
  intro p e s m below meth c ls C hr hlk hnm hl
  have hl : lv_has ls 4 [(0, .ref (x + 57)), (1, .ref (x + 41)), (2, .ref (x + 3))] := hl
  obtain ⟨hx, hb, -, -, -⟩ := id C
  refine zz (fun _ _ => lv_aload_n hx hb dX0_compare_0 rfl (lv_at hl 0 rfl)) ?_
  refine zz (fun _ _ => lv_iconst (v := 0) hx hb dX0_compare_1 (by decide)) ?_
  refine z_put C fp_X0_21 (fun h => by cases h) (rd_16 (by decide)) (Nat.le_of_ble_eq_true rfl) rfl rfl dX0_compare_2 ?_
  refine zeq (wr_16_3 (by decide)) ?_
  refine zz (fun _ _ => lv_iconst (v := 0) hx hb dX0_compare_5 (by decide)) ?_
  refine zs (fun _ _ => lv_istore_n (lv' := [(3, .int (0)), (0, .ref (x + 57)), (1, .ref (x + 41)), (2, .ref (x + 3))]) hx hb dX0_compare_6 rfl hl (by decide) rfl) (fun ls hl => ?_)
  refine lpX0_compare0_7  (N_ := 7) C (iv := iv) (av := av) (i1_ := u2 iv 57 3 0) (fun i j h => by rw [cmp_st, u2_k _ _ _ _ (by omega)]; exact hA j h) (fun i j h => by rw [cmp_st, u2_k _ _ _ _ (by omega)]; exact hB j h) rfl (by decide) (by decide) 7 0 (Nat.zero_add _) _ _ (lv_sub hl [1, 2, 3, 0] rfl) (fun sz ls hl => ?_)
  exact z_vret C hr hlk dX0_compare_36 (by simp only [zd, fX0_compare0, and_self])
theorem fb_o {iv av : Nat → Nat → Int32} {q f : Nat} (h : q < 41) : (fX6_become iv av 41 3).1 q f = iv q f := by
  simp only [fX6_become]
  rw [u2_k _ _ _ _ (by omega), become_o _ _ _ (fun j hj => by omega)]
theorem fb_i {iv av : Nat → Nat → Int32} {j : Nat} (h : j < 7) : (fX6_become iv av 41 3).1 (42 + 1 + 2 * j) 1 = iv (4 + 1 + 2 * j) 1 := by
  simp only [fX6_become]
  rw [u2_k _ _ _ _ (by omega)]
  exact become_i (k := 41) (k2 := 3) (Or.inr (by decide)) 7 j 1 (by decide) h (Or.inl rfl)
def fX8_run0 (iv : Nat → Nat → Int32) (av : Nat → Nat → Int32) : Int32 × (Nat → Nat → Int32) × (Nat → Nat → Int32) := ((fX0_compare0 (u2 (u2 (u2 (fX6_become iv av 41 3).1 2 4 (0)) 0 6 ((-1))) 0 7 (0)) ((fX6_become iv av 41 3).2)).1 57 3, (fX0_compare0 (u2 (u2 (u2 (fX6_become iv av 41 3).1 2 4 (0)) 0 6 ((-1))) 0 7 (0)) ((fX6_become iv av 41 3).2)).1, (fX0_compare0 (u2 (u2 (u2 (fX6_become iv av 41 3).1 2 4 (0)) 0 6 ((-1))) 0 7 (0)) ((fX6_become iv av 41 3).2)).2)
set_option maxHeartbeats 1000000 in
set_option maxRecDepth 10000 in
theorem ctX8_run0 {l : Launch} {D : va_G} {aC : Nat → ClassId} {b0 sz : Nat} {x : Nat} {iv av : Nat → Nat → Int32} {R : ZM} (h0 : iv 0 5 = 0) (hG : ∀ j, j < 7 → iv (4 + 1 + 2 * j) 1 = 0) (hZ : ∀ j, j < 7 → iv (3 + 1 + 1 + 2 * j) 2 = 0 ∨ iv (3 + 1 + 1 + 2 * j) 2 = 1) : Ct l D aC b0 yX8_run cX8_run 3 (some .int) 2 0 0 [.ref (x + 0)] (cm aC x iv av R) sz (zd (some (.int (fX8_run0 iv av).1)) (cm aC x (fX8_run0 iv av).2.1 (fX8_run0 iv av).2.2 R)) := by
  refine Ct.of (by decide) (Nat.le_of_ble_eq_true rfl) ?_
  intro p e s m below meth c ls C hr hlk hnm hl
  have hl : lv_has ls 3 [(0, .ref (x + 0))] := hl
  obtain ⟨hx, hb, -, -, -⟩ := id C
  refine zz (fun _ _ => lv_aload_n hx hb dX8_run_0 rfl (lv_at hl 0 rfl)) ?_
  refine z_get (v := .ref (x + 41)) C fd_X8_30 (rd_1 (by decide)) rfl dX8_run_1 ?_
  refine zz (fun _ _ => lv_aload_n hx hb dX8_run_4 rfl (lv_at hl 0 rfl)) ?_
  refine z_get (v := .ref (x + 3)) C fd_X8_26 (rd_1 (by decide)) rfl dX8_run_5 ?_
  refine zdV (As := [.ref (x + 3)]) (rest := []) (st' := []) C hl.1 lk_X8_151 (ctX6_become (k := 41) (k2 := 3) (by decide) (by decide) (Or.inr (by decide)) (fun j hj => ⟨0, by decide, hG j hj⟩) hZ) (rd_4 (by decide)) rfl rfl rfl (Nat.le_of_ble_eq_true rfl) ⟨by decide, by decide, by decide, by decide⟩ dX8_run_8 rfl (fun sz => ?_)
  refine zz (fun _ _ => lv_aload_n hx hb dX8_run_11 rfl (lv_at hl 0 rfl)) ?_
  refine z_get (v := .ref (x + 2)) C fd_X8_18 (rd_1 (by decide)) rfl dX8_run_12 ?_
  refine zz (fun _ _ => lv_iconst (v := 0) hx hb dX8_run_15 (by decide)) ?_
  refine z_put C fp_X8_155 (fun h => by cases h) (rd_3 (by decide)) (Nat.le_of_ble_eq_true rfl) rfl rfl dX8_run_16 ?_
  refine zeq (wr_3_4 (by decide)) ?_
  refine zz (fun _ _ => lv_iconst (v := 0) hx hb dX8_run_19 (by decide)) ?_
  refine zs (fun _ _ => lv_istore_n (lv' := [(1, .int (0)), (0, .ref (x + 0))]) hx hb dX8_run_20 rfl hl (by decide) rfl) (fun ls hl => ?_)
  refine zz (fun _ _ => lv_iload_n hx hb dX8_run_21 rfl (lv_at hl 0 rfl)) ?_
  refine zz (fun _ _ => lv_aload_n hx hb dX8_run_22 rfl (lv_at hl 1 rfl)) ?_
  refine z_get (v := .int ((fX6_become iv av 41 3).1 0 5)) C fd_X8_40 (rd_1 (by decide)) (by simp [u2]) dX8_run_23 ?_
  refine zval (v' := .int (0)) (congrArg Value.int (by rw [fb_o (by decide)]; exact h0)) ?_
  refine zb (fun _ _ => lv_icmp_ge (tgt := 45) hx hb dX8_run_26 (by decide)) (fun c_1 => ?_) (fun c_1 => ?_)
  · refine zz (fun _ _ => lv_iconst (v := 0) hx hb dX8_run_45 (by decide)) ?_
    refine zs (fun _ _ => lv_istore_n (lv' := [(1, .int (0)), (0, .ref (x + 0))]) hx hb dX8_run_46 rfl hl (by decide) rfl) (fun ls hl => ?_)
    refine zz (fun _ _ => lv_iload_n hx hb dX8_run_47 rfl (lv_at hl 0 rfl)) ?_
    refine zz (fun _ _ => lv_aload_n hx hb dX8_run_48 rfl (lv_at hl 1 rfl)) ?_
    refine z_get (v := .int ((fX6_become iv av 41 3).1 0 5)) C fd_X8_40 (rd_1 (by decide)) (by simp [u2]) dX8_run_49 ?_
    refine zval (v' := .int (0)) (congrArg Value.int (by rw [fb_o (by decide)]; exact h0)) ?_
    refine zb (fun _ _ => lv_icmp_ge (tgt := 117) hx hb dX8_run_52 (by decide)) (fun c_2 => ?_) (fun c_2 => ?_)
    · refine zz (fun _ _ => lv_aload_n hx hb dX8_run_117 rfl (lv_at hl 1 rfl)) ?_
      refine zz (fun _ _ => lv_iconst (v := (-1)) hx hb dX8_run_118 (by decide)) ?_
      refine z_put C fp_X8_44 (fun h => by cases h) (rd_1 (by decide)) (Nat.le_of_ble_eq_true rfl) rfl rfl dX8_run_119 ?_
      refine zeq (wr_1_6 (by decide)) ?_
      refine zz (fun _ _ => lv_aload_n hx hb dX8_run_122 rfl (lv_at hl 1 rfl)) ?_
      refine zz (fun _ _ => lv_aload_n hx hb dX8_run_123 rfl (lv_at hl 1 rfl)) ?_
      refine z_get (v := .ref (x + 2)) C fd_X8_18 (rd_1 (by decide)) rfl dX8_run_124 ?_
      refine z_get (v := .int (0)) C fd_X8_155 (rd_3 (by decide)) (by simp [u2]) dX8_run_127 ?_
      refine z_put C fp_X8_47 (fun h => by cases h) (rd_1 (by decide)) (Nat.le_of_ble_eq_true rfl) rfl rfl dX8_run_130 ?_
      refine zeq (wr_1_7 (by decide)) ?_
      refine zz (fun _ _ => lv_aload_n hx hb dX8_run_133 rfl (lv_at hl 1 rfl)) ?_
      refine z_get (v := .ref (x + 57)) C fd_X8_36 (rd_1 (by decide)) rfl dX8_run_134 ?_
      refine zz (fun _ _ => lv_aload_n hx hb dX8_run_137 rfl (lv_at hl 1 rfl)) ?_
      refine z_get (v := .ref (x + 41)) C fd_X8_30 (rd_1 (by decide)) rfl dX8_run_138 ?_
      refine zz (fun _ _ => lv_aload_n hx hb dX8_run_141 rfl (lv_at hl 1 rfl)) ?_
      refine z_get (v := .ref (x + 3)) C fd_X8_26 (rd_1 (by decide)) rfl dX8_run_142 ?_
      refine zdV (As := [.ref (x + 41), .ref (x + 3)]) (rest := []) (st' := []) C hl.1 lk_X8_169 (ctX0_compare0 (fun j hj => by rw [u2_k _ _ _ _ (by omega), u2_k _ _ _ _ (by omega), u2_k _ _ _ _ (by omega), fb_i hj]; exact hG j hj) (fun j hj => by rw [u2_k _ _ _ _ (by omega), u2_k _ _ _ _ (by omega), u2_k _ _ _ _ (by omega), fb_o (by omega)]; exact hG j hj)) (rd_16 (by decide)) rfl rfl rfl (Nat.le_of_ble_eq_true rfl) ⟨by decide, by decide, by decide, by decide⟩ dX8_run_145 rfl (fun sz => ?_)
      refine zz (fun _ _ => lv_aload_n hx hb dX8_run_148 rfl (lv_at hl 1 rfl)) ?_
      refine z_get (v := .ref (x + 57)) C fd_X8_36 (rd_1 (by decide)) rfl dX8_run_149 ?_
      refine z_get (v := .int ((fX0_compare0 (u2 (u2 (u2 (fX6_become iv av 41 3).1 2 4 (0)) 0 6 ((-1))) 0 7 (0)) ((fX6_become iv av 41 3).2)).1 57 3)) C fd_X8_173 (rd_16 (by decide)) rfl dX8_run_152 ?_
      exact z_iret C hr hlk dX8_run_155 (by simp only [zd, fX8_run0, and_self])
    · exact absurd (by decide) c_2
  · exact absurd (by decide) c_1
end
section
/-! rows for the law's own body: the script, the long cell, calls of its methods -/
section ZRL
variable {p : Program} {l : Launch} {e : Env} {R : Room} {s : State} {m : MethodId} {args : Array Value} {below : List Frame} {meth : Method} {c : Code} {D : va_G} {aC : Nat → ClassId} {b0 : Nat} {M : ZM} {sz cells slots : Nat} {Q : State → Prop} {own : String} {cc : ByteArray} {nL pc : Nat} {ls : Array Slot} {rest : List Value} {a : Nat} {H : Heap} {locs : List Loc}
theorem lv_lcmp_eq (hexec : p.tables.exec = Jvm.exec) (hb : c.code = cc) {x y : Int64} (hxy : x = y) (hdg : decode cc pc = .ok (.lcmp, 1))
    (k : W p l e R s m args below meth c H locs cells slots Q (F0 m (pc + 1) ls (.int 0 :: rest))) : W p l e R s m args below meth c H locs cells slots Q (F0 m pc ls (.long y :: .long x :: rest)) := by
  subst hxy
  intro T hT X
  obtain ⟨t, a, b⟩ := k T hT X
  refine ⟨t, ?_, b⟩
  jvm_step X.here [X.here.top, hexec, hb, hdg]
  exact a
theorem z_lald (C : zC p l s m c D aC b0 own cc nL) {n : Nat} {f : Nat → Int64} {i : Int32} (ha : M a = some (.inl (aC 6, n, .inr (.inl f)))) (hin : vp_in i n) (hdg : decode cc pc = .ok (.laload, 1))
    (kk : Z p l e R s m args below meth c D b0 M sz cells slots Q (F0 m (pc + 1) ls (.long (f i.toNatClampNeg) :: rest))) : Z p l e R s m args below meth c D b0 M sz cells slots Q (F0 m pc ls (.int i :: .ref a :: rest)) := by
  obtain ⟨hx, hb, -, hown, -, hK, hg, -⟩ := C
  exact fun H locs h1 h2 h3 => va_lald (D := D) hx hb hK (h1.one ha) 0 6 rfl rfl hin hdg (kk H locs h1 h2 h3)
/-- a number of the script -/
theorem z_sld (C : zC p l s m c D aC b0 own cc nL) {b L i : Nat} {xs : Nat → Int32} (hX : va_X b L xs s s.heap) (hbl : b < s.heap.size) (hbA : b < b0) (hi : i < L) (hL : L < 2 ^ 31) (hdg : decode cc pc = .ok (.iaload, 1))
    (kk : Z p l e R s m args below meth c D b0 M sz cells slots Q (F0 m (pc + 1) ls (.int (xs i) :: rest))) : Z p l e R s m args below meth c D b0 M sz cells slots Q (F0 m pc ls (.int (nI i) :: .ref b :: rest)) := by
  obtain ⟨hx, hb, -⟩ := C
  intro H locs h1 h2 h3
  refine va_sld hx hb hX hbl (show ¬ zA b0 b by unfold zA; omega) h3 (vp_in_nI hi hL) hdg ?_
  rw [nI_clamp (by omega)]
  exact kk H locs h1 h2 h3
theorem z_slen (C : zC p l s m c D aC b0 own cc nL) {b L : Nat} {xs : Nat → Int32} (hX : va_X b L xs s s.heap) (hbl : b < s.heap.size) (hbA : b < b0) (hdg : decode cc pc = .ok (.arraylength, 1))
    (kk : Z p l e R s m args below meth c D b0 M sz cells slots Q (F0 m (pc + 1) ls (.int (nI L) :: rest))) : Z p l e R s m args below meth c D b0 M sz cells slots Q (F0 m pc ls (.ref b :: rest)) := by
  obtain ⟨hx, hb, -⟩ := C
  intro H locs h1 h2 h3
  exact va_slen hx hb hX hbl (show ¬ zA b0 b by unfold zA; omega) h3 hdg (kk H locs h1 h2 h3)
def zLkW (own : String) (idx : Nat) (y : MethodName) (cy : ByteArray) (maxL : Nat) (ret : Option FieldType) (hh : List (Nat × Nat × Nat × Nat)) (n : Nat) : Prop :=
  (y.cls ≠ "java/lang/invoke/MethodHandle" ∧ y.cls ≠ "java/lang/invoke/VarHandle" ∧ (parseMethodDescriptor y.desc).map (fun d => d.parameters.length) = some n) ∧ Cond.codeWith y cy maxL ret hh ∈ zW ∧ Cond.initialized y.cls ∈ zW ∧ Cond.methodLink own idx y ∈ zW ∧ Cond.static y ∈ zW
theorem zdSW (C : zC p l s m c D aC b0 own cc nL) (hml : ls.size = nL) {idx : Nat} {y : MethodName} {cy : ByteArray} {maxL n nv mc ms : Nat} {ret : Option FieldType} {hh : List (Nat × Nat × Nat × Nat)} {As : List Value} {r0 : Option Value} {M0 : ZM} {st st' : List Value} (F : zLkW own idx y cy maxL ret hh n)
    (hM : CtW l D aC b0 y cy maxL ret hh nv mc ms As M sz (zd r0 M0)) (hn : As.length = n) (hst : st = As.reverse ++ rest) (hW : (rest.map fun v => v.category).sum ≤ 8)
    (hR : 20 * nv + 21 ≤ R.frames ∧ maxL + (200 * nv + 219) ≤ R.locals ∧ cells + mc ≤ R.cells ∧ slots + ms ≤ R.slots) (hdg : decode cc pc = .ok (.invokestatic idx, 3)) (hs : r0.toList ++ rest = st')
    (kk : ∀ sz' : Nat, Z p l e R s m args below meth c D b0 M0 sz' (cells + mc) (slots + ms) Q (F0 m (pc + 3) ls st')) : Z p l e R s m args below meth c D b0 M sz cells slots Q (F0 m pc ls st) := by
  intro H locs h1 h2 h3
  have hpre := z_pre C h1 h2 h3 As
  obtain ⟨hx, hb, hml2, hown, -, hK, hg, -⟩ := C
  obtain ⟨hd, hcode, hini, hlk, hstt⟩ := F
  subst hst
  have hts : ∀ w ∈ zW, w.before args s = true := fun w hw => zg_w hg hw
  have hlen : ∀ sig, parseMethodDescriptor y.desc = some sig → n = sig.parameters.length := fun sig h => by
    have h9 := hd.2.2
    rw [h] at h9
    exact (Option.some.inj h9).symm
  refine z_back (P := zd r0 M0) (av := As.toArray) h3 rfl rfl ?_ (fun r M' sz' hp => by obtain ⟨rfl, rfl⟩ := hp; rw [hs]; exact kk sz')
  exact vx_runSW (Ts := zW) ⟨hx, hb, hml2, hown, hts⟩ hM ⟨⟨rfl, rfl, by show 20 * nv + 20 + 1 ≤ _; omega, by show 8 + (maxL + 11) + (200 * nv + 200) ≤ _; omega, (fun w h a' U hW => by rw [List.mem_singleton.mp h]; exact word_at hW (good_of_word (zW_good hcode)) (hg.1 _ hcode)), List.mem_singleton.mpr rfl⟩, hts _ hcode, hts _ hini, ⟨hd.1, hd.2.1⟩, hlen, hts _ hlk, hts _ hstt⟩ hpre rfl hn hml rfl (by show 2 * 0 + _ ≤ 8; omega) hdg ⟨hR.2.2.1, hR.2.2.2⟩
end ZRL
end
