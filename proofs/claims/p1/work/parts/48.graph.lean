/-- the search for a place by halves -/
def bs (f : Nat → Int32) (x : Int32) : Nat → Nat → Nat → Nat
  | 0, lo, _ => lo
  | n + 1, lo, hi => if lo < hi then (if x ≤ f ((lo + hi) / 2) then bs f x n lo ((lo + hi) / 2) else bs f x n ((lo + hi) / 2 + 1) hi) else lo
theorem bs_le (f : Nat → Int32) (x : Int32) : ∀ (n lo hi : Nat), lo ≤ hi → lo ≤ bs f x n lo hi ∧ bs f x n lo hi ≤ hi := by
  intro n
  induction n with
  | zero => intro lo hi h; exact ⟨Nat.le_refl _, h⟩
  | succ n ih =>
    intro lo hi h
    simp only [bs]
    split
    · split
      · have := ih lo ((lo + hi) / 2) (by omega); omega
      · have := ih ((lo + hi) / 2 + 1) hi (by omega); omega
    · exact ⟨Nat.le_refl _, h⟩
theorem mid_eq {lo hi : Nat} (h : lo + hi < 2 ^ 31) : ((nI lo + nI hi).toUInt32 >>> ((1 : Int32).toUInt32 &&& Int32.toUInt32 31)).toInt32 = nI ((lo + hi) / 2) := by
  rw [nI_add]
  exact pk_ushrN (n := lo + hi) (by omega) 1 1 (by decide)
set_option maxHeartbeats 2000000 in
set_option maxRecDepth 10000 in
theorem lpX2_placeOf {p : Program} {l : Launch} {e : Env} {Rm : Room} {s : State} {m : MethodId} {args : Array Value} {below : List Frame} {meth : Method} {c : Code} {D : va_G} {aC : Nat → ClassId} {b0 cells slots : Nat} {Q : State → Prop} {x k sz : Nat} {iv av : Nat → Nat → Int32} {R : ZM} {a_ : Int32} (C : zC p l s m c D aC b0 RX2 cX2_placeOf 5) (hk : ck k = 6) :
    ∀ (n lo hi : Nat), hi ≤ lo + n → lo ≤ hi → hi ≤ 120 → ∀ (ls : Array Slot), lv_has ls 5 [(0, .ref (x + k)), (1, .int a_), (2, .int (nI lo)), (3, .int (nI hi))] → (∀ (ls : Array Slot), lv_has ls 5 [(0, .ref (x + k)), (1, .int a_), (2, .int (nI (bs (av (k + 1)) a_ n lo hi)))] → Z p l e Rm s m args below meth c D b0 (cm aC x iv av R) sz cells slots Q (F0 m 44 ls [])) → Z p l e Rm s m args below meth c D b0 (cm aC x iv av R) sz cells slots Q (F0 m 7 ls []) := by
  obtain ⟨hx, hb, -, -, -⟩ := id C
  intro n
  induction n with
  | zero =>
    intro lo hi h1 h2 h3 ls hl K
    refine zz (fun _ _ => lv_iload_n hx hb dX2_placeOf_7 rfl (lv_at hl 2 rfl)) ?_
    refine zz (fun _ _ => lv_iload_n hx hb dX2_placeOf_8 rfl (lv_at hl 3 rfl)) ?_
    refine zb (fun _ _ => lv_icmp_ge (tgt := 44) hx hb dX2_placeOf_9 (by decide)) (fun c_1 => ?_) (fun c_1 => ?_)
    · exact K _ (lv_sub hl [0, 1, 2] rfl)
    · exact absurd (nI_le (by omega) (by omega)) c_1
  | succ n ih =>
    intro lo hi h1 h2 h3 ls hl K
    refine zz (fun _ _ => lv_iload_n hx hb dX2_placeOf_7 rfl (lv_at hl 2 rfl)) ?_
    refine zz (fun _ _ => lv_iload_n hx hb dX2_placeOf_8 rfl (lv_at hl 3 rfl)) ?_
    refine zb (fun _ _ => lv_icmp_ge (tgt := 44) hx hb dX2_placeOf_9 (by decide)) (fun c_1 => ?_) (fun c_1 => ?_)
    · have h4 : ¬ lo < hi := fun q => nI_ge q (by omega) c_1
      simp only [bs, if_neg h4] at K
      exact K _ (lv_sub hl [0, 1, 2] rfl)
    · have h4 : lo < hi := by
        rcases Nat.lt_or_ge lo hi with q | q
        · exact q
        · exact absurd (nI_le q (by omega)) c_1
      refine zz (fun _ _ => lv_iload_n hx hb dX2_placeOf_12 rfl (lv_at hl 2 rfl)) ?_
      refine zz (fun _ _ => lv_iload_n hx hb dX2_placeOf_13 rfl (lv_at hl 3 rfl)) ?_
      refine zz (fun _ _ => lv_iadd hx hb dX2_placeOf_14) ?_
      refine zz (fun _ _ => lv_iconst (v := 1) hx hb dX2_placeOf_15 (by decide)) ?_
      refine zz (fun _ _ => lv_iushr (v := nI ((lo + hi) / 2)) hx hb dX2_placeOf_16 (mid_eq (by omega))) ?_
      refine zs (fun _ _ => lv_istore (lv' := [(4, .int (nI ((lo + hi) / 2))), (0, .ref (x + k)), (1, .int a_), (2, .int (nI lo)), (3, .int (nI hi))]) hx hb dX2_placeOf_17 hl (by decide) rfl) (fun ls hl => ?_)
      refine zz (fun _ _ => lv_aload_n hx hb dX2_placeOf_19 rfl (lv_at hl 1 rfl)) ?_
      refine z_get (v := .ref (x + (k + 1))) C fd_X2_9 (rd_6 hk) rfl dX2_placeOf_20 ?_
      refine zz (fun _ _ => lv_iload hx hb dX2_placeOf_23 (lv_at hl 0 rfl)) ?_
      refine z_iald (f := av (k + 1)) C (rd_7 (nb_6_1 hk)) (in_nI (j := (lo + hi) / 2) rfl (by omega) (by decide)) dX2_placeOf_25 ?_
      refine zval (v' := .int (av (k + 1) ((lo + hi) / 2))) (by rw [nI_clamp (by omega)]) ?_
      refine zz (fun _ _ => lv_iload_n hx hb dX2_placeOf_26 rfl (lv_at hl 2 rfl)) ?_
      refine zb (fun _ _ => lv_icmp_ge (tgt := 38) hx hb dX2_placeOf_27 (by decide)) (fun c_2 => ?_) (fun c_2 => ?_)
      · refine zz (fun _ _ => lv_iload hx hb dX2_placeOf_38 (lv_at hl 0 rfl)) ?_
        refine zs (fun _ _ => lv_istore_n (lv' := [(3, .int (nI ((lo + hi) / 2))), (4, .int (nI ((lo + hi) / 2))), (0, .ref (x + k)), (1, .int a_), (2, .int (nI lo))]) hx hb dX2_placeOf_40 rfl hl (by decide) rfl) (fun ls hl => ?_)
        refine zz (fun _ _ => lv_goto (tgt := 7) hx hb dX2_placeOf_41 (by decide)) ?_
        simp only [bs, if_pos h4, if_pos c_2] at K
        exact ih lo ((lo + hi) / 2) (by omega) (by omega) (by omega) _ (lv_sub hl [2, 3, 4, 0] rfl) K
      · refine zz (fun _ _ => lv_iload hx hb dX2_placeOf_30 (lv_at hl 0 rfl)) ?_
        refine zz (fun _ _ => lv_iconst (v := 1) hx hb dX2_placeOf_32 (by decide)) ?_
        refine zz (fun _ _ => lv_iadd hx hb dX2_placeOf_33) ?_
        refine zval (v' := .int (nI ((lo + hi) / 2 + 1))) (congrArg Value.int (nI_1 _)) ?_
        refine zs (fun _ _ => lv_istore_n (lv' := [(2, .int (nI ((lo + hi) / 2 + 1))), (4, .int (nI ((lo + hi) / 2))), (0, .ref (x + k)), (1, .int a_), (3, .int (nI hi))]) hx hb dX2_placeOf_34 rfl hl (by decide) rfl) (fun ls hl => ?_)
        refine zz (fun _ _ => lv_goto (tgt := 41) hx hb dX2_placeOf_35 (by decide)) ?_
        refine zz (fun _ _ => lv_goto (tgt := 7) hx hb dX2_placeOf_41 (by decide)) ?_
        simp only [bs, if_pos h4, if_neg c_2] at K
        exact ih ((lo + hi) / 2 + 1) hi (by omega) (by omega) (by omega) _ (lv_sub hl [2, 3, 0, 4] rfl) K
/-- Graph.placeOf: n facts, their numbers in av (k + 1) -/
def fX2_placeOf (iv av : Nat → Nat → Int32) (k : Nat) (a_ : Int32) : Int32 := nI (bs (av (k + 1)) a_ (iv k 1).toNatClampNeg 0 (iv k 1).toNatClampNeg)
set_option maxHeartbeats 2000000 in
set_option maxRecDepth 10000 in
theorem ctX2_placeOf {l : Launch} {D : va_G} {aC : Nat → ClassId} {b0 sz x k : Nat} {iv av : Nat → Nat → Int32} {R : ZM} {a_ : Int32} (hk : ck k = 6) {n_ : Nat} (hs : iv k 1 = nI n_) (hn : n_ ≤ 120) : Ct l D aC b0 yX2_placeOf cX2_placeOf 5 (some .int) 0 0 0 [.ref (x + k), .int a_] (cm aC x iv av R) sz (zd (some (.int (fX2_placeOf iv av k a_))) (cm aC x iv av R)) := by
  refine Ct.of (by decide) (Nat.le_of_ble_eq_true rfl) ?_
  intro p e s m below meth c ls C hr hlk hnm hl
  have hl : lv_has ls 5 [(0, .ref (x + k)), (1, .int a_)] := hl
  obtain ⟨hx, hb, -, -, -⟩ := id C
  have hN : (iv k 1).toNatClampNeg = n_ := by rw [hs, nI_clamp (by omega)]
  refine zz (fun _ _ => lv_iconst (v := 0) hx hb dX2_placeOf_0 (by decide)) ?_
  refine zs (fun _ _ => lv_istore_n (lv' := [(2, .int 0), (0, .ref (x + k)), (1, .int a_)]) hx hb dX2_placeOf_1 rfl hl (by decide) rfl) (fun ls hl => ?_)
  refine zz (fun _ _ => lv_aload_n hx hb dX2_placeOf_2 rfl (lv_at hl 1 rfl)) ?_
  refine z_get (v := .int (iv k 1)) C fd_X2_15 (rd_6 hk) rfl dX2_placeOf_3 ?_
  refine zval (v' := .int (nI n_)) (congrArg Value.int hs) ?_
  refine zs (fun _ _ => lv_istore_n (lv' := [(3, .int (nI n_)), (2, .int 0), (0, .ref (x + k)), (1, .int a_)]) hx hb dX2_placeOf_6 rfl hl (by decide) rfl) (fun ls hl => ?_)
  refine lpX2_placeOf C hk n_ 0 n_ (by omega) (Nat.zero_le _) hn _ (lv_sub hl [2, 3, 1, 0] rfl) (fun ls hl => ?_)
  refine zz (fun _ _ => lv_iload_n hx hb dX2_placeOf_44 rfl (lv_at hl 2 rfl)) ?_
  exact z_iret C hr hlk dX2_placeOf_45 ⟨by simp only [fX2_placeOf, hN], rfl⟩
