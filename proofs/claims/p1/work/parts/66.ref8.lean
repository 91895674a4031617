theorem nI_p1 (k : Nat) : (nI (k + 1)) - (1) = nI k := by rw [← nI_1]; simp
theorem nI_m1 (k : Nat) : nI (k + 1) + (-1) = nI k := by rw [← nI_1, Int32.add_assoc]; simp
theorem hz_upd {f : Nat → Int32} {k q : Nat} (h : ∀ j, j < 240 → f j = 0 ∨ f j = 1) (hk : k < 240) : ∀ j, j < 240 → upd f q (f (Int32.toNatClampNeg (nI k))) j = 0 ∨ upd f q (f (Int32.toNatClampNeg (nI k))) j = 1 := by
  intro j hj
  unfold upd
  split
  · exact h _ (by rw [nI_clamp (by omega)]; omega)
  · exact h j hj
/-- the places of the changes behind the new one, moved up by one -/
def noS (a_ b_ c_ d_ : Int32) : Nat → (Nat → Nat → Int32) → (Nat → Nat → Int32) × Nat
  | 0, A => (A, 0)
  | k + 1, A => if (fX9_isAfter A (nI k) a_ b_ c_ d_) = 0 then (A, k + 1) else noS a_ b_ c_ d_ k (u1 (u1 (u1 (u1 (u1 A 29 (upd (A 29) (Int32.toNatClampNeg (nI (k + 1))) (A 29 (Int32.toNatClampNeg (nI k))))) 30 (upd (A 30) (Int32.toNatClampNeg (nI (k + 1))) (A 30 (Int32.toNatClampNeg (nI k))))) 31 (upd (A 31) (Int32.toNatClampNeg (nI (k + 1))) (A 31 (Int32.toNatClampNeg (nI k))))) 32 (upd (A 32) (Int32.toNatClampNeg (nI (k + 1))) (A 32 (Int32.toNatClampNeg (nI k))))) 33 (upd (A 33) (Int32.toNatClampNeg (nI (k + 1))) (A 33 (Int32.toNatClampNeg (nI k)))))
set_option maxHeartbeats 1000000 in
set_option maxRecDepth 10000 in
theorem lpX9_note {p : Program} {l : Launch} {e : Env} {s : State} {m : MethodId} {args : Array Value} {below : List Frame} {meth : Method} {c : Code} {D : va_G} {aC : Nat → ClassId} {b0 r : Nat} {Q : State → Prop} {v : Nat → Int32} {R : ZM} {a_ b_ c_ d_ e_ : Int32} (C : zC p l s m c D aC b0 RX9 cX9_note 7) :
    ∀ (k : Nat) (A : Nat → Nat → Int32), k < 240 → (∀ j, j < 240 → A 33 j = 0 ∨ A 33 j = 1) → ∀ (sz : Nat) (ls : Array Slot), lv_has ls 7 [(0, .ref (r)), (1, .int (a_)), (2, .int (b_)), (3, .int (c_)), (4, .int (d_)), (5, .int (e_)), (6, .int (nI k))] → (∀ (sz : Nat) (ls : Array Slot), lv_has ls 7 [(0, .ref (r)), (1, .int (a_)), (2, .int (b_)), (3, .int (c_)), (4, .int (d_)), (5, .int (e_)), (6, .int (nI (noS a_ b_ c_ d_ k A).2))] → Z p l e (rz 1 0 0) s m args below meth c D b0 (mm aC r v (noS a_ b_ c_ d_ k A).1 R) sz 0 0 Q (F0 m 113 ls [])) → Z p l e (rz 1 0 0) s m args below meth c D b0 (mm aC r v A R) sz 0 0 Q (F0 m 6 ls []) := by
  obtain ⟨hx, hb, -, -, -⟩ := id C
  intro k
  induction k with
  | zero =>
    intro A hk hz sz ls hl K
    refine zz (fun _ _ => lv_iload hx hb dX9_note_6 (lv_at hl 6 rfl)) ?_
    refine zb (fun _ _ => lv_if_le (tgt := 113) hx hb dX9_note_8 (by decide)) (fun c_1 => ?_) (fun c_1 => ?_)
    · exact K _ _ (lv_sub hl [0, 1, 2, 3, 4, 5, 6] rfl)
    · exact absurd (by decide) c_1
  | succ k ih =>
    intro A hk hz sz ls hl K
    refine zz (fun _ _ => lv_iload hx hb dX9_note_6 (lv_at hl 6 rfl)) ?_
    refine zb (fun _ _ => lv_if_le (tgt := 113) hx hb dX9_note_8 (by decide)) (fun c_1 => ?_) (fun c_1 => ?_)
    · exact absurd c_1 (show ¬ nI (k + 1) ≤ nI 0 from nI_ge (by omega) (by omega))
    · refine zz (fun _ _ => lv_aload_n hx hb dX9_note_11 rfl (lv_at hl 0 rfl)) ?_
      refine zz (fun _ _ => lv_iload hx hb dX9_note_12 (lv_at hl 6 rfl)) ?_
      refine zz (fun _ _ => lv_iconst (v := 1) hx hb dX9_note_14 (by decide)) ?_
      refine zz (fun _ _ => lv_isub hx hb dX9_note_15) ?_
      refine zval (v' := .int (nI k)) (congrArg Value.int (nI_p1 k)) ?_
      refine zz (fun _ _ => lv_iload_n hx hb dX9_note_16 rfl (lv_at hl 1 rfl)) ?_
      refine zz (fun _ _ => lv_iload_n hx hb dX9_note_17 rfl (lv_at hl 2 rfl)) ?_
      refine zz (fun _ _ => lv_iload_n hx hb dX9_note_18 rfl (lv_at hl 3 rfl)) ?_
      refine zz (fun _ _ => lv_iload hx hb dX9_note_19 (lv_at hl 4 rfl)) ?_
      refine zdV (As := [.int (nI k), .int (a_), .int (b_), .int (c_), .int (d_)]) (rest := []) (st' := [.int ((fX9_isAfter A (nI k) a_ b_ c_ d_))]) C hl.1 lk_X9_253 (ctX9_isAfter (in_nI (j := k) rfl (by omega) (by decide))) rm_0 rfl rfl rfl (Nat.le_of_ble_eq_true rfl) ⟨by decide, by decide, by decide, by decide⟩ dX9_note_21 rfl (fun sz => ?_)
      refine zb (fun _ _ => lv_if_eq (tgt := 113) hx hb dX9_note_24 (by decide)) (fun c_2 => ?_) (fun c_2 => ?_)
      · simp only [noS, if_pos c_2] at K
        exact K _ _ (lv_sub hl [0, 1, 2, 3, 4, 5, 6] rfl)
      · refine zz (fun _ _ => lv_aload_n hx hb dX9_note_27 rfl (lv_at hl 0 rfl)) ?_
        refine z_get (v := .ref (r + 29)) C fd_X9_95 rm_0 rfl dX9_note_28 ?_
        refine zz (fun _ _ => lv_iload hx hb dX9_note_31 (lv_at hl 6 rfl)) ?_
        refine zz (fun _ _ => lv_aload_n hx hb dX9_note_33 rfl (lv_at hl 0 rfl)) ?_
        refine z_get (v := .ref (r + 29)) C fd_X9_95 rm_0 rfl dX9_note_34 ?_
        refine zz (fun _ _ => lv_iload hx hb dX9_note_37 (lv_at hl 6 rfl)) ?_
        refine zz (fun _ _ => lv_iconst (v := 1) hx hb dX9_note_39 (by decide)) ?_
        refine zz (fun _ _ => lv_isub hx hb dX9_note_40) ?_
        refine zval (v' := .int (nI k)) (congrArg Value.int (nI_p1 k)) ?_
        refine z_iald (f := A 29) C rm_29 (in_nI (j := k) rfl (by omega) (by decide)) dX9_note_41 ?_
        refine z_iast (f := A 29) C rm_29 (in_nI (j := k + 1) rfl (by omega) (by decide)) dX9_note_42 ?_
        refine zeq wm_29 ?_
        refine zz (fun _ _ => lv_aload_n hx hb dX9_note_43 rfl (lv_at hl 0 rfl)) ?_
        refine z_get (v := .ref (r + 30)) C fd_X9_98 rm_0 rfl dX9_note_44 ?_
        refine zz (fun _ _ => lv_iload hx hb dX9_note_47 (lv_at hl 6 rfl)) ?_
        refine zz (fun _ _ => lv_aload_n hx hb dX9_note_49 rfl (lv_at hl 0 rfl)) ?_
        refine z_get (v := .ref (r + 30)) C fd_X9_98 rm_0 rfl dX9_note_50 ?_
        refine zz (fun _ _ => lv_iload hx hb dX9_note_53 (lv_at hl 6 rfl)) ?_
        refine zz (fun _ _ => lv_iconst (v := 1) hx hb dX9_note_55 (by decide)) ?_
        refine zz (fun _ _ => lv_isub hx hb dX9_note_56) ?_
        refine zval (v' := .int (nI k)) (congrArg Value.int (nI_p1 k)) ?_
        refine z_iald (f := A 30) C rm_30 (in_nI (j := k) rfl (by omega) (by decide)) dX9_note_57 ?_
        refine z_iast (f := A 30) C rm_30 (in_nI (j := k + 1) rfl (by omega) (by decide)) dX9_note_58 ?_
        refine zeq wm_30 ?_
        refine zz (fun _ _ => lv_aload_n hx hb dX9_note_59 rfl (lv_at hl 0 rfl)) ?_
        refine z_get (v := .ref (r + 31)) C fd_X9_101 rm_0 rfl dX9_note_60 ?_
        refine zz (fun _ _ => lv_iload hx hb dX9_note_63 (lv_at hl 6 rfl)) ?_
        refine zz (fun _ _ => lv_aload_n hx hb dX9_note_65 rfl (lv_at hl 0 rfl)) ?_
        refine z_get (v := .ref (r + 31)) C fd_X9_101 rm_0 rfl dX9_note_66 ?_
        refine zz (fun _ _ => lv_iload hx hb dX9_note_69 (lv_at hl 6 rfl)) ?_
        refine zz (fun _ _ => lv_iconst (v := 1) hx hb dX9_note_71 (by decide)) ?_
        refine zz (fun _ _ => lv_isub hx hb dX9_note_72) ?_
        refine zval (v' := .int (nI k)) (congrArg Value.int (nI_p1 k)) ?_
        refine z_iald (f := A 31) C rm_31 (in_nI (j := k) rfl (by omega) (by decide)) dX9_note_73 ?_
        refine z_iast (f := A 31) C rm_31 (in_nI (j := k + 1) rfl (by omega) (by decide)) dX9_note_74 ?_
        refine zeq wm_31 ?_
        refine zz (fun _ _ => lv_aload_n hx hb dX9_note_75 rfl (lv_at hl 0 rfl)) ?_
        refine z_get (v := .ref (r + 32)) C fd_X9_104 rm_0 rfl dX9_note_76 ?_
        refine zz (fun _ _ => lv_iload hx hb dX9_note_79 (lv_at hl 6 rfl)) ?_
        refine zz (fun _ _ => lv_aload_n hx hb dX9_note_81 rfl (lv_at hl 0 rfl)) ?_
        refine z_get (v := .ref (r + 32)) C fd_X9_104 rm_0 rfl dX9_note_82 ?_
        refine zz (fun _ _ => lv_iload hx hb dX9_note_85 (lv_at hl 6 rfl)) ?_
        refine zz (fun _ _ => lv_iconst (v := 1) hx hb dX9_note_87 (by decide)) ?_
        refine zz (fun _ _ => lv_isub hx hb dX9_note_88) ?_
        refine zval (v' := .int (nI k)) (congrArg Value.int (nI_p1 k)) ?_
        refine z_iald (f := A 32) C rm_32 (in_nI (j := k) rfl (by omega) (by decide)) dX9_note_89 ?_
        refine z_iast (f := A 32) C rm_32 (in_nI (j := k + 1) rfl (by omega) (by decide)) dX9_note_90 ?_
        refine zeq wm_32 ?_
        refine zz (fun _ _ => lv_aload_n hx hb dX9_note_91 rfl (lv_at hl 0 rfl)) ?_
        refine z_get (v := .ref (r + 33)) C fd_X9_107 rm_0 rfl dX9_note_92 ?_
        refine zz (fun _ _ => lv_iload hx hb dX9_note_95 (lv_at hl 6 rfl)) ?_
        refine zz (fun _ _ => lv_aload_n hx hb dX9_note_97 rfl (lv_at hl 0 rfl)) ?_
        refine z_get (v := .ref (r + 33)) C fd_X9_107 rm_0 rfl dX9_note_98 ?_
        refine zz (fun _ _ => lv_iload hx hb dX9_note_101 (lv_at hl 6 rfl)) ?_
        refine zz (fun _ _ => lv_iconst (v := 1) hx hb dX9_note_103 (by decide)) ?_
        refine zz (fun _ _ => lv_isub hx hb dX9_note_104) ?_
        refine zval (v' := .int (nI k)) (congrArg Value.int (nI_p1 k)) ?_
        refine z_zald (f := A 33) C rm_33 (in_nI (j := k) rfl (by omega) (by decide)) dX9_note_105 ?_
        refine z_zast (f := A 33) C rm_33 (in_nI (j := k + 1) rfl (by omega) (by decide)) (bz (hz _ (by rw [nI_clamp (by omega)]; omega))) dX9_note_106 ?_
        refine zeq wm_33 ?_
        refine zs (fun _ _ => lv_iinc (v := nI (k + 1) + (-1)) (lv' := [(6, .int (nI (k + 1) + (-1))), (0, .ref (r)), (1, .int (a_)), (2, .int (b_)), (3, .int (c_)), (4, .int (d_)), (5, .int (e_))]) hx hb dX9_note_107 hl (k := 6) rfl rfl (by decide) rfl) (fun ls hl => ?_)
        refine zz (fun _ _ => lv_goto (tgt := 6) hx hb dX9_note_110 (by decide)) ?_
        simp only [noS, if_neg c_2] at K
        have hl := lv_sub hl [1, 2, 3, 4, 5, 6, 0] rfl
        simp only [nI_m1] at hl
        exact ih _ (by omega) (hz_upd hz (by omega)) _ _ hl K
