theorem isAfter_A {n k : Nat} {v v' : Nat → Int32} {A A' : Nat → Nat → Int32} (h : ntI n (k + 1) v A v' A') (hk : k < 2 ^ 31) {a b c d : Int32} : fX9_isAfter A' (nI k) a b c d = fX9_isAfter A (nI k) a b c d := by
  unfold fX9_isAfter
  rw [nI_clamp hk, (h.2.2 29 (by decide) (by decide)).1 k (by omega), (h.2.2 30 (by decide) (by decide)).1 k (by omega), (h.2.2 31 (by decide) (by decide)).1 k (by omega), (h.2.2 32 (by decide) (by decide)).1 k (by omega)]
theorem nt_up {L : List Cg} {k : Nat} {x y9 : Cg} (h : ∀ i y, k + 1 ≤ i → L[i]? = some y → ltC x y) (e : L[k]? = some y9) (hx : ltC x y9) : ∀ i y, k ≤ i → L[i]? = some y → ltC x y := by
  intro i y h1 h2
  by_cases q : i = k
  · subst q; rw [e] at h2; cases h2; exact hx
  · exact h i y (by omega) h2
set_option maxHeartbeats 2000000 in
set_option maxRecDepth 10000 in
theorem hX9_note {l : Launch} {D : va_G} {aC : Nat → ClassId} {b0 sz : Nat} {r : Nat} {v : Nat → Int32} {A : Nat → Nat → Int32} {R : ZM} {g c9 : Nat} {b : Bool} {L : List Cg} (hn9 : v 34 = nI L.length) (hl4 : L.length < 240) (hg : g < 7) (hcc : okc c9) (hc : chR A L) (hs : srC L) (ho : okC L) (hu : ∀ y ∈ L, ¬ (y.1 = g ∧ y.2.1 = c9)) : Ct l D aC b0 yX9_note cX9_note 7 none 1 0 0 [.ref (r), .int (nI g), .int (nI (pt c9 0)), .int (nI (pt c9 1)), .int (nI (pt c9 2)), .int (tI b)] (mm aC r v A R) sz (zpN (fun v A => mm aC r v A R) (ntP v A L (g, c9, b))) := by
  refine Ct.of (by decide) (Nat.le_of_ble_eq_true rfl) ?_
  intro p e s m below meth c ls C hr hlk hnm hl
  have hl : lv_has ls 7 [(0, .ref (r)), (1, .int (nI g)), (2, .int (nI (pt c9 0))), (3, .int (nI (pt c9 1))), (4, .int (nI (pt c9 2))), (5, .int (tI b))] := hl
  obtain ⟨hx, hb, -, -, -⟩ := id C
  refine zz (fun _ _ => lv_aload_n hx hb dX9_note_0 rfl (lv_at hl 0 rfl)) ?_
  refine z_get (v := .int (v 34)) C fd_X9_250 rm_0 rfl dX9_note_1 ?_
  refine zval (v' := .int (nI L.length)) (congrArg Value.int hn9) ?_
  refine zs (fun _ _ => lv_istore (lv' := [(6, .int (nI L.length)), (0, .ref (r)), (1, .int (nI g)), (2, .int (nI (pt c9 0))), (3, .int (nI (pt c9 1))), (4, .int (nI (pt c9 2))), (5, .int (tI b))]) hx hb dX9_note_4 hl (by decide) rfl) (fun ls hl => ?_)
  have hl0 := lv_sub hl [1, 2, 3, 4, 5, 6, 0] rfl
  refine z_loop (γ := (Nat → Int32) × (Nat → Nat → Int32)) (G := fun a => mm aC r a.1 a.2 R) (I := fun j a => ntI L.length (L.length - j) v A a.1 a.2 ∧ ∀ i y, L.length - j ≤ i → L[i]? = some y → ltC (g, c9, b) y) (lv := fun j a => [(0, .ref (r)), (1, .int (nI g)), (2, .int (nI (pt c9 0))), (3, .int (nI (pt c9 1))), (4, .int (nI (pt c9 2))), (5, .int (tI b)), (6, .int (nI (L.length - j)))]) (L.length) ?_ ?_ (v, A) _ _ ⟨ntI_0, fun i y h1 h2 => absurd (List.getElem?_eq_some_iff.mp h2).1 (by omega)⟩ hl0
  · intro j1 a1 sz ls hj1 hI1 hl ih1
    obtain ⟨v1, A1⟩ := a1
    dsimp only at hI1 hl ih1
    refine zeq (M' := (mm aC r v1 A1 R)) rfl ?_
    obtain ⟨k9, hk9⟩ : ∃ k, L.length - j1 = k + 1 := ⟨L.length - j1 - 1, by omega⟩
    obtain ⟨y9, ey9⟩ : ∃ y, L[k9]? = some y := ⟨_, List.getElem?_eq_getElem (by omega)⟩
    have hI9 := hI1
    rw [hk9] at hI9
    have hz9 : A1 33 k9 = 0 ∨ A1 33 k9 = 1 := by rw [(hI9.1.2.2 33 (by decide) (by decide)).1 k9 (by omega), (hc k9 _ _ _ ey9).2.2.2.2]; exact tI_b _
    have hd9 : L.length - (j1 + 1) = k9 := by omega
    have hcc9 : fX9_isAfter A1 (nI k9) (nI g) (nI (pt c9 0)) (nI (pt c9 1)) (nI (pt c9 2)) = 0 ↔ ¬ ltC (g, c9, b) y9 := by rw [isAfter_A hI9.1 (by omega)]; exact isAfter_s hc ho (by omega) ey9 hg hcc
    refine zz (fun _ _ => lv_iload hx hb dX9_note_6 (lv_at hl 6 rfl)) ?_
    refine zval (v' := .int (nI (k9 + 1))) (congrArg Value.int (by rw [hk9])) ?_
    refine zb (fun _ _ => lv_if_le (tgt := 113) hx hb dX9_note_8 (by decide)) (fun c_2 => ?_) (fun c_2 => ?_)
    · exact absurd c_2 (nI_nle (by omega) (by omega))
    · refine zz (fun _ _ => lv_aload_n hx hb dX9_note_11 rfl (lv_at hl 0 rfl)) ?_
      refine zz (fun _ _ => lv_iload hx hb dX9_note_12 (lv_at hl 6 rfl)) ?_
      refine zval (v' := .int (nI (k9 + 1))) (congrArg Value.int (by rw [hk9])) ?_
      refine zz (fun _ _ => lv_iconst (v := 1) hx hb dX9_note_14 (by decide)) ?_
      refine zz (fun _ _ => lv_isub hx hb dX9_note_15) ?_
      refine zval (v' := .int (nI k9)) (congrArg Value.int (nI_p1 k9)) ?_
      refine zz (fun _ _ => lv_iload_n hx hb dX9_note_16 rfl (lv_at hl 1 rfl)) ?_
      refine zz (fun _ _ => lv_iload_n hx hb dX9_note_17 rfl (lv_at hl 2 rfl)) ?_
      refine zz (fun _ _ => lv_iload_n hx hb dX9_note_18 rfl (lv_at hl 3 rfl)) ?_
      refine zz (fun _ _ => lv_iload hx hb dX9_note_19 (lv_at hl 4 rfl)) ?_
      refine zdV (As := [.int (nI k9), .int (nI g), .int (nI (pt c9 0)), .int (nI (pt c9 1)), .int (nI (pt c9 2))]) (rest := []) (st' := [.int ((fX9_isAfter A1 (nI k9) (nI g) (nI (pt c9 0)) (nI (pt c9 1)) (nI (pt c9 2))))]) C hl.1 lk_X9_253 (ctX9_isAfter (vp_in_nI (by omega) (by decide))) rm_0 rfl rfl rfl (Nat.le_of_ble_eq_true rfl) ⟨by decide, by decide, by decide, by decide⟩ dX9_note_21 rfl (fun sz => ?_)
      refine zb (fun _ _ => lv_if_eq (tgt := 113) hx hb dX9_note_24 (by decide)) (fun c_3 => ?_) (fun c_3 => ?_)
      · refine zz (fun _ _ => lv_aload_n hx hb dX9_note_113 rfl (lv_at hl 0 rfl)) ?_
        refine z_get (v := .ref (r + 29)) C fd_X9_95 rm_0 rfl dX9_note_114 ?_
        refine zz (fun _ _ => lv_iload hx hb dX9_note_117 (lv_at hl 6 rfl)) ?_
        refine zval (v' := .int (nI (k9 + 1))) (congrArg Value.int (by rw [hk9])) ?_
        refine zz (fun _ _ => lv_iload_n hx hb dX9_note_119 rfl (lv_at hl 1 rfl)) ?_
        refine z_iast (f := A1 29) C rm_29 (by first | assumption | (apply vp_in_nI <;> omega)) dX9_note_120 ?_
        refine zeq wm_29 ?_
        refine zz (fun _ _ => lv_aload_n hx hb dX9_note_121 rfl (lv_at hl 0 rfl)) ?_
        refine z_get (v := .ref (r + 30)) C fd_X9_98 rm_0 rfl dX9_note_122 ?_
        refine zz (fun _ _ => lv_iload hx hb dX9_note_125 (lv_at hl 6 rfl)) ?_
        refine zval (v' := .int (nI (k9 + 1))) (congrArg Value.int (by rw [hk9])) ?_
        refine zz (fun _ _ => lv_iload_n hx hb dX9_note_127 rfl (lv_at hl 2 rfl)) ?_
        refine z_iast (f := A1 30) C rm_30 (by first | assumption | (apply vp_in_nI <;> omega)) dX9_note_128 ?_
        refine zeq wm_30 ?_
        refine zz (fun _ _ => lv_aload_n hx hb dX9_note_129 rfl (lv_at hl 0 rfl)) ?_
        refine z_get (v := .ref (r + 31)) C fd_X9_101 rm_0 rfl dX9_note_130 ?_
        refine zz (fun _ _ => lv_iload hx hb dX9_note_133 (lv_at hl 6 rfl)) ?_
        refine zval (v' := .int (nI (k9 + 1))) (congrArg Value.int (by rw [hk9])) ?_
        refine zz (fun _ _ => lv_iload_n hx hb dX9_note_135 rfl (lv_at hl 3 rfl)) ?_
        refine z_iast (f := A1 31) C rm_31 (by first | assumption | (apply vp_in_nI <;> omega)) dX9_note_136 ?_
        refine zeq wm_31 ?_
        refine zz (fun _ _ => lv_aload_n hx hb dX9_note_137 rfl (lv_at hl 0 rfl)) ?_
        refine z_get (v := .ref (r + 32)) C fd_X9_104 rm_0 rfl dX9_note_138 ?_
        refine zz (fun _ _ => lv_iload hx hb dX9_note_141 (lv_at hl 6 rfl)) ?_
        refine zval (v' := .int (nI (k9 + 1))) (congrArg Value.int (by rw [hk9])) ?_
        refine zz (fun _ _ => lv_iload hx hb dX9_note_143 (lv_at hl 4 rfl)) ?_
        refine z_iast (f := A1 32) C rm_32 (by first | assumption | (apply vp_in_nI <;> omega)) dX9_note_145 ?_
        refine zeq wm_32 ?_
        refine zz (fun _ _ => lv_aload_n hx hb dX9_note_146 rfl (lv_at hl 0 rfl)) ?_
        refine z_get (v := .ref (r + 33)) C fd_X9_107 rm_0 rfl dX9_note_147 ?_
        refine zz (fun _ _ => lv_iload hx hb dX9_note_150 (lv_at hl 6 rfl)) ?_
        refine zval (v' := .int (nI (k9 + 1))) (congrArg Value.int (by rw [hk9])) ?_
        refine zz (fun _ _ => lv_iload hx hb dX9_note_152 (lv_at hl 5 rfl)) ?_
        refine z_zast (f := A1 33) C rm_33 (by first | assumption | (apply vp_in_nI <;> omega)) (bz (tI_b b)) dX9_note_154 ?_
        refine zeq wm_33 ?_
        refine zz (fun _ _ => lv_aload_n hx hb dX9_note_155 rfl (lv_at hl 0 rfl)) ?_
        refine zz (fun _ _ => lv_dup hx hb dX9_note_156 rfl) ?_
        refine z_get (v := .int (v1 34)) C fd_X9_250 rm_0 rfl dX9_note_157 ?_
        refine zval (v' := .int (nI L.length)) (congrArg Value.int ((congrFun hI1.1.1 34).trans hn9)) ?_
        refine zz (fun _ _ => lv_iconst (v := 1) hx hb dX9_note_160 (by decide)) ?_
        refine zz (fun _ _ => lv_iadd hx hb dX9_note_161) ?_
        refine zval (v' := .int (nI (L.length + 1))) (congrArg Value.int (nI_1 _)) ?_
        refine z_put C fp_X9_250 (fun h => by cases h) rm_0 (Nat.le_of_ble_eq_true rfl) rfl rfl dX9_note_162 ?_
        refine zeq wm_f34 ?_
        exact z_vret C hr hlk dX9_note_165 (zpN_mk (a := (upd v1 34 (nI (L.length + 1)))) (b := (u1 (u1 (u1 (u1 (u1 A1 29 (upd (A1 29) (Int32.toNatClampNeg (nI (k9 + 1))) (nI g))) 30 (upd (A1 30) (Int32.toNatClampNeg (nI (k9 + 1))) (nI (pt c9 0)))) 31 (upd (A1 31) (Int32.toNatClampNeg (nI (k9 + 1))) (nI (pt c9 1)))) 32 (upd (A1 32) (Int32.toNatClampNeg (nI (k9 + 1))) (nI (pt c9 2)))) 33 (upd (A1 33) (Int32.toNatClampNeg (nI (k9 + 1))) (tI b)))) (by rw [nI_clamp (n := k9 + 1) (by omega)]; exact nt_end (by omega) hg hcc hc hs ho hu hI9.1 hI9.2 (fun y _ h2 => by rw [Nat.add_sub_cancel, ey9] at h2; cases h2; exact hcc9.mp c_3)))
      · refine zz (fun _ _ => lv_aload_n hx hb dX9_note_27 rfl (lv_at hl 0 rfl)) ?_
        refine z_get (v := .ref (r + 29)) C fd_X9_95 rm_0 rfl dX9_note_28 ?_
        refine zz (fun _ _ => lv_iload hx hb dX9_note_31 (lv_at hl 6 rfl)) ?_
        refine zval (v' := .int (nI (k9 + 1))) (congrArg Value.int (by rw [hk9])) ?_
        refine zz (fun _ _ => lv_aload_n hx hb dX9_note_33 rfl (lv_at hl 0 rfl)) ?_
        refine z_get (v := .ref (r + 29)) C fd_X9_95 rm_0 rfl dX9_note_34 ?_
        refine zz (fun _ _ => lv_iload hx hb dX9_note_37 (lv_at hl 6 rfl)) ?_
        refine zval (v' := .int (nI (k9 + 1))) (congrArg Value.int (by rw [hk9])) ?_
        refine zz (fun _ _ => lv_iconst (v := 1) hx hb dX9_note_39 (by decide)) ?_
        refine zz (fun _ _ => lv_isub hx hb dX9_note_40) ?_
        refine zval (v' := .int (nI k9)) (congrArg Value.int (nI_p1 k9)) ?_
        refine z_iald (f := A1 29) C rm_29 (by first | assumption | (apply vp_in_nI <;> omega)) dX9_note_41 ?_
        refine zval (v' := .int (A1 29 k9)) (congrArg Value.int (rdI rfl (by omega))) ?_
        refine z_iast (f := A1 29) C rm_29 (by first | assumption | (apply vp_in_nI <;> omega)) dX9_note_42 ?_
        refine zeq wm_29 ?_
        refine zz (fun _ _ => lv_aload_n hx hb dX9_note_43 rfl (lv_at hl 0 rfl)) ?_
        refine z_get (v := .ref (r + 30)) C fd_X9_98 rm_0 rfl dX9_note_44 ?_
        refine zz (fun _ _ => lv_iload hx hb dX9_note_47 (lv_at hl 6 rfl)) ?_
        refine zval (v' := .int (nI (k9 + 1))) (congrArg Value.int (by rw [hk9])) ?_
        refine zz (fun _ _ => lv_aload_n hx hb dX9_note_49 rfl (lv_at hl 0 rfl)) ?_
        refine z_get (v := .ref (r + 30)) C fd_X9_98 rm_0 rfl dX9_note_50 ?_
        refine zz (fun _ _ => lv_iload hx hb dX9_note_53 (lv_at hl 6 rfl)) ?_
        refine zval (v' := .int (nI (k9 + 1))) (congrArg Value.int (by rw [hk9])) ?_
        refine zz (fun _ _ => lv_iconst (v := 1) hx hb dX9_note_55 (by decide)) ?_
        refine zz (fun _ _ => lv_isub hx hb dX9_note_56) ?_
        refine zval (v' := .int (nI k9)) (congrArg Value.int (nI_p1 k9)) ?_
        refine z_iald (f := A1 30) C rm_30 (by first | assumption | (apply vp_in_nI <;> omega)) dX9_note_57 ?_
        refine zval (v' := .int (A1 30 k9)) (congrArg Value.int (rdI rfl (by omega))) ?_
        refine z_iast (f := A1 30) C rm_30 (by first | assumption | (apply vp_in_nI <;> omega)) dX9_note_58 ?_
        refine zeq wm_30 ?_
        refine zz (fun _ _ => lv_aload_n hx hb dX9_note_59 rfl (lv_at hl 0 rfl)) ?_
        refine z_get (v := .ref (r + 31)) C fd_X9_101 rm_0 rfl dX9_note_60 ?_
        refine zz (fun _ _ => lv_iload hx hb dX9_note_63 (lv_at hl 6 rfl)) ?_
        refine zval (v' := .int (nI (k9 + 1))) (congrArg Value.int (by rw [hk9])) ?_
        refine zz (fun _ _ => lv_aload_n hx hb dX9_note_65 rfl (lv_at hl 0 rfl)) ?_
        refine z_get (v := .ref (r + 31)) C fd_X9_101 rm_0 rfl dX9_note_66 ?_
        refine zz (fun _ _ => lv_iload hx hb dX9_note_69 (lv_at hl 6 rfl)) ?_
        refine zval (v' := .int (nI (k9 + 1))) (congrArg Value.int (by rw [hk9])) ?_
        refine zz (fun _ _ => lv_iconst (v := 1) hx hb dX9_note_71 (by decide)) ?_
        refine zz (fun _ _ => lv_isub hx hb dX9_note_72) ?_
        refine zval (v' := .int (nI k9)) (congrArg Value.int (nI_p1 k9)) ?_
        refine z_iald (f := A1 31) C rm_31 (by first | assumption | (apply vp_in_nI <;> omega)) dX9_note_73 ?_
        refine zval (v' := .int (A1 31 k9)) (congrArg Value.int (rdI rfl (by omega))) ?_
        refine z_iast (f := A1 31) C rm_31 (by first | assumption | (apply vp_in_nI <;> omega)) dX9_note_74 ?_
        refine zeq wm_31 ?_
        refine zz (fun _ _ => lv_aload_n hx hb dX9_note_75 rfl (lv_at hl 0 rfl)) ?_
        refine z_get (v := .ref (r + 32)) C fd_X9_104 rm_0 rfl dX9_note_76 ?_
        refine zz (fun _ _ => lv_iload hx hb dX9_note_79 (lv_at hl 6 rfl)) ?_
        refine zval (v' := .int (nI (k9 + 1))) (congrArg Value.int (by rw [hk9])) ?_
        refine zz (fun _ _ => lv_aload_n hx hb dX9_note_81 rfl (lv_at hl 0 rfl)) ?_
        refine z_get (v := .ref (r + 32)) C fd_X9_104 rm_0 rfl dX9_note_82 ?_
        refine zz (fun _ _ => lv_iload hx hb dX9_note_85 (lv_at hl 6 rfl)) ?_
        refine zval (v' := .int (nI (k9 + 1))) (congrArg Value.int (by rw [hk9])) ?_
        refine zz (fun _ _ => lv_iconst (v := 1) hx hb dX9_note_87 (by decide)) ?_
        refine zz (fun _ _ => lv_isub hx hb dX9_note_88) ?_
        refine zval (v' := .int (nI k9)) (congrArg Value.int (nI_p1 k9)) ?_
        refine z_iald (f := A1 32) C rm_32 (by first | assumption | (apply vp_in_nI <;> omega)) dX9_note_89 ?_
        refine zval (v' := .int (A1 32 k9)) (congrArg Value.int (rdI rfl (by omega))) ?_
        refine z_iast (f := A1 32) C rm_32 (by first | assumption | (apply vp_in_nI <;> omega)) dX9_note_90 ?_
        refine zeq wm_32 ?_
        refine zz (fun _ _ => lv_aload_n hx hb dX9_note_91 rfl (lv_at hl 0 rfl)) ?_
        refine z_get (v := .ref (r + 33)) C fd_X9_107 rm_0 rfl dX9_note_92 ?_
        refine zz (fun _ _ => lv_iload hx hb dX9_note_95 (lv_at hl 6 rfl)) ?_
        refine zval (v' := .int (nI (k9 + 1))) (congrArg Value.int (by rw [hk9])) ?_
        refine zz (fun _ _ => lv_aload_n hx hb dX9_note_97 rfl (lv_at hl 0 rfl)) ?_
        refine z_get (v := .ref (r + 33)) C fd_X9_107 rm_0 rfl dX9_note_98 ?_
        refine zz (fun _ _ => lv_iload hx hb dX9_note_101 (lv_at hl 6 rfl)) ?_
        refine zval (v' := .int (nI (k9 + 1))) (congrArg Value.int (by rw [hk9])) ?_
        refine zz (fun _ _ => lv_iconst (v := 1) hx hb dX9_note_103 (by decide)) ?_
        refine zz (fun _ _ => lv_isub hx hb dX9_note_104) ?_
        refine zval (v' := .int (nI k9)) (congrArg Value.int (nI_p1 k9)) ?_
        refine z_zald (f := A1 33) C rm_33 (by first | assumption | (apply vp_in_nI <;> omega)) dX9_note_105 ?_
        refine zval (v' := .int (A1 33 k9)) (congrArg Value.int (rdI rfl (by omega))) ?_
        refine z_zast (f := A1 33) C rm_33 (by first | assumption | (apply vp_in_nI <;> omega)) (bz hz9) dX9_note_106 ?_
        refine zeq wm_33 ?_
        refine zs (fun _ _ => lv_iinc (v := nI (L.length - j1) + (-1)) (lv' := [(6, .int (nI (L.length - j1) + (-1))), (0, .ref (r)), (1, .int (nI g)), (2, .int (nI (pt c9 0))), (3, .int (nI (pt c9 1))), (4, .int (nI (pt c9 2))), (5, .int (tI b))]) hx hb dX9_note_107 hl (k := 6) rfl rfl (by decide) rfl) (fun ls hl => ?_)
        refine zz (fun _ _ => lv_goto (tgt := 6) hx hb dX9_note_110 (by decide)) ?_
        have hl := lv_sub hl [1, 2, 3, 4, 5, 6, 0] rfl
        try simp only [nI_1] at hl
        rw [show nI (L.length - j1) + (-1) = nI (L.length - (j1 + 1)) by rw [hk9, nI_m1, hd9]] at hl
        exact ih1 (v1, (u1 (u1 (u1 (u1 (u1 A1 29 (upd (A1 29) (Int32.toNatClampNeg (nI (k9 + 1))) (A1 29 k9))) 30 (upd (A1 30) (Int32.toNatClampNeg (nI (k9 + 1))) (A1 30 k9))) 31 (upd (A1 31) (Int32.toNatClampNeg (nI (k9 + 1))) (A1 31 k9))) 32 (upd (A1 32) (Int32.toNatClampNeg (nI (k9 + 1))) (A1 32 k9))) 33 (upd (A1 33) (Int32.toNatClampNeg (nI (k9 + 1))) (A1 33 k9)))) _ _ (by show ntI L.length (L.length - (j1 + 1)) v A _ _ ∧ _; rw [hd9, nI_clamp (n := k9 + 1) (by omega)]; exact ⟨nt_next (by omega) hI9.1, fun i y h1 h2 => nt_up hI9.2 ey9 (Classical.not_not.mp (fun q => c_3 (hcc9.mpr q))) i y h1 h2⟩) hl
  · intro a1 sz ls hI1 hl
    obtain ⟨v1, A1⟩ := a1
    dsimp only at hI1 hl
    refine zeq (M' := (mm aC r v1 A1 R)) rfl ?_
    refine zz (fun _ _ => lv_iload hx hb dX9_note_6 (lv_at hl 6 rfl)) ?_
    refine zval (v' := .int (nI 0)) (congrArg Value.int (by rw [Nat.sub_self])) ?_
    refine zb (fun _ _ => lv_if_le (tgt := 113) hx hb dX9_note_8 (by decide)) (fun c_4 => ?_) (fun c_4 => ?_)
    · refine zz (fun _ _ => lv_aload_n hx hb dX9_note_113 rfl (lv_at hl 0 rfl)) ?_
      refine z_get (v := .ref (r + 29)) C fd_X9_95 rm_0 rfl dX9_note_114 ?_
      refine zz (fun _ _ => lv_iload hx hb dX9_note_117 (lv_at hl 6 rfl)) ?_
      refine zval (v' := .int (nI 0)) (congrArg Value.int (by rw [Nat.sub_self])) ?_
      refine zz (fun _ _ => lv_iload_n hx hb dX9_note_119 rfl (lv_at hl 1 rfl)) ?_
      refine z_iast (f := A1 29) C rm_29 (by first | assumption | (apply vp_in_nI <;> omega)) dX9_note_120 ?_
      refine zeq wm_29 ?_
      refine zz (fun _ _ => lv_aload_n hx hb dX9_note_121 rfl (lv_at hl 0 rfl)) ?_
      refine z_get (v := .ref (r + 30)) C fd_X9_98 rm_0 rfl dX9_note_122 ?_
      refine zz (fun _ _ => lv_iload hx hb dX9_note_125 (lv_at hl 6 rfl)) ?_
      refine zval (v' := .int (nI 0)) (congrArg Value.int (by rw [Nat.sub_self])) ?_
      refine zz (fun _ _ => lv_iload_n hx hb dX9_note_127 rfl (lv_at hl 2 rfl)) ?_
      refine z_iast (f := A1 30) C rm_30 (by first | assumption | (apply vp_in_nI <;> omega)) dX9_note_128 ?_
      refine zeq wm_30 ?_
      refine zz (fun _ _ => lv_aload_n hx hb dX9_note_129 rfl (lv_at hl 0 rfl)) ?_
      refine z_get (v := .ref (r + 31)) C fd_X9_101 rm_0 rfl dX9_note_130 ?_
      refine zz (fun _ _ => lv_iload hx hb dX9_note_133 (lv_at hl 6 rfl)) ?_
      refine zval (v' := .int (nI 0)) (congrArg Value.int (by rw [Nat.sub_self])) ?_
      refine zz (fun _ _ => lv_iload_n hx hb dX9_note_135 rfl (lv_at hl 3 rfl)) ?_
      refine z_iast (f := A1 31) C rm_31 (by first | assumption | (apply vp_in_nI <;> omega)) dX9_note_136 ?_
      refine zeq wm_31 ?_
      refine zz (fun _ _ => lv_aload_n hx hb dX9_note_137 rfl (lv_at hl 0 rfl)) ?_
      refine z_get (v := .ref (r + 32)) C fd_X9_104 rm_0 rfl dX9_note_138 ?_
      refine zz (fun _ _ => lv_iload hx hb dX9_note_141 (lv_at hl 6 rfl)) ?_
      refine zval (v' := .int (nI 0)) (congrArg Value.int (by rw [Nat.sub_self])) ?_
      refine zz (fun _ _ => lv_iload hx hb dX9_note_143 (lv_at hl 4 rfl)) ?_
      refine z_iast (f := A1 32) C rm_32 (by first | assumption | (apply vp_in_nI <;> omega)) dX9_note_145 ?_
      refine zeq wm_32 ?_
      refine zz (fun _ _ => lv_aload_n hx hb dX9_note_146 rfl (lv_at hl 0 rfl)) ?_
      refine z_get (v := .ref (r + 33)) C fd_X9_107 rm_0 rfl dX9_note_147 ?_
      refine zz (fun _ _ => lv_iload hx hb dX9_note_150 (lv_at hl 6 rfl)) ?_
      refine zval (v' := .int (nI 0)) (congrArg Value.int (by rw [Nat.sub_self])) ?_
      refine zz (fun _ _ => lv_iload hx hb dX9_note_152 (lv_at hl 5 rfl)) ?_
      refine z_zast (f := A1 33) C rm_33 (by first | assumption | (apply vp_in_nI <;> omega)) (bz (tI_b b)) dX9_note_154 ?_
      refine zeq wm_33 ?_
      refine zz (fun _ _ => lv_aload_n hx hb dX9_note_155 rfl (lv_at hl 0 rfl)) ?_
      refine zz (fun _ _ => lv_dup hx hb dX9_note_156 rfl) ?_
      refine z_get (v := .int (v1 34)) C fd_X9_250 rm_0 rfl dX9_note_157 ?_
      refine zval (v' := .int (nI L.length)) (congrArg Value.int ((congrFun hI1.1.1 34).trans hn9)) ?_
      refine zz (fun _ _ => lv_iconst (v := 1) hx hb dX9_note_160 (by decide)) ?_
      refine zz (fun _ _ => lv_iadd hx hb dX9_note_161) ?_
      refine zval (v' := .int (nI (L.length + 1))) (congrArg Value.int (nI_1 _)) ?_
      refine z_put C fp_X9_250 (fun h => by cases h) rm_0 (Nat.le_of_ble_eq_true rfl) rfl rfl dX9_note_162 ?_
      refine zeq wm_f34 ?_
      exact z_vret C hr hlk dX9_note_165 (zpN_mk (a := (upd v1 34 (nI (L.length + 1)))) (b := (u1 (u1 (u1 (u1 (u1 A1 29 (upd (A1 29) (Int32.toNatClampNeg (nI 0)) (nI g))) 30 (upd (A1 30) (Int32.toNatClampNeg (nI 0)) (nI (pt c9 0)))) 31 (upd (A1 31) (Int32.toNatClampNeg (nI 0)) (nI (pt c9 1)))) 32 (upd (A1 32) (Int32.toNatClampNeg (nI 0)) (nI (pt c9 2)))) 33 (upd (A1 33) (Int32.toNatClampNeg (nI 0)) (tI b)))) (by rw [nI_clamp (n := 0) (by decide)]; have h9 := hI1; rw [Nat.sub_self] at h9; exact nt_end (Nat.zero_le _) hg hcc hc hs ho hu h9.1 h9.2 (fun y h1 _ => absurd rfl h1)))
    · exact absurd (by decide) c_4
