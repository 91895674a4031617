theorem RC_n {v : Nat → Int32} {A : Nat → Nat → Int32} {S : St} (h : RC v A S) : ∃ n, v 20 = nI n ∧ n ≤ 120 := by
  obtain ⟨ho, n, f, h⟩ := h
  exact ⟨n, h.1, (RL_n h ho).2⟩
theorem tI_0 {b : Bool} : tI b = 0 ↔ b = false := by cases b <;> simp [tI]
theorem tI_1 {b : Bool} : ¬ tI b = 0 ↔ b = true := by cases b <;> simp [tI]
theorem rd_torn {v : Nat → Int32} {A : Nat → Nat → Int32} {S : St} {fl : List Nat} {t : Nat} {b : Bool} (hR : RC v A S) (h : ¬ tI b = 0) : AR v A (aRead b fl t S) 3 v A := by
  rw [tI_1] at h
  subst h
  exact ⟨rfl, FS.refl, fun _ => ⟨hR, by show v 41 = v 41 + nI 0; rw [nI_0]; simp⟩⟩
theorem rd_end {v v' : Nat → Int32} {A A' : Nat → Nat → Int32} {S : St} {fl : List Nat} {t : Nat} {b : Bool} {room : Int32} (hb : tI b = 0) (h : cmI v A t (fl.take fl.length) (S.1, tS S.2.1 t true, S.2.2) room v' A') : (room = 0 → AR v A (aRead b fl t S) 4 v' A') ∧ (¬ room = 0 → AR v A (aRead b fl t S) 0 v' A') := by
  rw [tI_0] at hb
  subst hb
  rw [List.take_length] at h
  refine ⟨fun q => ?_, fun q => ?_⟩
  · rcases h.2 with ⟨_, r⟩ | ⟨S', r, _⟩
    · unfold aRead AR
      rw [if_neg (by decide), r]
      exact ⟨rfl, h.1.S, fun q => absurd q (show ¬ (4 : Nat) < 4 by decide)⟩
    · rw [q] at r; exact absurd r (by decide)
  · rcases h.2 with ⟨r, _⟩ | ⟨S', _, r, r2, _⟩
    · exact absurd r q
    · unfold aRead AR
      rw [if_neg (by decide), r]
      exact ⟨rfl, h.1.S, fun _ => ⟨r2, by show v' 41 = v 41 + nI 0; rw [nI_0, h.1.1 41 (by decide) (by decide)]; simp⟩⟩
set_option maxHeartbeats 2000000 in
set_option maxRecDepth 10000 in
theorem hX9_readFile {l : Launch} {D : va_G} {aC : Nat → ClassId} {b0 sz : Nat} {r : Nat} {v : Nat → Int32} {A : Nat → Nat → Int32} {R : ZM} {i f t : Nat} {S : St} {TN : Nat → Bool} {FL : Nat → List Nat} (hi : i < 12) (hf : f < 4) (ht : t < 7) (hfrom : A 2 i = nI f) (hto : A 3 i = nI t) (hF : FLr A TN FL) (hR : RC v A S) : Ct l D aC b0 yX9_readFile cX9_readFile 5 (some .int) 2 0 0 [.ref (r), .int (nI i)] (mm aC r v A R) sz (zpI (fun v A => mm aC r v A R) (fun w v' A' => AR v A (aRead (TN f) (FL f) t S) w v' A')) := by
  refine Ct.of (by decide) (Nat.le_of_ble_eq_true rfl) ?_
  intro p e s m below meth c ls C hr hlk hnm hl
  have hl : lv_has ls 5 [(0, .ref (r)), (1, .int (nI i))] := hl
  obtain ⟨hx, hb, -, -, -⟩ := id C
  have hlen := (hF f hf).2.1
  have hok := (hF f hf).2.2.2.2
  refine zz (fun _ _ => lv_aload_n hx hb dX9_readFile_0 rfl (lv_at hl 0 rfl)) ?_
  refine z_get (v := .ref (r + 2)) C fd_X9_13 rm_0 rfl dX9_readFile_1 ?_
  refine zz (fun _ _ => lv_iload_n hx hb dX9_readFile_4 rfl (lv_at hl 1 rfl)) ?_
  refine z_iald (f := A 2) C rm_2 (by first | assumption | (apply vp_in_nI <;> omega)) dX9_readFile_5 ?_
  refine zval (v' := .int (nI f)) (congrArg Value.int (rdI hfrom (by omega))) ?_
  refine zs (fun _ _ => lv_istore_n (lv' := [(2, .int (nI f)), (0, .ref (r)), (1, .int (nI i))]) hx hb dX9_readFile_6 rfl hl (by decide) rfl) (fun ls hl => ?_)
  refine zz (fun _ _ => lv_aload_n hx hb dX9_readFile_7 rfl (lv_at hl 1 rfl)) ?_
  refine z_get (v := .ref (r + 18)) C fd_X9_62 rm_0 rfl dX9_readFile_8 ?_
  refine zz (fun _ _ => lv_iload_n hx hb dX9_readFile_11 rfl (lv_at hl 0 rfl)) ?_
  refine z_zald (f := A 18) C rm_18 (by first | assumption | (apply vp_in_nI <;> omega)) dX9_readFile_12 ?_
  refine zval (v' := .int (tI (TN f))) (congrArg Value.int (rdI (hF f hf).2.2.2.1 (by omega))) ?_
  refine zb (fun _ _ => lv_if_eq (tgt := 18) hx hb dX9_readFile_13 (by decide)) (fun c_1 => ?_) (fun c_1 => ?_)
  · refine zz (fun _ _ => lv_aload_n hx hb dX9_readFile_18 rfl (lv_at hl 1 rfl)) ?_
    refine z_get (v := .ref (r + 23)) C fd_X9_77 rm_0 rfl dX9_readFile_19 ?_
    refine zz (fun _ _ => lv_aload_n hx hb dX9_readFile_22 rfl (lv_at hl 1 rfl)) ?_
    refine z_get (v := .ref (r + 3)) C fd_X9_16 rm_0 rfl dX9_readFile_23 ?_
    refine zz (fun _ _ => lv_iload_n hx hb dX9_readFile_26 rfl (lv_at hl 2 rfl)) ?_
    refine z_iald (f := A 3) C rm_3 (by first | assumption | (apply vp_in_nI <;> omega)) dX9_readFile_27 ?_
    refine zval (v' := .int (nI t)) (congrArg Value.int (rdI hto (by omega))) ?_
    refine zz (fun _ _ => lv_iconst (v := 1) hx hb dX9_readFile_28 (by decide)) ?_
    refine z_zast (f := A 23) C rm_23 (by first | assumption | (apply vp_in_nI <;> omega)) rfl dX9_readFile_29 ?_
    refine zeq wm_23 ?_
    refine zz (fun _ _ => lv_iconst (v := 1) hx hb dX9_readFile_30 (by decide)) ?_
    refine zs (fun _ _ => lv_istore_n (lv' := [(3, .int (1)), (2, .int (nI f)), (0, .ref (r)), (1, .int (nI i))]) hx hb dX9_readFile_31 rfl hl (by decide) rfl) (fun ls hl => ?_)
    refine zz (fun _ _ => lv_bipush (v := 10) hx hb dX9_readFile_32 (by decide)) ?_
    refine zz (fun _ _ => lv_iload_n hx hb dX9_readFile_34 rfl (lv_at hl 1 rfl)) ?_
    refine zz (fun _ _ => lv_imul hx hb dX9_readFile_35) ?_
    refine zval (v' := .int (nI (10 * f))) (congrArg Value.int (pk_mul 10 f)) ?_
    refine zs (fun _ _ => lv_istore (lv' := [(4, .int (nI (10 * f))), (3, .int (1)), (2, .int (nI f)), (0, .ref (r)), (1, .int (nI i))]) hx hb dX9_readFile_36 hl (by decide) rfl) (fun ls hl => ?_)
    have hl0 := lv_sub hl [3, 4, 2, 1, 0] rfl
    refine z_loop (γ := (Nat → Int32) × (Nat → Nat → Int32) × Int32) (G := fun a => mm aC r a.1 a.2.1 R) (I := fun j a => cmI v A t ((FL f).take j) (S.1, tS S.2.1 t true, S.2.2) a.2.2 a.1 a.2.1) (lv := fun j a => [(0, .ref (r)), (1, .int (nI i)), (2, .int (nI f)), (3, .int (a.2.2)), (4, .int (nI (10 * f + j)))]) ((FL f).length) ?_ ?_ (v, (u1 A 23 (upd (A 23) (Int32.toNatClampNeg (nI t)) (1))), 1) _ _ (by rw [nI_clamp (by omega)]; exact cmI_0 (RC_set hR t) (by simp [tS]) FR_set) hl0
    · intro j2 a2 sz ls hj2 hI2 hl ih2
      obtain ⟨v2, A2, t2_3⟩ := a2
      dsimp only at hI2 hl ih2
      refine zeq (M' := (mm aC r v2 A2 R)) rfl ?_
      have hF2 : FLr A2 TN FL := hF.kept hI2.1.low
      have hto2 : A2 3 i = nI t := by rw [hI2.1.low 3 (by decide)]; exact hto
      refine zz (fun _ _ => lv_iload hx hb dX9_readFile_38 (lv_at hl 4 rfl)) ?_
      refine zz (fun _ _ => lv_bipush (v := 10) hx hb dX9_readFile_40 (by decide)) ?_
      refine zz (fun _ _ => lv_iload_n hx hb dX9_readFile_42 rfl (lv_at hl 2 rfl)) ?_
      refine zz (fun _ _ => lv_imul hx hb dX9_readFile_43) ?_
      refine zval (v' := .int (nI (10 * f))) (congrArg Value.int (pk_mul 10 f)) ?_
      refine zz (fun _ _ => lv_aload_n hx hb dX9_readFile_44 rfl (lv_at hl 0 rfl)) ?_
      refine z_get (v := .ref (r + 14)) C fd_X9_50 rm_0 rfl dX9_readFile_45 ?_
      refine zz (fun _ _ => lv_iload_n hx hb dX9_readFile_48 rfl (lv_at hl 2 rfl)) ?_
      refine z_iald (f := A2 14) C rm_14 (by first | assumption | (apply vp_in_nI <;> omega)) dX9_readFile_49 ?_
      refine zval (v' := .int (nI (FL f).length)) (congrArg Value.int (rdI (hF2 f hf).1 (by omega))) ?_
      refine zz (fun _ _ => lv_iadd hx hb dX9_readFile_50) ?_
      refine zval (v' := .int (nI (10 * f + (FL f).length))) (congrArg Value.int (nI_add _ _)) ?_
      refine zb (fun _ _ => lv_icmp_ge (tgt := 104) hx hb dX9_readFile_51 (by decide)) (fun c_3 => ?_) (fun c_3 => ?_)
      · exact absurd c_3 (nI_ge (by omega) (by omega))
      · refine zz (fun _ _ => lv_iload_n hx hb dX9_readFile_54 rfl (lv_at hl 3 rfl)) ?_
        refine zb (fun _ _ => lv_if_eq (tgt := 96) hx hb dX9_readFile_55 (by decide)) (fun c_4 => ?_) (fun c_4 => ?_)
        · refine zz (fun _ _ => lv_iconst (v := 0) hx hb dX9_readFile_96 (by decide)) ?_
          refine zs (fun _ _ => lv_istore_n (lv' := [(3, .int (0)), (0, .ref (r)), (1, .int (nI i)), (2, .int (nI f)), (4, .int (nI (10 * f + j2)))]) hx hb dX9_readFile_97 rfl hl (by decide) rfl) (fun ls hl => ?_)
          refine zs (fun _ _ => lv_iinc (v := nI (10 * f + j2) + 1) (lv' := [(4, .int (nI (10 * f + j2) + 1)), (3, .int (0)), (0, .ref (r)), (1, .int (nI i)), (2, .int (nI f))]) hx hb dX9_readFile_98 hl (k := 4) rfl rfl (by decide) rfl) (fun ls hl => ?_)
          refine zz (fun _ _ => lv_goto (tgt := 38) hx hb dX9_readFile_101 (by decide)) ?_
          have hl := lv_sub hl [2, 3, 4, 1, 0] rfl
          try simp only [nI_1] at hl
          exact ih2 (v2, A2, 0) _ _ (cmI_out hj2 hI2 c_4) hl
        · refine zz (fun _ _ => lv_aload_n hx hb dX9_readFile_58 rfl (lv_at hl 0 rfl)) ?_
          refine zz (fun _ _ => lv_aload_n hx hb dX9_readFile_59 rfl (lv_at hl 0 rfl)) ?_
          refine z_get (v := .ref (r + 3)) C fd_X9_16 rm_0 rfl dX9_readFile_60 ?_
          refine zz (fun _ _ => lv_iload_n hx hb dX9_readFile_63 rfl (lv_at hl 1 rfl)) ?_
          refine z_iald (f := A2 3) C rm_3 (by first | assumption | (apply vp_in_nI <;> omega)) dX9_readFile_64 ?_
          refine zval (v' := .int (nI t)) (congrArg Value.int (rdI hto2 (by omega))) ?_
          refine zz (fun _ _ => lv_aload_n hx hb dX9_readFile_65 rfl (lv_at hl 0 rfl)) ?_
          refine z_get (v := .ref (r + 15)) C fd_X9_53 rm_0 rfl dX9_readFile_66 ?_
          refine zz (fun _ _ => lv_iload hx hb dX9_readFile_69 (lv_at hl 4 rfl)) ?_
          refine z_iald (f := A2 15) C rm_15 (by first | assumption | (apply vp_in_nI <;> omega)) dX9_readFile_71 ?_
          refine zval (v' := .int (nI (pt ((FL f).getD j2 0) 0))) (congrArg Value.int (rdI ((hF2 f hf).2.2.1 j2 hj2).1 (by omega))) ?_
          refine zz (fun _ _ => lv_aload_n hx hb dX9_readFile_72 rfl (lv_at hl 0 rfl)) ?_
          refine z_get (v := .ref (r + 16)) C fd_X9_56 rm_0 rfl dX9_readFile_73 ?_
          refine zz (fun _ _ => lv_iload hx hb dX9_readFile_76 (lv_at hl 4 rfl)) ?_
          refine z_iald (f := A2 16) C rm_16 (by first | assumption | (apply vp_in_nI <;> omega)) dX9_readFile_78 ?_
          refine zval (v' := .int (nI (pt ((FL f).getD j2 0) 1))) (congrArg Value.int (rdI ((hF2 f hf).2.2.1 j2 hj2).2.1 (by omega))) ?_
          refine zz (fun _ _ => lv_aload_n hx hb dX9_readFile_79 rfl (lv_at hl 0 rfl)) ?_
          refine z_get (v := .ref (r + 17)) C fd_X9_59 rm_0 rfl dX9_readFile_80 ?_
          refine zz (fun _ _ => lv_iload hx hb dX9_readFile_83 (lv_at hl 4 rfl)) ?_
          refine z_iald (f := A2 17) C rm_17 (by first | assumption | (apply vp_in_nI <;> omega)) dX9_readFile_85 ?_
          refine zval (v' := .int (nI (pt ((FL f).getD j2 0) 2))) (congrArg Value.int (rdI ((hF2 f hf).2.2.1 j2 hj2).2.2 (by omega))) ?_
          obtain ⟨S9, e9, hR9, _⟩ := cmI_in hI2 c_4
          obtain ⟨n9, hs9, hn9⟩ := RC_n hR9
          refine zdV (As := [.int (nI t), .int (nI (pt ((FL f).getD j2 0) 0)), .int (nI (pt ((FL f).getD j2 0) 1)), .int (nI (pt ((FL f).getD j2 0) 2))]) (rest := []) (st' := [.int ((fX9_come v2 A2 (nI t) (nI (pt ((FL f).getD j2 0) 0)) (nI (pt ((FL f).getD j2 0) 1)) (nI (pt ((FL f).getD j2 0) 2))).1)]) C hl.1 lk_X9_209 (ctX9_come hs9 hn9) rm_0 rfl rfl rfl (Nat.le_of_ble_eq_true rfl) ⟨by decide, by decide, by decide, by decide⟩ dX9_readFile_86 rfl (fun sz => ?_)
          refine zb (fun _ _ => lv_if_eq (tgt := 96) hx hb dX9_readFile_89 (by decide)) (fun c_5 => ?_) (fun c_5 => ?_)
          · refine zz (fun _ _ => lv_iconst (v := 0) hx hb dX9_readFile_96 (by decide)) ?_
            refine zs (fun _ _ => lv_istore_n (lv' := [(3, .int (0)), (0, .ref (r)), (1, .int (nI i)), (2, .int (nI f)), (4, .int (nI (10 * f + j2)))]) hx hb dX9_readFile_97 rfl hl (by decide) rfl) (fun ls hl => ?_)
            refine zs (fun _ _ => lv_iinc (v := nI (10 * f + j2) + 1) (lv' := [(4, .int (nI (10 * f + j2) + 1)), (3, .int (0)), (0, .ref (r)), (1, .int (nI i)), (2, .int (nI f))]) hx hb dX9_readFile_98 hl (k := 4) rfl rfl (by decide) rfl) (fun ls hl => ?_)
            refine zz (fun _ _ => lv_goto (tgt := 38) hx hb dX9_readFile_101 (by decide)) ?_
            have hl := lv_sub hl [2, 3, 4, 1, 0] rfl
            try simp only [nI_1] at hl
            exact ih2 ((fX9_come v2 A2 (nI t) (nI (pt ((FL f).getD j2 0) 0)) (nI (pt ((FL f).getD j2 0) 1)) (nI (pt ((FL f).getD j2 0) 2))).2.1, (fX9_come v2 A2 (nI t) (nI (pt ((FL f).getD j2 0) 0)) (nI (pt ((FL f).getD j2 0) 1)) (nI (pt ((FL f).getD j2 0) 2))).2.2, 0) _ _ ((cmI_next hj2 ht hok hI2 c_4).1 c_5) hl
          · refine zz (fun _ _ => lv_iconst (v := 1) hx hb dX9_readFile_92 (by decide)) ?_
            refine zz (fun _ _ => lv_goto (tgt := 97) hx hb dX9_readFile_93 (by decide)) ?_
            refine zs (fun _ _ => lv_istore_n (lv' := [(3, .int (1)), (0, .ref (r)), (1, .int (nI i)), (2, .int (nI f)), (4, .int (nI (10 * f + j2)))]) hx hb dX9_readFile_97 rfl hl (by decide) rfl) (fun ls hl => ?_)
            refine zs (fun _ _ => lv_iinc (v := nI (10 * f + j2) + 1) (lv' := [(4, .int (nI (10 * f + j2) + 1)), (3, .int (1)), (0, .ref (r)), (1, .int (nI i)), (2, .int (nI f))]) hx hb dX9_readFile_98 hl (k := 4) rfl rfl (by decide) rfl) (fun ls hl => ?_)
            refine zz (fun _ _ => lv_goto (tgt := 38) hx hb dX9_readFile_101 (by decide)) ?_
            have hl := lv_sub hl [2, 3, 4, 1, 0] rfl
            try simp only [nI_1] at hl
            exact ih2 ((fX9_come v2 A2 (nI t) (nI (pt ((FL f).getD j2 0) 0)) (nI (pt ((FL f).getD j2 0) 1)) (nI (pt ((FL f).getD j2 0) 2))).2.1, (fX9_come v2 A2 (nI t) (nI (pt ((FL f).getD j2 0) 0)) (nI (pt ((FL f).getD j2 0) 1)) (nI (pt ((FL f).getD j2 0) 2))).2.2, 1) _ _ ((cmI_next hj2 ht hok hI2 c_4).2 c_5) hl
    · intro a2 sz ls hI2 hl
      obtain ⟨v2, A2, t2_3⟩ := a2
      dsimp only at hI2 hl
      refine zeq (M' := (mm aC r v2 A2 R)) rfl ?_
      have hF2 : FLr A2 TN FL := hF.kept hI2.1.low
      have hto2 : A2 3 i = nI t := by rw [hI2.1.low 3 (by decide)]; exact hto
      refine zz (fun _ _ => lv_iload hx hb dX9_readFile_38 (lv_at hl 4 rfl)) ?_
      refine zz (fun _ _ => lv_bipush (v := 10) hx hb dX9_readFile_40 (by decide)) ?_
      refine zz (fun _ _ => lv_iload_n hx hb dX9_readFile_42 rfl (lv_at hl 2 rfl)) ?_
      refine zz (fun _ _ => lv_imul hx hb dX9_readFile_43) ?_
      refine zval (v' := .int (nI (10 * f))) (congrArg Value.int (pk_mul 10 f)) ?_
      refine zz (fun _ _ => lv_aload_n hx hb dX9_readFile_44 rfl (lv_at hl 0 rfl)) ?_
      refine z_get (v := .ref (r + 14)) C fd_X9_50 rm_0 rfl dX9_readFile_45 ?_
      refine zz (fun _ _ => lv_iload_n hx hb dX9_readFile_48 rfl (lv_at hl 2 rfl)) ?_
      refine z_iald (f := A2 14) C rm_14 (by first | assumption | (apply vp_in_nI <;> omega)) dX9_readFile_49 ?_
      refine zval (v' := .int (nI (FL f).length)) (congrArg Value.int (rdI (hF2 f hf).1 (by omega))) ?_
      refine zz (fun _ _ => lv_iadd hx hb dX9_readFile_50) ?_
      refine zval (v' := .int (nI (10 * f + (FL f).length))) (congrArg Value.int (nI_add _ _)) ?_
      refine zb (fun _ _ => lv_icmp_ge (tgt := 104) hx hb dX9_readFile_51 (by decide)) (fun c_6 => ?_) (fun c_6 => ?_)
      · refine zz (fun _ _ => lv_iload_n hx hb dX9_readFile_104 rfl (lv_at hl 3 rfl)) ?_
        refine zb (fun _ _ => lv_if_eq (tgt := 112) hx hb dX9_readFile_105 (by decide)) (fun c_7 => ?_) (fun c_7 => ?_)
        · refine zz (fun _ _ => lv_iconst (v := 4) hx hb dX9_readFile_112 (by decide)) ?_
          exact z_iret C hr hlk dX9_readFile_113 (zpI_mk (a := v2) (b := A2) ((rd_end c_1 hI2).1 c_7))
        · refine zz (fun _ _ => lv_iconst (v := 0) hx hb dX9_readFile_108 (by decide)) ?_
          refine zz (fun _ _ => lv_goto (tgt := 113) hx hb dX9_readFile_109 (by decide)) ?_
          exact z_iret C hr hlk dX9_readFile_113 (zpI_mk (a := v2) (b := A2) ((rd_end c_1 hI2).2 c_7))
      · exact absurd (nI_le (Nat.le_refl _) (by omega)) c_6
  · refine zz (fun _ _ => lv_iconst (v := 3) hx hb dX9_readFile_16 (by decide)) ?_
    exact z_iret C hr hlk dX9_readFile_17 (zpI_mk (a := v) (b := A) (rd_torn hR c_1))
