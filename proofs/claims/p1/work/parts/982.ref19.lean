set_option maxHeartbeats 2000000 in
set_option maxRecDepth 10000 in
theorem hX9_noteAll {l : Launch} {D : va_G} {aC : Nat → ClassId} {b0 sz : Nat} {r : Nat} {v : Nat → Int32} {A : Nat → Nat → Int32} {R : ZM} {n n0 : Nat} {f f0 : Nat → Nat × Nat} {S S0 : St} (ho : okS S) (ho0 : okS S0) (hL : RLs v A S n f) (hO : OLs v A S0 n0 f0) : Ct l D aC b0 yX9_noteAll cX9_noteAll 2 none 2 0 0 [.ref (r)] (mm aC r v A R) sz (zpN (fun v A => mm aC r v A R) (naP v A S0.1 S.1)) := by
  refine Ct.of (by decide) (Nat.le_of_ble_eq_true rfl) ?_
  intro p e s m below meth c ls C hr hlk hnm hl
  have hl : lv_has ls 2 [(0, .ref (r))] := hl
  obtain ⟨hx, hb, -, -, -⟩ := id C
  have hn2 := (RL_n hL ho).2
  have hn02 := OL_n hO ho0
  refine zz (fun _ _ => lv_aload_n hx hb dX9_noteAll_0 rfl (lv_at hl 0 rfl)) ?_
  refine zz (fun _ _ => lv_iconst (v := 0) hx hb dX9_noteAll_1 (by decide)) ?_
  refine z_put C fp_X9_250 (fun h => by cases h) rm_0 (Nat.le_of_ble_eq_true rfl) rfl rfl dX9_noteAll_2 ?_
  refine zeq wm_f34 ?_
  refine zz (fun _ _ => lv_iconst (v := 0) hx hb dX9_noteAll_5 (by decide)) ?_
  refine zs (fun _ _ => lv_istore_n (lv' := [(1, .int (0)), (0, .ref (r))]) hx hb dX9_noteAll_6 rfl hl (by decide) rfl) (fun ls hl => ?_)
  have hl0 := lv_sub hl [1, 0] rfl
  refine z_loop (γ := (Nat → Int32) × (Nat → Nat → Int32)) (G := fun a => mm aC r a.1 a.2 R) (I := fun j a => naI v A (naM1 S0.1 f j) j a.1 a.2) (lv := fun j a => [(0, .ref (r)), (1, .int (nI (j)))]) (n) ?_ ?_ ((upd v 34 0), A) _ _ ⟨⟨fun k hk => by simp [upd, hk], fun _ _ => rfl⟩, [], by simp [upd]; rfl, Nat.le_refl _, fun i _ _ _ h => by simp at h, List.Pairwise.nil, fun y hy => by simp at hy, fun y => ⟨fun h => by simp at h, fun ⟨i, hi, _⟩ => absurd hi (Nat.not_lt_zero _)⟩⟩ hl0
  · intro j1 a1 sz ls hj1 hI1 hl ih1
    obtain ⟨v1, A1⟩ := a1
    dsimp only at hI1 hl ih1
    refine zeq (M' := (mm aC r v1 A1 R)) rfl ?_
    refine zz (fun _ _ => lv_iload_n hx hb dX9_noteAll_7 rfl (lv_at hl 1 rfl)) ?_
    refine zz (fun _ _ => lv_aload_n hx hb dX9_noteAll_8 rfl (lv_at hl 0 rfl)) ?_
    refine z_get (v := .int (v1 20)) C fd_X9_160 rm_0 rfl dX9_noteAll_9 ?_
    refine zval (v' := .int (nI n)) (congrArg Value.int ((hI1.1.1 20 (by decide)).trans hL.1)) ?_
    refine zb (fun _ _ => lv_icmp_ge (tgt := 81) hx hb dX9_noteAll_12 (by decide)) (fun c_2 => ?_) (fun c_2 => ?_)
    · exact absurd c_2 (nI_ge (by omega) (by omega))
    · refine zz (fun _ _ => lv_aload_n hx hb dX9_noteAll_15 rfl (lv_at hl 0 rfl)) ?_
      refine zz (fun _ _ => lv_aload_n hx hb dX9_noteAll_16 rfl (lv_at hl 0 rfl)) ?_
      refine z_get (v := .ref (r + 19)) C fd_X9_65 rm_0 rfl dX9_noteAll_17 ?_
      refine zz (fun _ _ => lv_iload_n hx hb dX9_noteAll_20 rfl (lv_at hl 1 rfl)) ?_
      refine z_iald (f := A1 19) C rm_19 (by first | assumption | (apply vp_in_nI <;> omega)) dX9_noteAll_21 ?_
      refine zval (v' := .int (nI (f j1).1)) (congrArg Value.int (rdI ((congrFun (hI1.1.2 19 (by decide)) _).trans (hL.2.2.2.1 j1 hj1).1) (by omega))) ?_
      refine zz (fun _ _ => lv_aload_n hx hb dX9_noteAll_22 rfl (lv_at hl 0 rfl)) ?_
      refine z_get (v := .ref (r + 20)) C fd_X9_68 rm_0 rfl dX9_noteAll_23 ?_
      refine zz (fun _ _ => lv_iload_n hx hb dX9_noteAll_26 rfl (lv_at hl 1 rfl)) ?_
      refine z_iald (f := A1 20) C rm_20 (by first | assumption | (apply vp_in_nI <;> omega)) dX9_noteAll_27 ?_
      refine zval (v' := .int (nI (pt (f j1).2 0))) (congrArg Value.int (rdI ((congrFun (hI1.1.2 20 (by decide)) _).trans (hL.2.2.2.1 j1 hj1).2.1) (by omega))) ?_
      refine zz (fun _ _ => lv_aload_n hx hb dX9_noteAll_28 rfl (lv_at hl 0 rfl)) ?_
      refine z_get (v := .ref (r + 21)) C fd_X9_71 rm_0 rfl dX9_noteAll_29 ?_
      refine zz (fun _ _ => lv_iload_n hx hb dX9_noteAll_32 rfl (lv_at hl 1 rfl)) ?_
      refine z_iald (f := A1 21) C rm_21 (by first | assumption | (apply vp_in_nI <;> omega)) dX9_noteAll_33 ?_
      refine zval (v' := .int (nI (pt (f j1).2 1))) (congrArg Value.int (rdI ((congrFun (hI1.1.2 21 (by decide)) _).trans (hL.2.2.2.1 j1 hj1).2.2.1) (by omega))) ?_
      refine zz (fun _ _ => lv_aload_n hx hb dX9_noteAll_34 rfl (lv_at hl 0 rfl)) ?_
      refine z_get (v := .ref (r + 22)) C fd_X9_74 rm_0 rfl dX9_noteAll_35 ?_
      refine zz (fun _ _ => lv_iload_n hx hb dX9_noteAll_38 rfl (lv_at hl 1 rfl)) ?_
      refine z_iald (f := A1 22) C rm_22 (by first | assumption | (apply vp_in_nI <;> omega)) dX9_noteAll_39 ?_
      refine zval (v' := .int (nI (pt (f j1).2 2))) (congrArg Value.int (rdI ((congrFun (hI1.1.2 22 (by decide)) _).trans (hL.2.2.2.1 j1 hj1).2.2.2) (by omega))) ?_
      refine zdV (As := [.int (nI (f j1).1), .int (nI (pt (f j1).2 0)), .int (nI (pt (f j1).2 1)), .int (nI (pt (f j1).2 2))]) (rest := []) (st' := [.int ((fX9_wasIn v1 A1 (nI (f j1).1) (nI (pt (f j1).2 0)) (nI (pt (f j1).2 1)) (nI (pt (f j1).2 2))))]) C hl.1 lk_X9_257 (ctX9_wasIn ((hI1.1.1 27 (by decide)).trans hO.1) hn02) rm_0 rfl rfl rfl (Nat.le_of_ble_eq_true rfl) ⟨by decide, by decide, by decide, by decide⟩ dX9_noteAll_40 rfl (fun sz => ?_)
      refine zval (v' := .int (tI (S0.1 (f j1).1 (f j1).2))) (congrArg Value.int (wasIn_s (hO.FN hI1.1) ho0 (RL_ok hL ho hj1).1 (RL_ok hL ho hj1).2)) ?_
      refine zbn (fun _ _ => lv_if_ne (tgt := 75) hx hb dX9_noteAll_43 (by decide)) (fun c_3 => ?_) (fun c_3 => ?_)
      · refine zs (fun _ _ => lv_iinc (v := nI (j1) + 1) (lv' := [(1, .int (nI (j1) + 1)), (0, .ref (r))]) hx hb dX9_noteAll_75 hl (k := 1) rfl rfl (by decide) rfl) (fun ls hl => ?_)
        refine zz (fun _ _ => lv_goto (tgt := 7) hx hb dX9_noteAll_78 (by decide)) ?_
        have hl := lv_sub hl [1, 0] rfl
        try simp only [nI_1] at hl
        exact ih1 (v1, A1) _ _ (na_same hI1 (by omega) (naM1_skip (tI_1.mp c_3))) hl
      · refine zz (fun _ _ => lv_aload_n hx hb dX9_noteAll_46 rfl (lv_at hl 0 rfl)) ?_
        refine zz (fun _ _ => lv_aload_n hx hb dX9_noteAll_47 rfl (lv_at hl 0 rfl)) ?_
        refine z_get (v := .ref (r + 19)) C fd_X9_65 rm_0 rfl dX9_noteAll_48 ?_
        refine zz (fun _ _ => lv_iload_n hx hb dX9_noteAll_51 rfl (lv_at hl 1 rfl)) ?_
        refine z_iald (f := A1 19) C rm_19 (by first | assumption | (apply vp_in_nI <;> omega)) dX9_noteAll_52 ?_
        refine zval (v' := .int (nI (f j1).1)) (congrArg Value.int (rdI ((congrFun (hI1.1.2 19 (by decide)) _).trans (hL.2.2.2.1 j1 hj1).1) (by omega))) ?_
        refine zz (fun _ _ => lv_aload_n hx hb dX9_noteAll_53 rfl (lv_at hl 0 rfl)) ?_
        refine z_get (v := .ref (r + 20)) C fd_X9_68 rm_0 rfl dX9_noteAll_54 ?_
        refine zz (fun _ _ => lv_iload_n hx hb dX9_noteAll_57 rfl (lv_at hl 1 rfl)) ?_
        refine z_iald (f := A1 20) C rm_20 (by first | assumption | (apply vp_in_nI <;> omega)) dX9_noteAll_58 ?_
        refine zval (v' := .int (nI (pt (f j1).2 0))) (congrArg Value.int (rdI ((congrFun (hI1.1.2 20 (by decide)) _).trans (hL.2.2.2.1 j1 hj1).2.1) (by omega))) ?_
        refine zz (fun _ _ => lv_aload_n hx hb dX9_noteAll_59 rfl (lv_at hl 0 rfl)) ?_
        refine z_get (v := .ref (r + 21)) C fd_X9_71 rm_0 rfl dX9_noteAll_60 ?_
        refine zz (fun _ _ => lv_iload_n hx hb dX9_noteAll_63 rfl (lv_at hl 1 rfl)) ?_
        refine z_iald (f := A1 21) C rm_21 (by first | assumption | (apply vp_in_nI <;> omega)) dX9_noteAll_64 ?_
        refine zval (v' := .int (nI (pt (f j1).2 1))) (congrArg Value.int (rdI ((congrFun (hI1.1.2 21 (by decide)) _).trans (hL.2.2.2.1 j1 hj1).2.2.1) (by omega))) ?_
        refine zz (fun _ _ => lv_aload_n hx hb dX9_noteAll_65 rfl (lv_at hl 0 rfl)) ?_
        refine z_get (v := .ref (r + 22)) C fd_X9_74 rm_0 rfl dX9_noteAll_66 ?_
        refine zz (fun _ _ => lv_iload_n hx hb dX9_noteAll_69 rfl (lv_at hl 1 rfl)) ?_
        refine z_iald (f := A1 22) C rm_22 (by first | assumption | (apply vp_in_nI <;> omega)) dX9_noteAll_70 ?_
        refine zval (v' := .int (nI (pt (f j1).2 2))) (congrArg Value.int (rdI ((congrFun (hI1.1.2 22 (by decide)) _).trans (hL.2.2.2.1 j1 hj1).2.2.2) (by omega))) ?_
        obtain ⟨hf8, L8, e8, hl8, hc8, hs8, ho8, hm8⟩ := id hI1
        refine zz (fun _ _ => lv_iconst (v := 1) hx hb dX9_noteAll_71 (by decide)) ?_
        refine zval (v' := .int (tI true)) (congrArg Value.int rfl) ?_
        refine zqVN (As := [.int (nI (f j1).1), .int (nI (pt (f j1).2 0)), .int (nI (pt (f j1).2 1)), .int (nI (pt (f j1).2 2)), .int (tI true)]) (rest := []) C hl.1 lk_X9_260 (hX9_note e8 (by omega) (RL_ok hL ho hj1).1 (RL_ok hL ho hj1).2 hc8 hs8 ho8 (naM1_new hL hj1 hm8)) rm_0 rfl rfl rfl (Nat.le_of_ble_eq_true rfl) ⟨by decide, by decide, by decide, by decide⟩ dX9_noteAll_72 (fun v4 A4 sz h4 => ?_)
        refine zeq (M' := (mm aC r v4 A4 R)) rfl ?_
        refine zs (fun _ _ => lv_iinc (v := nI (j1) + 1) (lv' := [(1, .int (nI (j1) + 1)), (0, .ref (r))]) hx hb dX9_noteAll_75 hl (k := 1) rfl rfl (by decide) rfl) (fun ls hl => ?_)
        refine zz (fun _ _ => lv_goto (tgt := 7) hx hb dX9_noteAll_78 (by decide)) ?_
        have hl := lv_sub hl [1, 0] rfl
        try simp only [nI_1] at hl
        exact ih1 (v4, A4) _ _ (na_note hf8 hl8 hm8 h4 (Nat.le_refl _) (naM1_add (tI_0.mp c_3))) hl
  · intro a1 sz ls hI1 hl
    obtain ⟨v1, A1⟩ := a1
    dsimp only at hI1 hl
    refine zeq (M' := (mm aC r v1 A1 R)) rfl ?_
    refine zz (fun _ _ => lv_iload_n hx hb dX9_noteAll_7 rfl (lv_at hl 1 rfl)) ?_
    refine zz (fun _ _ => lv_aload_n hx hb dX9_noteAll_8 rfl (lv_at hl 0 rfl)) ?_
    refine z_get (v := .int (v1 20)) C fd_X9_160 rm_0 rfl dX9_noteAll_9 ?_
    refine zval (v' := .int (nI n)) (congrArg Value.int ((hI1.1.1 20 (by decide)).trans hL.1)) ?_
    refine zb (fun _ _ => lv_icmp_ge (tgt := 81) hx hb dX9_noteAll_12 (by decide)) (fun c_5 => ?_) (fun c_5 => ?_)
    · refine zz (fun _ _ => lv_iconst (v := 0) hx hb dX9_noteAll_81 (by decide)) ?_
      refine zs (fun _ _ => lv_istore_n (lv' := [(1, .int (0)), (0, .ref (r))]) hx hb dX9_noteAll_82 rfl hl (by decide) rfl) (fun ls hl => ?_)
      have hl0 := lv_sub hl [1, 0] rfl
      refine z_loop (γ := (Nat → Int32) × (Nat → Nat → Int32)) (G := fun a => mm aC r a.1 a.2 R) (I := fun j a => naI v A (naM2 S0.1 S.1 n f f0 j) (n + j) a.1 a.2) (lv := fun j a => [(0, .ref (r)), (1, .int (nI (j)))]) (n0) ?_ ?_ (v1, A1) _ _ (na_same hI1 (by omega) (fun y => ⟨Or.inl, fun q => q.elim id (fun ⟨i, hi, _⟩ => absurd hi (Nat.not_lt_zero _))⟩)) hl0
      · intro j6 a6 sz ls hj6 hI6 hl ih6
        obtain ⟨v6, A6⟩ := a6
        dsimp only at hI6 hl ih6
        refine zeq (M' := (mm aC r v6 A6 R)) rfl ?_
        refine zz (fun _ _ => lv_iload_n hx hb dX9_noteAll_83 rfl (lv_at hl 1 rfl)) ?_
        refine zz (fun _ _ => lv_aload_n hx hb dX9_noteAll_84 rfl (lv_at hl 0 rfl)) ?_
        refine z_get (v := .int (v6 27)) C fd_X9_244 rm_0 rfl dX9_noteAll_85 ?_
        refine zval (v' := .int (nI n0)) (congrArg Value.int ((hI6.1.1 27 (by decide)).trans hO.1)) ?_
        refine zb (fun _ _ => lv_icmp_ge (tgt := 157) hx hb dX9_noteAll_88 (by decide)) (fun c_7 => ?_) (fun c_7 => ?_)
        · exact absurd c_7 (nI_ge (by omega) (by omega))
        · refine zz (fun _ _ => lv_aload_n hx hb dX9_noteAll_91 rfl (lv_at hl 0 rfl)) ?_
          refine zz (fun _ _ => lv_aload_n hx hb dX9_noteAll_92 rfl (lv_at hl 0 rfl)) ?_
          refine z_get (v := .ref (r + 24)) C fd_X9_80 rm_0 rfl dX9_noteAll_93 ?_
          refine zz (fun _ _ => lv_iload_n hx hb dX9_noteAll_96 rfl (lv_at hl 1 rfl)) ?_
          refine z_iald (f := A6 24) C rm_24 (by first | assumption | (apply vp_in_nI <;> omega)) dX9_noteAll_97 ?_
          refine zval (v' := .int (nI (f0 j6).1)) (congrArg Value.int (rdI ((congrFun (hI6.1.2 24 (by decide)) _).trans (hO.2.2.2.1 j6 hj6).1) (by omega))) ?_
          refine zz (fun _ _ => lv_aload_n hx hb dX9_noteAll_98 rfl (lv_at hl 0 rfl)) ?_
          refine z_get (v := .ref (r + 25)) C fd_X9_83 rm_0 rfl dX9_noteAll_99 ?_
          refine zz (fun _ _ => lv_iload_n hx hb dX9_noteAll_102 rfl (lv_at hl 1 rfl)) ?_
          refine z_iald (f := A6 25) C rm_25 (by first | assumption | (apply vp_in_nI <;> omega)) dX9_noteAll_103 ?_
          refine zval (v' := .int (nI (pt (f0 j6).2 0))) (congrArg Value.int (rdI ((congrFun (hI6.1.2 25 (by decide)) _).trans (hO.2.2.2.1 j6 hj6).2.1) (by omega))) ?_
          refine zz (fun _ _ => lv_aload_n hx hb dX9_noteAll_104 rfl (lv_at hl 0 rfl)) ?_
          refine z_get (v := .ref (r + 26)) C fd_X9_86 rm_0 rfl dX9_noteAll_105 ?_
          refine zz (fun _ _ => lv_iload_n hx hb dX9_noteAll_108 rfl (lv_at hl 1 rfl)) ?_
          refine z_iald (f := A6 26) C rm_26 (by first | assumption | (apply vp_in_nI <;> omega)) dX9_noteAll_109 ?_
          refine zval (v' := .int (nI (pt (f0 j6).2 1))) (congrArg Value.int (rdI ((congrFun (hI6.1.2 26 (by decide)) _).trans (hO.2.2.2.1 j6 hj6).2.2.1) (by omega))) ?_
          refine zz (fun _ _ => lv_aload_n hx hb dX9_noteAll_110 rfl (lv_at hl 0 rfl)) ?_
          refine z_get (v := .ref (r + 27)) C fd_X9_89 rm_0 rfl dX9_noteAll_111 ?_
          refine zz (fun _ _ => lv_iload_n hx hb dX9_noteAll_114 rfl (lv_at hl 1 rfl)) ?_
          refine z_iald (f := A6 27) C rm_27 (by first | assumption | (apply vp_in_nI <;> omega)) dX9_noteAll_115 ?_
          refine zval (v' := .int (nI (pt (f0 j6).2 2))) (congrArg Value.int (rdI ((congrFun (hI6.1.2 27 (by decide)) _).trans (hO.2.2.2.1 j6 hj6).2.2.2) (by omega))) ?_
          refine zdV (As := [.int (nI (f0 j6).1), .int (nI (pt (f0 j6).2 0)), .int (nI (pt (f0 j6).2 1)), .int (nI (pt (f0 j6).2 2))]) (rest := []) (st' := [.int ((fX9_find v6 A6 (nI (f0 j6).1) (nI (pt (f0 j6).2 0)) (nI (pt (f0 j6).2 1)) (nI (pt (f0 j6).2 2))))]) C hl.1 lk_X9_163 (ctX9_find ((hI6.1.1 20 (by decide)).trans hL.1) hn2) rm_0 rfl rfl rfl (Nat.le_of_ble_eq_true rfl) ⟨by decide, by decide, by decide, by decide⟩ dX9_noteAll_116 rfl (fun sz => ?_)
          refine zb (fun _ _ => lv_if_ge (tgt := 151) hx hb dX9_noteAll_119 (by decide)) (fun c_8 => ?_) (fun c_8 => ?_)
          · refine zs (fun _ _ => lv_iinc (v := nI (j6) + 1) (lv' := [(1, .int (nI (j6) + 1)), (0, .ref (r))]) hx hb dX9_noteAll_151 hl (k := 1) rfl rfl (by decide) rfl) (fun ls hl => ?_)
            refine zz (fun _ _ => lv_goto (tgt := 83) hx hb dX9_noteAll_154 (by decide)) ?_
            have hl := lv_sub hl [1, 0] rfl
            try simp only [nI_1] at hl
            exact ih6 (v6, A6) _ _ (na_same hI6 (by omega) (naM2_skip ((find_neg (hL.FN hI6.1) ho (OL_ok hO ho0 hj6).1 (OL_ok hO ho0 hj6).2).2 c_8))) hl
          · refine zz (fun _ _ => lv_aload_n hx hb dX9_noteAll_122 rfl (lv_at hl 0 rfl)) ?_
            refine zz (fun _ _ => lv_aload_n hx hb dX9_noteAll_123 rfl (lv_at hl 0 rfl)) ?_
            refine z_get (v := .ref (r + 24)) C fd_X9_80 rm_0 rfl dX9_noteAll_124 ?_
            refine zz (fun _ _ => lv_iload_n hx hb dX9_noteAll_127 rfl (lv_at hl 1 rfl)) ?_
            refine z_iald (f := A6 24) C rm_24 (by first | assumption | (apply vp_in_nI <;> omega)) dX9_noteAll_128 ?_
            refine zval (v' := .int (nI (f0 j6).1)) (congrArg Value.int (rdI ((congrFun (hI6.1.2 24 (by decide)) _).trans (hO.2.2.2.1 j6 hj6).1) (by omega))) ?_
            refine zz (fun _ _ => lv_aload_n hx hb dX9_noteAll_129 rfl (lv_at hl 0 rfl)) ?_
            refine z_get (v := .ref (r + 25)) C fd_X9_83 rm_0 rfl dX9_noteAll_130 ?_
            refine zz (fun _ _ => lv_iload_n hx hb dX9_noteAll_133 rfl (lv_at hl 1 rfl)) ?_
            refine z_iald (f := A6 25) C rm_25 (by first | assumption | (apply vp_in_nI <;> omega)) dX9_noteAll_134 ?_
            refine zval (v' := .int (nI (pt (f0 j6).2 0))) (congrArg Value.int (rdI ((congrFun (hI6.1.2 25 (by decide)) _).trans (hO.2.2.2.1 j6 hj6).2.1) (by omega))) ?_
            refine zz (fun _ _ => lv_aload_n hx hb dX9_noteAll_135 rfl (lv_at hl 0 rfl)) ?_
            refine z_get (v := .ref (r + 26)) C fd_X9_86 rm_0 rfl dX9_noteAll_136 ?_
            refine zz (fun _ _ => lv_iload_n hx hb dX9_noteAll_139 rfl (lv_at hl 1 rfl)) ?_
            refine z_iald (f := A6 26) C rm_26 (by first | assumption | (apply vp_in_nI <;> omega)) dX9_noteAll_140 ?_
            refine zval (v' := .int (nI (pt (f0 j6).2 1))) (congrArg Value.int (rdI ((congrFun (hI6.1.2 26 (by decide)) _).trans (hO.2.2.2.1 j6 hj6).2.2.1) (by omega))) ?_
            refine zz (fun _ _ => lv_aload_n hx hb dX9_noteAll_141 rfl (lv_at hl 0 rfl)) ?_
            refine z_get (v := .ref (r + 27)) C fd_X9_89 rm_0 rfl dX9_noteAll_142 ?_
            refine zz (fun _ _ => lv_iload_n hx hb dX9_noteAll_145 rfl (lv_at hl 1 rfl)) ?_
            refine z_iald (f := A6 27) C rm_27 (by first | assumption | (apply vp_in_nI <;> omega)) dX9_noteAll_146 ?_
            refine zval (v' := .int (nI (pt (f0 j6).2 2))) (congrArg Value.int (rdI ((congrFun (hI6.1.2 27 (by decide)) _).trans (hO.2.2.2.1 j6 hj6).2.2.2) (by omega))) ?_
            obtain ⟨hf8, L8, e8, hl8, hc8, hs8, ho8, hm8⟩ := id hI6
            refine zz (fun _ _ => lv_iconst (v := 0) hx hb dX9_noteAll_147 (by decide)) ?_
            refine zval (v' := .int (tI false)) (congrArg Value.int rfl) ?_
            refine zqVN (As := [.int (nI (f0 j6).1), .int (nI (pt (f0 j6).2 0)), .int (nI (pt (f0 j6).2 1)), .int (nI (pt (f0 j6).2 2)), .int (tI false)]) (rest := []) C hl.1 lk_X9_260 (hX9_note e8 (by omega) (OL_ok hO ho0 hj6).1 (OL_ok hO ho0 hj6).2 hc8 hs8 ho8 (naM2_new hL hO hj6 ((find_neg (hL.FN hI6.1) ho (OL_ok hO ho0 hj6).1 (OL_ok hO ho0 hj6).2).1 c_8) hm8)) rm_0 rfl rfl rfl (Nat.le_of_ble_eq_true rfl) ⟨by decide, by decide, by decide, by decide⟩ dX9_noteAll_148 (fun v9 A9 sz h9 => ?_)
            refine zeq (M' := (mm aC r v9 A9 R)) rfl ?_
            refine zs (fun _ _ => lv_iinc (v := nI (j6) + 1) (lv' := [(1, .int (nI (j6) + 1)), (0, .ref (r))]) hx hb dX9_noteAll_151 hl (k := 1) rfl rfl (by decide) rfl) (fun ls hl => ?_)
            refine zz (fun _ _ => lv_goto (tgt := 83) hx hb dX9_noteAll_154 (by decide)) ?_
            have hl := lv_sub hl [1, 0] rfl
            try simp only [nI_1] at hl
            exact ih6 (v9, A9) _ _ (na_note hf8 hl8 hm8 h9 (by omega) (naM2_add ((find_neg (hL.FN hI6.1) ho (OL_ok hO ho0 hj6).1 (OL_ok hO ho0 hj6).2).1 c_8))) hl
      · intro a6 sz ls hI6 hl
        obtain ⟨v6, A6⟩ := a6
        dsimp only at hI6 hl
        refine zeq (M' := (mm aC r v6 A6 R)) rfl ?_
        refine zz (fun _ _ => lv_iload_n hx hb dX9_noteAll_83 rfl (lv_at hl 1 rfl)) ?_
        refine zz (fun _ _ => lv_aload_n hx hb dX9_noteAll_84 rfl (lv_at hl 0 rfl)) ?_
        refine z_get (v := .int (v6 27)) C fd_X9_244 rm_0 rfl dX9_noteAll_85 ?_
        refine zval (v' := .int (nI n0)) (congrArg Value.int ((hI6.1.1 27 (by decide)).trans hO.1)) ?_
        refine zb (fun _ _ => lv_icmp_ge (tgt := 157) hx hb dX9_noteAll_88 (by decide)) (fun c_10 => ?_) (fun c_10 => ?_)
        · exact z_vret C hr hlk dX9_noteAll_157 (zpN_mk (a := v6) (b := A6) (na_end ho ho0 hL hO hI6))
        · exact absurd (nI_le (Nat.le_refl _) (by omega)) c_10
    · exact absurd (nI_le (Nat.le_refl _) (by omega)) c_5
