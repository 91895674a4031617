theorem nI_z {j : Nat} (hj : j < 2 ^ 31) (h : nI j = 0) : j = 0 := by
  rcases Nat.eq_zero_or_pos j with q | q
  · exact q
  · exact absurd h (nI_ne0 q hj)
theorem nI_nz {j : Nat} (h : ¬ nI j = 0) : ¬ j = 0 := fun q => h (by rw [q]; rfl)
set_option maxHeartbeats 2000000 in
set_option maxRecDepth 10000 in
theorem hX9_wipe {l : Launch} {D : va_G} {aC : Nat → ClassId} {b0 sz : Nat} {r : Nat} {v : Nat → Int32} {A : Nat → Nat → Int32} {R : ZM} {i : Nat} {to : Int32} {d : Bool} {S : St} (hi : i < 12) (hto : A 3 i = to) (h6 : to.toInt ≤ 6) (hR : RC v A S) : Ct l D aC b0 yX9_wipe cX9_wipe 5 (some .int) 2 0 0 [.ref (r), .int (nI i), .int (tI d)] (mm aC r v A R) sz (zpI (fun v A => mm aC r v A R) (fun w' v' A' => AR v A (aWipe d to S) w' v' A')) := by
  refine Ct.of (by decide) (Nat.le_of_ble_eq_true rfl) ?_
  intro p e s m below meth c ls C hr hlk hnm hl
  have hl : lv_has ls 5 [(0, .ref (r)), (1, .int (nI i)), (2, .int (tI d))] := hl
  obtain ⟨hx, hb, -, -, -⟩ := id C
  have hin7 : ¬ to < 0 → vp_in to 7 := fun q => vp_in_iff.mpr ⟨by rw [Int32.lt_iff_toInt_lt] at q; have : (0 : Int32).toInt = 0 := rfl; omega, by omega⟩
  refine zz (fun _ _ => lv_aload_n hx hb dX9_wipe_0 rfl (lv_at hl 0 rfl)) ?_
  refine z_get (v := .ref (r + 3)) C fd_X9_16 rm_0 rfl dX9_wipe_1 ?_
  refine zz (fun _ _ => lv_iload_n hx hb dX9_wipe_4 rfl (lv_at hl 1 rfl)) ?_
  refine z_iald (f := A 3) C rm_3 (by first | assumption | (apply vp_in_nI <;> omega)) dX9_wipe_5 ?_
  refine zval (v' := .int (to)) (congrArg Value.int (rdI hto (by omega))) ?_
  refine zs (fun _ _ => lv_istore_n (lv' := [(3, .int (to)), (0, .ref (r)), (1, .int (nI i)), (2, .int (tI d))]) hx hb dX9_wipe_6 rfl hl (by decide) rfl) (fun ls hl => ?_)
  refine zz (fun _ _ => lv_iload_n hx hb dX9_wipe_7 rfl (lv_at hl 0 rfl)) ?_
  refine zb (fun _ _ => lv_if_lt (tgt := 22) hx hb dX9_wipe_8 (by decide)) (fun c_1 => ?_) (fun c_1 => ?_)
  · refine zz (fun _ _ => lv_iconst (v := 0) hx hb dX9_wipe_22 (by decide)) ?_
    refine zs (fun _ _ => lv_istore (lv' := [(4, .int (0)), (3, .int (to)), (0, .ref (r)), (1, .int (nI i)), (2, .int (tI d))]) hx hb dX9_wipe_23 hl (by decide) rfl) (fun ls hl => ?_)
    have hl0 := lv_sub hl [2, 3, 4, 1, 0] rfl
    refine z_loop (γ := (Nat → Int32) × (Nat → Nat → Int32)) (G := fun a => mm aC r a.1 a.2 R) (I := fun j a => wpI v A S d to j a.1 a.2) (lv := fun j a => [(0, .ref (r)), (1, .int (nI i)), (2, .int (tI d)), (3, .int (to)), (4, .int (nI (j)))]) (7) ?_ ?_ (v, A) _ _ ⟨FR.refl, by rw [wp_0]; exact hR⟩ hl0
    · intro j2 a2 sz ls hj2 hI2 hl ih2
      obtain ⟨v2, A2⟩ := a2
      dsimp only at hI2 hl ih2
      refine zeq (M' := (mm aC r v2 A2 R)) rfl ?_
      refine zz (fun _ _ => lv_iload hx hb dX9_wipe_25 (lv_at hl 4 rfl)) ?_
      refine zz (fun _ _ => lv_bipush (v := 7) hx hb dX9_wipe_27 (by decide)) ?_
      refine zval (v' := .int (nI 7)) (congrArg Value.int rfl) ?_
      refine zb (fun _ _ => lv_icmp_ge (tgt := 97) hx hb dX9_wipe_29 (by decide)) (fun c_3 => ?_) (fun c_3 => ?_)
      · exact absurd c_3 (nI_ge (by omega) (by omega))
      · refine zz (fun _ _ => lv_aload_n hx hb dX9_wipe_32 rfl (lv_at hl 0 rfl)) ?_
        refine z_get (v := .ref (r + 23)) C fd_X9_77 rm_0 rfl dX9_wipe_33 ?_
        refine zz (fun _ _ => lv_iload hx hb dX9_wipe_36 (lv_at hl 4 rfl)) ?_
        refine z_zald (f := A2 23) C rm_23 (by first | assumption | (apply vp_in_nI <;> omega)) dX9_wipe_38 ?_
        refine zval (v' := .int (tI (S.2.1 j2))) (congrArg Value.int ((rdI (RC_there hI2.2 hj2) (by omega)).trans (by show tI (wpT _ _ _ _ _) = _; rw [wpT_j]))) ?_
        refine zb (fun _ _ => lv_if_eq (tgt := 91) hx hb dX9_wipe_39 (by decide)) (fun c_4 => ?_) (fun c_4 => ?_)
        · refine zs (fun _ _ => lv_iinc (v := nI (j2) + 1) (lv' := [(4, .int (nI (j2) + 1)), (0, .ref (r)), (1, .int (nI i)), (2, .int (tI d)), (3, .int (to))]) hx hb dX9_wipe_91 hl (k := 4) rfl rfl (by decide) rfl) (fun ls hl => ?_)
          refine zz (fun _ _ => lv_goto (tgt := 25) hx hb dX9_wipe_94 (by decide)) ?_
          have hl := lv_sub hl [1, 2, 3, 4, 0] rfl
          try simp only [nI_1] at hl
          exact ih2 (v2, A2) _ _ (by show wpI v A S d to (j2 + 1) _ _; unfold wpI; rw [wp_gone hR.1 (tI_0.mp c_4)]; exact hI2) hl
        · refine zz (fun _ _ => lv_iload_n hx hb dX9_wipe_42 rfl (lv_at hl 3 rfl)) ?_
          refine zz (fun _ _ => lv_iload hx hb dX9_wipe_43 (lv_at hl 4 rfl)) ?_
          refine zb (fun _ _ => lv_icmp_eq (tgt := 64) hx hb dX9_wipe_45 (by decide)) (fun c_5 => ?_) (fun c_5 => ?_)
          · refine zz (fun _ _ => lv_aload_n hx hb dX9_wipe_64 rfl (lv_at hl 0 rfl)) ?_
            refine zz (fun _ _ => lv_iload hx hb dX9_wipe_65 (lv_at hl 4 rfl)) ?_
            refine zqVN (As := [.int (nI (j2))]) (rest := []) C hl.1 lk_X9_171 (hX9_empty hI2.2 hj2) rm_0 rfl rfl rfl (Nat.le_of_ble_eq_true rfl) ⟨by decide, by decide, by decide, by decide⟩ dX9_wipe_67 (fun v6 A6 sz h6 => ?_)
            refine zeq (M' := (mm aC r v6 A6 R)) rfl ?_
            refine zz (fun _ _ => lv_aload_n hx hb dX9_wipe_70 rfl (lv_at hl 0 rfl)) ?_
            refine z_get (v := .ref (r + 23)) C fd_X9_77 rm_0 rfl dX9_wipe_71 ?_
            refine zz (fun _ _ => lv_iload hx hb dX9_wipe_74 (lv_at hl 4 rfl)) ?_
            refine zz (fun _ _ => lv_iload_n hx hb dX9_wipe_76 rfl (lv_at hl 2 rfl)) ?_
            refine zb (fun _ _ => lv_if_eq (tgt := 85) hx hb dX9_wipe_77 (by decide)) (fun c_7 => ?_) (fun c_7 => ?_)
            · refine zz (fun _ _ => lv_iconst (v := 1) hx hb dX9_wipe_85 (by decide)) ?_
              refine zz (fun _ _ => lv_goto (tgt := 90) hx hb dX9_wipe_86 (by decide)) ?_
              refine z_zast (f := A6 23) C rm_23 (by first | assumption | (apply vp_in_nI <;> omega)) rfl dX9_wipe_90 ?_
              refine zeq wm_23 ?_
              refine zs (fun _ _ => lv_iinc (v := nI (j2) + 1) (lv' := [(4, .int (nI (j2) + 1)), (0, .ref (r)), (1, .int (nI i)), (2, .int (tI d)), (3, .int (to))]) hx hb dX9_wipe_91 hl (k := 4) rfl rfl (by decide) rfl) (fun ls hl => ?_)
              refine zz (fun _ _ => lv_goto (tgt := 25) hx hb dX9_wipe_94 (by decide)) ?_
              have hl := lv_sub hl [1, 2, 3, 4, 0] rfl
              try simp only [nI_1] at hl
              exact ih2 (v6, (u1 A6 23 (upd (A6 23) (Int32.toNatClampNeg (nI (j2))) (1)))) _ _ (by rw [nI_clamp (by omega)]; exact wpI_set hI2 (inTo_a hj2 c_5) (tI_1.mp c_4) h6.1 h6.2 (by rw [tI_0.mp c_7]; rfl)) hl
            · refine zz (fun _ _ => lv_iload hx hb dX9_wipe_80 (lv_at hl 4 rfl)) ?_
              refine zbn (fun _ _ => lv_if_ne (tgt := 89) hx hb dX9_wipe_82 (by decide)) (fun c_8 => ?_) (fun c_8 => ?_)
              · refine zz (fun _ _ => lv_iconst (v := 0) hx hb dX9_wipe_89 (by decide)) ?_
                refine z_zast (f := A6 23) C rm_23 (by first | assumption | (apply vp_in_nI <;> omega)) rfl dX9_wipe_90 ?_
                refine zeq wm_23 ?_
                refine zs (fun _ _ => lv_iinc (v := nI (j2) + 1) (lv' := [(4, .int (nI (j2) + 1)), (0, .ref (r)), (1, .int (nI i)), (2, .int (tI d)), (3, .int (to))]) hx hb dX9_wipe_91 hl (k := 4) rfl rfl (by decide) rfl) (fun ls hl => ?_)
                refine zz (fun _ _ => lv_goto (tgt := 25) hx hb dX9_wipe_94 (by decide)) ?_
                have hl := lv_sub hl [1, 2, 3, 4, 0] rfl
                try simp only [nI_1] at hl
                exact ih2 (v6, (u1 A6 23 (upd (A6 23) (Int32.toNatClampNeg (nI (j2))) (0)))) _ _ (by rw [nI_clamp (by omega)]; exact wpI_set hI2 (inTo_a hj2 c_5) (tI_1.mp c_4) h6.1 h6.2 (by rw [tI_1.mp c_7]; simp [tI, nI_nz c_8])) hl
              · refine zz (fun _ _ => lv_iconst (v := 1) hx hb dX9_wipe_85 (by decide)) ?_
                refine zz (fun _ _ => lv_goto (tgt := 90) hx hb dX9_wipe_86 (by decide)) ?_
                refine z_zast (f := A6 23) C rm_23 (by first | assumption | (apply vp_in_nI <;> omega)) rfl dX9_wipe_90 ?_
                refine zeq wm_23 ?_
                refine zs (fun _ _ => lv_iinc (v := nI (j2) + 1) (lv' := [(4, .int (nI (j2) + 1)), (0, .ref (r)), (1, .int (nI i)), (2, .int (tI d)), (3, .int (to))]) hx hb dX9_wipe_91 hl (k := 4) rfl rfl (by decide) rfl) (fun ls hl => ?_)
                refine zz (fun _ _ => lv_goto (tgt := 25) hx hb dX9_wipe_94 (by decide)) ?_
                have hl := lv_sub hl [1, 2, 3, 4, 0] rfl
                try simp only [nI_1] at hl
                exact ih2 (v6, (u1 A6 23 (upd (A6 23) (Int32.toNatClampNeg (nI (j2))) (1)))) _ _ (by rw [nI_clamp (by omega)]; exact wpI_set hI2 (inTo_a hj2 c_5) (tI_1.mp c_4) h6.1 h6.2 (by rw [tI_1.mp c_7, show j2 = 0 from nI_z (by omega) c_8]; rfl)) hl
          · refine zz (fun _ _ => lv_iload_n hx hb dX9_wipe_48 rfl (lv_at hl 3 rfl)) ?_
            refine zz (fun _ _ => lv_iconst (v := (-1)) hx hb dX9_wipe_49 (by decide)) ?_
            refine zb (fun _ _ => lv_icmp_eq (tgt := 64) hx hb dX9_wipe_50 (by decide)) (fun c_9 => ?_) (fun c_9 => ?_)
            · refine zz (fun _ _ => lv_aload_n hx hb dX9_wipe_64 rfl (lv_at hl 0 rfl)) ?_
              refine zz (fun _ _ => lv_iload hx hb dX9_wipe_65 (lv_at hl 4 rfl)) ?_
              refine zqVN (As := [.int (nI (j2))]) (rest := []) C hl.1 lk_X9_171 (hX9_empty hI2.2 hj2) rm_0 rfl rfl rfl (Nat.le_of_ble_eq_true rfl) ⟨by decide, by decide, by decide, by decide⟩ dX9_wipe_67 (fun v10 A10 sz h10 => ?_)
              refine zeq (M' := (mm aC r v10 A10 R)) rfl ?_
              refine zz (fun _ _ => lv_aload_n hx hb dX9_wipe_70 rfl (lv_at hl 0 rfl)) ?_
              refine z_get (v := .ref (r + 23)) C fd_X9_77 rm_0 rfl dX9_wipe_71 ?_
              refine zz (fun _ _ => lv_iload hx hb dX9_wipe_74 (lv_at hl 4 rfl)) ?_
              refine zz (fun _ _ => lv_iload_n hx hb dX9_wipe_76 rfl (lv_at hl 2 rfl)) ?_
              refine zb (fun _ _ => lv_if_eq (tgt := 85) hx hb dX9_wipe_77 (by decide)) (fun c_11 => ?_) (fun c_11 => ?_)
              · refine zz (fun _ _ => lv_iconst (v := 1) hx hb dX9_wipe_85 (by decide)) ?_
                refine zz (fun _ _ => lv_goto (tgt := 90) hx hb dX9_wipe_86 (by decide)) ?_
                refine z_zast (f := A10 23) C rm_23 (by first | assumption | (apply vp_in_nI <;> omega)) rfl dX9_wipe_90 ?_
                refine zeq wm_23 ?_
                refine zs (fun _ _ => lv_iinc (v := nI (j2) + 1) (lv' := [(4, .int (nI (j2) + 1)), (0, .ref (r)), (1, .int (nI i)), (2, .int (tI d)), (3, .int (to))]) hx hb dX9_wipe_91 hl (k := 4) rfl rfl (by decide) rfl) (fun ls hl => ?_)
                refine zz (fun _ _ => lv_goto (tgt := 25) hx hb dX9_wipe_94 (by decide)) ?_
                have hl := lv_sub hl [1, 2, 3, 4, 0] rfl
                try simp only [nI_1] at hl
                exact ih2 (v10, (u1 A10 23 (upd (A10 23) (Int32.toNatClampNeg (nI (j2))) (1)))) _ _ (by rw [nI_clamp (by omega)]; exact wpI_set hI2 (inTo_b hj2 c_9) (tI_1.mp c_4) h10.1 h10.2 (by rw [tI_0.mp c_11]; rfl)) hl
              · refine zz (fun _ _ => lv_iload hx hb dX9_wipe_80 (lv_at hl 4 rfl)) ?_
                refine zbn (fun _ _ => lv_if_ne (tgt := 89) hx hb dX9_wipe_82 (by decide)) (fun c_12 => ?_) (fun c_12 => ?_)
                · refine zz (fun _ _ => lv_iconst (v := 0) hx hb dX9_wipe_89 (by decide)) ?_
                  refine z_zast (f := A10 23) C rm_23 (by first | assumption | (apply vp_in_nI <;> omega)) rfl dX9_wipe_90 ?_
                  refine zeq wm_23 ?_
                  refine zs (fun _ _ => lv_iinc (v := nI (j2) + 1) (lv' := [(4, .int (nI (j2) + 1)), (0, .ref (r)), (1, .int (nI i)), (2, .int (tI d)), (3, .int (to))]) hx hb dX9_wipe_91 hl (k := 4) rfl rfl (by decide) rfl) (fun ls hl => ?_)
                  refine zz (fun _ _ => lv_goto (tgt := 25) hx hb dX9_wipe_94 (by decide)) ?_
                  have hl := lv_sub hl [1, 2, 3, 4, 0] rfl
                  try simp only [nI_1] at hl
                  exact ih2 (v10, (u1 A10 23 (upd (A10 23) (Int32.toNatClampNeg (nI (j2))) (0)))) _ _ (by rw [nI_clamp (by omega)]; exact wpI_set hI2 (inTo_b hj2 c_9) (tI_1.mp c_4) h10.1 h10.2 (by rw [tI_1.mp c_11]; simp [tI, nI_nz c_12])) hl
                · refine zz (fun _ _ => lv_iconst (v := 1) hx hb dX9_wipe_85 (by decide)) ?_
                  refine zz (fun _ _ => lv_goto (tgt := 90) hx hb dX9_wipe_86 (by decide)) ?_
                  refine z_zast (f := A10 23) C rm_23 (by first | assumption | (apply vp_in_nI <;> omega)) rfl dX9_wipe_90 ?_
                  refine zeq wm_23 ?_
                  refine zs (fun _ _ => lv_iinc (v := nI (j2) + 1) (lv' := [(4, .int (nI (j2) + 1)), (0, .ref (r)), (1, .int (nI i)), (2, .int (tI d)), (3, .int (to))]) hx hb dX9_wipe_91 hl (k := 4) rfl rfl (by decide) rfl) (fun ls hl => ?_)
                  refine zz (fun _ _ => lv_goto (tgt := 25) hx hb dX9_wipe_94 (by decide)) ?_
                  have hl := lv_sub hl [1, 2, 3, 4, 0] rfl
                  try simp only [nI_1] at hl
                  exact ih2 (v10, (u1 A10 23 (upd (A10 23) (Int32.toNatClampNeg (nI (j2))) (1)))) _ _ (by rw [nI_clamp (by omega)]; exact wpI_set hI2 (inTo_b hj2 c_9) (tI_1.mp c_4) h10.1 h10.2 (by rw [tI_1.mp c_11, show j2 = 0 from nI_z (by omega) c_12]; rfl)) hl
            · refine zz (fun _ _ => lv_iload_n hx hb dX9_wipe_53 rfl (lv_at hl 3 rfl)) ?_
              refine zz (fun _ _ => lv_bipush (v := (-2)) hx hb dX9_wipe_54 (by decide)) ?_
              refine zbn (fun _ _ => lv_icmp_ne (tgt := 91) hx hb dX9_wipe_56 (by decide)) (fun c_13 => ?_) (fun c_13 => ?_)
              · refine zs (fun _ _ => lv_iinc (v := nI (j2) + 1) (lv' := [(4, .int (nI (j2) + 1)), (0, .ref (r)), (1, .int (nI i)), (2, .int (tI d)), (3, .int (to))]) hx hb dX9_wipe_91 hl (k := 4) rfl rfl (by decide) rfl) (fun ls hl => ?_)
                refine zz (fun _ _ => lv_goto (tgt := 25) hx hb dX9_wipe_94 (by decide)) ?_
                have hl := lv_sub hl [1, 2, 3, 4, 0] rfl
                try simp only [nI_1] at hl
                exact ih2 (v2, A2) _ _ (by show wpI v A S d to (j2 + 1) _ _; unfold wpI; rw [wp_skip (inTo_n c_5 c_9 c_13)]; exact hI2) hl
              · refine zz (fun _ _ => lv_iload hx hb dX9_wipe_59 (lv_at hl 4 rfl)) ?_
                refine zb (fun _ _ => lv_if_le (tgt := 91) hx hb dX9_wipe_61 (by decide)) (fun c_14 => ?_) (fun c_14 => ?_)
                · refine zs (fun _ _ => lv_iinc (v := nI (j2) + 1) (lv' := [(4, .int (nI (j2) + 1)), (0, .ref (r)), (1, .int (nI i)), (2, .int (tI d)), (3, .int (to))]) hx hb dX9_wipe_91 hl (k := 4) rfl rfl (by decide) rfl) (fun ls hl => ?_)
                  refine zz (fun _ _ => lv_goto (tgt := 25) hx hb dX9_wipe_94 (by decide)) ?_
                  have hl := lv_sub hl [1, 2, 3, 4, 0] rfl
                  try simp only [nI_1] at hl
                  exact ih2 (v2, A2) _ _ (by show wpI v A S d to (j2 + 1) _ _; unfold wpI; rw [wp_skip (inTo_m hj2 c_5 c_9 c_14)]; exact hI2) hl
                · refine zz (fun _ _ => lv_aload_n hx hb dX9_wipe_64 rfl (lv_at hl 0 rfl)) ?_
                  refine zz (fun _ _ => lv_iload hx hb dX9_wipe_65 (lv_at hl 4 rfl)) ?_
                  refine zqVN (As := [.int (nI (j2))]) (rest := []) C hl.1 lk_X9_171 (hX9_empty hI2.2 hj2) rm_0 rfl rfl rfl (Nat.le_of_ble_eq_true rfl) ⟨by decide, by decide, by decide, by decide⟩ dX9_wipe_67 (fun v15 A15 sz h15 => ?_)
                  refine zeq (M' := (mm aC r v15 A15 R)) rfl ?_
                  refine zz (fun _ _ => lv_aload_n hx hb dX9_wipe_70 rfl (lv_at hl 0 rfl)) ?_
                  refine z_get (v := .ref (r + 23)) C fd_X9_77 rm_0 rfl dX9_wipe_71 ?_
                  refine zz (fun _ _ => lv_iload hx hb dX9_wipe_74 (lv_at hl 4 rfl)) ?_
                  refine zz (fun _ _ => lv_iload_n hx hb dX9_wipe_76 rfl (lv_at hl 2 rfl)) ?_
                  refine zb (fun _ _ => lv_if_eq (tgt := 85) hx hb dX9_wipe_77 (by decide)) (fun c_16 => ?_) (fun c_16 => ?_)
                  · refine zz (fun _ _ => lv_iconst (v := 1) hx hb dX9_wipe_85 (by decide)) ?_
                    refine zz (fun _ _ => lv_goto (tgt := 90) hx hb dX9_wipe_86 (by decide)) ?_
                    refine z_zast (f := A15 23) C rm_23 (by first | assumption | (apply vp_in_nI <;> omega)) rfl dX9_wipe_90 ?_
                    refine zeq wm_23 ?_
                    refine zs (fun _ _ => lv_iinc (v := nI (j2) + 1) (lv' := [(4, .int (nI (j2) + 1)), (0, .ref (r)), (1, .int (nI i)), (2, .int (tI d)), (3, .int (to))]) hx hb dX9_wipe_91 hl (k := 4) rfl rfl (by decide) rfl) (fun ls hl => ?_)
                    refine zz (fun _ _ => lv_goto (tgt := 25) hx hb dX9_wipe_94 (by decide)) ?_
                    have hl := lv_sub hl [1, 2, 3, 4, 0] rfl
                    try simp only [nI_1] at hl
                    exact ih2 (v15, (u1 A15 23 (upd (A15 23) (Int32.toNatClampNeg (nI (j2))) (1)))) _ _ (by rw [nI_clamp (by omega)]; exact wpI_set hI2 (inTo_c hj2 c_13 c_14) (tI_1.mp c_4) h15.1 h15.2 (by rw [tI_0.mp c_16]; rfl)) hl
                  · refine zz (fun _ _ => lv_iload hx hb dX9_wipe_80 (lv_at hl 4 rfl)) ?_
                    refine zbn (fun _ _ => lv_if_ne (tgt := 89) hx hb dX9_wipe_82 (by decide)) (fun c_17 => ?_) (fun c_17 => ?_)
                    · refine zz (fun _ _ => lv_iconst (v := 0) hx hb dX9_wipe_89 (by decide)) ?_
                      refine z_zast (f := A15 23) C rm_23 (by first | assumption | (apply vp_in_nI <;> omega)) rfl dX9_wipe_90 ?_
                      refine zeq wm_23 ?_
                      refine zs (fun _ _ => lv_iinc (v := nI (j2) + 1) (lv' := [(4, .int (nI (j2) + 1)), (0, .ref (r)), (1, .int (nI i)), (2, .int (tI d)), (3, .int (to))]) hx hb dX9_wipe_91 hl (k := 4) rfl rfl (by decide) rfl) (fun ls hl => ?_)
                      refine zz (fun _ _ => lv_goto (tgt := 25) hx hb dX9_wipe_94 (by decide)) ?_
                      have hl := lv_sub hl [1, 2, 3, 4, 0] rfl
                      try simp only [nI_1] at hl
                      exact ih2 (v15, (u1 A15 23 (upd (A15 23) (Int32.toNatClampNeg (nI (j2))) (0)))) _ _ (by rw [nI_clamp (by omega)]; exact wpI_set hI2 (inTo_c hj2 c_13 c_14) (tI_1.mp c_4) h15.1 h15.2 (by rw [tI_1.mp c_16]; simp [tI, nI_nz c_17])) hl
                    · refine zz (fun _ _ => lv_iconst (v := 1) hx hb dX9_wipe_85 (by decide)) ?_
                      refine zz (fun _ _ => lv_goto (tgt := 90) hx hb dX9_wipe_86 (by decide)) ?_
                      refine z_zast (f := A15 23) C rm_23 (by first | assumption | (apply vp_in_nI <;> omega)) rfl dX9_wipe_90 ?_
                      refine zeq wm_23 ?_
                      refine zs (fun _ _ => lv_iinc (v := nI (j2) + 1) (lv' := [(4, .int (nI (j2) + 1)), (0, .ref (r)), (1, .int (nI i)), (2, .int (tI d)), (3, .int (to))]) hx hb dX9_wipe_91 hl (k := 4) rfl rfl (by decide) rfl) (fun ls hl => ?_)
                      refine zz (fun _ _ => lv_goto (tgt := 25) hx hb dX9_wipe_94 (by decide)) ?_
                      have hl := lv_sub hl [1, 2, 3, 4, 0] rfl
                      try simp only [nI_1] at hl
                      exact ih2 (v15, (u1 A15 23 (upd (A15 23) (Int32.toNatClampNeg (nI (j2))) (1)))) _ _ (by rw [nI_clamp (by omega)]; exact wpI_set hI2 (inTo_c hj2 c_13 c_14) (tI_1.mp c_4) h15.1 h15.2 (by rw [tI_1.mp c_16, show j2 = 0 from nI_z (by omega) c_17]; rfl)) hl
    · intro a2 sz ls hI2 hl
      obtain ⟨v2, A2⟩ := a2
      dsimp only at hI2 hl
      refine zeq (M' := (mm aC r v2 A2 R)) rfl ?_
      refine zz (fun _ _ => lv_iload hx hb dX9_wipe_25 (lv_at hl 4 rfl)) ?_
      refine zz (fun _ _ => lv_bipush (v := 7) hx hb dX9_wipe_27 (by decide)) ?_
      refine zval (v' := .int (nI 7)) (congrArg Value.int rfl) ?_
      refine zb (fun _ _ => lv_icmp_ge (tgt := 97) hx hb dX9_wipe_29 (by decide)) (fun c_18 => ?_) (fun c_18 => ?_)
      · refine zz (fun _ _ => lv_iconst (v := 0) hx hb dX9_wipe_97 (by decide)) ?_
        exact z_iret C hr hlk dX9_wipe_98 (zpI_mk (a := v2) (b := A2) (wp_end hR (Or.inl c_1) hI2))
      · exact absurd (nI_le (Nat.le_refl _) (by omega)) c_18
  · refine zz (fun _ _ => lv_aload_n hx hb dX9_wipe_11 rfl (lv_at hl 1 rfl)) ?_
    refine z_get (v := .ref (r + 23)) C fd_X9_77 rm_0 rfl dX9_wipe_12 ?_
    refine zz (fun _ _ => lv_iload_n hx hb dX9_wipe_15 rfl (lv_at hl 0 rfl)) ?_
    refine z_zald (f := A 23) C rm_23 (hin7 c_1) dX9_wipe_16 ?_
    refine zval (v' := .int (tI (S.2.1 (nn to)))) (congrArg Value.int (RC_there hR (vin_lt (hin7 c_1)))) ?_
    refine zbn (fun _ _ => lv_if_ne (tgt := 22) hx hb dX9_wipe_17 (by decide)) (fun c_19 => ?_) (fun c_19 => ?_)
    · refine zz (fun _ _ => lv_iconst (v := 0) hx hb dX9_wipe_22 (by decide)) ?_
      refine zs (fun _ _ => lv_istore (lv' := [(4, .int (0)), (3, .int (to)), (0, .ref (r)), (1, .int (nI i)), (2, .int (tI d))]) hx hb dX9_wipe_23 hl (by decide) rfl) (fun ls hl => ?_)
      have hl0 := lv_sub hl [2, 3, 4, 1, 0] rfl
      refine z_loop (γ := (Nat → Int32) × (Nat → Nat → Int32)) (G := fun a => mm aC r a.1 a.2 R) (I := fun j a => wpI v A S d to j a.1 a.2) (lv := fun j a => [(0, .ref (r)), (1, .int (nI i)), (2, .int (tI d)), (3, .int (to)), (4, .int (nI (j)))]) (7) ?_ ?_ (v, A) _ _ ⟨FR.refl, by rw [wp_0]; exact hR⟩ hl0
      · intro j20 a20 sz ls hj20 hI20 hl ih20
        obtain ⟨v20, A20⟩ := a20
        dsimp only at hI20 hl ih20
        refine zeq (M' := (mm aC r v20 A20 R)) rfl ?_
        refine zz (fun _ _ => lv_iload hx hb dX9_wipe_25 (lv_at hl 4 rfl)) ?_
        refine zz (fun _ _ => lv_bipush (v := 7) hx hb dX9_wipe_27 (by decide)) ?_
        refine zval (v' := .int (nI 7)) (congrArg Value.int rfl) ?_
        refine zb (fun _ _ => lv_icmp_ge (tgt := 97) hx hb dX9_wipe_29 (by decide)) (fun c_21 => ?_) (fun c_21 => ?_)
        · exact absurd c_21 (nI_ge (by omega) (by omega))
        · refine zz (fun _ _ => lv_aload_n hx hb dX9_wipe_32 rfl (lv_at hl 0 rfl)) ?_
          refine z_get (v := .ref (r + 23)) C fd_X9_77 rm_0 rfl dX9_wipe_33 ?_
          refine zz (fun _ _ => lv_iload hx hb dX9_wipe_36 (lv_at hl 4 rfl)) ?_
          refine z_zald (f := A20 23) C rm_23 (by first | assumption | (apply vp_in_nI <;> omega)) dX9_wipe_38 ?_
          refine zval (v' := .int (tI (S.2.1 j20))) (congrArg Value.int ((rdI (RC_there hI20.2 hj20) (by omega)).trans (by show tI (wpT _ _ _ _ _) = _; rw [wpT_j]))) ?_
          refine zb (fun _ _ => lv_if_eq (tgt := 91) hx hb dX9_wipe_39 (by decide)) (fun c_22 => ?_) (fun c_22 => ?_)
          · refine zs (fun _ _ => lv_iinc (v := nI (j20) + 1) (lv' := [(4, .int (nI (j20) + 1)), (0, .ref (r)), (1, .int (nI i)), (2, .int (tI d)), (3, .int (to))]) hx hb dX9_wipe_91 hl (k := 4) rfl rfl (by decide) rfl) (fun ls hl => ?_)
            refine zz (fun _ _ => lv_goto (tgt := 25) hx hb dX9_wipe_94 (by decide)) ?_
            have hl := lv_sub hl [1, 2, 3, 4, 0] rfl
            try simp only [nI_1] at hl
            exact ih20 (v20, A20) _ _ (by show wpI v A S d to (j20 + 1) _ _; unfold wpI; rw [wp_gone hR.1 (tI_0.mp c_22)]; exact hI20) hl
          · refine zz (fun _ _ => lv_iload_n hx hb dX9_wipe_42 rfl (lv_at hl 3 rfl)) ?_
            refine zz (fun _ _ => lv_iload hx hb dX9_wipe_43 (lv_at hl 4 rfl)) ?_
            refine zb (fun _ _ => lv_icmp_eq (tgt := 64) hx hb dX9_wipe_45 (by decide)) (fun c_23 => ?_) (fun c_23 => ?_)
            · refine zz (fun _ _ => lv_aload_n hx hb dX9_wipe_64 rfl (lv_at hl 0 rfl)) ?_
              refine zz (fun _ _ => lv_iload hx hb dX9_wipe_65 (lv_at hl 4 rfl)) ?_
              refine zqVN (As := [.int (nI (j20))]) (rest := []) C hl.1 lk_X9_171 (hX9_empty hI20.2 hj20) rm_0 rfl rfl rfl (Nat.le_of_ble_eq_true rfl) ⟨by decide, by decide, by decide, by decide⟩ dX9_wipe_67 (fun v24 A24 sz h24 => ?_)
              refine zeq (M' := (mm aC r v24 A24 R)) rfl ?_
              refine zz (fun _ _ => lv_aload_n hx hb dX9_wipe_70 rfl (lv_at hl 0 rfl)) ?_
              refine z_get (v := .ref (r + 23)) C fd_X9_77 rm_0 rfl dX9_wipe_71 ?_
              refine zz (fun _ _ => lv_iload hx hb dX9_wipe_74 (lv_at hl 4 rfl)) ?_
              refine zz (fun _ _ => lv_iload_n hx hb dX9_wipe_76 rfl (lv_at hl 2 rfl)) ?_
              refine zb (fun _ _ => lv_if_eq (tgt := 85) hx hb dX9_wipe_77 (by decide)) (fun c_25 => ?_) (fun c_25 => ?_)
              · refine zz (fun _ _ => lv_iconst (v := 1) hx hb dX9_wipe_85 (by decide)) ?_
                refine zz (fun _ _ => lv_goto (tgt := 90) hx hb dX9_wipe_86 (by decide)) ?_
                refine z_zast (f := A24 23) C rm_23 (by first | assumption | (apply vp_in_nI <;> omega)) rfl dX9_wipe_90 ?_
                refine zeq wm_23 ?_
                refine zs (fun _ _ => lv_iinc (v := nI (j20) + 1) (lv' := [(4, .int (nI (j20) + 1)), (0, .ref (r)), (1, .int (nI i)), (2, .int (tI d)), (3, .int (to))]) hx hb dX9_wipe_91 hl (k := 4) rfl rfl (by decide) rfl) (fun ls hl => ?_)
                refine zz (fun _ _ => lv_goto (tgt := 25) hx hb dX9_wipe_94 (by decide)) ?_
                have hl := lv_sub hl [1, 2, 3, 4, 0] rfl
                try simp only [nI_1] at hl
                exact ih20 (v24, (u1 A24 23 (upd (A24 23) (Int32.toNatClampNeg (nI (j20))) (1)))) _ _ (by rw [nI_clamp (by omega)]; exact wpI_set hI20 (inTo_a hj20 c_23) (tI_1.mp c_22) h24.1 h24.2 (by rw [tI_0.mp c_25]; rfl)) hl
              · refine zz (fun _ _ => lv_iload hx hb dX9_wipe_80 (lv_at hl 4 rfl)) ?_
                refine zbn (fun _ _ => lv_if_ne (tgt := 89) hx hb dX9_wipe_82 (by decide)) (fun c_26 => ?_) (fun c_26 => ?_)
                · refine zz (fun _ _ => lv_iconst (v := 0) hx hb dX9_wipe_89 (by decide)) ?_
                  refine z_zast (f := A24 23) C rm_23 (by first | assumption | (apply vp_in_nI <;> omega)) rfl dX9_wipe_90 ?_
                  refine zeq wm_23 ?_
                  refine zs (fun _ _ => lv_iinc (v := nI (j20) + 1) (lv' := [(4, .int (nI (j20) + 1)), (0, .ref (r)), (1, .int (nI i)), (2, .int (tI d)), (3, .int (to))]) hx hb dX9_wipe_91 hl (k := 4) rfl rfl (by decide) rfl) (fun ls hl => ?_)
                  refine zz (fun _ _ => lv_goto (tgt := 25) hx hb dX9_wipe_94 (by decide)) ?_
                  have hl := lv_sub hl [1, 2, 3, 4, 0] rfl
                  try simp only [nI_1] at hl
                  exact ih20 (v24, (u1 A24 23 (upd (A24 23) (Int32.toNatClampNeg (nI (j20))) (0)))) _ _ (by rw [nI_clamp (by omega)]; exact wpI_set hI20 (inTo_a hj20 c_23) (tI_1.mp c_22) h24.1 h24.2 (by rw [tI_1.mp c_25]; simp [tI, nI_nz c_26])) hl
                · refine zz (fun _ _ => lv_iconst (v := 1) hx hb dX9_wipe_85 (by decide)) ?_
                  refine zz (fun _ _ => lv_goto (tgt := 90) hx hb dX9_wipe_86 (by decide)) ?_
                  refine z_zast (f := A24 23) C rm_23 (by first | assumption | (apply vp_in_nI <;> omega)) rfl dX9_wipe_90 ?_
                  refine zeq wm_23 ?_
                  refine zs (fun _ _ => lv_iinc (v := nI (j20) + 1) (lv' := [(4, .int (nI (j20) + 1)), (0, .ref (r)), (1, .int (nI i)), (2, .int (tI d)), (3, .int (to))]) hx hb dX9_wipe_91 hl (k := 4) rfl rfl (by decide) rfl) (fun ls hl => ?_)
                  refine zz (fun _ _ => lv_goto (tgt := 25) hx hb dX9_wipe_94 (by decide)) ?_
                  have hl := lv_sub hl [1, 2, 3, 4, 0] rfl
                  try simp only [nI_1] at hl
                  exact ih20 (v24, (u1 A24 23 (upd (A24 23) (Int32.toNatClampNeg (nI (j20))) (1)))) _ _ (by rw [nI_clamp (by omega)]; exact wpI_set hI20 (inTo_a hj20 c_23) (tI_1.mp c_22) h24.1 h24.2 (by rw [tI_1.mp c_25, show j20 = 0 from nI_z (by omega) c_26]; rfl)) hl
            · refine zz (fun _ _ => lv_iload_n hx hb dX9_wipe_48 rfl (lv_at hl 3 rfl)) ?_
              refine zz (fun _ _ => lv_iconst (v := (-1)) hx hb dX9_wipe_49 (by decide)) ?_
              refine zb (fun _ _ => lv_icmp_eq (tgt := 64) hx hb dX9_wipe_50 (by decide)) (fun c_27 => ?_) (fun c_27 => ?_)
              · refine zz (fun _ _ => lv_aload_n hx hb dX9_wipe_64 rfl (lv_at hl 0 rfl)) ?_
                refine zz (fun _ _ => lv_iload hx hb dX9_wipe_65 (lv_at hl 4 rfl)) ?_
                refine zqVN (As := [.int (nI (j20))]) (rest := []) C hl.1 lk_X9_171 (hX9_empty hI20.2 hj20) rm_0 rfl rfl rfl (Nat.le_of_ble_eq_true rfl) ⟨by decide, by decide, by decide, by decide⟩ dX9_wipe_67 (fun v28 A28 sz h28 => ?_)
                refine zeq (M' := (mm aC r v28 A28 R)) rfl ?_
                refine zz (fun _ _ => lv_aload_n hx hb dX9_wipe_70 rfl (lv_at hl 0 rfl)) ?_
                refine z_get (v := .ref (r + 23)) C fd_X9_77 rm_0 rfl dX9_wipe_71 ?_
                refine zz (fun _ _ => lv_iload hx hb dX9_wipe_74 (lv_at hl 4 rfl)) ?_
                refine zz (fun _ _ => lv_iload_n hx hb dX9_wipe_76 rfl (lv_at hl 2 rfl)) ?_
                refine zb (fun _ _ => lv_if_eq (tgt := 85) hx hb dX9_wipe_77 (by decide)) (fun c_29 => ?_) (fun c_29 => ?_)
                · refine zz (fun _ _ => lv_iconst (v := 1) hx hb dX9_wipe_85 (by decide)) ?_
                  refine zz (fun _ _ => lv_goto (tgt := 90) hx hb dX9_wipe_86 (by decide)) ?_
                  refine z_zast (f := A28 23) C rm_23 (by first | assumption | (apply vp_in_nI <;> omega)) rfl dX9_wipe_90 ?_
                  refine zeq wm_23 ?_
                  refine zs (fun _ _ => lv_iinc (v := nI (j20) + 1) (lv' := [(4, .int (nI (j20) + 1)), (0, .ref (r)), (1, .int (nI i)), (2, .int (tI d)), (3, .int (to))]) hx hb dX9_wipe_91 hl (k := 4) rfl rfl (by decide) rfl) (fun ls hl => ?_)
                  refine zz (fun _ _ => lv_goto (tgt := 25) hx hb dX9_wipe_94 (by decide)) ?_
                  have hl := lv_sub hl [1, 2, 3, 4, 0] rfl
                  try simp only [nI_1] at hl
                  exact ih20 (v28, (u1 A28 23 (upd (A28 23) (Int32.toNatClampNeg (nI (j20))) (1)))) _ _ (by rw [nI_clamp (by omega)]; exact wpI_set hI20 (inTo_b hj20 c_27) (tI_1.mp c_22) h28.1 h28.2 (by rw [tI_0.mp c_29]; rfl)) hl
                · refine zz (fun _ _ => lv_iload hx hb dX9_wipe_80 (lv_at hl 4 rfl)) ?_
                  refine zbn (fun _ _ => lv_if_ne (tgt := 89) hx hb dX9_wipe_82 (by decide)) (fun c_30 => ?_) (fun c_30 => ?_)
                  · refine zz (fun _ _ => lv_iconst (v := 0) hx hb dX9_wipe_89 (by decide)) ?_
                    refine z_zast (f := A28 23) C rm_23 (by first | assumption | (apply vp_in_nI <;> omega)) rfl dX9_wipe_90 ?_
                    refine zeq wm_23 ?_
                    refine zs (fun _ _ => lv_iinc (v := nI (j20) + 1) (lv' := [(4, .int (nI (j20) + 1)), (0, .ref (r)), (1, .int (nI i)), (2, .int (tI d)), (3, .int (to))]) hx hb dX9_wipe_91 hl (k := 4) rfl rfl (by decide) rfl) (fun ls hl => ?_)
                    refine zz (fun _ _ => lv_goto (tgt := 25) hx hb dX9_wipe_94 (by decide)) ?_
                    have hl := lv_sub hl [1, 2, 3, 4, 0] rfl
                    try simp only [nI_1] at hl
                    exact ih20 (v28, (u1 A28 23 (upd (A28 23) (Int32.toNatClampNeg (nI (j20))) (0)))) _ _ (by rw [nI_clamp (by omega)]; exact wpI_set hI20 (inTo_b hj20 c_27) (tI_1.mp c_22) h28.1 h28.2 (by rw [tI_1.mp c_29]; simp [tI, nI_nz c_30])) hl
                  · refine zz (fun _ _ => lv_iconst (v := 1) hx hb dX9_wipe_85 (by decide)) ?_
                    refine zz (fun _ _ => lv_goto (tgt := 90) hx hb dX9_wipe_86 (by decide)) ?_
                    refine z_zast (f := A28 23) C rm_23 (by first | assumption | (apply vp_in_nI <;> omega)) rfl dX9_wipe_90 ?_
                    refine zeq wm_23 ?_
                    refine zs (fun _ _ => lv_iinc (v := nI (j20) + 1) (lv' := [(4, .int (nI (j20) + 1)), (0, .ref (r)), (1, .int (nI i)), (2, .int (tI d)), (3, .int (to))]) hx hb dX9_wipe_91 hl (k := 4) rfl rfl (by decide) rfl) (fun ls hl => ?_)
                    refine zz (fun _ _ => lv_goto (tgt := 25) hx hb dX9_wipe_94 (by decide)) ?_
                    have hl := lv_sub hl [1, 2, 3, 4, 0] rfl
                    try simp only [nI_1] at hl
                    exact ih20 (v28, (u1 A28 23 (upd (A28 23) (Int32.toNatClampNeg (nI (j20))) (1)))) _ _ (by rw [nI_clamp (by omega)]; exact wpI_set hI20 (inTo_b hj20 c_27) (tI_1.mp c_22) h28.1 h28.2 (by rw [tI_1.mp c_29, show j20 = 0 from nI_z (by omega) c_30]; rfl)) hl
              · refine zz (fun _ _ => lv_iload_n hx hb dX9_wipe_53 rfl (lv_at hl 3 rfl)) ?_
                refine zz (fun _ _ => lv_bipush (v := (-2)) hx hb dX9_wipe_54 (by decide)) ?_
                refine zbn (fun _ _ => lv_icmp_ne (tgt := 91) hx hb dX9_wipe_56 (by decide)) (fun c_31 => ?_) (fun c_31 => ?_)
                · refine zs (fun _ _ => lv_iinc (v := nI (j20) + 1) (lv' := [(4, .int (nI (j20) + 1)), (0, .ref (r)), (1, .int (nI i)), (2, .int (tI d)), (3, .int (to))]) hx hb dX9_wipe_91 hl (k := 4) rfl rfl (by decide) rfl) (fun ls hl => ?_)
                  refine zz (fun _ _ => lv_goto (tgt := 25) hx hb dX9_wipe_94 (by decide)) ?_
                  have hl := lv_sub hl [1, 2, 3, 4, 0] rfl
                  try simp only [nI_1] at hl
                  exact ih20 (v20, A20) _ _ (by show wpI v A S d to (j20 + 1) _ _; unfold wpI; rw [wp_skip (inTo_n c_23 c_27 c_31)]; exact hI20) hl
                · refine zz (fun _ _ => lv_iload hx hb dX9_wipe_59 (lv_at hl 4 rfl)) ?_
                  refine zb (fun _ _ => lv_if_le (tgt := 91) hx hb dX9_wipe_61 (by decide)) (fun c_32 => ?_) (fun c_32 => ?_)
                  · refine zs (fun _ _ => lv_iinc (v := nI (j20) + 1) (lv' := [(4, .int (nI (j20) + 1)), (0, .ref (r)), (1, .int (nI i)), (2, .int (tI d)), (3, .int (to))]) hx hb dX9_wipe_91 hl (k := 4) rfl rfl (by decide) rfl) (fun ls hl => ?_)
                    refine zz (fun _ _ => lv_goto (tgt := 25) hx hb dX9_wipe_94 (by decide)) ?_
                    have hl := lv_sub hl [1, 2, 3, 4, 0] rfl
                    try simp only [nI_1] at hl
                    exact ih20 (v20, A20) _ _ (by show wpI v A S d to (j20 + 1) _ _; unfold wpI; rw [wp_skip (inTo_m hj20 c_23 c_27 c_32)]; exact hI20) hl
                  · refine zz (fun _ _ => lv_aload_n hx hb dX9_wipe_64 rfl (lv_at hl 0 rfl)) ?_
                    refine zz (fun _ _ => lv_iload hx hb dX9_wipe_65 (lv_at hl 4 rfl)) ?_
                    refine zqVN (As := [.int (nI (j20))]) (rest := []) C hl.1 lk_X9_171 (hX9_empty hI20.2 hj20) rm_0 rfl rfl rfl (Nat.le_of_ble_eq_true rfl) ⟨by decide, by decide, by decide, by decide⟩ dX9_wipe_67 (fun v33 A33 sz h33 => ?_)
                    refine zeq (M' := (mm aC r v33 A33 R)) rfl ?_
                    refine zz (fun _ _ => lv_aload_n hx hb dX9_wipe_70 rfl (lv_at hl 0 rfl)) ?_
                    refine z_get (v := .ref (r + 23)) C fd_X9_77 rm_0 rfl dX9_wipe_71 ?_
                    refine zz (fun _ _ => lv_iload hx hb dX9_wipe_74 (lv_at hl 4 rfl)) ?_
                    refine zz (fun _ _ => lv_iload_n hx hb dX9_wipe_76 rfl (lv_at hl 2 rfl)) ?_
                    refine zb (fun _ _ => lv_if_eq (tgt := 85) hx hb dX9_wipe_77 (by decide)) (fun c_34 => ?_) (fun c_34 => ?_)
                    · refine zz (fun _ _ => lv_iconst (v := 1) hx hb dX9_wipe_85 (by decide)) ?_
                      refine zz (fun _ _ => lv_goto (tgt := 90) hx hb dX9_wipe_86 (by decide)) ?_
                      refine z_zast (f := A33 23) C rm_23 (by first | assumption | (apply vp_in_nI <;> omega)) rfl dX9_wipe_90 ?_
                      refine zeq wm_23 ?_
                      refine zs (fun _ _ => lv_iinc (v := nI (j20) + 1) (lv' := [(4, .int (nI (j20) + 1)), (0, .ref (r)), (1, .int (nI i)), (2, .int (tI d)), (3, .int (to))]) hx hb dX9_wipe_91 hl (k := 4) rfl rfl (by decide) rfl) (fun ls hl => ?_)
                      refine zz (fun _ _ => lv_goto (tgt := 25) hx hb dX9_wipe_94 (by decide)) ?_
                      have hl := lv_sub hl [1, 2, 3, 4, 0] rfl
                      try simp only [nI_1] at hl
                      exact ih20 (v33, (u1 A33 23 (upd (A33 23) (Int32.toNatClampNeg (nI (j20))) (1)))) _ _ (by rw [nI_clamp (by omega)]; exact wpI_set hI20 (inTo_c hj20 c_31 c_32) (tI_1.mp c_22) h33.1 h33.2 (by rw [tI_0.mp c_34]; rfl)) hl
                    · refine zz (fun _ _ => lv_iload hx hb dX9_wipe_80 (lv_at hl 4 rfl)) ?_
                      refine zbn (fun _ _ => lv_if_ne (tgt := 89) hx hb dX9_wipe_82 (by decide)) (fun c_35 => ?_) (fun c_35 => ?_)
                      · refine zz (fun _ _ => lv_iconst (v := 0) hx hb dX9_wipe_89 (by decide)) ?_
                        refine z_zast (f := A33 23) C rm_23 (by first | assumption | (apply vp_in_nI <;> omega)) rfl dX9_wipe_90 ?_
                        refine zeq wm_23 ?_
                        refine zs (fun _ _ => lv_iinc (v := nI (j20) + 1) (lv' := [(4, .int (nI (j20) + 1)), (0, .ref (r)), (1, .int (nI i)), (2, .int (tI d)), (3, .int (to))]) hx hb dX9_wipe_91 hl (k := 4) rfl rfl (by decide) rfl) (fun ls hl => ?_)
                        refine zz (fun _ _ => lv_goto (tgt := 25) hx hb dX9_wipe_94 (by decide)) ?_
                        have hl := lv_sub hl [1, 2, 3, 4, 0] rfl
                        try simp only [nI_1] at hl
                        exact ih20 (v33, (u1 A33 23 (upd (A33 23) (Int32.toNatClampNeg (nI (j20))) (0)))) _ _ (by rw [nI_clamp (by omega)]; exact wpI_set hI20 (inTo_c hj20 c_31 c_32) (tI_1.mp c_22) h33.1 h33.2 (by rw [tI_1.mp c_34]; simp [tI, nI_nz c_35])) hl
                      · refine zz (fun _ _ => lv_iconst (v := 1) hx hb dX9_wipe_85 (by decide)) ?_
                        refine zz (fun _ _ => lv_goto (tgt := 90) hx hb dX9_wipe_86 (by decide)) ?_
                        refine z_zast (f := A33 23) C rm_23 (by first | assumption | (apply vp_in_nI <;> omega)) rfl dX9_wipe_90 ?_
                        refine zeq wm_23 ?_
                        refine zs (fun _ _ => lv_iinc (v := nI (j20) + 1) (lv' := [(4, .int (nI (j20) + 1)), (0, .ref (r)), (1, .int (nI i)), (2, .int (tI d)), (3, .int (to))]) hx hb dX9_wipe_91 hl (k := 4) rfl rfl (by decide) rfl) (fun ls hl => ?_)
                        refine zz (fun _ _ => lv_goto (tgt := 25) hx hb dX9_wipe_94 (by decide)) ?_
                        have hl := lv_sub hl [1, 2, 3, 4, 0] rfl
                        try simp only [nI_1] at hl
                        exact ih20 (v33, (u1 A33 23 (upd (A33 23) (Int32.toNatClampNeg (nI (j20))) (1)))) _ _ (by rw [nI_clamp (by omega)]; exact wpI_set hI20 (inTo_c hj20 c_31 c_32) (tI_1.mp c_22) h33.1 h33.2 (by rw [tI_1.mp c_34, show j20 = 0 from nI_z (by omega) c_35]; rfl)) hl
      · intro a20 sz ls hI20 hl
        obtain ⟨v20, A20⟩ := a20
        dsimp only at hI20 hl
        refine zeq (M' := (mm aC r v20 A20 R)) rfl ?_
        refine zz (fun _ _ => lv_iload hx hb dX9_wipe_25 (lv_at hl 4 rfl)) ?_
        refine zz (fun _ _ => lv_bipush (v := 7) hx hb dX9_wipe_27 (by decide)) ?_
        refine zval (v' := .int (nI 7)) (congrArg Value.int rfl) ?_
        refine zb (fun _ _ => lv_icmp_ge (tgt := 97) hx hb dX9_wipe_29 (by decide)) (fun c_36 => ?_) (fun c_36 => ?_)
        · refine zz (fun _ _ => lv_iconst (v := 0) hx hb dX9_wipe_97 (by decide)) ?_
          exact z_iret C hr hlk dX9_wipe_98 (zpI_mk (a := v20) (b := A20) (wp_end hR (Or.inr (tI_1.mp c_19)) hI20))
        · exact absurd (nI_le (Nat.le_refl _) (by omega)) c_36
    · refine zz (fun _ _ => lv_iconst (v := 2) hx hb dX9_wipe_20 (by decide)) ?_
      exact z_iret C hr hlk dX9_wipe_21 (zpI_mk (a := v) (b := A) (wp_no hR c_1 c_19))
