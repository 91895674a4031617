set_option maxHeartbeats 2000000 in
set_option maxRecDepth 10000 in
theorem hX9_change {l : Launch} {D : va_G} {aC : Nat → ClassId} {b0 sz : Nat} {r : Nat} {v : Nat → Int32} {A : Nat → Nat → Int32} {R : ZM} {i fr to : Nat} {S : St} {ps : List Rw} {ts : List TR} (hi : i < 12) (hfr7 : fr < 7) (hto7 : to < 7) (hfr : A 2 i = nI fr) (hto : A 3 i = nI to) (hP : PRr A i ps) (hT : TRr A i ts) (hR : RC v A S) : Ct l D aC b0 yX9_change cX9_change 4 (some .int) 5 0 0 [.ref (r), .int (nI i)] (mm aC r v A R) sz (zpI (fun v A => mm aC r v A R) (fun w' v' A' => AR v A (aRew fr to ts ps S) w' v' A')) := by
  refine Ct.of (by decide) (Nat.le_of_ble_eq_true rfl) ?_
  intro p e s m below meth c ls C hr hlk hnm hl
  have hl : lv_has ls 4 [(0, .ref (r)), (1, .int (nI i))] := hl
  obtain ⟨hx, hb, -, -, -⟩ := id C
  have hPk := hP.2.2.1
  refine zz (fun _ _ => lv_aload_n hx hb dX9_change_0 rfl (lv_at hl 0 rfl)) ?_
  refine zz (fun _ _ => lv_iload_n hx hb dX9_change_1 rfl (lv_at hl 1 rfl)) ?_
  refine zqVI (As := [.int (nI i)]) (rest := []) C hl.1 lk_X9_217 (hX9_solve hi hfr7 hfr hP hR) rm_0 rfl rfl rfl (Nat.le_of_ble_eq_true rfl) ⟨by decide, by decide, by decide, by decide⟩ dX9_change_2 (fun w1 v1 A1 sz h1 => ?_)
  refine zeq (M' := (mm aC r v1 A1 R)) rfl ?_
  refine zs (fun _ _ => lv_istore_n (lv' := [(2, .int (w1)), (0, .ref (r)), (1, .int (nI i))]) hx hb dX9_change_5 rfl hl (by decide) rfl) (fun ls hl => ?_)
  refine zz (fun _ _ => lv_iload_n hx hb dX9_change_6 rfl (lv_at hl 0 rfl)) ?_
  refine zb (fun _ _ => lv_if_le (tgt := 12) hx hb dX9_change_7 (by decide)) (fun c_2 => ?_) (fun c_2 => ?_)
  · have hq9 := slP_ok h1 c_2
    have hR9 : RC v1 (u1 A1 34 (upd (A1 34) (Int32.toNatClampNeg (nI i)) (nI (sols (cds (S.1 fr)) ps (fun _ => -1)).length))) S := RC_FQ hR hq9.1
    have hS9 : FS v A v1 (u1 A1 34 (upd (A1 34) (Int32.toNatClampNeg (nI i)) (nI (sols (cds (S.1 fr)) ps (fun _ => -1)).length))) := hq9.1.S.trans FS_34
    have hT9 : TRr (u1 A1 34 (upd (A1 34) (Int32.toNatClampNeg (nI i)) (nI (sols (cds (S.1 fr)) ps (fun _ => -1)).length))) i ts := hT.kept hS9.low
    have hto9 : (u1 A1 34 (upd (A1 34) (Int32.toNatClampNeg (nI i)) (nI (sols (cds (S.1 fr)) ps (fun _ => -1)).length))) 3 i = nI to := by rw [hS9.low 3 (by decide)]; exact hto
    have hV9 := WV_34 (g := (upd (A1 34) (Int32.toNatClampNeg (nI i)) (nI (sols (cds (S.1 fr)) ps (fun _ => -1)).length))) hq9.2.2.2.2.2
    have hl9 := hq9.2.1
    refine zz (fun _ _ => lv_aload_n hx hb dX9_change_12 rfl (lv_at hl 1 rfl)) ?_
    refine z_get (v := .ref (r + 34)) C fd_X9_110 rm_0 rfl dX9_change_13 ?_
    refine zz (fun _ _ => lv_iload_n hx hb dX9_change_16 rfl (lv_at hl 2 rfl)) ?_
    refine zz (fun _ _ => lv_aload_n hx hb dX9_change_17 rfl (lv_at hl 1 rfl)) ?_
    refine z_get (v := .int (v1 43)) C fd_X9_190 rm_0 rfl dX9_change_18 ?_
    refine zval (v' := .int (nI (sols (cds (S.1 fr)) ps (fun _ => -1)).length)) (congrArg Value.int hq9.2.2.2.1) ?_
    refine z_iast (f := A1 34) C rm_34 (by first | assumption | (apply vp_in_nI <;> omega)) dX9_change_21 ?_
    refine zeq wm_34 ?_
    refine zz (fun _ _ => lv_iconst (v := 0) hx hb dX9_change_22 (by decide)) ?_
    refine zs (fun _ _ => lv_istore_n (lv' := [(3, .int (0)), (2, .int (w1)), (0, .ref (r)), (1, .int (nI i))]) hx hb dX9_change_23 rfl hl (by decide) rfl) (fun ls hl => ?_)
    have hl0 := lv_sub hl [2, 3, 1, 0] rfl
    refine z_loop (γ := (Nat → Int32) × (Nat → Nat → Int32)) (G := fun a => mm aC r a.1 a.2 R) (I := fun j a => tkI v1 (u1 A1 34 (upd (A1 34) (Int32.toNatClampNeg (nI i)) (nI (sols (cds (S.1 fr)) ps (fun _ => -1)).length))) (((sols (cds (S.1 fr)) ps (fun _ => -1)).take j).foldl (takeSol to ts) S) a.1 a.2) (lv := fun j a => [(0, .ref (r)), (1, .int (nI i)), (2, .int (w1)), (3, .int (nI (j)))]) ((sols (cds (S.1 fr)) ps (fun _ => -1)).length) ?_ ?_ (v1, (u1 A1 34 (upd (A1 34) (Int32.toNatClampNeg (nI i)) (nI (sols (cds (S.1 fr)) ps (fun _ => -1)).length)))) _ _ ⟨FR.refl, by rw [List.take_zero]; exact hR9⟩ hl0
    · intro j3 a3 sz ls hj3 hI3 hl ih3
      obtain ⟨v3, A3⟩ := a3
      dsimp only at hI3 hl ih3
      refine zeq (M' := (mm aC r v3 A3 R)) rfl ?_
      obtain ⟨sg3, es3⟩ : ∃ t, (sols (cds (S.1 fr)) ps (fun _ => -1))[j3]? = some t := ⟨_, List.getElem?_eq_getElem hj3⟩
      have hg3 := sols_ok (fun c hc => okP_g hR.1.1 fr c ((cds_mem (okP_g hR.1.1 fr)).mp hc)) ps _ hPk okG_0 sg3 (List.mem_of_getElem? es3)
      refine zz (fun _ _ => lv_iload_n hx hb dX9_change_24 rfl (lv_at hl 3 rfl)) ?_
      refine zz (fun _ _ => lv_aload_n hx hb dX9_change_25 rfl (lv_at hl 0 rfl)) ?_
      refine z_get (v := .int (v3 43)) C fd_X9_190 rm_0 rfl dX9_change_26 ?_
      refine zval (v' := .int (nI (sols (cds (S.1 fr)) ps (fun _ => -1)).length)) (congrArg Value.int ((hI3.1.1 43 (by decide) (by decide)).trans hq9.2.2.2.1)) ?_
      refine zb (fun _ _ => lv_icmp_ge (tgt := 44) hx hb dX9_change_29 (by decide)) (fun c_4 => ?_) (fun c_4 => ?_)
      · exact absurd c_4 (nI_ge (by omega) (by omega))
      · refine zz (fun _ _ => lv_aload_n hx hb dX9_change_32 rfl (lv_at hl 0 rfl)) ?_
        refine zz (fun _ _ => lv_iload_n hx hb dX9_change_33 rfl (lv_at hl 1 rfl)) ?_
        refine zz (fun _ _ => lv_iload_n hx hb dX9_change_34 rfl (lv_at hl 3 rfl)) ?_
        refine zqVN (As := [.int (nI i), .int (nI (j3))]) (rest := []) C hl.1 lk_X9_221 (hX9_takeAway hi (by omega) hto7 (by rw [hI3.1.low 3 (by decide)]; exact hto9) (hT9.kept hI3.1.low) ((hV9 _ _ es3).kept hI3.1) hg3 hI3.2) rm_0 rfl rfl rfl (Nat.le_of_ble_eq_true rfl) ⟨by decide, by decide, by decide, by decide⟩ dX9_change_35 (fun v5 A5 sz h5 => ?_)
        refine zeq (M' := (mm aC r v5 A5 R)) rfl ?_
        refine zs (fun _ _ => lv_iinc (v := nI (j3) + 1) (lv' := [(3, .int (nI (j3) + 1)), (0, .ref (r)), (1, .int (nI i)), (2, .int (w1))]) hx hb dX9_change_38 hl (k := 3) rfl rfl (by decide) rfl) (fun ls hl => ?_)
        refine zz (fun _ _ => lv_goto (tgt := 24) hx hb dX9_change_41 (by decide)) ?_
        have hl := lv_sub hl [1, 2, 3, 0] rfl
        try simp only [nI_1] at hl
        exact ih3 (v5, A5) _ _ (by show tkI _ _ (((sols (cds (S.1 fr)) ps (fun _ => -1)).take (j3 + 1)).foldl (takeSol to ts) S) _ _; rw [foldl_takeS es3]; exact ⟨hI3.1.trans h5.1, h5.2⟩) hl
    · intro a3 sz ls hI3 hl
      obtain ⟨v3, A3⟩ := a3
      dsimp only at hI3 hl
      refine zeq (M' := (mm aC r v3 A3 R)) rfl ?_
      refine zz (fun _ _ => lv_iload_n hx hb dX9_change_24 rfl (lv_at hl 3 rfl)) ?_
      refine zz (fun _ _ => lv_aload_n hx hb dX9_change_25 rfl (lv_at hl 0 rfl)) ?_
      refine z_get (v := .int (v3 43)) C fd_X9_190 rm_0 rfl dX9_change_26 ?_
      refine zval (v' := .int (nI (sols (cds (S.1 fr)) ps (fun _ => -1)).length)) (congrArg Value.int ((hI3.1.1 43 (by decide) (by decide)).trans hq9.2.2.2.1)) ?_
      refine zb (fun _ _ => lv_icmp_ge (tgt := 44) hx hb dX9_change_29 (by decide)) (fun c_6 => ?_) (fun c_6 => ?_)
      · refine zz (fun _ _ => lv_iconst (v := 0) hx hb dX9_change_44 (by decide)) ?_
        refine zs (fun _ _ => lv_istore_n (lv' := [(3, .int (0)), (0, .ref (r)), (1, .int (nI i)), (2, .int (w1))]) hx hb dX9_change_45 rfl hl (by decide) rfl) (fun ls hl => ?_)
        have hl0 := lv_sub hl [1, 2, 3, 0] rfl
        refine z_loop (γ := (Nat → Int32) × (Nat → Nat → Int32)) (G := fun a => mm aC r a.1 a.2 R) (I := fun j a => asI v1 (u1 A1 34 (upd (A1 34) (Int32.toNatClampNeg (nI i)) (nI (sols (cds (S.1 fr)) ps (fun _ => -1)).length))) to ts ((sols (cds (S.1 fr)) ps (fun _ => -1)).take j) ((sols (cds (S.1 fr)) ps (fun _ => -1)).foldl (takeSol to ts) S) a.1 a.2) (lv := fun j a => [(0, .ref (r)), (1, .int (nI i)), (2, .int (w1)), (3, .int (nI (j)))]) ((sols (cds (S.1 fr)) ps (fun _ => -1)).length) ?_ ?_ (v3, A3) _ _ ⟨hI3.1, _, by rw [List.take_zero]; rfl, by have h9 := hI3.2; rw [List.take_length] at h9; exact h9⟩ hl0
        · intro j7 a7 sz ls hj7 hI7 hl ih7
          obtain ⟨v7, A7⟩ := a7
          dsimp only at hI7 hl ih7
          refine zeq (M' := (mm aC r v7 A7 R)) rfl ?_
          obtain ⟨sg7, es7⟩ : ∃ t, (sols (cds (S.1 fr)) ps (fun _ => -1))[j7]? = some t := ⟨_, List.getElem?_eq_getElem hj7⟩
          have hg7 := sols_ok (fun c hc => okP_g hR.1.1 fr c ((cds_mem (okP_g hR.1.1 fr)).mp hc)) ps _ hPk okG_0 sg7 (List.mem_of_getElem? es7)
          obtain ⟨hf8, S8, e8, hR8⟩ := id hI7
          refine zz (fun _ _ => lv_iload_n hx hb dX9_change_46 rfl (lv_at hl 3 rfl)) ?_
          refine zz (fun _ _ => lv_aload_n hx hb dX9_change_47 rfl (lv_at hl 0 rfl)) ?_
          refine z_get (v := .int (v7 43)) C fd_X9_190 rm_0 rfl dX9_change_48 ?_
          refine zval (v' := .int (nI (sols (cds (S.1 fr)) ps (fun _ => -1)).length)) (congrArg Value.int ((hI7.1.1 43 (by decide) (by decide)).trans hq9.2.2.2.1)) ?_
          refine zb (fun _ _ => lv_icmp_ge (tgt := 71) hx hb dX9_change_51 (by decide)) (fun c_8 => ?_) (fun c_8 => ?_)
          · exact absurd c_8 (nI_ge (by omega) (by omega))
          · refine zz (fun _ _ => lv_aload_n hx hb dX9_change_54 rfl (lv_at hl 0 rfl)) ?_
            refine zz (fun _ _ => lv_iload_n hx hb dX9_change_55 rfl (lv_at hl 1 rfl)) ?_
            refine zz (fun _ _ => lv_iload_n hx hb dX9_change_56 rfl (lv_at hl 3 rfl)) ?_
            refine zqVI (As := [.int (nI i), .int (nI (j7))]) (rest := []) C hl.1 lk_X9_225 (hX9_add hi (by omega) hto7 (by rw [hI7.1.low 3 (by decide)]; exact hto9) (hT9.kept hI7.1.low) ((hV9 _ _ es7).kept hI7.1) hg7 hR8) rm_0 rfl rfl rfl (Nat.le_of_ble_eq_true rfl) ⟨by decide, by decide, by decide, by decide⟩ dX9_change_57 (fun w9 v9 A9 sz h9 => ?_)
            refine zeq (M' := (mm aC r v9 A9 R)) rfl ?_
            refine zbn (fun _ _ => lv_if_ne (tgt := 65) hx hb dX9_change_60 (by decide)) (fun c_10 => ?_) (fun c_10 => ?_)
            · refine zs (fun _ _ => lv_iinc (v := nI (j7) + 1) (lv' := [(3, .int (nI (j7) + 1)), (0, .ref (r)), (1, .int (nI i)), (2, .int (w1))]) hx hb dX9_change_65 hl (k := 3) rfl rfl (by decide) rfl) (fun ls hl => ?_)
              refine zz (fun _ _ => lv_goto (tgt := 46) hx hb dX9_change_68 (by decide)) ?_
              have hl := lv_sub hl [1, 2, 3, 0] rfl
              try simp only [nI_1] at hl
              exact ih7 (v9, A9) _ _ (asI_next es7 hf8 e8 h9 c_10) hl
            · refine zz (fun _ _ => lv_iconst (v := 4) hx hb dX9_change_63 (by decide)) ?_
              exact z_iret C hr hlk dX9_change_64 (zpI_mk (a := v9) (b := A9) (ch_4 hl9 hq9.2.2.1 hS9 (hf8.trans h9.1) (asI_no es7 e8 h9 c_10)))
        · intro a7 sz ls hI7 hl
          obtain ⟨v7, A7⟩ := a7
          dsimp only at hI7 hl
          refine zeq (M' := (mm aC r v7 A7 R)) rfl ?_
          refine zz (fun _ _ => lv_iload_n hx hb dX9_change_46 rfl (lv_at hl 3 rfl)) ?_
          refine zz (fun _ _ => lv_aload_n hx hb dX9_change_47 rfl (lv_at hl 0 rfl)) ?_
          refine z_get (v := .int (v7 43)) C fd_X9_190 rm_0 rfl dX9_change_48 ?_
          refine zval (v' := .int (nI (sols (cds (S.1 fr)) ps (fun _ => -1)).length)) (congrArg Value.int ((hI7.1.1 43 (by decide) (by decide)).trans hq9.2.2.2.1)) ?_
          refine zb (fun _ _ => lv_icmp_ge (tgt := 71) hx hb dX9_change_51 (by decide)) (fun c_11 => ?_) (fun c_11 => ?_)
          · refine zz (fun _ _ => lv_iconst (v := 0) hx hb dX9_change_71 (by decide)) ?_
            exact z_iret C hr hlk dX9_change_72 (zpI_mk (a := v7) (b := A7) (ch_0 hl9 hq9.2.2.1 hS9 hq9.2.2.2.2.1 hI7))
          · exact absurd (nI_le (Nat.le_refl _) (by omega)) c_11
      · exact absurd (nI_le (Nat.le_refl _) (by omega)) c_6
  · refine zz (fun _ _ => lv_iload_n hx hb dX9_change_10 rfl (lv_at hl 0 rfl)) ?_
    exact z_iret C hr hlk dX9_change_11 (zpI_mk (a := v1) (b := A1) (ch_5 h1 c_2))
