theorem tk_next {v v1 : Nat → Int32} {A A1 : Nat → Nat → Int32} {S : St} {to j : Nat} {σ : Sg} {ts : List TR} {t : TR} (hj : ts[j]? = some t) (h : t.2.2.2 = true ∨ lo σ t) (hI : tkI v A ((ts.take j).foldl (takeRow to σ) S) v1 A1) : tkI v A ((ts.take (j + 1)).foldl (takeRow to σ) S) v1 A1 := by
  rw [foldl_take hj, tk_skip h]; exact hI
theorem tk_gone {v v1 : Nat → Int32} {A A1 : Nat → Nat → Int32} {S : St} {to j : Nat} {σ : Sg} {ts : List TR} {t : TR} (hto : to < 7) (hj : ts[j]? = some t) (h1 : t.2.2.2 = false) (h2 : ¬ lo σ t) (hc : okc (tcd σ t)) (hI : tkI v A ((ts.take j).foldl (takeRow to σ) S) v1 A1) : tkI v A ((ts.take (j + 1)).foldl (takeRow to σ) S) (fX9_take v1 A1 (nI to) (nI (pt (tcd σ t) 0)) (nI (pt (tcd σ t) 1)) (nI (pt (tcd σ t) 2))).1 (fX9_take v1 A1 (nI to) (nI (pt (tcd σ t) 0)) (nI (pt (tcd σ t) 1)) (nI (pt (tcd σ t) 2))).2 := by
  rw [foldl_take hj, tk_do h1 h2]
  have := take_s hI.2 hto hc
  exact ⟨hI.1.trans this.1, this.2⟩
set_option maxHeartbeats 2000000 in
set_option maxRecDepth 10000 in
theorem hX9_takeAway {l : Launch} {D : va_G} {aC : Nat → ClassId} {b0 sz : Nat} {r : Nat} {v : Nat → Int32} {A : Nat → Nat → Int32} {R : ZM} {i w to : Nat} {S : St} {σ : Sg} {ts : List TR} (hi : i < 12) (hw : w ≤ 5000) (hto7 : to < 7) (hto : A 3 i = nI to) (hT : TRr A i ts) (hV : VW A w σ) (hσ : okG σ) (hR : RC v A S) : Ct l D aC b0 yX9_takeAway cX9_takeAway 4 none 4 0 0 [.ref (r), .int (nI i), .int (nI w)] (mm aC r v A R) sz (zpN (fun v A => mm aC r v A R) (fun v' A' => tkI v A (takeSol to ts S σ) v' A')) := by
  refine Ct.of (by decide) (Nat.le_of_ble_eq_true rfl) ?_
  intro p e s m below meth c ls C hr hlk hnm hl
  have hl : lv_has ls 4 [(0, .ref (r)), (1, .int (nI i)), (2, .int (nI w))] := hl
  obtain ⟨hx, hb, -, -, -⟩ := id C
  have hlen := hT.2.1
  refine zz (fun _ _ => lv_bipush (v := 6) hx hb dX9_takeAway_0 (by decide)) ?_
  refine zz (fun _ _ => lv_iload_n hx hb dX9_takeAway_2 rfl (lv_at hl 1 rfl)) ?_
  refine zz (fun _ _ => lv_imul hx hb dX9_takeAway_3) ?_
  refine zval (v' := .int (nI (6 * i))) (congrArg Value.int (pk_mul 6 i)) ?_
  refine zs (fun _ _ => lv_istore_n (lv' := [(3, .int (nI (6 * i))), (0, .ref (r)), (1, .int (nI i)), (2, .int (nI w))]) hx hb dX9_takeAway_4 rfl hl (by decide) rfl) (fun ls hl => ?_)
  have hl0 := lv_sub hl [1, 2, 3, 0] rfl
  refine z_loop (γ := (Nat → Int32) × (Nat → Nat → Int32)) (G := fun a => mm aC r a.1 a.2 R) (I := fun j a => tkI v A ((ts.take j).foldl (takeRow to σ) S) a.1 a.2) (lv := fun j a => [(0, .ref (r)), (1, .int (nI i)), (2, .int (nI w)), (3, .int (nI (6 * i + j)))]) (ts.length) ?_ ?_ (v, A) _ _ ⟨FR.refl, by rw [List.take_zero]; exact hR⟩ hl0
  · intro j1 a1 sz ls hj1 hI1 hl ih1
    obtain ⟨v1, A1⟩ := a1
    dsimp only at hI1 hl ih1
    refine zeq (M' := (mm aC r v1 A1 R)) rfl ?_
    have hT1 : TRr A1 i ts := hT.kept hI1.1.low
    have hto1 : A1 3 i = nI to := by rw [hI1.1.low 3 (by decide)]; exact hto
    have hV1 := hV.kept hI1.1
    obtain ⟨t1, et1⟩ : ∃ t, ts[j1]? = some t := ⟨_, List.getElem?_eq_getElem hj1⟩
    have hrow1 := hT1.2.2.2 j1 t1 et1
    have hok1 := hT.2.2.1 t1 (List.mem_of_getElem? et1)
    refine zz (fun _ _ => lv_iload_n hx hb dX9_takeAway_5 rfl (lv_at hl 3 rfl)) ?_
    refine zz (fun _ _ => lv_bipush (v := 6) hx hb dX9_takeAway_6 (by decide)) ?_
    refine zz (fun _ _ => lv_iload_n hx hb dX9_takeAway_8 rfl (lv_at hl 1 rfl)) ?_
    refine zz (fun _ _ => lv_imul hx hb dX9_takeAway_9) ?_
    refine zval (v' := .int (nI (6 * i))) (congrArg Value.int (pk_mul 6 i)) ?_
    refine zz (fun _ _ => lv_aload_n hx hb dX9_takeAway_10 rfl (lv_at hl 0 rfl)) ?_
    refine z_get (v := .ref (r + 5)) C fd_X9_23 rm_0 rfl dX9_takeAway_11 ?_
    refine zz (fun _ _ => lv_iload_n hx hb dX9_takeAway_14 rfl (lv_at hl 1 rfl)) ?_
    refine z_iald (f := A1 5) C rm_5 (by first | assumption | (apply vp_in_nI <;> omega)) dX9_takeAway_15 ?_
    refine zval (v' := .int (nI ts.length)) (congrArg Value.int (rdI hT1.1 (by omega))) ?_
    refine zz (fun _ _ => lv_iadd hx hb dX9_takeAway_16) ?_
    refine zval (v' := .int (nI (6 * i + ts.length))) (congrArg Value.int (nI_add _ _)) ?_
    refine zb (fun _ _ => lv_icmp_ge (tgt := 99) hx hb dX9_takeAway_17 (by decide)) (fun c_2 => ?_) (fun c_2 => ?_)
    · exact absurd c_2 (nI_ge (by omega) (by omega))
    · refine zz (fun _ _ => lv_aload_n hx hb dX9_takeAway_20 rfl (lv_at hl 0 rfl)) ?_
      refine z_get (v := .ref (r + 9)) C fd_X9_35 rm_0 rfl dX9_takeAway_21 ?_
      refine zz (fun _ _ => lv_iload_n hx hb dX9_takeAway_24 rfl (lv_at hl 3 rfl)) ?_
      refine z_zald (f := A1 9) C rm_9 (by first | assumption | (apply vp_in_nI <;> omega)) dX9_takeAway_25 ?_
      refine zval (v' := .int (tI t1.2.2.2)) (congrArg Value.int (rdI hrow1.2.2.2 (by omega))) ?_
      refine zbn (fun _ _ => lv_if_ne (tgt := 93) hx hb dX9_takeAway_26 (by decide)) (fun c_3 => ?_) (fun c_3 => ?_)
      · refine zs (fun _ _ => lv_iinc (v := nI (6 * i + j1) + 1) (lv' := [(3, .int (nI (6 * i + j1) + 1)), (0, .ref (r)), (1, .int (nI i)), (2, .int (nI w))]) hx hb dX9_takeAway_93 hl (k := 3) rfl rfl (by decide) rfl) (fun ls hl => ?_)
        refine zz (fun _ _ => lv_goto (tgt := 5) hx hb dX9_takeAway_96 (by decide)) ?_
        have hl := lv_sub hl [1, 2, 3, 0] rfl
        try simp only [nI_1] at hl
        exact ih1 (v1, A1) _ _ (tk_next et1 (Or.inl (tI_1.mp c_3)) hI1) hl
      · refine zz (fun _ _ => lv_aload_n hx hb dX9_takeAway_29 rfl (lv_at hl 0 rfl)) ?_
        refine zz (fun _ _ => lv_iload_n hx hb dX9_takeAway_30 rfl (lv_at hl 3 rfl)) ?_
        refine zz (fun _ _ => lv_iload_n hx hb dX9_takeAway_31 rfl (lv_at hl 2 rfl)) ?_
        refine zdV (As := [.int (nI (6 * i + j1)), .int (nI w)]) (rest := []) (st' := [.int ((fX9_isLeftOut A1 (nI (6 * i + j1)) (nI w)))]) C hl.1 lk_X9_202 (ctX9_isLeftOut (vp_in_nI (by omega) (by decide)) (vplace_in hw) (vplace_in hw) (vplace_in hw)) rm_0 rfl rfl rfl (Nat.le_of_ble_eq_true rfl) ⟨by decide, by decide, by decide, by decide⟩ dX9_takeAway_32 rfl (fun sz => ?_)
        refine zbn (fun _ _ => lv_if_ne (tgt := 93) hx hb dX9_takeAway_35 (by decide)) (fun c_4 => ?_) (fun c_4 => ?_)
        · refine zs (fun _ _ => lv_iinc (v := nI (6 * i + j1) + 1) (lv' := [(3, .int (nI (6 * i + j1) + 1)), (0, .ref (r)), (1, .int (nI i)), (2, .int (nI w))]) hx hb dX9_takeAway_93 hl (k := 3) rfl rfl (by decide) rfl) (fun ls hl => ?_)
          refine zz (fun _ _ => lv_goto (tgt := 5) hx hb dX9_takeAway_96 (by decide)) ?_
          have hl := lv_sub hl [1, 2, 3, 0] rfl
          try simp only [nI_1] at hl
          exact ih1 (v1, A1) _ _ (tk_next et1 (Or.inr (Decidable.not_not.mp (fun q => c_4 ((left_s hw hV1 hσ hok1 (by omega) hrow1.1 hrow1.2.1 hrow1.2.2.1).mpr q)))) hI1) hl
        · refine zz (fun _ _ => lv_aload_n hx hb dX9_takeAway_38 rfl (lv_at hl 0 rfl)) ?_
          refine zz (fun _ _ => lv_aload_n hx hb dX9_takeAway_39 rfl (lv_at hl 0 rfl)) ?_
          refine z_get (v := .ref (r + 3)) C fd_X9_16 rm_0 rfl dX9_takeAway_40 ?_
          refine zz (fun _ _ => lv_iload_n hx hb dX9_takeAway_43 rfl (lv_at hl 1 rfl)) ?_
          have hc9 := tcd_s hσ hok1 (tI_0.mp c_3) ((left_s hw hV1 hσ hok1 (by omega) hrow1.1 hrow1.2.1 hrow1.2.2.1).mp c_4)
          refine z_iald (f := A1 3) C rm_3 (by first | assumption | (apply vp_in_nI <;> omega)) dX9_takeAway_44 ?_
          refine zval (v' := .int (nI to)) (congrArg Value.int (rdI hto1 (by omega))) ?_
          refine zz (fun _ _ => lv_aload_n hx hb dX9_takeAway_45 rfl (lv_at hl 0 rfl)) ?_
          refine zz (fun _ _ => lv_aload_n hx hb dX9_takeAway_46 rfl (lv_at hl 0 rfl)) ?_
          refine z_get (v := .ref (r + 35)) C fd_X9_117 rm_0 rfl dX9_takeAway_47 ?_
          refine zz (fun _ _ => lv_iload_n hx hb dX9_takeAway_50 rfl (lv_at hl 2 rfl)) ?_
          refine zz (fun _ _ => lv_aload_n hx hb dX9_takeAway_51 rfl (lv_at hl 0 rfl)) ?_
          refine z_get (v := .ref (r + 6)) C fd_X9_26 rm_0 rfl dX9_takeAway_52 ?_
          refine zz (fun _ _ => lv_iload_n hx hb dX9_takeAway_55 rfl (lv_at hl 3 rfl)) ?_
          refine z_iald (f := A1 6) C rm_6 (by first | assumption | (apply vp_in_nI <;> omega)) dX9_takeAway_56 ?_
          refine zval (v' := .int (t1.1)) (congrArg Value.int (rdI hrow1.1 (by omega))) ?_
          refine zdV (As := [.ref (r + 35), .int (nI w), .int (t1.1)]) (rest := [.int (nI to), .ref (r)]) (st' := [.int ((fX9_valueInV A1 (nI w) (t1.1))), .int (nI to), .ref (r)]) C hl.1 lk_X9_183 (ctX9_valueInV (vplace_in hw)) rm_0 rfl rfl rfl (Nat.le_of_ble_eq_true rfl) ⟨by decide, by decide, by decide, by decide⟩ dX9_takeAway_57 rfl (fun sz => ?_)
          refine zval (v' := .int (nI (pt (tcd σ t1) 0))) (congrArg Value.int ((vin_s hw hV1 _).trans hc9.2.1)) ?_
          refine zz (fun _ _ => lv_aload_n hx hb dX9_takeAway_60 rfl (lv_at hl 0 rfl)) ?_
          refine zz (fun _ _ => lv_aload_n hx hb dX9_takeAway_61 rfl (lv_at hl 0 rfl)) ?_
          refine z_get (v := .ref (r + 35)) C fd_X9_117 rm_0 rfl dX9_takeAway_62 ?_
          refine zz (fun _ _ => lv_iload_n hx hb dX9_takeAway_65 rfl (lv_at hl 2 rfl)) ?_
          refine zz (fun _ _ => lv_aload_n hx hb dX9_takeAway_66 rfl (lv_at hl 0 rfl)) ?_
          refine z_get (v := .ref (r + 7)) C fd_X9_29 rm_0 rfl dX9_takeAway_67 ?_
          refine zz (fun _ _ => lv_iload_n hx hb dX9_takeAway_70 rfl (lv_at hl 3 rfl)) ?_
          refine z_iald (f := A1 7) C rm_7 (by first | assumption | (apply vp_in_nI <;> omega)) dX9_takeAway_71 ?_
          refine zval (v' := .int (t1.2.1)) (congrArg Value.int (rdI hrow1.2.1 (by omega))) ?_
          refine zdV (As := [.ref (r + 35), .int (nI w), .int (t1.2.1)]) (rest := [.int (nI (pt (tcd σ t1) 0)), .int (nI to), .ref (r)]) (st' := [.int ((fX9_valueInV A1 (nI w) (t1.2.1))), .int (nI (pt (tcd σ t1) 0)), .int (nI to), .ref (r)]) C hl.1 lk_X9_183 (ctX9_valueInV (vplace_in hw)) rm_0 rfl rfl rfl (Nat.le_of_ble_eq_true rfl) ⟨by decide, by decide, by decide, by decide⟩ dX9_takeAway_72 rfl (fun sz => ?_)
          refine zval (v' := .int (nI (pt (tcd σ t1) 1))) (congrArg Value.int ((vin_s hw hV1 _).trans hc9.2.2.1)) ?_
          refine zz (fun _ _ => lv_aload_n hx hb dX9_takeAway_75 rfl (lv_at hl 0 rfl)) ?_
          refine zz (fun _ _ => lv_aload_n hx hb dX9_takeAway_76 rfl (lv_at hl 0 rfl)) ?_
          refine z_get (v := .ref (r + 35)) C fd_X9_117 rm_0 rfl dX9_takeAway_77 ?_
          refine zz (fun _ _ => lv_iload_n hx hb dX9_takeAway_80 rfl (lv_at hl 2 rfl)) ?_
          refine zz (fun _ _ => lv_aload_n hx hb dX9_takeAway_81 rfl (lv_at hl 0 rfl)) ?_
          refine z_get (v := .ref (r + 8)) C fd_X9_32 rm_0 rfl dX9_takeAway_82 ?_
          refine zz (fun _ _ => lv_iload_n hx hb dX9_takeAway_85 rfl (lv_at hl 3 rfl)) ?_
          refine z_iald (f := A1 8) C rm_8 (by first | assumption | (apply vp_in_nI <;> omega)) dX9_takeAway_86 ?_
          refine zval (v' := .int (t1.2.2.1)) (congrArg Value.int (rdI hrow1.2.2.1 (by omega))) ?_
          refine zdV (As := [.ref (r + 35), .int (nI w), .int (t1.2.2.1)]) (rest := [.int (nI (pt (tcd σ t1) 1)), .int (nI (pt (tcd σ t1) 0)), .int (nI to), .ref (r)]) (st' := [.int ((fX9_valueInV A1 (nI w) (t1.2.2.1))), .int (nI (pt (tcd σ t1) 1)), .int (nI (pt (tcd σ t1) 0)), .int (nI to), .ref (r)]) C hl.1 lk_X9_183 (ctX9_valueInV (vplace_in hw)) rm_0 rfl rfl rfl (Nat.le_of_ble_eq_true rfl) ⟨by decide, by decide, by decide, by decide⟩ dX9_takeAway_87 rfl (fun sz => ?_)
          refine zval (v' := .int (nI (pt (tcd σ t1) 2))) (congrArg Value.int ((vin_s hw hV1 _).trans hc9.2.2.2)) ?_
          obtain ⟨n9, hs9, hn9⟩ := RC_n hI1.2
          refine zdV (As := [.int (nI to), .int (nI (pt (tcd σ t1) 0)), .int (nI (pt (tcd σ t1) 1)), .int (nI (pt (tcd σ t1) 2))]) (rest := []) (st' := []) C hl.1 lk_X9_213 (ctX9_take hs9 hn9) rm_0 rfl rfl rfl (Nat.le_of_ble_eq_true rfl) ⟨by decide, by decide, by decide, by decide⟩ dX9_takeAway_90 rfl (fun sz => ?_)
          refine zs (fun _ _ => lv_iinc (v := nI (6 * i + j1) + 1) (lv' := [(3, .int (nI (6 * i + j1) + 1)), (0, .ref (r)), (1, .int (nI i)), (2, .int (nI w))]) hx hb dX9_takeAway_93 hl (k := 3) rfl rfl (by decide) rfl) (fun ls hl => ?_)
          refine zz (fun _ _ => lv_goto (tgt := 5) hx hb dX9_takeAway_96 (by decide)) ?_
          have hl := lv_sub hl [1, 2, 3, 0] rfl
          try simp only [nI_1] at hl
          exact ih1 ((fX9_take v1 A1 (nI to) (nI (pt (tcd σ t1) 0)) (nI (pt (tcd σ t1) 1)) (nI (pt (tcd σ t1) 2))).1, (fX9_take v1 A1 (nI to) (nI (pt (tcd σ t1) 0)) (nI (pt (tcd σ t1) 1)) (nI (pt (tcd σ t1) 2))).2) _ _ (tk_gone hto7 et1 (tI_0.mp c_3) ((left_s hw hV1 hσ hok1 (by omega) hrow1.1 hrow1.2.1 hrow1.2.2.1).mp c_4) hc9.1 hI1) hl
  · intro a1 sz ls hI1 hl
    obtain ⟨v1, A1⟩ := a1
    dsimp only at hI1 hl
    refine zeq (M' := (mm aC r v1 A1 R)) rfl ?_
    have hT1 : TRr A1 i ts := hT.kept hI1.1.low
    have hto1 : A1 3 i = nI to := by rw [hI1.1.low 3 (by decide)]; exact hto
    have hV1 := hV.kept hI1.1
    refine zz (fun _ _ => lv_iload_n hx hb dX9_takeAway_5 rfl (lv_at hl 3 rfl)) ?_
    refine zz (fun _ _ => lv_bipush (v := 6) hx hb dX9_takeAway_6 (by decide)) ?_
    refine zz (fun _ _ => lv_iload_n hx hb dX9_takeAway_8 rfl (lv_at hl 1 rfl)) ?_
    refine zz (fun _ _ => lv_imul hx hb dX9_takeAway_9) ?_
    refine zval (v' := .int (nI (6 * i))) (congrArg Value.int (pk_mul 6 i)) ?_
    refine zz (fun _ _ => lv_aload_n hx hb dX9_takeAway_10 rfl (lv_at hl 0 rfl)) ?_
    refine z_get (v := .ref (r + 5)) C fd_X9_23 rm_0 rfl dX9_takeAway_11 ?_
    refine zz (fun _ _ => lv_iload_n hx hb dX9_takeAway_14 rfl (lv_at hl 1 rfl)) ?_
    refine z_iald (f := A1 5) C rm_5 (by first | assumption | (apply vp_in_nI <;> omega)) dX9_takeAway_15 ?_
    refine zval (v' := .int (nI ts.length)) (congrArg Value.int (rdI hT1.1 (by omega))) ?_
    refine zz (fun _ _ => lv_iadd hx hb dX9_takeAway_16) ?_
    refine zval (v' := .int (nI (6 * i + ts.length))) (congrArg Value.int (nI_add _ _)) ?_
    refine zb (fun _ _ => lv_icmp_ge (tgt := 99) hx hb dX9_takeAway_17 (by decide)) (fun c_5 => ?_) (fun c_5 => ?_)
    · exact z_vret C hr hlk dX9_takeAway_99 (zpN_mk (a := v1) (b := A1) (by have h9 := hI1; rw [List.take_length] at h9; exact h9))
    · exact absurd (nI_le (Nat.le_refl _) (by omega)) c_5
