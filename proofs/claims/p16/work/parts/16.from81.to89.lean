section
set_option maxHeartbeats 2000000 in
set_option maxRecDepth 10000 in
theorem hX9_add {l : Launch} {D : va_G} {aC : Nat → ClassId} {b0 sz : Nat} {r : Nat} {v : Nat → Int32} {A : Nat → Nat → Int32} {R : ZM} {i w to : Nat} {S : St} {σ : Sg} {ts : List TR} (hi : i < 12) (hw : w ≤ 5000) (hto7 : to < 7) (hto : A 3 i = nI to) (hT : TRr A i ts) (hV : VW A w σ) (hσ : okG σ) (hR : RC v A S) : Ct l D aC b0 yX9_add cX9_add 6 (some .boolean) 4 0 0 [.ref (r), .int (nI i), .int (nI w)] (mm aC r v A R) sz (zpI (fun v A => mm aC r v A R) (fun w' v' A' => adP v A to σ ts S w' v' A')) := by
  refine Ct.of (by decide) (Nat.le_of_ble_eq_true rfl) ?_
  intro p e s m below meth c ls C hr hlk hnm hl
  have hl : lv_has ls 6 [(0, .ref (r)), (1, .int (nI i)), (2, .int (nI w))] := hl
  obtain ⟨hx, hb, -, -, -⟩ := id C
  have hlen := hT.2.1
  refine zz (fun _ _ => lv_iconst (v := 0) hx hb dX9_add_0 (by decide)) ?_
  refine zs (fun _ _ => lv_istore_n (lv' := [(3, .int (0)), (0, .ref (r)), (1, .int (nI i)), (2, .int (nI w))]) hx hb dX9_add_1 rfl hl (by decide) rfl) (fun ls hl => ?_)
  have hl0 := lv_sub hl [1, 2, 3, 0] rfl
  refine z_loop (γ := (Nat → Int32) × (Nat → Nat → Int32)) (G := fun a => mm aC r a.1 a.2 R) (I := fun j a => FR v A a.1 a.2 ∧ RC a.1 a.2 S ∧ ∀ k, k < j → a.2 38 k = -1) (lv := fun j a => [(0, .ref (r)), (1, .int (nI i)), (2, .int (nI w)), (3, .int (nI (j)))]) (4) ?_ ?_ (v, A) _ _ ⟨FR.refl, hR, fun k hk => absurd hk (Nat.not_lt_zero _)⟩ hl0
  · intro j1 a1 sz ls hj1 hI1 hl ih1
    obtain ⟨v1, A1⟩ := a1
    dsimp only at hI1 hl ih1
    refine zeq (M' := (mm aC r v1 A1 R)) rfl ?_
    refine zz (fun _ _ => lv_iload_n hx hb dX9_add_2 rfl (lv_at hl 3 rfl)) ?_
    refine zz (fun _ _ => lv_iconst (v := 4) hx hb dX9_add_3 (by decide)) ?_
    refine zval (v' := .int (nI 4)) (congrArg Value.int rfl) ?_
    refine zb (fun _ _ => lv_icmp_ge (tgt := 20) hx hb dX9_add_4 (by decide)) (fun c_2 => ?_) (fun c_2 => ?_)
    · exact absurd c_2 (nI_ge (by omega) (by omega))
    · refine zz (fun _ _ => lv_aload_n hx hb dX9_add_7 rfl (lv_at hl 0 rfl)) ?_
      refine z_get (v := .ref (r + 38)) C fd_X9_126 rm_0 rfl dX9_add_8 ?_
      refine zz (fun _ _ => lv_iload_n hx hb dX9_add_11 rfl (lv_at hl 3 rfl)) ?_
      refine zz (fun _ _ => lv_iconst (v := (-1)) hx hb dX9_add_12 (by decide)) ?_
      refine z_iast (f := A1 38) C rm_38 (by first | assumption | (apply vp_in_nI <;> omega)) dX9_add_13 ?_
      refine zeq wm_38 ?_
      refine zs (fun _ _ => lv_iinc (v := nI (j1) + 1) (lv' := [(3, .int (nI (j1) + 1)), (0, .ref (r)), (1, .int (nI i)), (2, .int (nI w))]) hx hb dX9_add_14 hl (k := 3) rfl rfl (by decide) rfl) (fun ls hl => ?_)
      refine zz (fun _ _ => lv_goto (tgt := 2) hx hb dX9_add_17 (by decide)) ?_
      have hl := lv_sub hl [1, 2, 3, 0] rfl
      try simp only [nI_1] at hl
      exact ih1 (v1, (u1 A1 38 (upd (A1 38) (Int32.toNatClampNeg (nI (j1))) ((-1))))) _ _ ⟨hI1.1.trans ⟨fun _ _ _ => rfl, fun k hk => by simp [u1, show k ≠ 38 by omega]⟩, RC_made hI1.2.1 (by decide), fun k hk => by rw [nI_clamp (by omega)]; simp only [u1, if_true, upd]; split <;> first | rfl | exact hI1.2.2 k (by omega)⟩ hl
  · intro a1 sz ls hI1 hl
    obtain ⟨v1, A1⟩ := a1
    dsimp only at hI1 hl
    refine zeq (M' := (mm aC r v1 A1 R)) rfl ?_
    refine zz (fun _ _ => lv_iload_n hx hb dX9_add_2 rfl (lv_at hl 3 rfl)) ?_
    refine zz (fun _ _ => lv_iconst (v := 4) hx hb dX9_add_3 (by decide)) ?_
    refine zval (v' := .int (nI 4)) (congrArg Value.int rfl) ?_
    refine zb (fun _ _ => lv_icmp_ge (tgt := 20) hx hb dX9_add_4 (by decide)) (fun c_3 => ?_) (fun c_3 => ?_)
    · refine zz (fun _ _ => lv_bipush (v := 6) hx hb dX9_add_20 (by decide)) ?_
      refine zz (fun _ _ => lv_iload_n hx hb dX9_add_22 rfl (lv_at hl 1 rfl)) ?_
      refine zz (fun _ _ => lv_imul hx hb dX9_add_23) ?_
      refine zval (v' := .int (nI (6 * i))) (congrArg Value.int (pk_mul 6 i)) ?_
      refine zs (fun _ _ => lv_istore_n (lv' := [(3, .int (nI (6 * i))), (0, .ref (r)), (1, .int (nI i)), (2, .int (nI w))]) hx hb dX9_add_24 rfl hl (by decide) rfl) (fun ls hl => ?_)
      have hl0 := lv_sub hl [1, 2, 3, 0] rfl
      refine z_loop (γ := (Nat → Int32) × (Nat → Nat → Int32)) (G := fun a => mm aC r a.1 a.2 R) (I := fun j a => adI v A to σ (ts.take j) S a.1 a.2) (lv := fun j a => [(0, .ref (r)), (1, .int (nI i)), (2, .int (nI w)), (3, .int (nI (6 * i + j)))]) (ts.length) ?_ ?_ (v1, A1) _ _ ⟨hI1.1, S, (fun _ => -1), by rw [List.take_zero]; rfl, hI1.2.1, hI1.2.2, okm_0⟩ hl0
      · intro j4 a4 sz ls hj4 hI4 hl ih4
        obtain ⟨v4, A4⟩ := a4
        dsimp only at hI4 hl ih4
        refine zeq (M' := (mm aC r v4 A4 R)) rfl ?_
        have hT4 : TRr A4 i ts := hT.kept hI4.1.low
        have hto4 : A4 3 i = nI to := by rw [hI4.1.low 3 (by decide)]; exact hto
        have hV4 := hV.kept hI4.1
        obtain ⟨t4, et4⟩ : ∃ t, ts[j4]? = some t := ⟨_, List.getElem?_eq_getElem hj4⟩
        have hrow4 := hT4.2.2.2 j4 t4 et4
        have hok4 := hT.2.2.1 t4 (List.mem_of_getElem? et4)
        refine zz (fun _ _ => lv_iload_n hx hb dX9_add_25 rfl (lv_at hl 3 rfl)) ?_
        refine zz (fun _ _ => lv_bipush (v := 6) hx hb dX9_add_26 (by decide)) ?_
        refine zz (fun _ _ => lv_iload_n hx hb dX9_add_28 rfl (lv_at hl 1 rfl)) ?_
        refine zz (fun _ _ => lv_imul hx hb dX9_add_29) ?_
        refine zval (v' := .int (nI (6 * i))) (congrArg Value.int (pk_mul 6 i)) ?_
        refine zz (fun _ _ => lv_aload_n hx hb dX9_add_30 rfl (lv_at hl 0 rfl)) ?_
        refine z_get (v := .ref (r + 5)) C fd_X9_23 rm_0 rfl dX9_add_31 ?_
        refine zz (fun _ _ => lv_iload_n hx hb dX9_add_34 rfl (lv_at hl 1 rfl)) ?_
        refine z_iald (f := A4 5) C rm_5 (by first | assumption | (apply vp_in_nI <;> omega)) dX9_add_35 ?_
        refine zval (v' := .int (nI ts.length)) (congrArg Value.int (rdI hT4.1 (by omega))) ?_
        refine zz (fun _ _ => lv_iadd hx hb dX9_add_36) ?_
        refine zval (v' := .int (nI (6 * i + ts.length))) (congrArg Value.int (nI_add _ _)) ?_
        refine zb (fun _ _ => lv_icmp_ge (tgt := 155) hx hb dX9_add_37 (by decide)) (fun c_5 => ?_) (fun c_5 => ?_)
        · exact absurd c_5 (nI_ge (by omega) (by omega))
        · refine zz (fun _ _ => lv_aload_n hx hb dX9_add_40 rfl (lv_at hl 0 rfl)) ?_
          refine z_get (v := .ref (r + 9)) C fd_X9_35 rm_0 rfl dX9_add_41 ?_
          refine zz (fun _ _ => lv_iload_n hx hb dX9_add_44 rfl (lv_at hl 3 rfl)) ?_
          refine z_zald (f := A4 9) C rm_9 (by first | assumption | (apply vp_in_nI <;> omega)) dX9_add_45 ?_
          refine zval (v' := .int (tI t4.2.2.2)) (congrArg Value.int (rdI hrow4.2.2.2 (by omega))) ?_
          refine zb (fun _ _ => lv_if_eq (tgt := 149) hx hb dX9_add_46 (by decide)) (fun c_6 => ?_) (fun c_6 => ?_)
          · refine zs (fun _ _ => lv_iinc (v := nI (6 * i + j4) + 1) (lv' := [(3, .int (nI (6 * i + j4) + 1)), (0, .ref (r)), (1, .int (nI i)), (2, .int (nI w))]) hx hb dX9_add_149 hl (k := 3) rfl rfl (by decide) rfl) (fun ls hl => ?_)
            refine zz (fun _ _ => lv_goto (tgt := 25) hx hb dX9_add_152 (by decide)) ?_
            have hl := lv_sub hl [1, 2, 3, 0] rfl
            try simp only [nI_1] at hl
            exact ih4 (v4, A4) _ _ (ad_skip et4 (Or.inl (tI_0.mp c_6)) hI4) hl
          · refine zz (fun _ _ => lv_aload_n hx hb dX9_add_49 rfl (lv_at hl 0 rfl)) ?_
            refine zz (fun _ _ => lv_iload_n hx hb dX9_add_50 rfl (lv_at hl 3 rfl)) ?_
            refine zz (fun _ _ => lv_iload_n hx hb dX9_add_51 rfl (lv_at hl 2 rfl)) ?_
            refine zdV (As := [.int (nI (6 * i + j4)), .int (nI w)]) (rest := []) (st' := [.int ((fX9_isLeftOut A4 (nI (6 * i + j4)) (nI w)))]) C hl.1 lk_X9_202 (ctX9_isLeftOut (vp_in_nI (by omega) (by decide)) (vplace_in hw) (vplace_in hw) (vplace_in hw)) rm_0 rfl rfl rfl (Nat.le_of_ble_eq_true rfl) ⟨by decide, by decide, by decide, by decide⟩ dX9_add_52 rfl (fun sz => ?_)
            refine zb (fun _ _ => lv_if_eq (tgt := 61) hx hb dX9_add_55 (by decide)) (fun c_7 => ?_) (fun c_7 => ?_)
            · refine zz (fun _ _ => lv_aload_n hx hb dX9_add_61 rfl (lv_at hl 0 rfl)) ?_
              refine z_get (v := .ref (r + 23)) C fd_X9_77 rm_0 rfl dX9_add_62 ?_
              refine zz (fun _ _ => lv_aload_n hx hb dX9_add_65 rfl (lv_at hl 0 rfl)) ?_
              refine z_get (v := .ref (r + 3)) C fd_X9_16 rm_0 rfl dX9_add_66 ?_
              refine zz (fun _ _ => lv_iload_n hx hb dX9_add_69 rfl (lv_at hl 1 rfl)) ?_
              refine z_iald (f := A4 3) C rm_3 (by first | assumption | (apply vp_in_nI <;> omega)) dX9_add_70 ?_
              refine zval (v' := .int (nI to)) (congrArg Value.int (rdI hto4 (by omega))) ?_
              refine zz (fun _ _ => lv_iconst (v := 1) hx hb dX9_add_71 (by decide)) ?_
              have hnl9 : ¬ lo σ t4 := (left_s hw hV4 hσ hok4 (by omega) hrow4.1 hrow4.2.1 hrow4.2.2.1).mp c_7
              obtain ⟨hf9, S9, m9, e9, hR9, hm9, hk9⟩ := hI4
              have htm9 := ad_term hσ hok4 hnl9
              have hR10 : RC v4 (u1 A4 23 (upd (A4 23) (Int32.toNatClampNeg (nI to)) 1)) (S9.1, tS S9.2.1 to true, S9.2.2) := by rw [nI_clamp (by omega)]; exact RC_set hR9 to
              have hV10 := VW.set (g := upd (A4 23) (Int32.toNatClampNeg (nI to)) 1) hV4
              have hfs9 : FR v4 A4 v4 (u1 A4 23 (upd (A4 23) (Int32.toNatClampNeg (nI to)) 1)) := FR_set
              refine z_zast (f := A4 23) C rm_23 (by first | assumption | (apply vp_in_nI <;> omega)) rfl dX9_add_72 ?_
              refine zeq wm_23 ?_
              refine zz (fun _ _ => lv_aload_n hx hb dX9_add_73 rfl (lv_at hl 0 rfl)) ?_
              refine zz (fun _ _ => lv_aload_n hx hb dX9_add_74 rfl (lv_at hl 0 rfl)) ?_
              refine z_get (v := .ref (r + 6)) C fd_X9_26 rm_0 rfl dX9_add_75 ?_
              refine zz (fun _ _ => lv_iload_n hx hb dX9_add_78 rfl (lv_at hl 3 rfl)) ?_
              refine z_iald (f := A4 6) C rm_6 (by first | assumption | (apply vp_in_nI <;> omega)) dX9_add_79 ?_
              refine zval (v' := .int (t4.1)) (congrArg Value.int (rdI hrow4.1 (by omega))) ?_
              refine zz (fun _ _ => lv_iload_n hx hb dX9_add_80 rfl (lv_at hl 2 rfl)) ?_
              refine zqVI (As := [.int (t4.1), .int (nI w)]) (rest := []) C hl.1 lk_X9_205 (hX9_comes hw hR10 hV10 hm9 hk9 htm9.1) rm_0 rfl rfl rfl (Nat.le_of_ble_eq_true rfl) ⟨by decide, by decide, by decide, by decide⟩ dX9_add_81 (fun w8 v8 A8 sz h8 => ?_)
              refine zeq (M' := (mm aC r v8 A8 R)) rfl ?_
              refine zs (fun _ _ => lv_istore (lv' := [(4, .int (w8)), (0, .ref (r)), (1, .int (nI i)), (2, .int (nI w)), (3, .int (nI (6 * i + j4)))]) hx hb dX9_add_84 hl (by decide) rfl) (fun ls hl => ?_)
              refine zz (fun _ _ => lv_iload hx hb dX9_add_86 (lv_at hl 0 rfl)) ?_
              refine zz (fun _ _ => lv_iconst (v := (-1)) hx hb dX9_add_88 (by decide)) ?_
              refine zbn (fun _ _ => lv_icmp_ne (tgt := 96) hx hb dX9_add_89 (by decide)) (fun c_9 => ?_) (fun c_9 => ?_)
              · obtain ⟨b9, m10, y9, eb9, hy9, ew9, hR11, hm11, hk11⟩ := cms_ok h8 c_9
                refine zz (fun _ _ => lv_aload_n hx hb dX9_add_96 rfl (lv_at hl 1 rfl)) ?_
                refine zz (fun _ _ => lv_aload_n hx hb dX9_add_97 rfl (lv_at hl 1 rfl)) ?_
                refine z_get (v := .ref (r + 8)) C fd_X9_32 rm_0 rfl dX9_add_98 ?_
                refine zz (fun _ _ => lv_iload_n hx hb dX9_add_101 rfl (lv_at hl 4 rfl)) ?_
                refine z_iald (f := A8 8) C rm_8 (by first | assumption | (apply vp_in_nI <;> omega)) dX9_add_102 ?_
                refine zval (v' := .int (t4.2.2.1)) (congrArg Value.int (rdI ((congrFun ((hfs9.trans h8.1).low 8 (by decide)) _).trans hrow4.2.2.1) (by omega))) ?_
                refine zz (fun _ _ => lv_iload_n hx hb dX9_add_103 rfl (lv_at hl 3 rfl)) ?_
                refine zqVI (As := [.int (t4.2.2.1), .int (nI w)]) (rest := []) C hl.1 lk_X9_205 (hX9_comes hw hR11 (hV10.kept h8.1) hm11 hk11 htm9.2.1) rm_0 rfl rfl rfl (Nat.le_of_ble_eq_true rfl) ⟨by decide, by decide, by decide, by decide⟩ dX9_add_104 (fun w10 v10 A10 sz h10 => ?_)
                refine zeq (M' := (mm aC r v10 A10 R)) rfl ?_
                refine zs (fun _ _ => lv_istore (lv' := [(5, .int (w10)), (4, .int (w8)), (0, .ref (r)), (1, .int (nI i)), (2, .int (nI w)), (3, .int (nI (6 * i + j4)))]) hx hb dX9_add_107 hl (by decide) rfl) (fun ls hl => ?_)
                refine zz (fun _ _ => lv_iload hx hb dX9_add_109 (lv_at hl 0 rfl)) ?_
                refine zz (fun _ _ => lv_iconst (v := (-1)) hx hb dX9_add_111 (by decide)) ?_
                refine zb (fun _ _ => lv_icmp_eq (tgt := 147) hx hb dX9_add_112 (by decide)) (fun c_11 => ?_) (fun c_11 => ?_)
                · refine zz (fun _ _ => lv_iconst (v := 0) hx hb dX9_add_147 (by decide)) ?_
                  exact z_zret C hr rfl hlk dX9_add_148 (zpI_mk (a := v10) (b := A10) (ad_no2 et4 e9 (tI_1.mp c_6) hnl9 ((hf9.trans (hfs9.trans h8.1)).trans h10.1) eb9 (by have h9 := cms_no h10 c_11; exact h9)))
                · obtain ⟨b10, m11, z9, ec9, hz9, ew10, hR12, hm12, hk12⟩ := cms_ok h10 c_11
                  have hp9 := htm9.2.2.1
                  have hoc9 : okc (cd y9 (nn (vl σ t4.2.1)) z9) := okc_cd hy9 hp9 hz9
                  refine zz (fun _ _ => lv_aload_n hx hb dX9_add_115 rfl (lv_at hl 2 rfl)) ?_
                  refine zz (fun _ _ => lv_aload_n hx hb dX9_add_116 rfl (lv_at hl 2 rfl)) ?_
                  refine z_get (v := .ref (r + 3)) C fd_X9_16 rm_0 rfl dX9_add_117 ?_
                  refine zz (fun _ _ => lv_iload_n hx hb dX9_add_120 rfl (lv_at hl 3 rfl)) ?_
                  refine z_iald (f := A10 3) C rm_3 (by first | assumption | (apply vp_in_nI <;> omega)) dX9_add_121 ?_
                  refine zval (v' := .int (nI to)) (congrArg Value.int (rdI ((congrFun (((hf9.trans (hfs9.trans h8.1)).trans h10.1).low 3 (by decide)) _).trans hto) (by omega))) ?_
                  refine zz (fun _ _ => lv_iload hx hb dX9_add_122 (lv_at hl 1 rfl)) ?_
                  refine zval (v' := .int (nI (pt (cd y9 (nn (vl σ t4.2.1)) z9) 0))) (congrArg Value.int (ew9.trans (by rw [pt_cd0 (by omega) (by omega)]))) ?_
                  refine zz (fun _ _ => lv_aload_n hx hb dX9_add_124 rfl (lv_at hl 2 rfl)) ?_
                  refine zz (fun _ _ => lv_aload_n hx hb dX9_add_125 rfl (lv_at hl 2 rfl)) ?_
                  refine z_get (v := .ref (r + 35)) C fd_X9_117 rm_0 rfl dX9_add_126 ?_
                  refine zz (fun _ _ => lv_iload_n hx hb dX9_add_129 rfl (lv_at hl 4 rfl)) ?_
                  refine zz (fun _ _ => lv_aload_n hx hb dX9_add_130 rfl (lv_at hl 2 rfl)) ?_
                  refine z_get (v := .ref (r + 7)) C fd_X9_29 rm_0 rfl dX9_add_131 ?_
                  refine zz (fun _ _ => lv_iload_n hx hb dX9_add_134 rfl (lv_at hl 5 rfl)) ?_
                  refine z_iald (f := A10 7) C rm_7 (by first | assumption | (apply vp_in_nI <;> omega)) dX9_add_135 ?_
                  refine zval (v' := .int (t4.2.1)) (congrArg Value.int (rdI ((congrFun (((hfs9.trans h8.1).trans h10.1).low 7 (by decide)) _).trans hrow4.2.1) (by omega))) ?_
                  refine zdV (As := [.ref (r + 35), .int (nI w), .int (t4.2.1)]) (rest := [.int (nI (pt (cd y9 (nn (vl σ t4.2.1)) z9) 0)), .int (nI to), .ref (r)]) (st' := [.int ((fX9_valueInV A10 (nI w) (t4.2.1))), .int (nI (pt (cd y9 (nn (vl σ t4.2.1)) z9) 0)), .int (nI to), .ref (r)]) C hl.1 lk_X9_183 (ctX9_valueInV (vplace_in hw)) rm_0 rfl rfl rfl (Nat.le_of_ble_eq_true rfl) ⟨by decide, by decide, by decide, by decide⟩ dX9_add_136 rfl (fun sz => ?_)
                  refine zval (v' := .int (nI (pt (cd y9 (nn (vl σ t4.2.1)) z9) 1))) (congrArg Value.int (((vin_s hw (VW.kept (hV10.kept h8.1) h10.1) _).trans htm9.2.2.2).trans (by rw [pt_cd1 (by omega) (by omega)]))) ?_
                  refine zz (fun _ _ => lv_iload hx hb dX9_add_139 (lv_at hl 0 rfl)) ?_
                  refine zval (v' := .int (nI (pt (cd y9 (nn (vl σ t4.2.1)) z9) 2))) (congrArg Value.int (ew10.trans (by rw [pt_cd2 (by omega) (by omega)]))) ?_
                  refine zqVI (As := [.int (nI to), .int (nI (pt (cd y9 (nn (vl σ t4.2.1)) z9) 0)), .int (nI (pt (cd y9 (nn (vl σ t4.2.1)) z9) 1)), .int (nI (pt (cd y9 (nn (vl σ t4.2.1)) z9) 2))]) (rest := []) C hl.1 lk_X9_209 (hX9_come hR12 hto7 hoc9 (by simp [tS])) rm_0 rfl rfl rfl (Nat.le_of_ble_eq_true rfl) ⟨by decide, by decide, by decide, by decide⟩ dX9_add_141 (fun w12 v12 A12 sz h12 => ?_)
                  refine zeq (M' := (mm aC r v12 A12 R)) rfl ?_
                  refine zbn (fun _ _ => lv_if_ne (tgt := 149) hx hb dX9_add_144 (by decide)) (fun c_13 => ?_) (fun c_13 => ?_)
                  · refine zs (fun _ _ => lv_iinc (v := nI (6 * i + j4) + 1) (lv' := [(3, .int (nI (6 * i + j4) + 1)), (5, .int (w10)), (4, .int (w8)), (0, .ref (r)), (1, .int (nI i)), (2, .int (nI w))]) hx hb dX9_add_149 hl (k := 5) rfl rfl (by decide) rfl) (fun ls hl => ?_)
                    refine zz (fun _ _ => lv_goto (tgt := 25) hx hb dX9_add_152 (by decide)) ?_
                    have hl := lv_sub hl [3, 4, 5, 0] rfl
                    try simp only [nI_1] at hl
                    obtain ⟨S13, es9, hR13⟩ := cmP_ok h12 c_13
                    exact ih4 (v12, A12) _ _ (ad_ok et4 e9 (tI_1.mp c_6) hnl9 (((hf9.trans (hfs9.trans h8.1)).trans h10.1).trans h12.1) eb9 ec9 es9 hR13 (fun k hk => (congrFun h12.2.1 k).trans (hm12 k hk)) hk12) hl
                  · refine zz (fun _ _ => lv_iconst (v := 0) hx hb dX9_add_147 (by decide)) ?_
                    exact z_zret C hr rfl hlk dX9_add_148 (zpI_mk (a := v12) (b := A12) (ad_no3 et4 e9 (tI_1.mp c_6) hnl9 (((hf9.trans (hfs9.trans h8.1)).trans h10.1).trans h12.1) eb9 ec9 (by have h9 := cmP_no h12 c_13; exact h9)))
              · refine zz (fun _ _ => lv_iconst (v := (-1)) hx hb dX9_add_92 (by decide)) ?_
                refine zz (fun _ _ => lv_goto (tgt := 107) hx hb dX9_add_93 (by decide)) ?_
                refine zs (fun _ _ => lv_istore (lv' := [(5, .int ((-1))), (4, .int (w8)), (0, .ref (r)), (1, .int (nI i)), (2, .int (nI w)), (3, .int (nI (6 * i + j4)))]) hx hb dX9_add_107 hl (by decide) rfl) (fun ls hl => ?_)
                refine zz (fun _ _ => lv_iload hx hb dX9_add_109 (lv_at hl 0 rfl)) ?_
                refine zz (fun _ _ => lv_iconst (v := (-1)) hx hb dX9_add_111 (by decide)) ?_
                refine zb (fun _ _ => lv_icmp_eq (tgt := 147) hx hb dX9_add_112 (by decide)) (fun c_14 => ?_) (fun c_14 => ?_)
                · refine zz (fun _ _ => lv_iconst (v := 0) hx hb dX9_add_147 (by decide)) ?_
                  exact z_zret C hr rfl hlk dX9_add_148 (zpI_mk (a := v8) (b := A8) (ad_no1 et4 e9 (tI_1.mp c_6) hnl9 (hf9.trans (hfs9.trans h8.1)) (by have h9 := cms_no h8 c_9; exact h9)))
                · exact absurd (by decide) c_14
            · refine zz (fun _ _ => lv_goto (tgt := 149) hx hb dX9_add_58 (by decide)) ?_
              refine zs (fun _ _ => lv_iinc (v := nI (6 * i + j4) + 1) (lv' := [(3, .int (nI (6 * i + j4) + 1)), (0, .ref (r)), (1, .int (nI i)), (2, .int (nI w))]) hx hb dX9_add_149 hl (k := 3) rfl rfl (by decide) rfl) (fun ls hl => ?_)
              refine zz (fun _ _ => lv_goto (tgt := 25) hx hb dX9_add_152 (by decide)) ?_
              have hl := lv_sub hl [1, 2, 3, 0] rfl
              try simp only [nI_1] at hl
              exact ih4 (v4, A4) _ _ (ad_skip et4 (Or.inr (Decidable.not_not.mp (fun q => c_7 ((left_s hw hV4 hσ hok4 (by omega) hrow4.1 hrow4.2.1 hrow4.2.2.1).mpr q)))) hI4) hl
      · intro a4 sz ls hI4 hl
        obtain ⟨v4, A4⟩ := a4
        dsimp only at hI4 hl
        refine zeq (M' := (mm aC r v4 A4 R)) rfl ?_
        have hT4 : TRr A4 i ts := hT.kept hI4.1.low
        have hto4 : A4 3 i = nI to := by rw [hI4.1.low 3 (by decide)]; exact hto
        have hV4 := hV.kept hI4.1
        refine zz (fun _ _ => lv_iload_n hx hb dX9_add_25 rfl (lv_at hl 3 rfl)) ?_
        refine zz (fun _ _ => lv_bipush (v := 6) hx hb dX9_add_26 (by decide)) ?_
        refine zz (fun _ _ => lv_iload_n hx hb dX9_add_28 rfl (lv_at hl 1 rfl)) ?_
        refine zz (fun _ _ => lv_imul hx hb dX9_add_29) ?_
        refine zval (v' := .int (nI (6 * i))) (congrArg Value.int (pk_mul 6 i)) ?_
        refine zz (fun _ _ => lv_aload_n hx hb dX9_add_30 rfl (lv_at hl 0 rfl)) ?_
        refine z_get (v := .ref (r + 5)) C fd_X9_23 rm_0 rfl dX9_add_31 ?_
        refine zz (fun _ _ => lv_iload_n hx hb dX9_add_34 rfl (lv_at hl 1 rfl)) ?_
        refine z_iald (f := A4 5) C rm_5 (by first | assumption | (apply vp_in_nI <;> omega)) dX9_add_35 ?_
        refine zval (v' := .int (nI ts.length)) (congrArg Value.int (rdI hT4.1 (by omega))) ?_
        refine zz (fun _ _ => lv_iadd hx hb dX9_add_36) ?_
        refine zval (v' := .int (nI (6 * i + ts.length))) (congrArg Value.int (nI_add _ _)) ?_
        refine zb (fun _ _ => lv_icmp_ge (tgt := 155) hx hb dX9_add_37 (by decide)) (fun c_15 => ?_) (fun c_15 => ?_)
        · refine zz (fun _ _ => lv_iconst (v := 1) hx hb dX9_add_155 (by decide)) ?_
          exact z_zret C hr rfl hlk dX9_add_156 (zpI_mk (a := v4) (b := A4) (ad_end hI4))
        · exact absurd (nI_le (Nat.le_refl _) (by omega)) c_15
    · exact absurd (nI_le (Nat.le_refl _) (by omega)) c_3
end
section
/-! Graphs cleared and dropped, in the reference. -/
def wpP (P : Pd) (to : Int32) (j : Nat) : Pd := fun g c => P g c && !(inTo to g && decide (g < j))
def wpT (T : Nat → Bool) (d : Bool) (to : Int32) (j : Nat) : Nat → Bool := fun g => T g && (!(d && (inTo to g && decide (g < j))) || decide (g = 0))
theorem inTo_a {to : Int32} {j : Nat} (hj : j < 7) (h : to = nI j) : inTo to j = true := by simp [inTo, hj, h]
theorem inTo_b {to : Int32} {j : Nat} (hj : j < 7) (h : to = -1) : inTo to j = true := by simp [inTo, hj, h]
theorem inTo_c {to : Int32} {j : Nat} (hj : j < 7) (h : to = -2) (h2 : ¬ nI j ≤ 0) : inTo to j = true := by
  have : 0 < j := Nat.pos_of_ne_zero (fun e => h2 (by rw [e]; decide))
  simp [inTo, hj, h, this]
theorem inTo_n {to : Int32} {j : Nat} (h1 : ¬ to = nI j) (h2 : ¬ to = -1) (h3 : ¬ to = -2) : inTo to j = false := by simp [inTo, h1, h2, h3]
theorem inTo_m {to : Int32} {j : Nat} (hj : j < 7) (h1 : ¬ to = nI j) (h2 : ¬ to = -1) (h4 : nI j ≤ 0) : inTo to j = false := by
  have : j = 0 := by
    rcases Nat.eq_zero_or_pos j with q | q
    · exact q
    · exact absurd h4 (nI_ge (a := 0) q (by omega))
  subst this
  unfold inTo
  rw [decide_eq_false h1, decide_eq_false h2]
  simp
theorem wp_0 {S : St} {d : Bool} {to : Int32} : (wpP S.1 to 0, wpT S.2.1 d to 0, S.2.2) = S := by
  have e1 : wpP S.1 to 0 = S.1 := by funext g c; simp [wpP]
  have e2 : wpT S.2.1 d to 0 = S.2.1 := by funext g; simp [wpT]
  rw [e1, e2]
theorem wp_7 {S : St} {d : Bool} {to : Int32} : (wpP S.1 to 7, wpT S.2.1 d to 7, S.2.2) = ((fun g c => S.1 g c && !inTo to g, fun g => S.2.1 g && (!(d && inTo to g) || decide (g = 0)), S.2.2) : St) := by
  have e : ∀ g, (inTo to g && decide (g < 7)) = inTo to g := by intro g; unfold inTo; by_cases q : g < 7 <;> simp [q]
  have e1 : wpP S.1 to 7 = fun g c => S.1 g c && !inTo to g := by funext g c; unfold wpP; rw [e]
  have e2 : wpT S.2.1 d to 7 = fun g => S.2.1 g && (!(d && inTo to g) || decide (g = 0)) := by funext g; unfold wpT; rw [e]
  rw [e1, e2]
theorem wp_skip {S : St} {d : Bool} {to : Int32} {j : Nat} (h : inTo to j = false) : (wpP S.1 to (j + 1), wpT S.2.1 d to (j + 1), S.2.2) = (wpP S.1 to j, wpT S.2.1 d to j, S.2.2) := by
  have e : ∀ g, (inTo to g && decide (g < j + 1)) = (inTo to g && decide (g < j)) := by
    intro g
    by_cases q : g = j
    · rw [q, h]; rfl
    · have : (g < j + 1) ↔ g < j := by omega
      simp [this]
  have e1 : wpP S.1 to (j + 1) = wpP S.1 to j := by funext g c; unfold wpP; rw [e]
  have e2 : wpT S.2.1 d to (j + 1) = wpT S.2.1 d to j := by funext g; unfold wpT; rw [e]
  rw [e1, e2]
theorem wp_gone {S : St} {d : Bool} {to : Int32} {j : Nat} (ho : okS S) (h : S.2.1 j = false) : (wpP S.1 to (j + 1), wpT S.2.1 d to (j + 1), S.2.2) = (wpP S.1 to j, wpT S.2.1 d to j, S.2.2) := by
  have hp : ∀ c, S.1 j c = false := fun c => Bool.eq_false_iff.mpr (fun q => by have := ho.2.2.2.2 j c q; rw [h] at this; cases this)
  have e : ∀ g, g ≠ j → (inTo to g && decide (g < j + 1)) = (inTo to g && decide (g < j)) := by
    intro g q
    have : (g < j + 1) ↔ g < j := by omega
    simp [this]
  have e1 : wpP S.1 to (j + 1) = wpP S.1 to j := by
    funext g c; unfold wpP
    by_cases q : g = j
    · rw [q, hp]; rfl
    · rw [e g q]
  have e2 : wpT S.2.1 d to (j + 1) = wpT S.2.1 d to j := by
    funext g; unfold wpT
    by_cases q : g = j
    · rw [q, h]; rfl
    · rw [e g q]
  rw [e1, e2]
theorem wp_do {S : St} {d : Bool} {to : Int32} {j : Nat} (h : inTo to j = true) (ht : S.2.1 j = true) : (wpP S.1 to (j + 1), wpT S.2.1 d to (j + 1), S.2.2) = (pG (wpP S.1 to j) j (fun _ => false), tS (wpT S.2.1 d to j) j (!d || decide (j = 0)), S.2.2) := by
  have e : ∀ g, g ≠ j → (inTo to g && decide (g < j + 1)) = (inTo to g && decide (g < j)) := by
    intro g q
    have : (g < j + 1) ↔ g < j := by omega
    simp [this]
  have e1 : wpP S.1 to (j + 1) = pG (wpP S.1 to j) j (fun _ => false) := by
    funext g c; unfold pG
    by_cases q : g = j
    · rw [if_pos q, q]; unfold wpP; rw [h]; simp
    · rw [if_neg q]; unfold wpP; rw [e g q]
  have e2 : wpT S.2.1 d to (j + 1) = tS (wpT S.2.1 d to j) j (!d || decide (j = 0)) := by
    funext g; unfold tS
    by_cases q : g = j
    · rw [if_pos q, q]; unfold wpT; rw [h, ht]; simp
    · rw [if_neg q]; unfold wpT; rw [e g q]
  rw [e1, e2]
theorem wpT_j {T : Nat → Bool} {d : Bool} {to : Int32} {j : Nat} : wpT T d to j j = T j := by simp [wpT]
theorem RC_setb {v : Nat → Int32} {A : Nat → Nat → Int32} {S : St} (h : RC v A S) (g : Nat) {b : Bool} (hb : b = true ∨ (g ≠ 0 ∧ ∀ c, S.1 g c = false)) : RC v (u1 A 23 (upd (A 23) g (tI b))) (S.1, tS S.2.1 g b, S.2.2) := by
  obtain ⟨ho, n, f, h⟩ := h
  refine ⟨⟨ho.1, ho.2.1, ho.2.2.1, ?_, ?_⟩, n, f, h.1, h.2.1, h.2.2.1, ?_, ?_, h.2.2.2.2.2⟩
  · show tS S.2.1 g b 0 = true
    unfold tS
    split
    · rcases hb with q | q
      · exact q
      · rename_i e; exact absurd e.symm q.1
    · exact ho.2.2.2.1
  · intro g' c' q
    show tS S.2.1 g b g' = true
    unfold tS
    split
    · rename_i e
      rcases hb with r | r
      · exact r
      · have q : S.1 g' c' = true := q
        rw [e, r.2] at q; cases q
    · exact ho.2.2.2.2 g' c' q
  · intro i hi
    simp only [u1]
    exact h.2.2.2.1 i hi
  · intro g' hg'
    have := h.2.2.2.2.1 g' hg'
    simp only [u1, tS, upd]
    by_cases q : g' = g
    · simp [q, upd]
    · simp [q, this, upd]
/-- clearing, graph by graph -/
def wpI (v : Nat → Int32) (A : Nat → Nat → Int32) (S : St) (d : Bool) (to : Int32) (j : Nat) (v' : Nat → Int32) (A' : Nat → Nat → Int32) : Prop := FR v A v' A' ∧ RC v' A' (wpP S.1 to j, wpT S.2.1 d to j, S.2.2)
theorem wpI_set {v v1 v2 : Nat → Int32} {A A1 A2 : Nat → Nat → Int32} {S : St} {d : Bool} {to : Int32} {j : Nat} (hI : wpI v A S d to j v1 A1) (hin : inTo to j = true) (ht : S.2.1 j = true) (hf : FR v1 A1 v2 A2) (hR : RC v2 A2 (pG (wpP S.1 to j) j (fun _ => false), wpT S.2.1 d to j, S.2.2)) {z : Int32} (hz : z = tI (!d || decide (j = 0))) : wpI v A S d to (j + 1) v2 (u1 A2 23 (upd (A2 23) j z)) := by
  refine ⟨(hI.1.trans hf).trans FR_set, ?_⟩
  rw [wp_do hin ht, hz]
  refine RC_setb hR j ?_
  by_cases q : (!d || decide (j = 0)) = true
  · exact Or.inl q
  · refine Or.inr ⟨fun e => q (by simp [e]), fun c => ?_⟩
    show pG (wpP S.1 to j) j (fun _ => false) j c = false
    rw [pG_s]
theorem wp_end {v v' : Nat → Int32} {A A' : Nat → Nat → Int32} {S : St} {d : Bool} {to : Int32} (hR : RC v A S) (h0 : to < 0 ∨ S.2.1 (nn to) = true) (h : wpI v A S d to 7 v' A') : AR v A (aWipe d to S) 0 v' A' := by
  unfold aWipe AR
  rw [if_neg, ← wp_7]
  · exact ⟨rfl, h.1.S, fun _ => ⟨h.2, by show v' 41 = v 41 + nI 0; rw [nI_0, h.1.1 41 (by decide) (by decide)]; simp⟩⟩
  · rintro ⟨q1, q2⟩
    rcases h0 with q | q
    · rw [Int32.lt_iff_toInt_lt] at q
      have : (0 : Int32).toInt = 0 := rfl
      omega
    · rw [q] at q2; cases q2
theorem wp_no {v : Nat → Int32} {A : Nat → Nat → Int32} {S : St} {d : Bool} {to : Int32} (hR : RC v A S) (h0 : ¬ to < 0) (h : tI (S.2.1 (nn to)) = 0) : AR v A (aWipe d to S) 2 v A := by
  unfold aWipe AR
  rw [if_pos]
  · exact ⟨rfl, FS.refl, fun _ => ⟨hR, by show v 41 = v 41 + nI 0; rw [nI_0]; simp⟩⟩
  · refine ⟨?_, tI_0.mp h⟩
    rw [Int32.lt_iff_toInt_lt] at h0
    have : (0 : Int32).toInt = 0 := rfl
    omega
def emP (v : Nat → Int32) (A : Nat → Nat → Int32) (S : St) (g : Nat) (v' : Nat → Int32) (A' : Nat → Nat → Int32) : Prop := FR v A v' A' ∧ RC v' A' (pG S.1 g (fun _ => false), S.2)
theorem hX9_empty {l : Launch} {D : va_G} {aC : Nat → ClassId} {b0 sz r : Nat} {v : Nat → Int32} {A : Nat → Nat → Int32} {R : ZM} {S : St} {g : Nat} (hR : RC v A S) (hg : g < 7) :
    Ct l D aC b0 yX9_empty cX9_empty 3 none 1 0 0 [.ref r, .int (nI g)] (mm aC r v A R) sz (zpN (fun v A => mm aC r v A R) (emP v A S g)) := by
  obtain ⟨n, hs, hn⟩ := RC_n hR
  exact Ct.toN (G := fun v A => mm aC r v A R) (ctX9_empty hs hn) (empty_s hR hg)
end
section
theorem nI_z {j : Nat} (hj : j < 2 ^ 31) (h : nI j = 0) : j = 0 := by
  rcases Nat.eq_zero_or_pos j with q | q
  · exact q
  · exact absurd h (nI_ne0 q hj)
theorem nI_nz {j : Nat} (h : ¬ nI j = 0) : ¬ j = 0 := fun q => h (by rw [q]; rfl)
set_option maxHeartbeats 2000000 in
set_option maxRecDepth 10000 in
theorem hX9_wipe {l : Launch} {D : va_G} {aC : Nat → ClassId} {b0 sz : Nat} {r : Nat} {v : Nat → Int32} {A : Nat → Nat → Int32} {R : ZM} {i : Nat} {to : Int32} {d : Bool} {S : St} (hi : i < 12) (hto : A 3 i = to) (h6 : to.toInt ≤ 6) (hR : RC v A S) : Ct l D aC b0 yX9_wipe cX9_wipe 5 (some .int) 2 0 0 [.ref (r), .int (nI i), .int (tI d)] (mm aC r v A R) sz (zpI (fun v A => mm aC r v A R) (fun w' v' A' => AR v A (aWipe d to S) w' v' A')) := by
  refine Ct.of (by decide) (Nat.le_of_ble_eq_true rfl) ?_
  intro p e s m below meth c ls C hr hlk hnm hl
  have hl : lv_has ls 5 [(0, .ref (r)), (1, .int (nI i)), (2, .int (tI d))] := hl
  obtain ⟨hx, hb, -, -, -⟩ := id C
  have hin7 : ¬ to < 0 → vp_in to 7 := fun q => vp_in_iff.mpr ⟨by rw [Int32.lt_iff_toInt_lt] at q; have : (0 : Int32).toInt = 0 := rfl; omega, by omega⟩
  refine zz (fun _ _ => lv_aload_n hx hb dX9_wipe_0 rfl (lv_at hl 0 rfl)) ?_
  refine z_get (v := .ref (r + 3)) C fd_X9_16 rm_0 rfl dX9_wipe_1 ?_
  refine zz (fun _ _ => lv_iload_n hx hb dX9_wipe_4 rfl (lv_at hl 1 rfl)) ?_
  refine z_iald (f := A 3) C rm_3 (by first | assumption | (apply vp_in_nI <;> omega)) dX9_wipe_5 ?_
  refine zval (v' := .int (to)) (congrArg Value.int (rdI hto (by omega))) ?_
  refine zs (fun _ _ => lv_istore_n (lv' := [(3, .int (to)), (0, .ref (r)), (1, .int (nI i)), (2, .int (tI d))]) hx hb dX9_wipe_6 rfl hl (by decide) rfl) (fun ls hl => ?_)
  refine zz (fun _ _ => lv_iload_n hx hb dX9_wipe_7 rfl (lv_at hl 0 rfl)) ?_
  refine zb (fun _ _ => lv_if_lt (tgt := 22) hx hb dX9_wipe_8 (by decide)) (fun c_1 => ?_) (fun c_1 => ?_)
  · refine zz (fun _ _ => lv_iconst (v := 0) hx hb dX9_wipe_22 (by decide)) ?_
    refine zs (fun _ _ => lv_istore (lv' := [(4, .int (0)), (3, .int (to)), (0, .ref (r)), (1, .int (nI i)), (2, .int (tI d))]) hx hb dX9_wipe_23 hl (by decide) rfl) (fun ls hl => ?_)
    have hl0 := lv_sub hl [2, 3, 4, 1, 0] rfl
    refine z_loop (γ := (Nat → Int32) × (Nat → Nat → Int32)) (G := fun a => mm aC r a.1 a.2 R) (I := fun j a => wpI v A S d to j a.1 a.2) (lv := fun j a => [(0, .ref (r)), (1, .int (nI i)), (2, .int (tI d)), (3, .int (to)), (4, .int (nI (j)))]) (7) ?_ ?_ (v, A) _ _ ⟨FR.refl, by rw [wp_0]; exact hR⟩ hl0
    · intro j2 a2 sz ls hj2 hI2 hl ih2
      obtain ⟨v2, A2⟩ := a2
      dsimp only at hI2 hl ih2
      refine zeq (M' := (mm aC r v2 A2 R)) rfl ?_
      refine zz (fun _ _ => lv_iload hx hb dX9_wipe_25 (lv_at hl 4 rfl)) ?_
      refine zz (fun _ _ => lv_bipush (v := 7) hx hb dX9_wipe_27 (by decide)) ?_
      refine zval (v' := .int (nI 7)) (congrArg Value.int rfl) ?_
      refine zb (fun _ _ => lv_icmp_ge (tgt := 97) hx hb dX9_wipe_29 (by decide)) (fun c_3 => ?_) (fun c_3 => ?_)
      · exact absurd c_3 (nI_ge (by omega) (by omega))
      · refine zz (fun _ _ => lv_aload_n hx hb dX9_wipe_32 rfl (lv_at hl 0 rfl)) ?_
        refine z_get (v := .ref (r + 23)) C fd_X9_77 rm_0 rfl dX9_wipe_33 ?_
        refine zz (fun _ _ => lv_iload hx hb dX9_wipe_36 (lv_at hl 4 rfl)) ?_
        refine z_zald (f := A2 23) C rm_23 (by first | assumption | (apply vp_in_nI <;> omega)) dX9_wipe_38 ?_
        refine zval (v' := .int (tI (S.2.1 j2))) (congrArg Value.int ((rdI (RC_there hI2.2 hj2) (by omega)).trans (by show tI (wpT _ _ _ _ _) = _; rw [wpT_j]))) ?_
        refine zb (fun _ _ => lv_if_eq (tgt := 91) hx hb dX9_wipe_39 (by decide)) (fun c_4 => ?_) (fun c_4 => ?_)
        · refine zs (fun _ _ => lv_iinc (v := nI (j2) + 1) (lv' := [(4, .int (nI (j2) + 1)), (0, .ref (r)), (1, .int (nI i)), (2, .int (tI d)), (3, .int (to))]) hx hb dX9_wipe_91 hl (k := 4) rfl rfl (by decide) rfl) (fun ls hl => ?_)
          refine zz (fun _ _ => lv_goto (tgt := 25) hx hb dX9_wipe_94 (by decide)) ?_
          have hl := lv_sub hl [1, 2, 3, 4, 0] rfl
          try simp only [nI_1] at hl
          exact ih2 (v2, A2) _ _ (by show wpI v A S d to (j2 + 1) _ _; unfold wpI; rw [wp_gone hR.1 (tI_0.mp c_4)]; exact hI2) hl
        · refine zz (fun _ _ => lv_iload_n hx hb dX9_wipe_42 rfl (lv_at hl 3 rfl)) ?_
          refine zz (fun _ _ => lv_iload hx hb dX9_wipe_43 (lv_at hl 4 rfl)) ?_
          refine zb (fun _ _ => lv_icmp_eq (tgt := 64) hx hb dX9_wipe_45 (by decide)) (fun c_5 => ?_) (fun c_5 => ?_)
          · refine zz (fun _ _ => lv_aload_n hx hb dX9_wipe_64 rfl (lv_at hl 0 rfl)) ?_
            refine zz (fun _ _ => lv_iload hx hb dX9_wipe_65 (lv_at hl 4 rfl)) ?_
            refine zqVN (As := [.int (nI (j2))]) (rest := []) C hl.1 lk_X9_171 (hX9_empty hI2.2 hj2) rm_0 rfl rfl rfl (Nat.le_of_ble_eq_true rfl) ⟨by decide, by decide, by decide, by decide⟩ dX9_wipe_67 (fun v6 A6 sz h6 => ?_)
            refine zeq (M' := (mm aC r v6 A6 R)) rfl ?_
            refine zz (fun _ _ => lv_aload_n hx hb dX9_wipe_70 rfl (lv_at hl 0 rfl)) ?_
            refine z_get (v := .ref (r + 23)) C fd_X9_77 rm_0 rfl dX9_wipe_71 ?_
            refine zz (fun _ _ => lv_iload hx hb dX9_wipe_74 (lv_at hl 4 rfl)) ?_
            refine zz (fun _ _ => lv_iload_n hx hb dX9_wipe_76 rfl (lv_at hl 2 rfl)) ?_
            refine zb (fun _ _ => lv_if_eq (tgt := 85) hx hb dX9_wipe_77 (by decide)) (fun c_7 => ?_) (fun c_7 => ?_)
            · refine zz (fun _ _ => lv_iconst (v := 1) hx hb dX9_wipe_85 (by decide)) ?_
              refine zz (fun _ _ => lv_goto (tgt := 90) hx hb dX9_wipe_86 (by decide)) ?_
              refine z_zast (f := A6 23) C rm_23 (by first | assumption | (apply vp_in_nI <;> omega)) rfl dX9_wipe_90 ?_
              refine zeq wm_23 ?_
              refine zs (fun _ _ => lv_iinc (v := nI (j2) + 1) (lv' := [(4, .int (nI (j2) + 1)), (0, .ref (r)), (1, .int (nI i)), (2, .int (tI d)), (3, .int (to))]) hx hb dX9_wipe_91 hl (k := 4) rfl rfl (by decide) rfl) (fun ls hl => ?_)
              refine zz (fun _ _ => lv_goto (tgt := 25) hx hb dX9_wipe_94 (by decide)) ?_
              have hl := lv_sub hl [1, 2, 3, 4, 0] rfl
              try simp only [nI_1] at hl
              exact ih2 (v6, (u1 A6 23 (upd (A6 23) (Int32.toNatClampNeg (nI (j2))) (1)))) _ _ (by rw [nI_clamp (by omega)]; exact wpI_set hI2 (inTo_a hj2 c_5) (tI_1.mp c_4) h6.1 h6.2 (by rw [tI_0.mp c_7]; rfl)) hl
            · refine zz (fun _ _ => lv_iload hx hb dX9_wipe_80 (lv_at hl 4 rfl)) ?_
              refine zbn (fun _ _ => lv_if_ne (tgt := 89) hx hb dX9_wipe_82 (by decide)) (fun c_8 => ?_) (fun c_8 => ?_)
              · refine zz (fun _ _ => lv_iconst (v := 0) hx hb dX9_wipe_89 (by decide)) ?_
                refine z_zast (f := A6 23) C rm_23 (by first | assumption | (apply vp_in_nI <;> omega)) rfl dX9_wipe_90 ?_
                refine zeq wm_23 ?_
                refine zs (fun _ _ => lv_iinc (v := nI (j2) + 1) (lv' := [(4, .int (nI (j2) + 1)), (0, .ref (r)), (1, .int (nI i)), (2, .int (tI d)), (3, .int (to))]) hx hb dX9_wipe_91 hl (k := 4) rfl rfl (by decide) rfl) (fun ls hl => ?_)
                refine zz (fun _ _ => lv_goto (tgt := 25) hx hb dX9_wipe_94 (by decide)) ?_
                have hl := lv_sub hl [1, 2, 3, 4, 0] rfl
                try simp only [nI_1] at hl
                exact ih2 (v6, (u1 A6 23 (upd (A6 23) (Int32.toNatClampNeg (nI (j2))) (0)))) _ _ (by rw [nI_clamp (by omega)]; exact wpI_set hI2 (inTo_a hj2 c_5) (tI_1.mp c_4) h6.1 h6.2 (by rw [tI_1.mp c_7]; simp [tI, nI_nz c_8])) hl
              · refine zz (fun _ _ => lv_iconst (v := 1) hx hb dX9_wipe_85 (by decide)) ?_
                refine zz (fun _ _ => lv_goto (tgt := 90) hx hb dX9_wipe_86 (by decide)) ?_
                refine z_zast (f := A6 23) C rm_23 (by first | assumption | (apply vp_in_nI <;> omega)) rfl dX9_wipe_90 ?_
                refine zeq wm_23 ?_
                refine zs (fun _ _ => lv_iinc (v := nI (j2) + 1) (lv' := [(4, .int (nI (j2) + 1)), (0, .ref (r)), (1, .int (nI i)), (2, .int (tI d)), (3, .int (to))]) hx hb dX9_wipe_91 hl (k := 4) rfl rfl (by decide) rfl) (fun ls hl => ?_)
                refine zz (fun _ _ => lv_goto (tgt := 25) hx hb dX9_wipe_94 (by decide)) ?_
                have hl := lv_sub hl [1, 2, 3, 4, 0] rfl
                try simp only [nI_1] at hl
                exact ih2 (v6, (u1 A6 23 (upd (A6 23) (Int32.toNatClampNeg (nI (j2))) (1)))) _ _ (by rw [nI_clamp (by omega)]; exact wpI_set hI2 (inTo_a hj2 c_5) (tI_1.mp c_4) h6.1 h6.2 (by rw [tI_1.mp c_7, show j2 = 0 from nI_z (by omega) c_8]; rfl)) hl
          · refine zz (fun _ _ => lv_iload_n hx hb dX9_wipe_48 rfl (lv_at hl 3 rfl)) ?_
            refine zz (fun _ _ => lv_iconst (v := (-1)) hx hb dX9_wipe_49 (by decide)) ?_
            refine zb (fun _ _ => lv_icmp_eq (tgt := 64) hx hb dX9_wipe_50 (by decide)) (fun c_9 => ?_) (fun c_9 => ?_)
            · refine zz (fun _ _ => lv_aload_n hx hb dX9_wipe_64 rfl (lv_at hl 0 rfl)) ?_
              refine zz (fun _ _ => lv_iload hx hb dX9_wipe_65 (lv_at hl 4 rfl)) ?_
              refine zqVN (As := [.int (nI (j2))]) (rest := []) C hl.1 lk_X9_171 (hX9_empty hI2.2 hj2) rm_0 rfl rfl rfl (Nat.le_of_ble_eq_true rfl) ⟨by decide, by decide, by decide, by decide⟩ dX9_wipe_67 (fun v10 A10 sz h10 => ?_)
              refine zeq (M' := (mm aC r v10 A10 R)) rfl ?_
              refine zz (fun _ _ => lv_aload_n hx hb dX9_wipe_70 rfl (lv_at hl 0 rfl)) ?_
              refine z_get (v := .ref (r + 23)) C fd_X9_77 rm_0 rfl dX9_wipe_71 ?_
              refine zz (fun _ _ => lv_iload hx hb dX9_wipe_74 (lv_at hl 4 rfl)) ?_
              refine zz (fun _ _ => lv_iload_n hx hb dX9_wipe_76 rfl (lv_at hl 2 rfl)) ?_
              refine zb (fun _ _ => lv_if_eq (tgt := 85) hx hb dX9_wipe_77 (by decide)) (fun c_11 => ?_) (fun c_11 => ?_)
              · refine zz (fun _ _ => lv_iconst (v := 1) hx hb dX9_wipe_85 (by decide)) ?_
                refine zz (fun _ _ => lv_goto (tgt := 90) hx hb dX9_wipe_86 (by decide)) ?_
                refine z_zast (f := A10 23) C rm_23 (by first | assumption | (apply vp_in_nI <;> omega)) rfl dX9_wipe_90 ?_
                refine zeq wm_23 ?_
                refine zs (fun _ _ => lv_iinc (v := nI (j2) + 1) (lv' := [(4, .int (nI (j2) + 1)), (0, .ref (r)), (1, .int (nI i)), (2, .int (tI d)), (3, .int (to))]) hx hb dX9_wipe_91 hl (k := 4) rfl rfl (by decide) rfl) (fun ls hl => ?_)
                refine zz (fun _ _ => lv_goto (tgt := 25) hx hb dX9_wipe_94 (by decide)) ?_
                have hl := lv_sub hl [1, 2, 3, 4, 0] rfl
                try simp only [nI_1] at hl
                exact ih2 (v10, (u1 A10 23 (upd (A10 23) (Int32.toNatClampNeg (nI (j2))) (1)))) _ _ (by rw [nI_clamp (by omega)]; exact wpI_set hI2 (inTo_b hj2 c_9) (tI_1.mp c_4) h10.1 h10.2 (by rw [tI_0.mp c_11]; rfl)) hl
              · refine zz (fun _ _ => lv_iload hx hb dX9_wipe_80 (lv_at hl 4 rfl)) ?_
                refine zbn (fun _ _ => lv_if_ne (tgt := 89) hx hb dX9_wipe_82 (by decide)) (fun c_12 => ?_) (fun c_12 => ?_)
                · refine zz (fun _ _ => lv_iconst (v := 0) hx hb dX9_wipe_89 (by decide)) ?_
                  refine z_zast (f := A10 23) C rm_23 (by first | assumption | (apply vp_in_nI <;> omega)) rfl dX9_wipe_90 ?_
                  refine zeq wm_23 ?_
                  refine zs (fun _ _ => lv_iinc (v := nI (j2) + 1) (lv' := [(4, .int (nI (j2) + 1)), (0, .ref (r)), (1, .int (nI i)), (2, .int (tI d)), (3, .int (to))]) hx hb dX9_wipe_91 hl (k := 4) rfl rfl (by decide) rfl) (fun ls hl => ?_)
                  refine zz (fun _ _ => lv_goto (tgt := 25) hx hb dX9_wipe_94 (by decide)) ?_
                  have hl := lv_sub hl [1, 2, 3, 4, 0] rfl
                  try simp only [nI_1] at hl
                  exact ih2 (v10, (u1 A10 23 (upd (A10 23) (Int32.toNatClampNeg (nI (j2))) (0)))) _ _ (by rw [nI_clamp (by omega)]; exact wpI_set hI2 (inTo_b hj2 c_9) (tI_1.mp c_4) h10.1 h10.2 (by rw [tI_1.mp c_11]; simp [tI, nI_nz c_12])) hl
                · refine zz (fun _ _ => lv_iconst (v := 1) hx hb dX9_wipe_85 (by decide)) ?_
                  refine zz (fun _ _ => lv_goto (tgt := 90) hx hb dX9_wipe_86 (by decide)) ?_
                  refine z_zast (f := A10 23) C rm_23 (by first | assumption | (apply vp_in_nI <;> omega)) rfl dX9_wipe_90 ?_
                  refine zeq wm_23 ?_
                  refine zs (fun _ _ => lv_iinc (v := nI (j2) + 1) (lv' := [(4, .int (nI (j2) + 1)), (0, .ref (r)), (1, .int (nI i)), (2, .int (tI d)), (3, .int (to))]) hx hb dX9_wipe_91 hl (k := 4) rfl rfl (by decide) rfl) (fun ls hl => ?_)
                  refine zz (fun _ _ => lv_goto (tgt := 25) hx hb dX9_wipe_94 (by decide)) ?_
                  have hl := lv_sub hl [1, 2, 3, 4, 0] rfl
                  try simp only [nI_1] at hl
                  exact ih2 (v10, (u1 A10 23 (upd (A10 23) (Int32.toNatClampNeg (nI (j2))) (1)))) _ _ (by rw [nI_clamp (by omega)]; exact wpI_set hI2 (inTo_b hj2 c_9) (tI_1.mp c_4) h10.1 h10.2 (by rw [tI_1.mp c_11, show j2 = 0 from nI_z (by omega) c_12]; rfl)) hl
            · refine zz (fun _ _ => lv_iload_n hx hb dX9_wipe_53 rfl (lv_at hl 3 rfl)) ?_
              refine zz (fun _ _ => lv_bipush (v := (-2)) hx hb dX9_wipe_54 (by decide)) ?_
              refine zbn (fun _ _ => lv_icmp_ne (tgt := 91) hx hb dX9_wipe_56 (by decide)) (fun c_13 => ?_) (fun c_13 => ?_)
              · refine zs (fun _ _ => lv_iinc (v := nI (j2) + 1) (lv' := [(4, .int (nI (j2) + 1)), (0, .ref (r)), (1, .int (nI i)), (2, .int (tI d)), (3, .int (to))]) hx hb dX9_wipe_91 hl (k := 4) rfl rfl (by decide) rfl) (fun ls hl => ?_)
                refine zz (fun _ _ => lv_goto (tgt := 25) hx hb dX9_wipe_94 (by decide)) ?_
                have hl := lv_sub hl [1, 2, 3, 4, 0] rfl
                try simp only [nI_1] at hl
                exact ih2 (v2, A2) _ _ (by show wpI v A S d to (j2 + 1) _ _; unfold wpI; rw [wp_skip (inTo_n c_5 c_9 c_13)]; exact hI2) hl
              · refine zz (fun _ _ => lv_iload hx hb dX9_wipe_59 (lv_at hl 4 rfl)) ?_
                refine zb (fun _ _ => lv_if_le (tgt := 91) hx hb dX9_wipe_61 (by decide)) (fun c_14 => ?_) (fun c_14 => ?_)
                · refine zs (fun _ _ => lv_iinc (v := nI (j2) + 1) (lv' := [(4, .int (nI (j2) + 1)), (0, .ref (r)), (1, .int (nI i)), (2, .int (tI d)), (3, .int (to))]) hx hb dX9_wipe_91 hl (k := 4) rfl rfl (by decide) rfl) (fun ls hl => ?_)
                  refine zz (fun _ _ => lv_goto (tgt := 25) hx hb dX9_wipe_94 (by decide)) ?_
                  have hl := lv_sub hl [1, 2, 3, 4, 0] rfl
                  try simp only [nI_1] at hl
                  exact ih2 (v2, A2) _ _ (by show wpI v A S d to (j2 + 1) _ _; unfold wpI; rw [wp_skip (inTo_m hj2 c_5 c_9 c_14)]; exact hI2) hl
                · refine zz (fun _ _ => lv_aload_n hx hb dX9_wipe_64 rfl (lv_at hl 0 rfl)) ?_
                  refine zz (fun _ _ => lv_iload hx hb dX9_wipe_65 (lv_at hl 4 rfl)) ?_
                  refine zqVN (As := [.int (nI (j2))]) (rest := []) C hl.1 lk_X9_171 (hX9_empty hI2.2 hj2) rm_0 rfl rfl rfl (Nat.le_of_ble_eq_true rfl) ⟨by decide, by decide, by decide, by decide⟩ dX9_wipe_67 (fun v15 A15 sz h15 => ?_)
                  refine zeq (M' := (mm aC r v15 A15 R)) rfl ?_
                  refine zz (fun _ _ => lv_aload_n hx hb dX9_wipe_70 rfl (lv_at hl 0 rfl)) ?_
                  refine z_get (v := .ref (r + 23)) C fd_X9_77 rm_0 rfl dX9_wipe_71 ?_
                  refine zz (fun _ _ => lv_iload hx hb dX9_wipe_74 (lv_at hl 4 rfl)) ?_
                  refine zz (fun _ _ => lv_iload_n hx hb dX9_wipe_76 rfl (lv_at hl 2 rfl)) ?_
                  refine zb (fun _ _ => lv_if_eq (tgt := 85) hx hb dX9_wipe_77 (by decide)) (fun c_16 => ?_) (fun c_16 => ?_)
                  · refine zz (fun _ _ => lv_iconst (v := 1) hx hb dX9_wipe_85 (by decide)) ?_
                    refine zz (fun _ _ => lv_goto (tgt := 90) hx hb dX9_wipe_86 (by decide)) ?_
                    refine z_zast (f := A15 23) C rm_23 (by first | assumption | (apply vp_in_nI <;> omega)) rfl dX9_wipe_90 ?_
                    refine zeq wm_23 ?_
                    refine zs (fun _ _ => lv_iinc (v := nI (j2) + 1) (lv' := [(4, .int (nI (j2) + 1)), (0, .ref (r)), (1, .int (nI i)), (2, .int (tI d)), (3, .int (to))]) hx hb dX9_wipe_91 hl (k := 4) rfl rfl (by decide) rfl) (fun ls hl => ?_)
                    refine zz (fun _ _ => lv_goto (tgt := 25) hx hb dX9_wipe_94 (by decide)) ?_
                    have hl := lv_sub hl [1, 2, 3, 4, 0] rfl
                    try simp only [nI_1] at hl
                    exact ih2 (v15, (u1 A15 23 (upd (A15 23) (Int32.toNatClampNeg (nI (j2))) (1)))) _ _ (by rw [nI_clamp (by omega)]; exact wpI_set hI2 (inTo_c hj2 c_13 c_14) (tI_1.mp c_4) h15.1 h15.2 (by rw [tI_0.mp c_16]; rfl)) hl
                  · refine zz (fun _ _ => lv_iload hx hb dX9_wipe_80 (lv_at hl 4 rfl)) ?_
                    refine zbn (fun _ _ => lv_if_ne (tgt := 89) hx hb dX9_wipe_82 (by decide)) (fun c_17 => ?_) (fun c_17 => ?_)
                    · refine zz (fun _ _ => lv_iconst (v := 0) hx hb dX9_wipe_89 (by decide)) ?_
                      refine z_zast (f := A15 23) C rm_23 (by first | assumption | (apply vp_in_nI <;> omega)) rfl dX9_wipe_90 ?_
                      refine zeq wm_23 ?_
                      refine zs (fun _ _ => lv_iinc (v := nI (j2) + 1) (lv' := [(4, .int (nI (j2) + 1)), (0, .ref (r)), (1, .int (nI i)), (2, .int (tI d)), (3, .int (to))]) hx hb dX9_wipe_91 hl (k := 4) rfl rfl (by decide) rfl) (fun ls hl => ?_)
                      refine zz (fun _ _ => lv_goto (tgt := 25) hx hb dX9_wipe_94 (by decide)) ?_
                      have hl := lv_sub hl [1, 2, 3, 4, 0] rfl
                      try simp only [nI_1] at hl
                      exact ih2 (v15, (u1 A15 23 (upd (A15 23) (Int32.toNatClampNeg (nI (j2))) (0)))) _ _ (by rw [nI_clamp (by omega)]; exact wpI_set hI2 (inTo_c hj2 c_13 c_14) (tI_1.mp c_4) h15.1 h15.2 (by rw [tI_1.mp c_16]; simp [tI, nI_nz c_17])) hl
                    · refine zz (fun _ _ => lv_iconst (v := 1) hx hb dX9_wipe_85 (by decide)) ?_
                      refine zz (fun _ _ => lv_goto (tgt := 90) hx hb dX9_wipe_86 (by decide)) ?_
                      refine z_zast (f := A15 23) C rm_23 (by first | assumption | (apply vp_in_nI <;> omega)) rfl dX9_wipe_90 ?_
                      refine zeq wm_23 ?_
                      refine zs (fun _ _ => lv_iinc (v := nI (j2) + 1) (lv' := [(4, .int (nI (j2) + 1)), (0, .ref (r)), (1, .int (nI i)), (2, .int (tI d)), (3, .int (to))]) hx hb dX9_wipe_91 hl (k := 4) rfl rfl (by decide) rfl) (fun ls hl => ?_)
                      refine zz (fun _ _ => lv_goto (tgt := 25) hx hb dX9_wipe_94 (by decide)) ?_
                      have hl := lv_sub hl [1, 2, 3, 4, 0] rfl
                      try simp only [nI_1] at hl
                      exact ih2 (v15, (u1 A15 23 (upd (A15 23) (Int32.toNatClampNeg (nI (j2))) (1)))) _ _ (by rw [nI_clamp (by omega)]; exact wpI_set hI2 (inTo_c hj2 c_13 c_14) (tI_1.mp c_4) h15.1 h15.2 (by rw [tI_1.mp c_16, show j2 = 0 from nI_z (by omega) c_17]; rfl)) hl
    · intro a2 sz ls hI2 hl
      obtain ⟨v2, A2⟩ := a2
      dsimp only at hI2 hl
      refine zeq (M' := (mm aC r v2 A2 R)) rfl ?_
      refine zz (fun _ _ => lv_iload hx hb dX9_wipe_25 (lv_at hl 4 rfl)) ?_
      refine zz (fun _ _ => lv_bipush (v := 7) hx hb dX9_wipe_27 (by decide)) ?_
      refine zval (v' := .int (nI 7)) (congrArg Value.int rfl) ?_
      refine zb (fun _ _ => lv_icmp_ge (tgt := 97) hx hb dX9_wipe_29 (by decide)) (fun c_18 => ?_) (fun c_18 => ?_)
      · refine zz (fun _ _ => lv_iconst (v := 0) hx hb dX9_wipe_97 (by decide)) ?_
        exact z_iret C hr hlk dX9_wipe_98 (zpI_mk (a := v2) (b := A2) (wp_end hR (Or.inl c_1) hI2))
      · exact absurd (nI_le (Nat.le_refl _) (by omega)) c_18
  · refine zz (fun _ _ => lv_aload_n hx hb dX9_wipe_11 rfl (lv_at hl 1 rfl)) ?_
    refine z_get (v := .ref (r + 23)) C fd_X9_77 rm_0 rfl dX9_wipe_12 ?_
    refine zz (fun _ _ => lv_iload_n hx hb dX9_wipe_15 rfl (lv_at hl 0 rfl)) ?_
    refine z_zald (f := A 23) C rm_23 (hin7 c_1) dX9_wipe_16 ?_
    refine zval (v' := .int (tI (S.2.1 (nn to)))) (congrArg Value.int (RC_there hR (vin_lt (hin7 c_1)))) ?_
    refine zbn (fun _ _ => lv_if_ne (tgt := 22) hx hb dX9_wipe_17 (by decide)) (fun c_19 => ?_) (fun c_19 => ?_)
    · refine zz (fun _ _ => lv_iconst (v := 0) hx hb dX9_wipe_22 (by decide)) ?_
      refine zs (fun _ _ => lv_istore (lv' := [(4, .int (0)), (3, .int (to)), (0, .ref (r)), (1, .int (nI i)), (2, .int (tI d))]) hx hb dX9_wipe_23 hl (by decide) rfl) (fun ls hl => ?_)
      have hl0 := lv_sub hl [2, 3, 4, 1, 0] rfl
      refine z_loop (γ := (Nat → Int32) × (Nat → Nat → Int32)) (G := fun a => mm aC r a.1 a.2 R) (I := fun j a => wpI v A S d to j a.1 a.2) (lv := fun j a => [(0, .ref (r)), (1, .int (nI i)), (2, .int (tI d)), (3, .int (to)), (4, .int (nI (j)))]) (7) ?_ ?_ (v, A) _ _ ⟨FR.refl, by rw [wp_0]; exact hR⟩ hl0
      · intro j20 a20 sz ls hj20 hI20 hl ih20
        obtain ⟨v20, A20⟩ := a20
        dsimp only at hI20 hl ih20
        refine zeq (M' := (mm aC r v20 A20 R)) rfl ?_
        refine zz (fun _ _ => lv_iload hx hb dX9_wipe_25 (lv_at hl 4 rfl)) ?_
        refine zz (fun _ _ => lv_bipush (v := 7) hx hb dX9_wipe_27 (by decide)) ?_
        refine zval (v' := .int (nI 7)) (congrArg Value.int rfl) ?_
        refine zb (fun _ _ => lv_icmp_ge (tgt := 97) hx hb dX9_wipe_29 (by decide)) (fun c_21 => ?_) (fun c_21 => ?_)
        · exact absurd c_21 (nI_ge (by omega) (by omega))
        · refine zz (fun _ _ => lv_aload_n hx hb dX9_wipe_32 rfl (lv_at hl 0 rfl)) ?_
          refine z_get (v := .ref (r + 23)) C fd_X9_77 rm_0 rfl dX9_wipe_33 ?_
          refine zz (fun _ _ => lv_iload hx hb dX9_wipe_36 (lv_at hl 4 rfl)) ?_
          refine z_zald (f := A20 23) C rm_23 (by first | assumption | (apply vp_in_nI <;> omega)) dX9_wipe_38 ?_
          refine zval (v' := .int (tI (S.2.1 j20))) (congrArg Value.int ((rdI (RC_there hI20.2 hj20) (by omega)).trans (by show tI (wpT _ _ _ _ _) = _; rw [wpT_j]))) ?_
          refine zb (fun _ _ => lv_if_eq (tgt := 91) hx hb dX9_wipe_39 (by decide)) (fun c_22 => ?_) (fun c_22 => ?_)
          · refine zs (fun _ _ => lv_iinc (v := nI (j20) + 1) (lv' := [(4, .int (nI (j20) + 1)), (0, .ref (r)), (1, .int (nI i)), (2, .int (tI d)), (3, .int (to))]) hx hb dX9_wipe_91 hl (k := 4) rfl rfl (by decide) rfl) (fun ls hl => ?_)
            refine zz (fun _ _ => lv_goto (tgt := 25) hx hb dX9_wipe_94 (by decide)) ?_
            have hl := lv_sub hl [1, 2, 3, 4, 0] rfl
            try simp only [nI_1] at hl
            exact ih20 (v20, A20) _ _ (by show wpI v A S d to (j20 + 1) _ _; unfold wpI; rw [wp_gone hR.1 (tI_0.mp c_22)]; exact hI20) hl
          · refine zz (fun _ _ => lv_iload_n hx hb dX9_wipe_42 rfl (lv_at hl 3 rfl)) ?_
            refine zz (fun _ _ => lv_iload hx hb dX9_wipe_43 (lv_at hl 4 rfl)) ?_
            refine zb (fun _ _ => lv_icmp_eq (tgt := 64) hx hb dX9_wipe_45 (by decide)) (fun c_23 => ?_) (fun c_23 => ?_)
            · refine zz (fun _ _ => lv_aload_n hx hb dX9_wipe_64 rfl (lv_at hl 0 rfl)) ?_
              refine zz (fun _ _ => lv_iload hx hb dX9_wipe_65 (lv_at hl 4 rfl)) ?_
              refine zqVN (As := [.int (nI (j20))]) (rest := []) C hl.1 lk_X9_171 (hX9_empty hI20.2 hj20) rm_0 rfl rfl rfl (Nat.le_of_ble_eq_true rfl) ⟨by decide, by decide, by decide, by decide⟩ dX9_wipe_67 (fun v24 A24 sz h24 => ?_)
              refine zeq (M' := (mm aC r v24 A24 R)) rfl ?_
              refine zz (fun _ _ => lv_aload_n hx hb dX9_wipe_70 rfl (lv_at hl 0 rfl)) ?_
              refine z_get (v := .ref (r + 23)) C fd_X9_77 rm_0 rfl dX9_wipe_71 ?_
              refine zz (fun _ _ => lv_iload hx hb dX9_wipe_74 (lv_at hl 4 rfl)) ?_
              refine zz (fun _ _ => lv_iload_n hx hb dX9_wipe_76 rfl (lv_at hl 2 rfl)) ?_
              refine zb (fun _ _ => lv_if_eq (tgt := 85) hx hb dX9_wipe_77 (by decide)) (fun c_25 => ?_) (fun c_25 => ?_)
              · refine zz (fun _ _ => lv_iconst (v := 1) hx hb dX9_wipe_85 (by decide)) ?_
                refine zz (fun _ _ => lv_goto (tgt := 90) hx hb dX9_wipe_86 (by decide)) ?_
                refine z_zast (f := A24 23) C rm_23 (by first | assumption | (apply vp_in_nI <;> omega)) rfl dX9_wipe_90 ?_
                refine zeq wm_23 ?_
                refine zs (fun _ _ => lv_iinc (v := nI (j20) + 1) (lv' := [(4, .int (nI (j20) + 1)), (0, .ref (r)), (1, .int (nI i)), (2, .int (tI d)), (3, .int (to))]) hx hb dX9_wipe_91 hl (k := 4) rfl rfl (by decide) rfl) (fun ls hl => ?_)
                refine zz (fun _ _ => lv_goto (tgt := 25) hx hb dX9_wipe_94 (by decide)) ?_
                have hl := lv_sub hl [1, 2, 3, 4, 0] rfl
                try simp only [nI_1] at hl
                exact ih20 (v24, (u1 A24 23 (upd (A24 23) (Int32.toNatClampNeg (nI (j20))) (1)))) _ _ (by rw [nI_clamp (by omega)]; exact wpI_set hI20 (inTo_a hj20 c_23) (tI_1.mp c_22) h24.1 h24.2 (by rw [tI_0.mp c_25]; rfl)) hl
              · refine zz (fun _ _ => lv_iload hx hb dX9_wipe_80 (lv_at hl 4 rfl)) ?_
                refine zbn (fun _ _ => lv_if_ne (tgt := 89) hx hb dX9_wipe_82 (by decide)) (fun c_26 => ?_) (fun c_26 => ?_)
                · refine zz (fun _ _ => lv_iconst (v := 0) hx hb dX9_wipe_89 (by decide)) ?_
                  refine z_zast (f := A24 23) C rm_23 (by first | assumption | (apply vp_in_nI <;> omega)) rfl dX9_wipe_90 ?_
                  refine zeq wm_23 ?_
                  refine zs (fun _ _ => lv_iinc (v := nI (j20) + 1) (lv' := [(4, .int (nI (j20) + 1)), (0, .ref (r)), (1, .int (nI i)), (2, .int (tI d)), (3, .int (to))]) hx hb dX9_wipe_91 hl (k := 4) rfl rfl (by decide) rfl) (fun ls hl => ?_)
                  refine zz (fun _ _ => lv_goto (tgt := 25) hx hb dX9_wipe_94 (by decide)) ?_
                  have hl := lv_sub hl [1, 2, 3, 4, 0] rfl
                  try simp only [nI_1] at hl
                  exact ih20 (v24, (u1 A24 23 (upd (A24 23) (Int32.toNatClampNeg (nI (j20))) (0)))) _ _ (by rw [nI_clamp (by omega)]; exact wpI_set hI20 (inTo_a hj20 c_23) (tI_1.mp c_22) h24.1 h24.2 (by rw [tI_1.mp c_25]; simp [tI, nI_nz c_26])) hl
                · refine zz (fun _ _ => lv_iconst (v := 1) hx hb dX9_wipe_85 (by decide)) ?_
                  refine zz (fun _ _ => lv_goto (tgt := 90) hx hb dX9_wipe_86 (by decide)) ?_
                  refine z_zast (f := A24 23) C rm_23 (by first | assumption | (apply vp_in_nI <;> omega)) rfl dX9_wipe_90 ?_
                  refine zeq wm_23 ?_
                  refine zs (fun _ _ => lv_iinc (v := nI (j20) + 1) (lv' := [(4, .int (nI (j20) + 1)), (0, .ref (r)), (1, .int (nI i)), (2, .int (tI d)), (3, .int (to))]) hx hb dX9_wipe_91 hl (k := 4) rfl rfl (by decide) rfl) (fun ls hl => ?_)
                  refine zz (fun _ _ => lv_goto (tgt := 25) hx hb dX9_wipe_94 (by decide)) ?_
                  have hl := lv_sub hl [1, 2, 3, 4, 0] rfl
                  try simp only [nI_1] at hl
                  exact ih20 (v24, (u1 A24 23 (upd (A24 23) (Int32.toNatClampNeg (nI (j20))) (1)))) _ _ (by rw [nI_clamp (by omega)]; exact wpI_set hI20 (inTo_a hj20 c_23) (tI_1.mp c_22) h24.1 h24.2 (by rw [tI_1.mp c_25, show j20 = 0 from nI_z (by omega) c_26]; rfl)) hl
            · refine zz (fun _ _ => lv_iload_n hx hb dX9_wipe_48 rfl (lv_at hl 3 rfl)) ?_
              refine zz (fun _ _ => lv_iconst (v := (-1)) hx hb dX9_wipe_49 (by decide)) ?_
              refine zb (fun _ _ => lv_icmp_eq (tgt := 64) hx hb dX9_wipe_50 (by decide)) (fun c_27 => ?_) (fun c_27 => ?_)
              · refine zz (fun _ _ => lv_aload_n hx hb dX9_wipe_64 rfl (lv_at hl 0 rfl)) ?_
                refine zz (fun _ _ => lv_iload hx hb dX9_wipe_65 (lv_at hl 4 rfl)) ?_
                refine zqVN (As := [.int (nI (j20))]) (rest := []) C hl.1 lk_X9_171 (hX9_empty hI20.2 hj20) rm_0 rfl rfl rfl (Nat.le_of_ble_eq_true rfl) ⟨by decide, by decide, by decide, by decide⟩ dX9_wipe_67 (fun v28 A28 sz h28 => ?_)
                refine zeq (M' := (mm aC r v28 A28 R)) rfl ?_
                refine zz (fun _ _ => lv_aload_n hx hb dX9_wipe_70 rfl (lv_at hl 0 rfl)) ?_
                refine z_get (v := .ref (r + 23)) C fd_X9_77 rm_0 rfl dX9_wipe_71 ?_
                refine zz (fun _ _ => lv_iload hx hb dX9_wipe_74 (lv_at hl 4 rfl)) ?_
                refine zz (fun _ _ => lv_iload_n hx hb dX9_wipe_76 rfl (lv_at hl 2 rfl)) ?_
                refine zb (fun _ _ => lv_if_eq (tgt := 85) hx hb dX9_wipe_77 (by decide)) (fun c_29 => ?_) (fun c_29 => ?_)
                · refine zz (fun _ _ => lv_iconst (v := 1) hx hb dX9_wipe_85 (by decide)) ?_
                  refine zz (fun _ _ => lv_goto (tgt := 90) hx hb dX9_wipe_86 (by decide)) ?_
                  refine z_zast (f := A28 23) C rm_23 (by first | assumption | (apply vp_in_nI <;> omega)) rfl dX9_wipe_90 ?_
                  refine zeq wm_23 ?_
                  refine zs (fun _ _ => lv_iinc (v := nI (j20) + 1) (lv' := [(4, .int (nI (j20) + 1)), (0, .ref (r)), (1, .int (nI i)), (2, .int (tI d)), (3, .int (to))]) hx hb dX9_wipe_91 hl (k := 4) rfl rfl (by decide) rfl) (fun ls hl => ?_)
                  refine zz (fun _ _ => lv_goto (tgt := 25) hx hb dX9_wipe_94 (by decide)) ?_
                  have hl := lv_sub hl [1, 2, 3, 4, 0] rfl
                  try simp only [nI_1] at hl
                  exact ih20 (v28, (u1 A28 23 (upd (A28 23) (Int32.toNatClampNeg (nI (j20))) (1)))) _ _ (by rw [nI_clamp (by omega)]; exact wpI_set hI20 (inTo_b hj20 c_27) (tI_1.mp c_22) h28.1 h28.2 (by rw [tI_0.mp c_29]; rfl)) hl
                · refine zz (fun _ _ => lv_iload hx hb dX9_wipe_80 (lv_at hl 4 rfl)) ?_
                  refine zbn (fun _ _ => lv_if_ne (tgt := 89) hx hb dX9_wipe_82 (by decide)) (fun c_30 => ?_) (fun c_30 => ?_)
                  · refine zz (fun _ _ => lv_iconst (v := 0) hx hb dX9_wipe_89 (by decide)) ?_
                    refine z_zast (f := A28 23) C rm_23 (by first | assumption | (apply vp_in_nI <;> omega)) rfl dX9_wipe_90 ?_
                    refine zeq wm_23 ?_
                    refine zs (fun _ _ => lv_iinc (v := nI (j20) + 1) (lv' := [(4, .int (nI (j20) + 1)), (0, .ref (r)), (1, .int (nI i)), (2, .int (tI d)), (3, .int (to))]) hx hb dX9_wipe_91 hl (k := 4) rfl rfl (by decide) rfl) (fun ls hl => ?_)
                    refine zz (fun _ _ => lv_goto (tgt := 25) hx hb dX9_wipe_94 (by decide)) ?_
                    have hl := lv_sub hl [1, 2, 3, 4, 0] rfl
                    try simp only [nI_1] at hl
                    exact ih20 (v28, (u1 A28 23 (upd (A28 23) (Int32.toNatClampNeg (nI (j20))) (0)))) _ _ (by rw [nI_clamp (by omega)]; exact wpI_set hI20 (inTo_b hj20 c_27) (tI_1.mp c_22) h28.1 h28.2 (by rw [tI_1.mp c_29]; simp [tI, nI_nz c_30])) hl
                  · refine zz (fun _ _ => lv_iconst (v := 1) hx hb dX9_wipe_85 (by decide)) ?_
                    refine zz (fun _ _ => lv_goto (tgt := 90) hx hb dX9_wipe_86 (by decide)) ?_
                    refine z_zast (f := A28 23) C rm_23 (by first | assumption | (apply vp_in_nI <;> omega)) rfl dX9_wipe_90 ?_
                    refine zeq wm_23 ?_
                    refine zs (fun _ _ => lv_iinc (v := nI (j20) + 1) (lv' := [(4, .int (nI (j20) + 1)), (0, .ref (r)), (1, .int (nI i)), (2, .int (tI d)), (3, .int (to))]) hx hb dX9_wipe_91 hl (k := 4) rfl rfl (by decide) rfl) (fun ls hl => ?_)
                    refine zz (fun _ _ => lv_goto (tgt := 25) hx hb dX9_wipe_94 (by decide)) ?_
                    have hl := lv_sub hl [1, 2, 3, 4, 0] rfl
                    try simp only [nI_1] at hl
                    exact ih20 (v28, (u1 A28 23 (upd (A28 23) (Int32.toNatClampNeg (nI (j20))) (1)))) _ _ (by rw [nI_clamp (by omega)]; exact wpI_set hI20 (inTo_b hj20 c_27) (tI_1.mp c_22) h28.1 h28.2 (by rw [tI_1.mp c_29, show j20 = 0 from nI_z (by omega) c_30]; rfl)) hl
              · refine zz (fun _ _ => lv_iload_n hx hb dX9_wipe_53 rfl (lv_at hl 3 rfl)) ?_
                refine zz (fun _ _ => lv_bipush (v := (-2)) hx hb dX9_wipe_54 (by decide)) ?_
                refine zbn (fun _ _ => lv_icmp_ne (tgt := 91) hx hb dX9_wipe_56 (by decide)) (fun c_31 => ?_) (fun c_31 => ?_)
                · refine zs (fun _ _ => lv_iinc (v := nI (j20) + 1) (lv' := [(4, .int (nI (j20) + 1)), (0, .ref (r)), (1, .int (nI i)), (2, .int (tI d)), (3, .int (to))]) hx hb dX9_wipe_91 hl (k := 4) rfl rfl (by decide) rfl) (fun ls hl => ?_)
                  refine zz (fun _ _ => lv_goto (tgt := 25) hx hb dX9_wipe_94 (by decide)) ?_
                  have hl := lv_sub hl [1, 2, 3, 4, 0] rfl
                  try simp only [nI_1] at hl
                  exact ih20 (v20, A20) _ _ (by show wpI v A S d to (j20 + 1) _ _; unfold wpI; rw [wp_skip (inTo_n c_23 c_27 c_31)]; exact hI20) hl
                · refine zz (fun _ _ => lv_iload hx hb dX9_wipe_59 (lv_at hl 4 rfl)) ?_
                  refine zb (fun _ _ => lv_if_le (tgt := 91) hx hb dX9_wipe_61 (by decide)) (fun c_32 => ?_) (fun c_32 => ?_)
                  · refine zs (fun _ _ => lv_iinc (v := nI (j20) + 1) (lv' := [(4, .int (nI (j20) + 1)), (0, .ref (r)), (1, .int (nI i)), (2, .int (tI d)), (3, .int (to))]) hx hb dX9_wipe_91 hl (k := 4) rfl rfl (by decide) rfl) (fun ls hl => ?_)
                    refine zz (fun _ _ => lv_goto (tgt := 25) hx hb dX9_wipe_94 (by decide)) ?_
                    have hl := lv_sub hl [1, 2, 3, 4, 0] rfl
                    try simp only [nI_1] at hl
                    exact ih20 (v20, A20) _ _ (by show wpI v A S d to (j20 + 1) _ _; unfold wpI; rw [wp_skip (inTo_m hj20 c_23 c_27 c_32)]; exact hI20) hl
                  · refine zz (fun _ _ => lv_aload_n hx hb dX9_wipe_64 rfl (lv_at hl 0 rfl)) ?_
                    refine zz (fun _ _ => lv_iload hx hb dX9_wipe_65 (lv_at hl 4 rfl)) ?_
                    refine zqVN (As := [.int (nI (j20))]) (rest := []) C hl.1 lk_X9_171 (hX9_empty hI20.2 hj20) rm_0 rfl rfl rfl (Nat.le_of_ble_eq_true rfl) ⟨by decide, by decide, by decide, by decide⟩ dX9_wipe_67 (fun v33 A33 sz h33 => ?_)
                    refine zeq (M' := (mm aC r v33 A33 R)) rfl ?_
                    refine zz (fun _ _ => lv_aload_n hx hb dX9_wipe_70 rfl (lv_at hl 0 rfl)) ?_
                    refine z_get (v := .ref (r + 23)) C fd_X9_77 rm_0 rfl dX9_wipe_71 ?_
                    refine zz (fun _ _ => lv_iload hx hb dX9_wipe_74 (lv_at hl 4 rfl)) ?_
                    refine zz (fun _ _ => lv_iload_n hx hb dX9_wipe_76 rfl (lv_at hl 2 rfl)) ?_
                    refine zb (fun _ _ => lv_if_eq (tgt := 85) hx hb dX9_wipe_77 (by decide)) (fun c_34 => ?_) (fun c_34 => ?_)
                    · refine zz (fun _ _ => lv_iconst (v := 1) hx hb dX9_wipe_85 (by decide)) ?_
                      refine zz (fun _ _ => lv_goto (tgt := 90) hx hb dX9_wipe_86 (by decide)) ?_
                      refine z_zast (f := A33 23) C rm_23 (by first | assumption | (apply vp_in_nI <;> omega)) rfl dX9_wipe_90 ?_
                      refine zeq wm_23 ?_
                      refine zs (fun _ _ => lv_iinc (v := nI (j20) + 1) (lv' := [(4, .int (nI (j20) + 1)), (0, .ref (r)), (1, .int (nI i)), (2, .int (tI d)), (3, .int (to))]) hx hb dX9_wipe_91 hl (k := 4) rfl rfl (by decide) rfl) (fun ls hl => ?_)
                      refine zz (fun _ _ => lv_goto (tgt := 25) hx hb dX9_wipe_94 (by decide)) ?_
                      have hl := lv_sub hl [1, 2, 3, 4, 0] rfl
                      try simp only [nI_1] at hl
                      exact ih20 (v33, (u1 A33 23 (upd (A33 23) (Int32.toNatClampNeg (nI (j20))) (1)))) _ _ (by rw [nI_clamp (by omega)]; exact wpI_set hI20 (inTo_c hj20 c_31 c_32) (tI_1.mp c_22) h33.1 h33.2 (by rw [tI_0.mp c_34]; rfl)) hl
                    · refine zz (fun _ _ => lv_iload hx hb dX9_wipe_80 (lv_at hl 4 rfl)) ?_
                      refine zbn (fun _ _ => lv_if_ne (tgt := 89) hx hb dX9_wipe_82 (by decide)) (fun c_35 => ?_) (fun c_35 => ?_)
                      · refine zz (fun _ _ => lv_iconst (v := 0) hx hb dX9_wipe_89 (by decide)) ?_
                        refine z_zast (f := A33 23) C rm_23 (by first | assumption | (apply vp_in_nI <;> omega)) rfl dX9_wipe_90 ?_
                        refine zeq wm_23 ?_
                        refine zs (fun _ _ => lv_iinc (v := nI (j20) + 1) (lv' := [(4, .int (nI (j20) + 1)), (0, .ref (r)), (1, .int (nI i)), (2, .int (tI d)), (3, .int (to))]) hx hb dX9_wipe_91 hl (k := 4) rfl rfl (by decide) rfl) (fun ls hl => ?_)
                        refine zz (fun _ _ => lv_goto (tgt := 25) hx hb dX9_wipe_94 (by decide)) ?_
                        have hl := lv_sub hl [1, 2, 3, 4, 0] rfl
                        try simp only [nI_1] at hl
                        exact ih20 (v33, (u1 A33 23 (upd (A33 23) (Int32.toNatClampNeg (nI (j20))) (0)))) _ _ (by rw [nI_clamp (by omega)]; exact wpI_set hI20 (inTo_c hj20 c_31 c_32) (tI_1.mp c_22) h33.1 h33.2 (by rw [tI_1.mp c_34]; simp [tI, nI_nz c_35])) hl
                      · refine zz (fun _ _ => lv_iconst (v := 1) hx hb dX9_wipe_85 (by decide)) ?_
                        refine zz (fun _ _ => lv_goto (tgt := 90) hx hb dX9_wipe_86 (by decide)) ?_
                        refine z_zast (f := A33 23) C rm_23 (by first | assumption | (apply vp_in_nI <;> omega)) rfl dX9_wipe_90 ?_
                        refine zeq wm_23 ?_
                        refine zs (fun _ _ => lv_iinc (v := nI (j20) + 1) (lv' := [(4, .int (nI (j20) + 1)), (0, .ref (r)), (1, .int (nI i)), (2, .int (tI d)), (3, .int (to))]) hx hb dX9_wipe_91 hl (k := 4) rfl rfl (by decide) rfl) (fun ls hl => ?_)
                        refine zz (fun _ _ => lv_goto (tgt := 25) hx hb dX9_wipe_94 (by decide)) ?_
                        have hl := lv_sub hl [1, 2, 3, 4, 0] rfl
                        try simp only [nI_1] at hl
                        exact ih20 (v33, (u1 A33 23 (upd (A33 23) (Int32.toNatClampNeg (nI (j20))) (1)))) _ _ (by rw [nI_clamp (by omega)]; exact wpI_set hI20 (inTo_c hj20 c_31 c_32) (tI_1.mp c_22) h33.1 h33.2 (by rw [tI_1.mp c_34, show j20 = 0 from nI_z (by omega) c_35]; rfl)) hl
      · intro a20 sz ls hI20 hl
        obtain ⟨v20, A20⟩ := a20
        dsimp only at hI20 hl
        refine zeq (M' := (mm aC r v20 A20 R)) rfl ?_
        refine zz (fun _ _ => lv_iload hx hb dX9_wipe_25 (lv_at hl 4 rfl)) ?_
        refine zz (fun _ _ => lv_bipush (v := 7) hx hb dX9_wipe_27 (by decide)) ?_
        refine zval (v' := .int (nI 7)) (congrArg Value.int rfl) ?_
        refine zb (fun _ _ => lv_icmp_ge (tgt := 97) hx hb dX9_wipe_29 (by decide)) (fun c_36 => ?_) (fun c_36 => ?_)
        · refine zz (fun _ _ => lv_iconst (v := 0) hx hb dX9_wipe_97 (by decide)) ?_
          exact z_iret C hr hlk dX9_wipe_98 (zpI_mk (a := v20) (b := A20) (wp_end hR (Or.inr (tI_1.mp c_19)) hI20))
        · exact absurd (nI_le (Nat.le_refl _) (by omega)) c_36
    · refine zz (fun _ _ => lv_iconst (v := 2) hx hb dX9_wipe_20 (by decide)) ?_
      exact z_iret C hr hlk dX9_wipe_21 (zpI_mk (a := v) (b := A) (wp_no hR c_1 c_19))
end
section
/-! Graphs copied, moved and added, in the reference. -/
theorem tS_id {T : Nat → Bool} {g : Nat} (h : T g = true) : tS T g true = T := by
  funext g'; unfold tS; split
  · rename_i e; rw [e, h]
  · rfl
theorem putAll_set {to : Nat} (hto : to < 7) : ∀ (l : List Nat) (S : St), okS S → S.2.1 to = true → (∀ c ∈ l, okc c) → ∀ (p : Nat → Bool), (∀ c, p c = true ↔ S.1 to c = true ∨ c ∈ l) →
    (card (pG S.1 to p) ≤ 120 → putAll to l S = some (pG S.1 to p, S.2)) ∧ (120 < card (pG S.1 to p) → putAll to l S = none)
  | [], S, ho, ht, hl, p, hp => by
    have e : pG S.1 to p = S.1 := by
      funext g c; unfold pG; split
      · rename_i e; subst e
        have := hp c
        simp only [List.not_mem_nil, or_false] at this
        exact Bool.eq_iff_iff.mpr this
      · rfl
    rw [e]
    exact ⟨fun _ => rfl, fun q => absurd ho.2.1 (by omega)⟩
  | c :: cs, S, ho, ht, hl, p, hp => by
    have hc := hl c (by simp)
    have hp' : ∀ c', p c' = true → okc c' := fun c' q => by
      rcases (hp c').mp q with r | r
      · exact (ho.1 to c' r).2
      · exact hl c' r
    rw [putAll]
    unfold stPut
    by_cases q : S.1 to c = true
    · rw [if_pos q, tS_id ht]
      exact putAll_set hto cs S ho ht (fun c' hc' => hl c' (by simp [hc'])) p (fun c' => by
        rw [hp c', List.mem_cons]
        constructor
        · rintro (r | r | r)
          · exact Or.inl r
          · rw [r]; exact Or.inl q
          · exact Or.inr r
        · rintro (r | r)
          · exact Or.inl r
          · exact Or.inr (Or.inr r))
    · have q : S.1 to c = false := by simpa using q
      rw [if_neg (by rw [q]; decide)]
      have hsub : ∀ g c', pS S.1 to c true g c' = true → pG S.1 to p g c' = true := by
        intro g c' r
        unfold pS at r
        unfold pG
        split at r
        · rename_i e; rw [if_pos e.1, e.2]; exact (hp c).mpr (Or.inr (by simp))
        · split
          · rename_i e; rw [e] at r; exact (hp c').mpr (Or.inl r)
          · exact r
      have hle := card_le (okP_pG ho.1 hto hp') hsub
      rw [card_pS ho.1 hto hc q] at hle
      by_cases r : 120 ≤ card S.1
      · rw [if_pos r]
        exact ⟨fun s => by omega, fun _ => rfl⟩
      · rw [if_neg r, tS_id ht]
        have ho' := okS_put ho hto hc (show stPut S to c = some (pS S.1 to c true, S.2.1, S.2.2) by unfold stPut; rw [if_neg (by rw [q]; decide), if_neg r, tS_id ht])
        have e : pG (pS S.1 to c true) to p = pG S.1 to p := by
          funext g c'; unfold pG; split
          · rfl
          · rename_i e; rw [pS_k _ _ _ e]
        have := putAll_set hto cs (pS S.1 to c true, S.2.1, S.2.2) ho' ht (fun c' hc' => hl c' (by simp [hc'])) p (fun c' => by
          rw [hp c', List.mem_cons]
          show _ ↔ pS S.1 to c true to c' = true ∨ _
          unfold pS
          constructor
          · rintro (s | s | s)
            · refine Or.inl ?_
              split <;> first | rfl | exact s
            · exact Or.inl (by rw [if_pos ⟨rfl, s⟩])
            · exact Or.inr s
          · rintro (s | s)
            · split at s
              · rename_i e; exact Or.inr (Or.inl e.2)
              · exact Or.inl s
            · exact Or.inr (Or.inr s))
        rw [show pG ((pS S.1 to c true, S.2.1, S.2.2) : St).1 to p = pG S.1 to p from e] at this
        exact this
theorem putAll_same {to : Nat} (hto : to < 7) {l l' : List Nat} {S : St} (ho : okS S) (ht : S.2.1 to = true) (hl : ∀ c ∈ l, okc c) (h : ∀ c, c ∈ l ↔ c ∈ l') : putAll to l S = putAll to l' S := by
  have hp : ∀ c, (S.1 to c || decide (c ∈ l)) = true ↔ S.1 to c = true ∨ c ∈ l := fun c => by simp
  have h1 := putAll_set hto l S ho ht hl _ hp
  have h2 := putAll_set hto l' S ho ht (fun c hc => hl c ((h c).mpr hc)) _ (fun c => by rw [hp c, h c])
  rcases Nat.lt_or_ge 120 (card (pG S.1 to fun c => S.1 to c || decide (c ∈ l))) with q | q
  · rw [h1.2 q, h2.2 q]
  · rw [h1.1 q, h2.1 q]
/-- the rows of one graph, in the reference's order -/
def grl (f : Nat → Nat × Nat) (g : Nat) : Nat → List Nat
  | 0 => []
  | j + 1 => if (f j).1 = g then grl f g j ++ [(f j).2] else grl f g j
theorem grl_mem {f : Nat → Nat × Nat} {g c : Nat} : ∀ n, c ∈ grl f g n ↔ ∃ i, i < n ∧ f i = (g, c)
  | 0 => by simp [grl]
  | n + 1 => by
    have ih := grl_mem (f := f) (g := g) (c := c) n
    unfold grl
    constructor
    · intro h
      split at h
      · rename_i e
        rcases List.mem_append.mp h with q | q
        · obtain ⟨i, hi, r⟩ := ih.mp q; exact ⟨i, by omega, r⟩
        · rw [List.mem_singleton] at q; exact ⟨n, by omega, by rw [← e, q]⟩
      · obtain ⟨i, hi, r⟩ := ih.mp h; exact ⟨i, by omega, r⟩
    · rintro ⟨i, hi, r⟩
      by_cases q : i = n
      · subst q
        rw [if_pos (by rw [r]), List.mem_append]
        exact Or.inr (by rw [r]; simp)
      · have := ih.mpr ⟨i, by omega, r⟩
        split
        · exact List.mem_append.mpr (Or.inl this)
        · exact this
theorem cmA_out {v0 v : Nat → Int32} {A0 A : Nat → Nat → Int32} {to c : Nat} {l : List Nat} {S : St} {room : Int32} (h : cmI v0 A0 to l S room v A) (hz : room = 0) : cmI v0 A0 to (l ++ [c]) S 0 v A := by
  refine ⟨h.1, Or.inl ⟨rfl, ?_⟩⟩
  rcases h.2 with ⟨_, q⟩ | ⟨S', q, _⟩
  · rw [putAll_append, q]
  · rw [hz] at q; exact absurd q (by decide)
theorem cmA_in {v0 v : Nat → Int32} {A0 A : Nat → Nat → Int32} {to : Nat} {l : List Nat} {S : St} {room : Int32} (h : cmI v0 A0 to l S room v A) (hz : ¬ room = 0) : ∃ S', putAll to l S = some S' ∧ RC v A S' ∧ S'.2.1 to = true := by
  rcases h.2 with ⟨q, _⟩ | ⟨S', _, q⟩
  · exact absurd q hz
  · exact ⟨S', q⟩
theorem cmA_next {v0 v : Nat → Int32} {A0 A : Nat → Nat → Int32} {to c : Nat} {l : List Nat} {S : St} {room : Int32} (hto : to < 7) (hok : okc c) (h : cmI v0 A0 to l S room v A) (hz : ¬ room = 0) :
    ((fX9_come v A (nI to) (nI (pt c 0)) (nI (pt c 1)) (nI (pt c 2))).1 = 0 → cmI v0 A0 to (l ++ [c]) S 0 (fX9_come v A (nI to) (nI (pt c 0)) (nI (pt c 1)) (nI (pt c 2))).2.1 (fX9_come v A (nI to) (nI (pt c 0)) (nI (pt c 1)) (nI (pt c 2))).2.2) ∧
    (¬ (fX9_come v A (nI to) (nI (pt c 0)) (nI (pt c 1)) (nI (pt c 2))).1 = 0 → cmI v0 A0 to (l ++ [c]) S 1 (fX9_come v A (nI to) (nI (pt c 0)) (nI (pt c 1)) (nI (pt c 2))).2.1 (fX9_come v A (nI to) (nI (pt c 0)) (nI (pt c 1)) (nI (pt c 2))).2.2) := by
  obtain ⟨S', e, hR, ht⟩ := cmA_in h hz
  have hs := come_s hR hto hok ht
  have e2 : putAll to (l ++ [c]) S = stPut S' to c := by
    rw [putAll_append, e]
    show putAll to [c] S' = _
    simp only [putAll]
    cases stPut S' to c <;> rfl
  refine ⟨fun q => ⟨h.1.trans hs.1, Or.inl ⟨rfl, ?_⟩⟩, fun q => ⟨h.1.trans hs.1, Or.inr ?_⟩⟩
  · rcases hs.2 with ⟨r, _⟩ | ⟨S2, r, r1, _⟩
    · rw [e2]; exact r
    · rw [r1] at q; exact absurd q (by decide)
  · rcases hs.2 with ⟨_, r⟩ | ⟨S2, r, _, r2⟩
    · exact absurd r q
    · exact ⟨S2, rfl, by rw [e2]; exact r, r2, (stPut_there r).1⟩
/-- the first n rows stay, whatever comes -/
def kpR (n : Nat) (A1 : Nat → Nat → Int32) (v : Nat → Int32) (A : Nat → Nat → Int32) : Prop := (∃ n', v 20 = nI n' ∧ n ≤ n' ∧ n' ≤ 120) ∧ ∀ q, 19 ≤ q → q ≤ 22 → ∀ i, i < n → A q i = A1 q i
theorem kpR_next {n : Nat} {A1 : Nat → Nat → Int32} {v : Nat → Int32} {A : Nat → Nat → Int32} (h : kpR n A1 v A) (a b c d : Int32) : kpR n A1 (fX9_come v A a b c d).2.1 (fX9_come v A a b c d).2.2 := by
  obtain ⟨⟨n', e, hn, h120⟩, hA⟩ := h
  unfold fX9_come
  split
  · split
    · exact ⟨⟨n', e, hn, h120⟩, hA⟩
    · rename_i h1
      have h1 : n' ≠ 120 := fun q => h1 (by rw [e, q]; rfl)
      refine ⟨⟨n' + 1, by simp [upd, e, nI_1], by omega, by omega⟩, fun q h2 h3 i hi => ?_⟩
      have := hA q h2 h3 i hi
      rw [e, nI_clamp (by omega)]
      rcases (show q = 19 ∨ q = 20 ∨ q = 21 ∨ q = 22 by omega) with rfl | rfl | rfl | rfl <;> simp [u1, upd, show i ≠ n' by omega, this]
  · exact ⟨⟨n', e, hn, h120⟩, hA⟩
theorem cp_no {v : Nat → Int32} {A : Nat → Nat → Int32} {S : St} {k f t : Nat} (hR : RC v A S) (h : tI (S.2.1 f) = 0) : AR v A (aBring k f t S) 2 v A := by
  unfold aBring AR
  rw [if_pos (tI_0.mp h)]
  exact ⟨rfl, FS.refl, fun _ => ⟨hR, by show v 41 = v 41 + nI 0; rw [nI_0]; simp⟩⟩
theorem cp_same {v : Nat → Int32} {A : Nat → Nat → Int32} {S : St} {k f t : Nat} (hR : RC v A S) (h : ¬ tI (S.2.1 f) = 0) (hft : f = t) : AR v A (aBring k f t S) 0 v A := by
  unfold aBring AR
  rw [if_neg (by rw [tI_1.mp h]; decide), if_pos hft]
  exact ⟨rfl, FS.refl, fun _ => ⟨hR, by show v 41 = v 41 + nI 0; rw [nI_0]; simp⟩⟩
theorem okS_clr {S : St} (h : okS S) (g : Nat) : okS (pG S.1 g (fun _ => false), S.2) := by
  have hs : ∀ g' c', pG S.1 g (fun _ => false) g' c' = true → S.1 g' c' = true := by
    intro g' c' q; unfold pG at q; split at q
    · cases q
    · exact q
  exact ⟨fun g' c' q => h.1 g' c' (hs g' c' q), Nat.le_trans (card_le h.1 hs) h.2.1, h.2.2.1, h.2.2.2.1, fun g' c' q => h.2.2.2.2 g' c' (hs g' c' q)⟩
theorem cp_end8 {v v' : Nat → Int32} {A A' : Nat → Nat → Int32} {S : St} {f t n : Nat} {fr : Nat → Nat × Nat} {room : Int32} (ho : okS S) (ht : t < 7) (h : ¬ tI (S.2.1 f) = 0) (hft : ¬ f = t) (hm : ∀ g c, S.1 g c = true ↔ ∃ i, i < n ∧ fr i = (g, c)) (hI : cmI v A t (grl fr f n) (S.1, tS S.2.1 t true, S.2.2) room v' A') : (room = 0 → AR v A (aBring 8 f t S) 4 v' A') ∧ (¬ room = 0 → AR v A (aBring 8 f t S) 0 v' A') := by
  have e : putAll t (grl fr f n) (S.1, tS S.2.1 t true, S.2.2) = putAll t (cds (S.1 f)) (S.1, tS S.2.1 t true, S.2.2) :=
    putAll_same ht (okS_there ho t) (by simp [tS]) (fun c hc => (ho.1 f c ((hm f c).mpr (grl_mem n |>.mp hc))).2) (fun c => by rw [grl_mem, cds_mem (okP_g ho.1 f), hm])
  unfold aBring AR
  rw [if_neg (by rw [tI_1.mp h]; decide), if_neg hft, if_pos rfl, ← e]
  refine ⟨fun q => ?_, fun q => ?_⟩
  · rcases hI.2 with ⟨_, r⟩ | ⟨S', r, _⟩
    · rw [r]; exact ⟨rfl, hI.1.S, fun q => absurd q (show ¬ (4 : Nat) < 4 by decide)⟩
    · rw [q] at r; exact absurd r (by decide)
  · rcases hI.2 with ⟨r, _⟩ | ⟨S', _, r, r2, _⟩
    · exact absurd r q
    · rw [r]; exact ⟨rfl, hI.1.S, fun _ => ⟨r2, by show v' 41 = v 41 + nI 0; rw [nI_0, hI.1.1 41 (by decide) (by decide)]; simp⟩⟩
theorem cp_end6 {v v' : Nat → Int32} {A A' : Nat → Nat → Int32} {S : St} {k f t n : Nat} {fr : Nat → Nat × Nat} {room : Int32} (ho : okS S) (hf : f < 7) (ht : t < 7) (hk : ¬ k = 8) (hk7 : ¬ k = 7) (h : ¬ tI (S.2.1 f) = 0) (hft : ¬ f = t) (hm : ∀ g c, pG S.1 t (fun _ => false) g c = true ↔ ∃ i, i < n ∧ fr i = (g, c)) (hI : cmI v A t (grl fr f n) (pG S.1 t (fun _ => false), tS S.2.1 t true, S.2.2) room v' A') : (room = 0 → AR v A (aBring k f t S) 4 v' A') ∧ (¬ room = 0 → AR v A (aBring k f t S) 0 v' A') := by
  have hml : ∀ c, c ∈ grl fr f n ↔ S.1 f c = true := fun c => by rw [grl_mem, ← hm]; unfold pG; rw [if_neg hft]
  have e := putAll_set ht (grl fr f n) (pG S.1 t (fun _ => false), tS S.2.1 t true, S.2.2) (okS_there (okS_clr ho t) t) (by simp [tS]) (fun c hc => (ho.1 f c ((hml c).mp hc)).2) (S.1 f) (fun c => by
    rw [hml]; show _ ↔ pG S.1 t (fun _ => false) t c = true ∨ _; rw [pG_s]; simp)
  have e2 : pG (pG S.1 t (fun _ => false)) t (S.1 f) = pG S.1 t (S.1 f) := by funext g c; unfold pG; split <;> rfl
  simp only [e2] at e
  unfold aBring AR
  rw [if_neg (by rw [tI_1.mp h]; decide), if_neg hft, if_neg hk, if_neg hk7]
  refine ⟨fun q => ?_, fun q => ?_⟩
  · rcases hI.2 with ⟨_, r⟩ | ⟨S', r, _⟩
    · have hc : 120 < card (pG S.1 t (S.1 f)) := by
        rcases Nat.lt_or_ge 120 (card (pG S.1 t (S.1 f))) with s | s
        · exact s
        · rw [e.1 s] at r; cases r
      rw [if_pos hc]; exact ⟨rfl, hI.1.S, fun q => absurd q (show ¬ (4 : Nat) < 4 by decide)⟩
    · rw [q] at r; exact absurd r (by decide)
  · rcases hI.2 with ⟨r, _⟩ | ⟨S', _, r, r2, _⟩
    · exact absurd r q
    · have hc : ¬ 120 < card (pG S.1 t (S.1 f)) := fun s => by rw [e.2 s] at r; cases r
      rw [e.1 (by omega)] at r
      cases r
      rw [if_neg hc]; exact ⟨rfl, hI.1.S, fun _ => ⟨r2, by show v' 41 = v 41 + nI 0; rw [nI_0, hI.1.1 41 (by decide) (by decide)]; simp⟩⟩
/-- rows moved to another graph -/
def mvI (n : Nat) (fr : Nat → Nat × Nat) (f t : Nat) (v1 : Nat → Int32) (A1 : Nat → Nat → Int32) (j : Nat) (v' : Nat → Int32) (A' : Nat → Nat → Int32) : Prop := v' = v1 ∧ (∀ q, q ≠ 19 → A' q = A1 q) ∧ ∀ i, i < n → A' 19 i = if i < j ∧ (fr i).1 = f then nI t else A1 19 i
theorem mv_next {n : Nat} {fr : Nat → Nat × Nat} {f t : Nat} {v1 v' : Nat → Int32} {A1 A' : Nat → Nat → Int32} {j : Nat} (h : mvI n fr f t v1 A1 j v' A') {z : Int32} (hz : z = if (fr j).1 = f then nI t else A1 19 j) : mvI n fr f t v1 A1 (j + 1) v' (u1 A' 19 (upd (A' 19) j z)) := by
  refine ⟨h.1, fun q hq => by rw [← h.2.1 q hq]; simp [u1, hq], fun i hi => ?_⟩
  simp only [u1, if_true, upd]
  by_cases q : i = j
  · subst q
    rw [if_pos rfl, hz]
    simp
  · rw [if_neg q, h.2.2 i hi]
    have : (i < j + 1) ↔ i < j := by omega
    simp [this]
theorem mv_end {v v' : Nat → Int32} {A A' : Nat → Nat → Int32} {S : St} {n : Nat} {fr : Nat → Nat × Nat} {f t : Nat} (ho : okS S) (hL : RLs v A S n fr) (hf : f < 7) (ht : t < 7) (hft : ¬ f = t) (he : ∀ c, S.1 t c = false) (htt : S.2.1 t = true) (h : mvI n fr f t v A n v' A') : FR v A v' A' ∧ RC v' A' (pG (pG S.1 t (S.1 f)) f (fun _ => false), S.2) := by
  obtain ⟨rfl, hq, hr⟩ := h
  have hmem : ∀ g c, pG (pG S.1 t (S.1 f)) f (fun _ => false) g c = true ↔ ∃ i, i < n ∧ (if (fr i).1 = f then (t, (fr i).2) else fr i) = (g, c) := by
    intro g c
    unfold pG
    constructor
    · intro q
      split at q
      · cases q
      · rename_i hgf
        split at q
        · rename_i hgt
          obtain ⟨i, hi, r⟩ := (hL.2.2.1 f c).mp q
          exact ⟨i, hi, by rw [if_pos (by rw [r]), r, hgt]⟩
        · obtain ⟨i, hi, r⟩ := (hL.2.2.1 g c).mp q
          exact ⟨i, hi, by rw [if_neg (by rw [r]; exact hgf), r]⟩
    · rintro ⟨i, hi, r⟩
      split at r
      · rename_i e
        cases r
        rw [if_neg (fun q => hft q.symm), if_pos rfl]
        exact (hL.2.2.1 f _).mpr ⟨i, hi, by rw [← e]⟩
      · rename_i e
        have hgf : ¬ g = f := fun q => e (by rw [r]; exact q)
        have hS := (hL.2.2.1 g c).mpr ⟨i, hi, r⟩
        rw [if_neg hgf]
        split
        · rename_i hgt; rw [hgt, he] at hS; cases hS
        · exact hS
  have hinj : ∀ i j, i < n → j < n → (if (fr i).1 = f then (t, (fr i).2) else fr i) = (if (fr j).1 = f then (t, (fr j).2) else fr j) → i = j := by
    intro i j hi hj he2
    have key : ∀ i, i < n → (fr i).1 ≠ t := fun i hi q => by
      have := (hL.2.2.1 t (fr i).2).mpr ⟨i, hi, by rw [← q]⟩
      rw [he] at this; cases this
    split at he2 <;> split at he2
    · rename_i e1 e2
      refine hL.2.1 i j hi hj (Prod.ext (e1.trans e2.symm) ?_)
      exact (Prod.mk.inj he2).2
    · exact absurd (by rw [← he2]) (key j hj)
    · exact absurd (by rw [he2]) (key i hi)
    · exact hL.2.1 i j hi hj he2
  have hokP : okP (pG (pG S.1 t (S.1 f)) f (fun _ => false)) := okP_pG (okP_pG ho.1 ht (okP_g ho.1 f)) hf (fun c q => by cases q)
  have hcard : n = card (pG (pG S.1 t (S.1 f)) f (fun _ => false)) := by
    have := card_eq hokP (L := (List.range n).map (fun i => if (fr i).1 = f then (t, (fr i).2) else fr i)) (by
      unfold List.Nodup
      rw [List.pairwise_map]
      refine (List.nodup_range (n := n)).imp_of_mem (fun {a b} ha hb hne he => hne ?_)
      exact hinj a b (List.mem_range.mp ha) (List.mem_range.mp hb) he) (fun g c => by
      rw [List.mem_map, hmem]
      simp only [List.mem_range])
    simpa using this
  have hn := RL_n hL ho
  refine ⟨⟨fun _ _ _ => rfl, fun k hk => hq k (by omega)⟩, ⟨hokP, Nat.le_trans (Nat.le_of_eq hcard.symm) hn.2, ho.2.2.1, ho.2.2.2.1, ?_⟩, n, _, hL.1, hinj, hmem, ?_, ?_, hL.2.2.2.2.2⟩
  · intro g c q
    show S.2.1 g = true
    have q : pG (pG S.1 t (S.1 f)) f (fun _ => false) g c = true := q
    unfold pG at q
    split at q
    · cases q
    · split at q
      · rename_i e; rw [e]; exact htt
      · exact ho.2.2.2.2 g c q
  · intro i hi
    have hx := hL.2.2.2.1 i hi
    have hx2 := hr i hi
    rw [hq 20 (by decide), hq 21 (by decide), hq 22 (by decide), hx2]
    by_cases e : (fr i).1 = f
    · rw [if_pos ⟨hi, e⟩, if_pos e]; exact ⟨rfl, hx.2⟩
    · rw [if_neg (fun q => e q.2), if_neg e]; exact hx
  · intro g hg
    rw [hq 23 (by decide)]
    exact hL.2.2.2.2.1 g hg
def dpP (v : Nat → Int32) (A : Nat → Nat → Int32) (S : St) (g : Nat) (v' : Nat → Int32) (A' : Nat → Nat → Int32) : Prop := FR v A v' A' ∧ RC v' A' (pG S.1 g (fun _ => false), tS S.2.1 g (decide (g = 0)), S.2.2)
theorem dropOne_s {v : Nat → Int32} {A : Nat → Nat → Int32} {S : St} (hR : RC v A S) {g : Nat} (hg : g < 7) : dpP v A S g (fX9_dropOne v A (nI g)).1 (fX9_dropOne v A (nI g)).2 := by
  have h := empty_s hR hg
  unfold fX9_dropOne
  by_cases q : g = 0
  · subst q
    rw [if_pos (show nI 0 = 0 from rfl)]
    refine ⟨h.1.trans FR_set, ?_⟩
    rw [nI_clamp (by omega)]
    exact RC_setb h.2 0 (b := true) (Or.inl rfl)
  · rw [if_neg (nI_ne0 (by omega) (by omega))]
    refine ⟨h.1.trans FR_set, ?_⟩
    rw [nI_clamp (by omega)]
    have := RC_setb h.2 g (b := false) (Or.inr ⟨q, fun c => by show pG S.1 g (fun _ => false) g c = false; rw [pG_s]⟩)
    rw [show decide (g = 0) = false by simp [q]]
    exact this
theorem hX9_dropOne {l : Launch} {D : va_G} {aC : Nat → ClassId} {b0 sz r : Nat} {v : Nat → Int32} {A : Nat → Nat → Int32} {R : ZM} {S : St} {g : Nat} (hR : RC v A S) (hg : g < 7) :
    Ct l D aC b0 yX9_dropOne cX9_dropOne 2 none 2 0 0 [.ref r, .int (nI g)] (mm aC r v A R) sz (zpN (fun v A => mm aC r v A R) (dpP v A S g)) := by
  obtain ⟨n, hs, hn⟩ := RC_n hR
  exact Ct.toN (G := fun v A => mm aC r v A R) (ctX9_dropOne hs hn (vp_in_nI hg (by decide))) (dropOne_s hR hg)
theorem cp_end7 {v v' : Nat → Int32} {A A' : Nat → Nat → Int32} {S : St} {f t : Nat} (h : ¬ tI (S.2.1 f) = 0) (hft : ¬ f = t) (hf : FR v A v' A') (hR : RC v' A' (pG (pG S.1 t (S.1 f)) f (fun _ => false), tS (tS S.2.1 t true) f (decide (f = 0)), S.2.2)) : AR v A (aBring 7 f t S) 0 v' A' := by
  unfold aBring AR
  rw [if_neg (by rw [tI_1.mp h]; decide), if_neg hft, if_neg (by decide), if_pos rfl]
  exact ⟨rfl, hf.S, fun _ => ⟨hR, by show v' 41 = v 41 + nI 0; rw [nI_0, hf.1 41 (by decide) (by decide)]; simp⟩⟩
end
section
theorem pG_f {P : Pd} {T : Nat → Bool} {b t c : Nat} : (((pG P t (fun _ => false), T, b) : St).1 t c) = false := by show pG P t (fun _ => false) t c = false; rw [pG_s]
theorem pG_3 {P : Pd} {f t : Nat} (h : ¬ f = t) : pG (pG (pG (pG P t (fun _ => false)) t ((pG P t (fun _ => false)) f)) f (fun _ => false)) f (fun _ => false) = pG (pG P t (P f)) f (fun _ => false) := by
  funext g c
  unfold pG
  repeat' split
  all_goals first | rfl | (exfalso; omega)
set_option maxHeartbeats 2000000 in
set_option maxRecDepth 10000 in
theorem hX9_copy {l : Launch} {D : va_G} {aC : Nat → ClassId} {b0 sz : Nat} {r : Nat} {v : Nat → Int32} {A : Nat → Nat → Int32} {R : ZM} {i k f t : Nat} {S : St} (hi : i < 12) (hk9 : k ≤ 9) (hf : f < 7) (ht : t < 7) (hkd : A 1 i = nI k) (hfrom : A 2 i = nI f) (hto : A 3 i = nI t) (hR : RC v A S) : Ct l D aC b0 yX9_copy cX9_copy 7 (some .int) 3 0 0 [.ref (r), .int (nI i)] (mm aC r v A R) sz (zpI (fun v A => mm aC r v A R) (fun w' v' A' => AR v A (aBring k f t S) w' v' A')) := by
  refine Ct.of (by decide) (Nat.le_of_ble_eq_true rfl) ?_
  intro p e s m below meth c ls C hr hlk hnm hl
  have hl : lv_has ls 7 [(0, .ref (r)), (1, .int (nI i))] := hl
  obtain ⟨hx, hb, -, -, -⟩ := id C
  refine zz (fun _ _ => lv_aload_n hx hb dX9_copy_0 rfl (lv_at hl 0 rfl)) ?_
  refine z_get (v := .ref (r + 2)) C fd_X9_13 rm_0 rfl dX9_copy_1 ?_
  refine zz (fun _ _ => lv_iload_n hx hb dX9_copy_4 rfl (lv_at hl 1 rfl)) ?_
  refine z_iald (f := A 2) C rm_2 (by first | assumption | (apply vp_in_nI <;> omega)) dX9_copy_5 ?_
  refine zval (v' := .int (nI f)) (congrArg Value.int (rdI hfrom (by omega))) ?_
  refine zs (fun _ _ => lv_istore_n (lv' := [(2, .int (nI f)), (0, .ref (r)), (1, .int (nI i))]) hx hb dX9_copy_6 rfl hl (by decide) rfl) (fun ls hl => ?_)
  refine zz (fun _ _ => lv_aload_n hx hb dX9_copy_7 rfl (lv_at hl 1 rfl)) ?_
  refine z_get (v := .ref (r + 3)) C fd_X9_16 rm_0 rfl dX9_copy_8 ?_
  refine zz (fun _ _ => lv_iload_n hx hb dX9_copy_11 rfl (lv_at hl 2 rfl)) ?_
  refine z_iald (f := A 3) C rm_3 (by first | assumption | (apply vp_in_nI <;> omega)) dX9_copy_12 ?_
  refine zval (v' := .int (nI t)) (congrArg Value.int (rdI hto (by omega))) ?_
  refine zs (fun _ _ => lv_istore_n (lv' := [(3, .int (nI t)), (2, .int (nI f)), (0, .ref (r)), (1, .int (nI i))]) hx hb dX9_copy_13 rfl hl (by decide) rfl) (fun ls hl => ?_)
  refine zz (fun _ _ => lv_aload_n hx hb dX9_copy_14 rfl (lv_at hl 2 rfl)) ?_
  refine z_get (v := .ref (r + 23)) C fd_X9_77 rm_0 rfl dX9_copy_15 ?_
  refine zz (fun _ _ => lv_iload_n hx hb dX9_copy_18 rfl (lv_at hl 1 rfl)) ?_
  refine z_zald (f := A 23) C rm_23 (by first | assumption | (apply vp_in_nI <;> omega)) dX9_copy_19 ?_
  refine zval (v' := .int (tI (S.2.1 f))) (congrArg Value.int (rdI (RC_there hR hf) (by omega))) ?_
  refine zbn (fun _ _ => lv_if_ne (tgt := 25) hx hb dX9_copy_20 (by decide)) (fun c_1 => ?_) (fun c_1 => ?_)
  · refine zz (fun _ _ => lv_iload_n hx hb dX9_copy_25 rfl (lv_at hl 1 rfl)) ?_
    refine zz (fun _ _ => lv_iload_n hx hb dX9_copy_26 rfl (lv_at hl 0 rfl)) ?_
    refine zbn (fun _ _ => lv_icmp_ne (tgt := 32) hx hb dX9_copy_27 (by decide)) (fun c_2 => ?_) (fun c_2 => ?_)
    · refine zz (fun _ _ => lv_aload_n hx hb dX9_copy_32 rfl (lv_at hl 2 rfl)) ?_
      refine z_get (v := .ref (r + 1)) C fd_X9_7 rm_0 rfl dX9_copy_33 ?_
      refine zz (fun _ _ => lv_iload_n hx hb dX9_copy_36 rfl (lv_at hl 3 rfl)) ?_
      refine z_iald (f := A 1) C rm_1 (by first | assumption | (apply vp_in_nI <;> omega)) dX9_copy_37 ?_
      refine zval (v' := .int (nI k)) (congrArg Value.int (rdI hkd (by omega))) ?_
      refine zz (fun _ _ => lv_bipush (v := 8) hx hb dX9_copy_38 (by decide)) ?_
      refine zval (v' := .int (nI 8)) (congrArg Value.int rfl) ?_
      refine zb (fun _ _ => lv_icmp_eq (tgt := 48) hx hb dX9_copy_40 (by decide)) (fun c_3 => ?_) (fun c_3 => ?_)
      · refine zz (fun _ _ => lv_aload_n hx hb dX9_copy_48 rfl (lv_at hl 2 rfl)) ?_
        refine z_get (v := .ref (r + 23)) C fd_X9_77 rm_0 rfl dX9_copy_49 ?_
        refine zz (fun _ _ => lv_iload_n hx hb dX9_copy_52 rfl (lv_at hl 0 rfl)) ?_
        refine zz (fun _ _ => lv_iconst (v := 1) hx hb dX9_copy_53 (by decide)) ?_
        have hR9 : RC v (u1 A 23 (upd (A 23) (Int32.toNatClampNeg (nI t)) 1)) (S.1, tS S.2.1 t true, S.2.2) := by rw [nI_clamp (by omega)]; exact RC_set hR t
        have hf9 : FR v A v (u1 A 23 (upd (A 23) (Int32.toNatClampNeg (nI t)) 1)) := (FR.refl : FR v A v A).trans FR_set
        obtain ⟨ho9, n9, f9, hL9⟩ := id hR9
        have hn9 := (RL_n hL9 ho9).2
        refine z_zast (f := A 23) C rm_23 (by first | assumption | (apply vp_in_nI <;> omega)) rfl dX9_copy_54 ?_
        refine zeq wm_23 ?_
        refine zz (fun _ _ => lv_aload_n hx hb dX9_copy_55 rfl (lv_at hl 2 rfl)) ?_
        refine z_get (v := .ref (r + 1)) C fd_X9_7 rm_0 rfl dX9_copy_56 ?_
        refine zz (fun _ _ => lv_iload_n hx hb dX9_copy_59 rfl (lv_at hl 3 rfl)) ?_
        refine z_iald (f := A 1) C rm_1 (by first | assumption | (apply vp_in_nI <;> omega)) dX9_copy_60 ?_
        refine zval (v' := .int (nI k)) (congrArg Value.int (rdI ((congrFun (hf9.low 1 (by decide)) _).trans hkd) (by omega))) ?_
        refine zz (fun _ _ => lv_bipush (v := 7) hx hb dX9_copy_61 (by decide)) ?_
        refine zval (v' := .int (nI 7)) (congrArg Value.int rfl) ?_
        refine zbn (fun _ _ => lv_icmp_ne (tgt := 120) hx hb dX9_copy_63 (by decide)) (fun c_4 => ?_) (fun c_4 => ?_)
        · refine zz (fun _ _ => lv_iconst (v := 1) hx hb dX9_copy_120 (by decide)) ?_
          refine zs (fun _ _ => lv_istore (lv' := [(4, .int (1)), (3, .int (nI t)), (2, .int (nI f)), (0, .ref (r)), (1, .int (nI i))]) hx hb dX9_copy_121 hl (by decide) rfl) (fun ls hl => ?_)
          refine zz (fun _ _ => lv_aload_n hx hb dX9_copy_123 rfl (lv_at hl 3 rfl)) ?_
          refine z_get (v := .int (v 20)) C fd_X9_160 rm_0 rfl dX9_copy_124 ?_
          refine zval (v' := .int (nI n9)) (congrArg Value.int hL9.1) ?_
          refine zs (fun _ _ => lv_istore (lv' := [(5, .int (nI n9)), (4, .int (1)), (3, .int (nI t)), (2, .int (nI f)), (0, .ref (r)), (1, .int (nI i))]) hx hb dX9_copy_127 hl (by decide) rfl) (fun ls hl => ?_)
          refine zz (fun _ _ => lv_iconst (v := 0) hx hb dX9_copy_129 (by decide)) ?_
          refine zs (fun _ _ => lv_istore (lv' := [(6, .int (0)), (5, .int (nI n9)), (4, .int (1)), (3, .int (nI t)), (2, .int (nI f)), (0, .ref (r)), (1, .int (nI i))]) hx hb dX9_copy_130 hl (by decide) rfl) (fun ls hl => ?_)
          have hl0 := lv_sub hl [5, 6, 4, 3, 2, 1, 0] rfl
          refine z_loop (γ := (Nat → Int32) × (Nat → Nat → Int32) × Int32) (G := fun a => mm aC r a.1 a.2.1 R) (I := fun j a => cmI v A t (grl f9 f j) (S.1, tS S.2.1 t true, S.2.2) a.2.2 a.1 a.2.1 ∧ kpR n9 (u1 A 23 (upd (A 23) (Int32.toNatClampNeg (nI t)) 1)) a.1 a.2.1) (lv := fun j a => [(0, .ref (r)), (1, .int (nI i)), (2, .int (nI f)), (3, .int (nI t)), (4, .int (a.2.2)), (5, .int (nI n9)), (6, .int (nI (j)))]) (n9) ?_ ?_ (v, (u1 A 23 (upd (A 23) (Int32.toNatClampNeg (nI t)) (1))), 1) _ _ ⟨⟨hf9, Or.inr ⟨_, rfl, rfl, hR9, by simp [tS]⟩⟩, ⟨n9, hL9.1, Nat.le_refl _, hn9⟩, fun _ _ _ _ _ => rfl⟩ hl0
          · intro j5 a5 sz ls hj5 hI5 hl ih5
            obtain ⟨v5, A5, t5_4⟩ := a5
            dsimp only at hI5 hl ih5
            refine zeq (M' := (mm aC r v5 A5 R)) rfl ?_
            have hg5 : A5 19 j5 = nI (f9 j5).1 := (hI5.2.2 19 (by decide) (by decide) j5 hj5).trans (hL9.2.2.2.1 j5 hj5).1
            have hok5 := RL_ok hL9 ho9 hj5
            have hf75 := hok5.1
            refine zz (fun _ _ => lv_iload hx hb dX9_copy_132 (lv_at hl 6 rfl)) ?_
            refine zz (fun _ _ => lv_iload hx hb dX9_copy_134 (lv_at hl 5 rfl)) ?_
            refine zb (fun _ _ => lv_icmp_ge (tgt := 197) hx hb dX9_copy_136 (by decide)) (fun c_6 => ?_) (fun c_6 => ?_)
            · exact absurd c_6 (nI_ge (by omega) (by omega))
            · refine zz (fun _ _ => lv_aload_n hx hb dX9_copy_139 rfl (lv_at hl 0 rfl)) ?_
              refine z_get (v := .ref (r + 19)) C fd_X9_65 rm_0 rfl dX9_copy_140 ?_
              refine zz (fun _ _ => lv_iload hx hb dX9_copy_143 (lv_at hl 6 rfl)) ?_
              refine z_iald (f := A5 19) C rm_19 (by first | assumption | (apply vp_in_nI <;> omega)) dX9_copy_145 ?_
              refine zval (v' := .int (nI (f9 j5).1)) (congrArg Value.int (rdI (hg5) (by omega))) ?_
              refine zz (fun _ _ => lv_iload_n hx hb dX9_copy_146 rfl (lv_at hl 2 rfl)) ?_
              refine zbn (fun _ _ => lv_icmp_ne (tgt := 191) hx hb dX9_copy_147 (by decide)) (fun c_7 => ?_) (fun c_7 => ?_)
              · refine zs (fun _ _ => lv_iinc (v := nI (j5) + 1) (lv' := [(6, .int (nI (j5) + 1)), (0, .ref (r)), (1, .int (nI i)), (2, .int (nI f)), (3, .int (nI t)), (4, .int (t5_4)), (5, .int (nI n9))]) hx hb dX9_copy_191 hl (k := 6) rfl rfl (by decide) rfl) (fun ls hl => ?_)
                refine zz (fun _ _ => lv_goto (tgt := 132) hx hb dX9_copy_194 (by decide)) ?_
                have hl := lv_sub hl [1, 2, 3, 4, 5, 6, 0] rfl
                try simp only [nI_1] at hl
                exact ih5 (v5, A5, t5_4) _ _ ⟨(by show cmI _ _ _ (grl f9 f (j5 + 1)) _ _ _ _; unfold grl; rw [if_neg (fun q => c_7 (by rw [q]))]; exact hI5.1), hI5.2⟩ hl
              · refine zz (fun _ _ => lv_iload hx hb dX9_copy_150 (lv_at hl 4 rfl)) ?_
                refine zb (fun _ _ => lv_if_eq (tgt := 188) hx hb dX9_copy_152 (by decide)) (fun c_8 => ?_) (fun c_8 => ?_)
                · refine zz (fun _ _ => lv_iconst (v := 0) hx hb dX9_copy_188 (by decide)) ?_
                  refine zs (fun _ _ => lv_istore (lv' := [(4, .int (0)), (0, .ref (r)), (1, .int (nI i)), (2, .int (nI f)), (3, .int (nI t)), (5, .int (nI n9)), (6, .int (nI (j5)))]) hx hb dX9_copy_189 hl (by decide) rfl) (fun ls hl => ?_)
                  refine zs (fun _ _ => lv_iinc (v := nI (j5) + 1) (lv' := [(6, .int (nI (j5) + 1)), (4, .int (0)), (0, .ref (r)), (1, .int (nI i)), (2, .int (nI f)), (3, .int (nI t)), (5, .int (nI n9))]) hx hb dX9_copy_191 hl (k := 6) rfl rfl (by decide) rfl) (fun ls hl => ?_)
                  refine zz (fun _ _ => lv_goto (tgt := 132) hx hb dX9_copy_194 (by decide)) ?_
                  have hl := lv_sub hl [2, 3, 4, 5, 1, 6, 0] rfl
                  try simp only [nI_1] at hl
                  exact ih5 (v5, A5, 0) _ _ ⟨(by show cmI _ _ _ (grl f9 f (j5 + 1)) _ _ _ _; unfold grl; rw [if_pos ((nI_eq (by omega) (by omega)).mp c_7)]; exact cmA_out hI5.1 c_8), hI5.2⟩ hl
                · refine zz (fun _ _ => lv_aload_n hx hb dX9_copy_155 rfl (lv_at hl 0 rfl)) ?_
                  refine zz (fun _ _ => lv_iload_n hx hb dX9_copy_156 rfl (lv_at hl 3 rfl)) ?_
                  refine zz (fun _ _ => lv_aload_n hx hb dX9_copy_157 rfl (lv_at hl 0 rfl)) ?_
                  refine z_get (v := .ref (r + 20)) C fd_X9_68 rm_0 rfl dX9_copy_158 ?_
                  refine zz (fun _ _ => lv_iload hx hb dX9_copy_161 (lv_at hl 6 rfl)) ?_
                  refine z_iald (f := A5 20) C rm_20 (by first | assumption | (apply vp_in_nI <;> omega)) dX9_copy_163 ?_
                  refine zval (v' := .int (nI (pt (f9 j5).2 0))) (congrArg Value.int (rdI ((hI5.2.2 20 (by decide) (by decide) j5 hj5).trans (hL9.2.2.2.1 j5 hj5).2.1) (by omega))) ?_
                  refine zz (fun _ _ => lv_aload_n hx hb dX9_copy_164 rfl (lv_at hl 0 rfl)) ?_
                  refine z_get (v := .ref (r + 21)) C fd_X9_71 rm_0 rfl dX9_copy_165 ?_
                  refine zz (fun _ _ => lv_iload hx hb dX9_copy_168 (lv_at hl 6 rfl)) ?_
                  refine z_iald (f := A5 21) C rm_21 (by first | assumption | (apply vp_in_nI <;> omega)) dX9_copy_170 ?_
                  refine zval (v' := .int (nI (pt (f9 j5).2 1))) (congrArg Value.int (rdI ((hI5.2.2 21 (by decide) (by decide) j5 hj5).trans (hL9.2.2.2.1 j5 hj5).2.2.1) (by omega))) ?_
                  refine zz (fun _ _ => lv_aload_n hx hb dX9_copy_171 rfl (lv_at hl 0 rfl)) ?_
                  refine z_get (v := .ref (r + 22)) C fd_X9_74 rm_0 rfl dX9_copy_172 ?_
                  refine zz (fun _ _ => lv_iload hx hb dX9_copy_175 (lv_at hl 6 rfl)) ?_
                  refine z_iald (f := A5 22) C rm_22 (by first | assumption | (apply vp_in_nI <;> omega)) dX9_copy_177 ?_
                  refine zval (v' := .int (nI (pt (f9 j5).2 2))) (congrArg Value.int (rdI ((hI5.2.2 22 (by decide) (by decide) j5 hj5).trans (hL9.2.2.2.1 j5 hj5).2.2.2) (by omega))) ?_
                  obtain ⟨⟨nx9, hs10, _, hn10⟩, _⟩ := id hI5.2
                  refine zdV (As := [.int (nI t), .int (nI (pt (f9 j5).2 0)), .int (nI (pt (f9 j5).2 1)), .int (nI (pt (f9 j5).2 2))]) (rest := []) (st' := [.int ((fX9_come v5 A5 (nI t) (nI (pt (f9 j5).2 0)) (nI (pt (f9 j5).2 1)) (nI (pt (f9 j5).2 2))).1)]) C hl.1 lk_X9_209 (ctX9_come hs10 hn10) rm_0 rfl rfl rfl (Nat.le_of_ble_eq_true rfl) ⟨by decide, by decide, by decide, by decide⟩ dX9_copy_178 rfl (fun sz => ?_)
                  refine zb (fun _ _ => lv_if_eq (tgt := 188) hx hb dX9_copy_181 (by decide)) (fun c_9 => ?_) (fun c_9 => ?_)
                  · refine zz (fun _ _ => lv_iconst (v := 0) hx hb dX9_copy_188 (by decide)) ?_
                    refine zs (fun _ _ => lv_istore (lv' := [(4, .int (0)), (0, .ref (r)), (1, .int (nI i)), (2, .int (nI f)), (3, .int (nI t)), (5, .int (nI n9)), (6, .int (nI (j5)))]) hx hb dX9_copy_189 hl (by decide) rfl) (fun ls hl => ?_)
                    refine zs (fun _ _ => lv_iinc (v := nI (j5) + 1) (lv' := [(6, .int (nI (j5) + 1)), (4, .int (0)), (0, .ref (r)), (1, .int (nI i)), (2, .int (nI f)), (3, .int (nI t)), (5, .int (nI n9))]) hx hb dX9_copy_191 hl (k := 6) rfl rfl (by decide) rfl) (fun ls hl => ?_)
                    refine zz (fun _ _ => lv_goto (tgt := 132) hx hb dX9_copy_194 (by decide)) ?_
                    have hl := lv_sub hl [2, 3, 4, 5, 1, 6, 0] rfl
                    try simp only [nI_1] at hl
                    exact ih5 ((fX9_come v5 A5 (nI t) (nI (pt (f9 j5).2 0)) (nI (pt (f9 j5).2 1)) (nI (pt (f9 j5).2 2))).2.1, (fX9_come v5 A5 (nI t) (nI (pt (f9 j5).2 0)) (nI (pt (f9 j5).2 1)) (nI (pt (f9 j5).2 2))).2.2, 0) _ _ ⟨(by show cmI _ _ _ (grl f9 f (j5 + 1)) _ _ _ _; unfold grl; rw [if_pos ((nI_eq (by omega) (by omega)).mp c_7)]; exact (cmA_next ht hok5.2 hI5.1 c_8).1 c_9), kpR_next hI5.2 _ _ _ _⟩ hl
                  · refine zz (fun _ _ => lv_iconst (v := 1) hx hb dX9_copy_184 (by decide)) ?_
                    refine zz (fun _ _ => lv_goto (tgt := 189) hx hb dX9_copy_185 (by decide)) ?_
                    refine zs (fun _ _ => lv_istore (lv' := [(4, .int (1)), (0, .ref (r)), (1, .int (nI i)), (2, .int (nI f)), (3, .int (nI t)), (5, .int (nI n9)), (6, .int (nI (j5)))]) hx hb dX9_copy_189 hl (by decide) rfl) (fun ls hl => ?_)
                    refine zs (fun _ _ => lv_iinc (v := nI (j5) + 1) (lv' := [(6, .int (nI (j5) + 1)), (4, .int (1)), (0, .ref (r)), (1, .int (nI i)), (2, .int (nI f)), (3, .int (nI t)), (5, .int (nI n9))]) hx hb dX9_copy_191 hl (k := 6) rfl rfl (by decide) rfl) (fun ls hl => ?_)
                    refine zz (fun _ _ => lv_goto (tgt := 132) hx hb dX9_copy_194 (by decide)) ?_
                    have hl := lv_sub hl [2, 3, 4, 5, 1, 6, 0] rfl
                    try simp only [nI_1] at hl
                    exact ih5 ((fX9_come v5 A5 (nI t) (nI (pt (f9 j5).2 0)) (nI (pt (f9 j5).2 1)) (nI (pt (f9 j5).2 2))).2.1, (fX9_come v5 A5 (nI t) (nI (pt (f9 j5).2 0)) (nI (pt (f9 j5).2 1)) (nI (pt (f9 j5).2 2))).2.2, 1) _ _ ⟨(by show cmI _ _ _ (grl f9 f (j5 + 1)) _ _ _ _; unfold grl; rw [if_pos ((nI_eq (by omega) (by omega)).mp c_7)]; exact (cmA_next ht hok5.2 hI5.1 c_8).2 c_9), kpR_next hI5.2 _ _ _ _⟩ hl
          · intro a5 sz ls hI5 hl
            obtain ⟨v5, A5, t5_4⟩ := a5
            dsimp only at hI5 hl
            refine zeq (M' := (mm aC r v5 A5 R)) rfl ?_
            refine zz (fun _ _ => lv_iload hx hb dX9_copy_132 (lv_at hl 6 rfl)) ?_
            refine zz (fun _ _ => lv_iload hx hb dX9_copy_134 (lv_at hl 5 rfl)) ?_
            refine zb (fun _ _ => lv_icmp_ge (tgt := 197) hx hb dX9_copy_136 (by decide)) (fun c_10 => ?_) (fun c_10 => ?_)
            · refine zz (fun _ _ => lv_iload hx hb dX9_copy_197 (lv_at hl 4 rfl)) ?_
              refine zb (fun _ _ => lv_if_eq (tgt := 206) hx hb dX9_copy_199 (by decide)) (fun c_11 => ?_) (fun c_11 => ?_)
              · refine zz (fun _ _ => lv_iconst (v := 4) hx hb dX9_copy_206 (by decide)) ?_
                exact z_iret C hr hlk dX9_copy_207 (zpI_mk (a := v5) (b := A5) (by have h9 := (cp_end8 hR.1 ht c_1 (fun q => c_2 (by rw [q])) hL9.2.2.1 hI5.1).1 c_11; rw [show k = 8 from (nI_eq (by omega) (by omega)).mp c_3]; exact h9))
              · refine zz (fun _ _ => lv_iconst (v := 0) hx hb dX9_copy_202 (by decide)) ?_
                refine zz (fun _ _ => lv_goto (tgt := 207) hx hb dX9_copy_203 (by decide)) ?_
                exact z_iret C hr hlk dX9_copy_207 (zpI_mk (a := v5) (b := A5) (by have h9 := (cp_end8 hR.1 ht c_1 (fun q => c_2 (by rw [q])) hL9.2.2.1 hI5.1).2 c_11; rw [show k = 8 from (nI_eq (by omega) (by omega)).mp c_3]; exact h9))
            · exact absurd (nI_le (Nat.le_refl _) (by omega)) c_10
        · exact absurd (c_3.symm.trans c_4) (by decide)
      · refine zz (fun _ _ => lv_aload_n hx hb dX9_copy_43 rfl (lv_at hl 2 rfl)) ?_
        refine zz (fun _ _ => lv_iload_n hx hb dX9_copy_44 rfl (lv_at hl 0 rfl)) ?_
        refine zqVN (As := [.int (nI t)]) (rest := []) C hl.1 lk_X9_171 (hX9_empty hR ht) rm_0 rfl rfl rfl (Nat.le_of_ble_eq_true rfl) ⟨by decide, by decide, by decide, by decide⟩ dX9_copy_45 (fun v12 A12 sz h12 => ?_)
        refine zeq (M' := (mm aC r v12 A12 R)) rfl ?_
        refine zz (fun _ _ => lv_aload_n hx hb dX9_copy_48 rfl (lv_at hl 2 rfl)) ?_
        refine z_get (v := .ref (r + 23)) C fd_X9_77 rm_0 rfl dX9_copy_49 ?_
        refine zz (fun _ _ => lv_iload_n hx hb dX9_copy_52 rfl (lv_at hl 0 rfl)) ?_
        refine zz (fun _ _ => lv_iconst (v := 1) hx hb dX9_copy_53 (by decide)) ?_
        have hR9 : RC v12 (u1 A12 23 (upd (A12 23) (Int32.toNatClampNeg (nI t)) 1)) ((pG S.1 t (fun _ => false), S.2).1, tS S.2.1 t true, S.2.2) := by rw [nI_clamp (by omega)]; exact RC_set h12.2 t
        have hf9 : FR v A v12 (u1 A12 23 (upd (A12 23) (Int32.toNatClampNeg (nI t)) 1)) := h12.1.trans FR_set
        obtain ⟨ho9, n9, f9, hL9⟩ := id hR9
        have hn9 := (RL_n hL9 ho9).2
        refine z_zast (f := A12 23) C rm_23 (by first | assumption | (apply vp_in_nI <;> omega)) rfl dX9_copy_54 ?_
        refine zeq wm_23 ?_
        refine zz (fun _ _ => lv_aload_n hx hb dX9_copy_55 rfl (lv_at hl 2 rfl)) ?_
        refine z_get (v := .ref (r + 1)) C fd_X9_7 rm_0 rfl dX9_copy_56 ?_
        refine zz (fun _ _ => lv_iload_n hx hb dX9_copy_59 rfl (lv_at hl 3 rfl)) ?_
        refine z_iald (f := A12 1) C rm_1 (by first | assumption | (apply vp_in_nI <;> omega)) dX9_copy_60 ?_
        refine zval (v' := .int (nI k)) (congrArg Value.int (rdI ((congrFun (hf9.low 1 (by decide)) _).trans hkd) (by omega))) ?_
        refine zz (fun _ _ => lv_bipush (v := 7) hx hb dX9_copy_61 (by decide)) ?_
        refine zval (v' := .int (nI 7)) (congrArg Value.int rfl) ?_
        refine zbn (fun _ _ => lv_icmp_ne (tgt := 120) hx hb dX9_copy_63 (by decide)) (fun c_13 => ?_) (fun c_13 => ?_)
        · refine zz (fun _ _ => lv_iconst (v := 1) hx hb dX9_copy_120 (by decide)) ?_
          refine zs (fun _ _ => lv_istore (lv' := [(4, .int (1)), (3, .int (nI t)), (2, .int (nI f)), (0, .ref (r)), (1, .int (nI i))]) hx hb dX9_copy_121 hl (by decide) rfl) (fun ls hl => ?_)
          refine zz (fun _ _ => lv_aload_n hx hb dX9_copy_123 rfl (lv_at hl 3 rfl)) ?_
          refine z_get (v := .int (v12 20)) C fd_X9_160 rm_0 rfl dX9_copy_124 ?_
          refine zval (v' := .int (nI n9)) (congrArg Value.int hL9.1) ?_
          refine zs (fun _ _ => lv_istore (lv' := [(5, .int (nI n9)), (4, .int (1)), (3, .int (nI t)), (2, .int (nI f)), (0, .ref (r)), (1, .int (nI i))]) hx hb dX9_copy_127 hl (by decide) rfl) (fun ls hl => ?_)
          refine zz (fun _ _ => lv_iconst (v := 0) hx hb dX9_copy_129 (by decide)) ?_
          refine zs (fun _ _ => lv_istore (lv' := [(6, .int (0)), (5, .int (nI n9)), (4, .int (1)), (3, .int (nI t)), (2, .int (nI f)), (0, .ref (r)), (1, .int (nI i))]) hx hb dX9_copy_130 hl (by decide) rfl) (fun ls hl => ?_)
          have hl0 := lv_sub hl [5, 6, 4, 3, 2, 1, 0] rfl
          refine z_loop (γ := (Nat → Int32) × (Nat → Nat → Int32) × Int32) (G := fun a => mm aC r a.1 a.2.1 R) (I := fun j a => cmI v A t (grl f9 f j) ((pG S.1 t (fun _ => false), S.2).1, tS S.2.1 t true, S.2.2) a.2.2 a.1 a.2.1 ∧ kpR n9 (u1 A12 23 (upd (A12 23) (Int32.toNatClampNeg (nI t)) 1)) a.1 a.2.1) (lv := fun j a => [(0, .ref (r)), (1, .int (nI i)), (2, .int (nI f)), (3, .int (nI t)), (4, .int (a.2.2)), (5, .int (nI n9)), (6, .int (nI (j)))]) (n9) ?_ ?_ (v12, (u1 A12 23 (upd (A12 23) (Int32.toNatClampNeg (nI t)) (1))), 1) _ _ ⟨⟨hf9, Or.inr ⟨_, rfl, rfl, hR9, by simp [tS]⟩⟩, ⟨n9, hL9.1, Nat.le_refl _, hn9⟩, fun _ _ _ _ _ => rfl⟩ hl0
          · intro j14 a14 sz ls hj14 hI14 hl ih14
            obtain ⟨v14, A14, t14_4⟩ := a14
            dsimp only at hI14 hl ih14
            refine zeq (M' := (mm aC r v14 A14 R)) rfl ?_
            have hg14 : A14 19 j14 = nI (f9 j14).1 := (hI14.2.2 19 (by decide) (by decide) j14 hj14).trans (hL9.2.2.2.1 j14 hj14).1
            have hok14 := RL_ok hL9 ho9 hj14
            have hf714 := hok14.1
            refine zz (fun _ _ => lv_iload hx hb dX9_copy_132 (lv_at hl 6 rfl)) ?_
            refine zz (fun _ _ => lv_iload hx hb dX9_copy_134 (lv_at hl 5 rfl)) ?_
            refine zb (fun _ _ => lv_icmp_ge (tgt := 197) hx hb dX9_copy_136 (by decide)) (fun c_15 => ?_) (fun c_15 => ?_)
            · exact absurd c_15 (nI_ge (by omega) (by omega))
            · refine zz (fun _ _ => lv_aload_n hx hb dX9_copy_139 rfl (lv_at hl 0 rfl)) ?_
              refine z_get (v := .ref (r + 19)) C fd_X9_65 rm_0 rfl dX9_copy_140 ?_
              refine zz (fun _ _ => lv_iload hx hb dX9_copy_143 (lv_at hl 6 rfl)) ?_
              refine z_iald (f := A14 19) C rm_19 (by first | assumption | (apply vp_in_nI <;> omega)) dX9_copy_145 ?_
              refine zval (v' := .int (nI (f9 j14).1)) (congrArg Value.int (rdI (hg14) (by omega))) ?_
              refine zz (fun _ _ => lv_iload_n hx hb dX9_copy_146 rfl (lv_at hl 2 rfl)) ?_
              refine zbn (fun _ _ => lv_icmp_ne (tgt := 191) hx hb dX9_copy_147 (by decide)) (fun c_16 => ?_) (fun c_16 => ?_)
              · refine zs (fun _ _ => lv_iinc (v := nI (j14) + 1) (lv' := [(6, .int (nI (j14) + 1)), (0, .ref (r)), (1, .int (nI i)), (2, .int (nI f)), (3, .int (nI t)), (4, .int (t14_4)), (5, .int (nI n9))]) hx hb dX9_copy_191 hl (k := 6) rfl rfl (by decide) rfl) (fun ls hl => ?_)
                refine zz (fun _ _ => lv_goto (tgt := 132) hx hb dX9_copy_194 (by decide)) ?_
                have hl := lv_sub hl [1, 2, 3, 4, 5, 6, 0] rfl
                try simp only [nI_1] at hl
                exact ih14 (v14, A14, t14_4) _ _ ⟨(by show cmI _ _ _ (grl f9 f (j14 + 1)) _ _ _ _; unfold grl; rw [if_neg (fun q => c_16 (by rw [q]))]; exact hI14.1), hI14.2⟩ hl
              · refine zz (fun _ _ => lv_iload hx hb dX9_copy_150 (lv_at hl 4 rfl)) ?_
                refine zb (fun _ _ => lv_if_eq (tgt := 188) hx hb dX9_copy_152 (by decide)) (fun c_17 => ?_) (fun c_17 => ?_)
                · refine zz (fun _ _ => lv_iconst (v := 0) hx hb dX9_copy_188 (by decide)) ?_
                  refine zs (fun _ _ => lv_istore (lv' := [(4, .int (0)), (0, .ref (r)), (1, .int (nI i)), (2, .int (nI f)), (3, .int (nI t)), (5, .int (nI n9)), (6, .int (nI (j14)))]) hx hb dX9_copy_189 hl (by decide) rfl) (fun ls hl => ?_)
                  refine zs (fun _ _ => lv_iinc (v := nI (j14) + 1) (lv' := [(6, .int (nI (j14) + 1)), (4, .int (0)), (0, .ref (r)), (1, .int (nI i)), (2, .int (nI f)), (3, .int (nI t)), (5, .int (nI n9))]) hx hb dX9_copy_191 hl (k := 6) rfl rfl (by decide) rfl) (fun ls hl => ?_)
                  refine zz (fun _ _ => lv_goto (tgt := 132) hx hb dX9_copy_194 (by decide)) ?_
                  have hl := lv_sub hl [2, 3, 4, 5, 1, 6, 0] rfl
                  try simp only [nI_1] at hl
                  exact ih14 (v14, A14, 0) _ _ ⟨(by show cmI _ _ _ (grl f9 f (j14 + 1)) _ _ _ _; unfold grl; rw [if_pos ((nI_eq (by omega) (by omega)).mp c_16)]; exact cmA_out hI14.1 c_17), hI14.2⟩ hl
                · refine zz (fun _ _ => lv_aload_n hx hb dX9_copy_155 rfl (lv_at hl 0 rfl)) ?_
                  refine zz (fun _ _ => lv_iload_n hx hb dX9_copy_156 rfl (lv_at hl 3 rfl)) ?_
                  refine zz (fun _ _ => lv_aload_n hx hb dX9_copy_157 rfl (lv_at hl 0 rfl)) ?_
                  refine z_get (v := .ref (r + 20)) C fd_X9_68 rm_0 rfl dX9_copy_158 ?_
                  refine zz (fun _ _ => lv_iload hx hb dX9_copy_161 (lv_at hl 6 rfl)) ?_
                  refine z_iald (f := A14 20) C rm_20 (by first | assumption | (apply vp_in_nI <;> omega)) dX9_copy_163 ?_
                  refine zval (v' := .int (nI (pt (f9 j14).2 0))) (congrArg Value.int (rdI ((hI14.2.2 20 (by decide) (by decide) j14 hj14).trans (hL9.2.2.2.1 j14 hj14).2.1) (by omega))) ?_
                  refine zz (fun _ _ => lv_aload_n hx hb dX9_copy_164 rfl (lv_at hl 0 rfl)) ?_
                  refine z_get (v := .ref (r + 21)) C fd_X9_71 rm_0 rfl dX9_copy_165 ?_
                  refine zz (fun _ _ => lv_iload hx hb dX9_copy_168 (lv_at hl 6 rfl)) ?_
                  refine z_iald (f := A14 21) C rm_21 (by first | assumption | (apply vp_in_nI <;> omega)) dX9_copy_170 ?_
                  refine zval (v' := .int (nI (pt (f9 j14).2 1))) (congrArg Value.int (rdI ((hI14.2.2 21 (by decide) (by decide) j14 hj14).trans (hL9.2.2.2.1 j14 hj14).2.2.1) (by omega))) ?_
                  refine zz (fun _ _ => lv_aload_n hx hb dX9_copy_171 rfl (lv_at hl 0 rfl)) ?_
                  refine z_get (v := .ref (r + 22)) C fd_X9_74 rm_0 rfl dX9_copy_172 ?_
                  refine zz (fun _ _ => lv_iload hx hb dX9_copy_175 (lv_at hl 6 rfl)) ?_
                  refine z_iald (f := A14 22) C rm_22 (by first | assumption | (apply vp_in_nI <;> omega)) dX9_copy_177 ?_
                  refine zval (v' := .int (nI (pt (f9 j14).2 2))) (congrArg Value.int (rdI ((hI14.2.2 22 (by decide) (by decide) j14 hj14).trans (hL9.2.2.2.1 j14 hj14).2.2.2) (by omega))) ?_
                  obtain ⟨⟨nx9, hs10, _, hn10⟩, _⟩ := id hI14.2
                  refine zdV (As := [.int (nI t), .int (nI (pt (f9 j14).2 0)), .int (nI (pt (f9 j14).2 1)), .int (nI (pt (f9 j14).2 2))]) (rest := []) (st' := [.int ((fX9_come v14 A14 (nI t) (nI (pt (f9 j14).2 0)) (nI (pt (f9 j14).2 1)) (nI (pt (f9 j14).2 2))).1)]) C hl.1 lk_X9_209 (ctX9_come hs10 hn10) rm_0 rfl rfl rfl (Nat.le_of_ble_eq_true rfl) ⟨by decide, by decide, by decide, by decide⟩ dX9_copy_178 rfl (fun sz => ?_)
                  refine zb (fun _ _ => lv_if_eq (tgt := 188) hx hb dX9_copy_181 (by decide)) (fun c_18 => ?_) (fun c_18 => ?_)
                  · refine zz (fun _ _ => lv_iconst (v := 0) hx hb dX9_copy_188 (by decide)) ?_
                    refine zs (fun _ _ => lv_istore (lv' := [(4, .int (0)), (0, .ref (r)), (1, .int (nI i)), (2, .int (nI f)), (3, .int (nI t)), (5, .int (nI n9)), (6, .int (nI (j14)))]) hx hb dX9_copy_189 hl (by decide) rfl) (fun ls hl => ?_)
                    refine zs (fun _ _ => lv_iinc (v := nI (j14) + 1) (lv' := [(6, .int (nI (j14) + 1)), (4, .int (0)), (0, .ref (r)), (1, .int (nI i)), (2, .int (nI f)), (3, .int (nI t)), (5, .int (nI n9))]) hx hb dX9_copy_191 hl (k := 6) rfl rfl (by decide) rfl) (fun ls hl => ?_)
                    refine zz (fun _ _ => lv_goto (tgt := 132) hx hb dX9_copy_194 (by decide)) ?_
                    have hl := lv_sub hl [2, 3, 4, 5, 1, 6, 0] rfl
                    try simp only [nI_1] at hl
                    exact ih14 ((fX9_come v14 A14 (nI t) (nI (pt (f9 j14).2 0)) (nI (pt (f9 j14).2 1)) (nI (pt (f9 j14).2 2))).2.1, (fX9_come v14 A14 (nI t) (nI (pt (f9 j14).2 0)) (nI (pt (f9 j14).2 1)) (nI (pt (f9 j14).2 2))).2.2, 0) _ _ ⟨(by show cmI _ _ _ (grl f9 f (j14 + 1)) _ _ _ _; unfold grl; rw [if_pos ((nI_eq (by omega) (by omega)).mp c_16)]; exact (cmA_next ht hok14.2 hI14.1 c_17).1 c_18), kpR_next hI14.2 _ _ _ _⟩ hl
                  · refine zz (fun _ _ => lv_iconst (v := 1) hx hb dX9_copy_184 (by decide)) ?_
                    refine zz (fun _ _ => lv_goto (tgt := 189) hx hb dX9_copy_185 (by decide)) ?_
                    refine zs (fun _ _ => lv_istore (lv' := [(4, .int (1)), (0, .ref (r)), (1, .int (nI i)), (2, .int (nI f)), (3, .int (nI t)), (5, .int (nI n9)), (6, .int (nI (j14)))]) hx hb dX9_copy_189 hl (by decide) rfl) (fun ls hl => ?_)
                    refine zs (fun _ _ => lv_iinc (v := nI (j14) + 1) (lv' := [(6, .int (nI (j14) + 1)), (4, .int (1)), (0, .ref (r)), (1, .int (nI i)), (2, .int (nI f)), (3, .int (nI t)), (5, .int (nI n9))]) hx hb dX9_copy_191 hl (k := 6) rfl rfl (by decide) rfl) (fun ls hl => ?_)
                    refine zz (fun _ _ => lv_goto (tgt := 132) hx hb dX9_copy_194 (by decide)) ?_
                    have hl := lv_sub hl [2, 3, 4, 5, 1, 6, 0] rfl
                    try simp only [nI_1] at hl
                    exact ih14 ((fX9_come v14 A14 (nI t) (nI (pt (f9 j14).2 0)) (nI (pt (f9 j14).2 1)) (nI (pt (f9 j14).2 2))).2.1, (fX9_come v14 A14 (nI t) (nI (pt (f9 j14).2 0)) (nI (pt (f9 j14).2 1)) (nI (pt (f9 j14).2 2))).2.2, 1) _ _ ⟨(by show cmI _ _ _ (grl f9 f (j14 + 1)) _ _ _ _; unfold grl; rw [if_pos ((nI_eq (by omega) (by omega)).mp c_16)]; exact (cmA_next ht hok14.2 hI14.1 c_17).2 c_18), kpR_next hI14.2 _ _ _ _⟩ hl
          · intro a14 sz ls hI14 hl
            obtain ⟨v14, A14, t14_4⟩ := a14
            dsimp only at hI14 hl
            refine zeq (M' := (mm aC r v14 A14 R)) rfl ?_
            refine zz (fun _ _ => lv_iload hx hb dX9_copy_132 (lv_at hl 6 rfl)) ?_
            refine zz (fun _ _ => lv_iload hx hb dX9_copy_134 (lv_at hl 5 rfl)) ?_
            refine zb (fun _ _ => lv_icmp_ge (tgt := 197) hx hb dX9_copy_136 (by decide)) (fun c_19 => ?_) (fun c_19 => ?_)
            · refine zz (fun _ _ => lv_iload hx hb dX9_copy_197 (lv_at hl 4 rfl)) ?_
              refine zb (fun _ _ => lv_if_eq (tgt := 206) hx hb dX9_copy_199 (by decide)) (fun c_20 => ?_) (fun c_20 => ?_)
              · refine zz (fun _ _ => lv_iconst (v := 4) hx hb dX9_copy_206 (by decide)) ?_
                exact z_iret C hr hlk dX9_copy_207 (zpI_mk (a := v14) (b := A14) ((cp_end6 hR.1 hf ht (fun q => c_3 (by rw [q])) (fun q => c_13 (by rw [q])) c_1 (fun q => c_2 (by rw [q])) hL9.2.2.1 hI14.1).1 c_20))
              · refine zz (fun _ _ => lv_iconst (v := 0) hx hb dX9_copy_202 (by decide)) ?_
                refine zz (fun _ _ => lv_goto (tgt := 207) hx hb dX9_copy_203 (by decide)) ?_
                exact z_iret C hr hlk dX9_copy_207 (zpI_mk (a := v14) (b := A14) ((cp_end6 hR.1 hf ht (fun q => c_3 (by rw [q])) (fun q => c_13 (by rw [q])) c_1 (fun q => c_2 (by rw [q])) hL9.2.2.1 hI14.1).2 c_20))
            · exact absurd (nI_le (Nat.le_refl _) (by omega)) c_19
        · have hk7 : k = 7 := (nI_eq (by omega) (by omega)).mp c_13
          subst hk7
          refine zz (fun _ _ => lv_iconst (v := 0) hx hb dX9_copy_66 (by decide)) ?_
          refine zs (fun _ _ => lv_istore (lv' := [(4, .int (0)), (3, .int (nI t)), (2, .int (nI f)), (0, .ref (r)), (1, .int (nI i))]) hx hb dX9_copy_67 hl (by decide) rfl) (fun ls hl => ?_)
          have hl0 := lv_sub hl [3, 4, 2, 1, 0] rfl
          refine z_loop (γ := (Nat → Int32) × (Nat → Nat → Int32)) (G := fun a => mm aC r a.1 a.2 R) (I := fun j a => mvI n9 f9 f t v12 (u1 A12 23 (upd (A12 23) (Int32.toNatClampNeg (nI t)) 1)) j a.1 a.2) (lv := fun j a => [(0, .ref (r)), (1, .int (nI i)), (2, .int (nI f)), (3, .int (nI t)), (4, .int (nI (j)))]) (n9) ?_ ?_ (v12, (u1 A12 23 (upd (A12 23) (Int32.toNatClampNeg (nI t)) (1)))) _ _ ⟨rfl, fun _ _ => rfl, fun i hi => by rw [if_neg (fun q => absurd q.1 (Nat.not_lt_zero _))]⟩ hl0
          · intro j21 a21 sz ls hj21 hI21 hl ih21
            obtain ⟨v21, A21⟩ := a21
            dsimp only at hI21 hl ih21
            refine zeq (M' := (mm aC r v21 A21 R)) rfl ?_
            have hg21 : A21 19 j21 = nI (f9 j21).1 := by rw [hI21.2.2 j21 hj21, if_neg (fun q => absurd q.1 (Nat.lt_irrefl _))]; exact (hL9.2.2.2.1 j21 hj21).1
            have hf721 := (RL_ok hL9 ho9 hj21).1
            refine zz (fun _ _ => lv_iload hx hb dX9_copy_69 (lv_at hl 4 rfl)) ?_
            refine zz (fun _ _ => lv_aload_n hx hb dX9_copy_71 rfl (lv_at hl 0 rfl)) ?_
            refine z_get (v := .int (v21 20)) C fd_X9_160 rm_0 rfl dX9_copy_72 ?_
            refine zval (v' := .int (nI n9)) (congrArg Value.int (by rw [hI21.1]; exact hL9.1)) ?_
            refine zb (fun _ _ => lv_icmp_ge (tgt := 113) hx hb dX9_copy_75 (by decide)) (fun c_22 => ?_) (fun c_22 => ?_)
            · exact absurd c_22 (nI_ge (by omega) (by omega))
            · refine zz (fun _ _ => lv_aload_n hx hb dX9_copy_78 rfl (lv_at hl 0 rfl)) ?_
              refine z_get (v := .ref (r + 19)) C fd_X9_65 rm_0 rfl dX9_copy_79 ?_
              refine zz (fun _ _ => lv_iload hx hb dX9_copy_82 (lv_at hl 4 rfl)) ?_
              refine zz (fun _ _ => lv_aload_n hx hb dX9_copy_84 rfl (lv_at hl 0 rfl)) ?_
              refine z_get (v := .ref (r + 19)) C fd_X9_65 rm_0 rfl dX9_copy_85 ?_
              refine zz (fun _ _ => lv_iload hx hb dX9_copy_88 (lv_at hl 4 rfl)) ?_
              refine z_iald (f := A21 19) C rm_19 (by first | assumption | (apply vp_in_nI <;> omega)) dX9_copy_90 ?_
              refine zval (v' := .int (nI (f9 j21).1)) (congrArg Value.int (rdI (hg21) (by omega))) ?_
              refine zz (fun _ _ => lv_iload_n hx hb dX9_copy_91 rfl (lv_at hl 2 rfl)) ?_
              refine zbn (fun _ _ => lv_icmp_ne (tgt := 99) hx hb dX9_copy_92 (by decide)) (fun c_23 => ?_) (fun c_23 => ?_)
              · refine zz (fun _ _ => lv_aload_n hx hb dX9_copy_99 rfl (lv_at hl 0 rfl)) ?_
                refine z_get (v := .ref (r + 19)) C fd_X9_65 rm_0 rfl dX9_copy_100 ?_
                refine zz (fun _ _ => lv_iload hx hb dX9_copy_103 (lv_at hl 4 rfl)) ?_
                refine z_iald (f := A21 19) C rm_19 (by first | assumption | (apply vp_in_nI <;> omega)) dX9_copy_105 ?_
                refine zval (v' := .int (nI (f9 j21).1)) (congrArg Value.int (rdI (hg21) (by omega))) ?_
                refine z_iast (f := A21 19) C rm_19 (by first | assumption | (apply vp_in_nI <;> omega)) dX9_copy_106 ?_
                refine zeq wm_19 ?_
                refine zs (fun _ _ => lv_iinc (v := nI (j21) + 1) (lv' := [(4, .int (nI (j21) + 1)), (0, .ref (r)), (1, .int (nI i)), (2, .int (nI f)), (3, .int (nI t))]) hx hb dX9_copy_107 hl (k := 4) rfl rfl (by decide) rfl) (fun ls hl => ?_)
                refine zz (fun _ _ => lv_goto (tgt := 69) hx hb dX9_copy_110 (by decide)) ?_
                have hl := lv_sub hl [1, 2, 3, 4, 0] rfl
                try simp only [nI_1] at hl
                exact ih21 (v21, (u1 A21 19 (upd (A21 19) (Int32.toNatClampNeg (nI (j21))) (nI (f9 j21).1)))) _ _ (by dsimp only; rw [nI_clamp (n := j21) (by omega)]; exact mv_next (z := nI (f9 j21).1) hI21 (by rw [if_neg (fun q => c_23 (by rw [q]))]; exact (hL9.2.2.2.1 j21 hj21).1.symm)) hl
              · refine zz (fun _ _ => lv_iload_n hx hb dX9_copy_95 rfl (lv_at hl 3 rfl)) ?_
                refine zz (fun _ _ => lv_goto (tgt := 106) hx hb dX9_copy_96 (by decide)) ?_
                refine z_iast (f := A21 19) C rm_19 (by first | assumption | (apply vp_in_nI <;> omega)) dX9_copy_106 ?_
                refine zeq wm_19 ?_
                refine zs (fun _ _ => lv_iinc (v := nI (j21) + 1) (lv' := [(4, .int (nI (j21) + 1)), (0, .ref (r)), (1, .int (nI i)), (2, .int (nI f)), (3, .int (nI t))]) hx hb dX9_copy_107 hl (k := 4) rfl rfl (by decide) rfl) (fun ls hl => ?_)
                refine zz (fun _ _ => lv_goto (tgt := 69) hx hb dX9_copy_110 (by decide)) ?_
                have hl := lv_sub hl [1, 2, 3, 4, 0] rfl
                try simp only [nI_1] at hl
                exact ih21 (v21, (u1 A21 19 (upd (A21 19) (Int32.toNatClampNeg (nI (j21))) (nI t)))) _ _ (by dsimp only; rw [nI_clamp (n := j21) (by omega)]; exact mv_next (z := nI t) hI21 (by rw [if_pos ((nI_eq (by omega) (by omega)).mp c_23)])) hl
          · intro a21 sz ls hI21 hl
            obtain ⟨v21, A21⟩ := a21
            dsimp only at hI21 hl
            refine zeq (M' := (mm aC r v21 A21 R)) rfl ?_
            refine zz (fun _ _ => lv_iload hx hb dX9_copy_69 (lv_at hl 4 rfl)) ?_
            refine zz (fun _ _ => lv_aload_n hx hb dX9_copy_71 rfl (lv_at hl 0 rfl)) ?_
            refine z_get (v := .int (v21 20)) C fd_X9_160 rm_0 rfl dX9_copy_72 ?_
            refine zval (v' := .int (nI n9)) (congrArg Value.int (by rw [hI21.1]; exact hL9.1)) ?_
            refine zb (fun _ _ => lv_icmp_ge (tgt := 113) hx hb dX9_copy_75 (by decide)) (fun c_24 => ?_) (fun c_24 => ?_)
            · refine zz (fun _ _ => lv_aload_n hx hb dX9_copy_113 rfl (lv_at hl 0 rfl)) ?_
              refine zz (fun _ _ => lv_iload_n hx hb dX9_copy_114 rfl (lv_at hl 2 rfl)) ?_
              refine zqVN (As := [.int (nI f)]) (rest := []) C hl.1 lk_X9_228 (hX9_dropOne (mv_end ho9 hL9 hf ht (fun q => c_2 (by rw [q])) (fun c => pG_f) (by simp [tS]) hI21).2 hf) rm_0 rfl rfl rfl (Nat.le_of_ble_eq_true rfl) ⟨by decide, by decide, by decide, by decide⟩ dX9_copy_115 (fun v25 A25 sz h25 => ?_)
              refine zeq (M' := (mm aC r v25 A25 R)) rfl ?_
              refine zz (fun _ _ => lv_iconst (v := 0) hx hb dX9_copy_118 (by decide)) ?_
              exact z_iret C hr hlk dX9_copy_119 (zpI_mk (a := v25) (b := A25) (cp_end7 c_1 (fun q => c_2 (by rw [q])) (hf9.trans ((mv_end ho9 hL9 hf ht (fun q => c_2 (by rw [q])) (fun c => pG_f) (by simp [tS]) hI21).1.trans h25.1)) (by have h9 := h25.2; dsimp only at h9; rw [pG_3 (fun q => c_2 (by rw [q]))] at h9; exact h9)))
            · exact absurd (nI_le (Nat.le_refl _) (by omega)) c_24
    · refine zz (fun _ _ => lv_iconst (v := 0) hx hb dX9_copy_30 (by decide)) ?_
      exact z_iret C hr hlk dX9_copy_31 (zpI_mk (a := v) (b := A) (cp_same hR c_1 ((nI_eq (by omega) (by omega)).mp c_2)))
  · refine zz (fun _ _ => lv_iconst (v := 2) hx hb dX9_copy_23 (by decide)) ?_
    exact z_iret C hr hlk dX9_copy_24 (zpI_mk (a := v) (b := A) (cp_no hR c_1))
end
section
/-! The facts of a graph lined up: the reference's order is the sorted one. -/
theorem grl_nodup {v : Nat → Int32} {A : Nat → Nat → Int32} {S : St} {n : Nat} {f : Nat → Nat × Nat} (h : RLs v A S n f) (g : Nat) : ∀ m, m ≤ n → (grl f g m).Nodup
  | 0, _ => by simp [grl]
  | m + 1, hm => by
    unfold grl
    have ih := grl_nodup h g m (by omega)
    split
    · rename_i e
      refine List.nodup_append.mpr ⟨ih, by simp, fun a ha b hb => ?_⟩
      rw [List.mem_singleton] at hb
      subst hb
      intro q
      subst q
      obtain ⟨i, hi, r⟩ := (grl_mem m).mp ha
      have := h.2.1 i m (by omega) (by omega) (by rw [r, ← e])
      omega
    · exact ih
theorem grl_perm {v : Nat → Int32} {A : Nat → Nat → Int32} {S : St} {n : Nat} {f : Nat → Nat × Nat} (h : RLs v A S n f) (ho : okS S) (g : Nat) : (grl f g n).Perm (cds (S.1 g)) :=
  (List.perm_ext_iff_of_nodup (grl_nodup h g n (Nat.le_refl _)) (srt_nodup (cds_srt _))).mpr (fun c => by rw [grl_mem, cds_mem (okP_g ho.1 g), h.2.2.1])
theorem isBefore_s {v : Nat → Int32} {A : Nat → Nat → Int32} {S : St} {n : Nat} {f : Nat → Nat × Nat} (h : RLs v A S n f) (ho : okS S) {i k : Nat} (hi : i < n) (hk : k < n) : fX9_isBefore A (nI i) (nI k) = 0 ↔ ¬ (f i).2 < (f k).2 := by
  have hn := (RL_n h ho).2
  have ri := h.2.2.2.1 i hi
  have rk := h.2.2.2.1 k hk
  have oi := (RL_ok h ho hi).2
  have ok := (RL_ok h ho hk).2
  have bi : ∀ q, pt (f i).2 q < 2 ^ 31 := fun q => by have := pt_lt oi q; omega
  have bk : ∀ q, pt (f k).2 q < 2 ^ 31 := fun q => by have := pt_lt ok q; omega
  unfold fX9_isBefore
  rw [nI_clamp (show i < 2 ^ 31 by omega), nI_clamp (show k < 2 ^ 31 by omega), ri.2.1, ri.2.2.1, ri.2.2.2, rk.2.1, rk.2.2.1, rk.2.2.2, pt_lex]
  simp only [nI_eq (bi 0) (bk 0), nI_eq (bi 1) (bk 1), nI_leI (bk 0) (bi 0), nI_leI (bk 1) (bi 1), nI_leI (bk 2) (bi 2)]
  by_cases q0 : pt (f i).2 0 = pt (f k).2 0
  · rw [if_pos q0, if_pos q0]
    by_cases q1 : pt (f i).2 1 = pt (f k).2 1
    · rw [if_pos q1, if_pos q1]
      by_cases q2 : pt (f k).2 2 ≤ pt (f i).2 2
      · rw [if_pos q2]; exact ⟨fun _ => by omega, fun _ => rfl⟩
      · rw [if_neg q2]; exact ⟨fun r => absurd r (by decide), fun r => by omega⟩
    · rw [if_neg q1, if_neg q1]
      by_cases q2 : pt (f k).2 1 ≤ pt (f i).2 1
      · rw [if_pos q2]; exact ⟨fun _ => by omega, fun _ => rfl⟩
      · rw [if_neg q2]; exact ⟨fun r => absurd r (by decide), fun r => by omega⟩
  · rw [if_neg q0, if_neg q0]
    by_cases q2 : pt (f k).2 0 ≤ pt (f i).2 0
    · rw [if_pos q2]; exact ⟨fun _ => by omega, fun _ => rfl⟩
    · rw [if_neg q2]; exact ⟨fun r => absurd r (by decide), fun r => by omega⟩
theorem lu7_s {v : Nat → Int32} {A : Nat → Nat → Int32} {S : St} {n : Nat} {f : Nat → Nat × Nat} (h : RLs v A S n f) (ho : okS S) {g : Nat} (hg : g < 7) : ∀ m, m ≤ n → stX9_lineUp_7 A (nI g) 0 m = nI (grl f g m).length
  | 0, _ => rfl
  | m + 1, hm => by
    have hn := (RL_n h ho).2
    have r := (h.2.2.2.1 m (by omega)).1
    have o7 := (RL_ok h ho (show m < n by omega)).1
    simp only [stX9_lineUp_7, lu7_s h ho hg m (by omega), nI_clamp (show m < 2 ^ 31 by omega), r, grl, nI_eq (show (f m).1 < 2 ^ 31 by omega) (show g < 2 ^ 31 by omega)]
    split
    · rw [List.length_append, nI_1]; rfl
    · simp
theorem lu70_s {v : Nat → Int32} {A : Nat → Nat → Int32} {S : St} {n : Nat} {f : Nat → Nat × Nat} (h : RLs v A S n f) (ho : okS S) {g k : Nat} (hg : g < 7) (hk : k < n) (B : Nat → Nat → Int32) (hB : ∀ q, q ≠ 37 → B q = A q) : ∀ m, m ≤ n → stX9_lineUp_70 B k (nI g) 0 m = nI ((grl f g m).countP (fun c => decide (c < (f k).2)))
  | 0, _ => rfl
  | m + 1, hm => by
    have hn := (RL_n h ho).2
    have r := (h.2.2.2.1 m (by omega)).1
    have o7 := (RL_ok h ho (show m < n by omega)).1
    have hb : fX9_isBefore B (nI m) (nI k) = fX9_isBefore A (nI m) (nI k) := by
      unfold fX9_isBefore
      rw [hB 20 (by decide), hB 21 (by decide), hB 22 (by decide)]
    have hbs := isBefore_s h ho (show m < n by omega) hk
    simp only [stX9_lineUp_70, lu70_s h ho hg hk B hB m (by omega), nI_clamp (show m < 2 ^ 31 by omega), hB 19 (by decide), r, grl, nI_eq (show (f m).1 < 2 ^ 31 by omega) (show g < 2 ^ 31 by omega), hb]
    split
    · rw [List.countP_append]
      split
      · rename_i q
        rw [List.countP_cons_of_neg (by simpa using hbs.mp q)]
        simp
      · rename_i q
        have q2 : (f m).2 < (f k).2 := Decidable.not_not.mp (fun s => q (hbs.mpr s))
        rw [List.countP_cons_of_pos (by simpa using q2), nI_1]
        rfl
    · simp
/-- how many facts stand before one: its place -/
theorem countP_srt {l : List Nat} (h : srt l) : ∀ {i : Nat}, i < l.length → l.countP (fun c => decide (c < l.getD i 0)) = i := by
  induction l with
  | nil => intro i hi; exact absurd hi (Nat.not_lt_zero _)
  | cons a l ih =>
    intro i hi
    have hp := List.pairwise_cons.mp h
    cases i with
    | zero =>
      rw [List.countP_eq_zero]
      intro b hb
      rcases List.mem_cons.mp hb with q | q
      · simp [q]
      · have := hp.1 b q; simp; omega
    | succ i =>
      have hi : i < l.length := by simpa using hi
      have e : (a :: l).getD (i + 1) 0 = l.getD i 0 := by simp
      rw [e, List.countP_cons_of_pos (by have := hp.1 _ (getD_mem hi); simpa using this), ih hp.2 hi]
theorem lu47_s {v : Nat → Int32} {A : Nat → Nat → Int32} {S : St} {n : Nat} {f : Nat → Nat × Nat} (h : RLs v A S n f) (ho : okS S) {g : Nat} (hg : g < 7) (v1 : Nat → Int32) (hv1 : v1 20 = nI n) (o : Nat → Int32) : ∀ m, m ≤ n → ∀ i k, k < m → (f k).1 = g → i < (cds (S.1 g)).length → (f k).2 = (cds (S.1 g)).getD i 0 → stX9_lineUp_47 v1 A (nI g) o m i = nI k
  | 0, _ => fun i k hk => absurd hk (Nat.not_lt_zero _)
  | m + 1, hm => by
    intro i k hk hgk hi hc
    have hn := (RL_n h ho).2
    have r := (h.2.2.2.1 m (by omega)).1
    have o7 := (RL_ok h ho (show m < n by omega)).1
    have ih := lu47_s h ho hg v1 hv1 o m (by omega)
    simp only [stX9_lineUp_47, nI_clamp (show m < 2 ^ 31 by omega), r, nI_eq (show (f m).1 < 2 ^ 31 by omega) (show g < 2 ^ 31 by omega), hv1, nI_clamp (show n < 2 ^ 31 by omega)]
    have hcnt : ∀ q, q < n → (f q).1 = g → ∀ i', i' < (cds (S.1 g)).length → (f q).2 = (cds (S.1 g)).getD i' 0 → (grl f g n).countP (fun c => decide (c < (f q).2)) = i' := by
      intro q hq hgq i' hi' hcq
      rw [(grl_perm h ho g).countP_eq, hcq, countP_srt (cds_srt _) hi']
    split
    · rename_i e
      have hmc : (f m).2 ∈ cds (S.1 g) := (cds_mem (okP_g ho.1 g)).mpr ((h.2.2.1 g _).mpr ⟨m, by omega, by rw [← e]⟩)
      obtain ⟨im, him, eim⟩ := mem_getD hmc
      have hle : (cds (S.1 g)).length ≤ 120 := Nat.le_trans (cds_le_card S.1 hg) ho.2.1
      rw [lu70_s h ho hg (show m < n by omega) _ (fun q hq => by simp [u1, hq]) n (Nat.le_refl _), hcnt m (by omega) e im him eim.symm, nI_clamp (by omega)]
      unfold upd
      split
      · rename_i q
        subst q
        have : k = m := h.2.1 k m (by omega) (by omega) (Prod.ext (hgk.trans e.symm) (hc.trans eim))
        rw [this]
      · rename_i q
        have hkm : k ≠ m := fun s => by
          subst s
          rw [hc] at eim
          rcases Nat.lt_trichotomy i im with s | s | s
          · have := srt_get (cds_srt (S.1 g)) s him; omega
          · exact q s
          · have := srt_get (cds_srt (S.1 g)) s hi; omega
        exact ih i k (by omega) hgk hi hc
    · rename_i e
      have hkm : k ≠ m := fun s => e (by rw [← s]; exact hgk)
      exact ih i k (by omega) hgk hi hc
theorem lineUp_s {v : Nat → Int32} {A : Nat → Nat → Int32} {S : St} {n : Nat} {f : Nat → Nat × Nat} (h : RLs v A S n f) (ho : okS S) {g : Nat} (hg : g < 7) :
    (fX9_lineUp v A (nI g)).1 47 = nI (cds (S.1 g)).length ∧ (∀ k, k ≠ 47 → (fX9_lineUp v A (nI g)).1 k = v k) ∧ (∀ k, k ≠ 37 → (fX9_lineUp v A (nI g)).2 k = A k) ∧
    ∀ i, i < (cds (S.1 g)).length → ∃ t, t < n ∧ (fX9_lineUp v A (nI g)).2 37 i = nI t ∧ f t = (g, (cds (S.1 g)).getD i 0) := by
  have hn := (RL_n h ho).2
  simp only [fX9_lineUp, h.1, nI_clamp (show n < 2 ^ 31 by omega), lu7_s h ho hg n (Nat.le_refl _), (grl_perm h ho g).length_eq]
  refine ⟨by simp [upd], fun k hk => by simp [upd, hk], fun k hk => by simp [u1, hk], fun i hi => ?_⟩
  have hm := getD_mem hi
  obtain ⟨t, ht, e⟩ := (h.2.2.1 g _).mp ((cds_mem (okP_g ho.1 g)).mp hm)
  refine ⟨t, ht, ?_, e⟩
  simp only [u1, if_true]
  exact lu47_s h ho hg _ (by simp [upd, h.1]) _ n (Nat.le_refl _) i t ht (by rw [e]) hi (by rw [e])
/-- what lineUp leaves behind -/
def luP (v : Nat → Int32) (A : Nat → Nat → Int32) (S : St) (g : Nat) (v' : Nat → Int32) (A' : Nat → Nat → Int32) : Prop :=
  v' 47 = nI (cds (S.1 g)).length ∧ (∀ k, k ≠ 47 → v' k = v k) ∧ (∀ k, k ≠ 37 → A' k = A k) ∧ ∀ i, i < (cds (S.1 g)).length → ∃ t, t < 120 ∧ A' 37 i = nI t ∧ A' 20 t = nI (pt ((cds (S.1 g)).getD i 0) 0) ∧ A' 21 t = nI (pt ((cds (S.1 g)).getD i 0) 1) ∧ A' 22 t = nI (pt ((cds (S.1 g)).getD i 0) 2)
theorem lineUp_p {v : Nat → Int32} {A : Nat → Nat → Int32} {S : St} (hR : RC v A S) {g : Nat} (hg : g < 7) : luP v A S g (fX9_lineUp v A (nI g)).1 (fX9_lineUp v A (nI g)).2 := by
  obtain ⟨ho, n, f, h⟩ := hR
  have hn := (RL_n h ho).2
  have hs := lineUp_s h ho hg
  refine ⟨hs.1, hs.2.1, hs.2.2.1, fun i hi => ?_⟩
  obtain ⟨t, ht, e1, e2⟩ := hs.2.2.2 i hi
  have r := h.2.2.2.1 t ht
  rw [e2] at r
  exact ⟨t, by omega, e1, by rw [hs.2.2.1 20 (by decide)]; exact r.2.1, by rw [hs.2.2.1 21 (by decide)]; exact r.2.2.1, by rw [hs.2.2.1 22 (by decide)]; exact r.2.2.2⟩
theorem hX9_lineUp {l : Launch} {D : va_G} {aC : Nat → ClassId} {b0 sz r : Nat} {v : Nat → Int32} {A : Nat → Nat → Int32} {R : ZM} {S : St} {g : Nat} (hR : RC v A S) (hg : g < 7) :
    Ct l D aC b0 yX9_lineUp cX9_lineUp 5 none 1 0 0 [.ref r, .int (nI g)] (mm aC r v A R) sz (zpN (fun v A => mm aC r v A R) (luP v A S g)) := by
  obtain ⟨n, hs, hn⟩ := RC_n hR
  exact Ct.toN (G := fun v A => mm aC r v A R) (ctX9_lineUp hs hn) (lineUp_p hR hg)
end
section
/-! A row of a pattern held against a fact, in the reference. -/
def NX (A : Nat → Nat → Int32) (w : Nat) (σ : Sg) : Prop := ∀ k, k < 4 → A 36 (4 * w + k) = σ k
theorem vinN_s {A : Nat → Nat → Int32} {w : Nat} {σ : Sg} (hw : w ≤ 5000) (h : NX A w σ) (t : Int32) : fX9_valueInN A (nI w) t = vl σ t := by
  unfold fX9_valueInN vl
  by_cases q : isV t
  · rw [if_neg (fun r => isVar_s.mp r q), if_pos q, vplace q, nI_clamp (by have := (sl_s q).1; omega)]
    exact h _ (sl_s q).1
  · rw [if_pos (isVar_s.mpr q), if_neg q]
def ftP (v : Nat → Int32) (A : Nat → Nat → Int32) (σ : Sg) (a : Int32) (q m : Nat) (w' : Int32) (v' : Nat → Int32) (A' : Nat → Nat → Int32) : Prop :=
  v' = v ∧ (∀ k, k ≠ 36 → A' k = A k) ∧ (∀ k, k < 4 * m → A' 36 k = A 36 k) ∧ ((w' = 0 ∧ agr σ a (nI q) = none) ∨ ∃ σ', w' = 1 ∧ agr σ a (nI q) = some σ' ∧ NX A' m σ')
theorem agr_v {σ : Sg} {a q : Int32} (h : isV a) : agr σ a q = if vl σ a = -1 then some (upd σ (sl a) q) else if vl σ a = q then some σ else none := by
  unfold agr vl
  rw [if_neg (fun r => by have := Int32.le_iff_toInt_le.mp r; have e : (0 : Int32).toInt = 0 := rfl; have := h.2; omega), if_pos h]
theorem agr_n {σ : Sg} {a q : Int32} (h : isNm a) : agr σ a q = if vl σ a = q then some σ else none := by
  unfold agr vl
  rw [if_pos (Int32.le_iff_toInt_le.mpr (by have e : (0 : Int32).toInt = 0 := rfl; have := h.1; omega)), if_neg (show ¬ isV a from fun r => by have := h.1; have := r.2; omega)]
theorem nm_n1 {σ : Sg} {a : Int32} (h : isNm a) : ¬ vl σ a = -1 := by
  unfold vl
  rw [if_neg (fun r => by have := h.1; have := r.2; omega)]
  intro q
  have e : (-1 : Int32).toInt = -1 := by decide
  have := h.1
  rw [q, e] at this
  omega
theorem ft_set {v : Nat → Int32} {A : Nat → Nat → Int32} {σ : Sg} {a : Int32} {q m : Nat} (hm : m ≤ 5000) (hN : NX A m σ) (h1 : vl σ a = -1) (h2 : ¬ fX9_isVariable a = 0) : ftP v A σ a q m 1 v (u1 A 36 (upd (A 36) (Int32.toNatClampNeg (4 * nI m - 1 - a)) (nI q))) := by
  have hv : isV a := Decidable.not_not.mp (fun r => h2 (isVar_s.mpr r))
  have hs := (sl_s hv).1
  rw [vplace hv, nI_clamp (by omega)]
  refine ⟨rfl, fun k hk => by simp [u1, hk], fun k hk => by simp [u1, upd, show k ≠ 4 * m + sl a by omega], Or.inr ⟨upd σ (sl a) (nI q), rfl, by rw [agr_v hv, if_pos h1], fun k hk => ?_⟩⟩
  simp only [u1, if_true, upd]
  by_cases e : k = sl a
  · rw [if_pos (by omega), if_pos e]
  · rw [if_neg (by omega), if_neg e]; exact hN k hk
theorem ft_eq {v : Nat → Int32} {A : Nat → Nat → Int32} {σ : Sg} {a : Int32} {q m : Nat} (hq : q < 2 ^ 31) (hN : NX A m σ) (ha : isNm a ∨ isV a) (h : vl σ a = nI q) : ftP v A σ a q m 1 v A := by
  refine ⟨rfl, fun _ _ => rfl, fun _ _ => rfl, Or.inr ⟨σ, rfl, ?_, hN⟩⟩
  rcases ha with r | r
  · rw [agr_n r, if_pos h]
  · rw [agr_v r, if_neg (by rw [h]; exact nI_n1 hq), if_pos h]
theorem ft_ne {v : Nat → Int32} {A : Nat → Nat → Int32} {σ : Sg} {a : Int32} {q m : Nat} (ha : isNm a ∨ isV a) (h1 : ¬ vl σ a = -1 ∨ fX9_isVariable a = 0) (h : ¬ vl σ a = nI q) : ftP v A σ a q m 0 v A := by
  refine ⟨rfl, fun _ _ => rfl, fun _ _ => rfl, Or.inl ⟨rfl, ?_⟩⟩
  rcases ha with r | r
  · rw [agr_n r, if_neg h]
  · rw [agr_v r, if_neg (h1.resolve_right (fun s => isVar_s.mp s r)), if_neg h]
/-! The search by breadth, as the reference does it. -/
noncomputable def sW (S : St) (fr : Nat) (ps : List Rw) (j : Nat) : List Sg := bfsW (cds (S.1 fr)) (ps.take j) [fun _ => -1]
noncomputable def sN (S : St) (fr : Nat) (ps : List Rw) (j : Nat) : Nat := bfsN (cds (S.1 fr)) (ps.take j) [fun _ => -1]
theorem sW_0 {S : St} {fr : Nat} {ps : List Rw} : sW S fr ps 0 = [fun _ => -1] := by unfold sW; rw [List.take_zero]; rfl
theorem sN_0 {S : St} {fr : Nat} {ps : List Rw} : sN S fr ps 0 = 0 := by unfold sN; rw [List.take_zero]; rfl
theorem sW_step {S : St} {fr : Nat} {ps : List Rw} {j : Nat} {r : Rw} (h : ps[j]? = some r) : sW S fr ps (j + 1) = lev (cds (S.1 fr)) r (sW S fr ps j) := by
  unfold sW
  rw [List.take_succ, h, bfsW_append]
  rfl
theorem sN_step {S : St} {fr : Nat} {ps : List Rw} {j : Nat} {r : Rw} (h : ps[j]? = some r) : sN S fr ps (j + 1) = sN S fr ps j + (sW S fr ps j).length * (cds (S.1 fr)).length := by
  unfold sN sW
  rw [List.take_succ, h, bfsN_append]
  rfl
theorem sW_end {S : St} {fr : Nat} {ps : List Rw} : sW S fr ps ps.length = sols (cds (S.1 fr)) ps (fun _ => -1) ∧ sN S fr ps ps.length = wk (cds (S.1 fr)) ps (fun _ => -1) := by
  unfold sW sN
  rw [List.take_length]
  exact bfs_one _ _ _
theorem sN_le {S : St} {fr : Nat} {ps : List Rw} {j : Nat} : sN S fr ps j ≤ wk (cds (S.1 fr)) ps (fun _ => -1) := by
  rw [← sW_end.2]
  unfold sN
  rw [List.take_length]
  have := bfsN_append (cds (S.1 fr)) (ps.take j) (ps.drop j) [fun _ => -1]
  rw [List.take_append_drop] at this
  omega
theorem sN_lt {S : St} {fr : Nat} {ps : List Rw} {j w : Nat} {r : Rw} (h : ps[j]? = some r) (hw : w < (sW S fr ps j).length) : sN S fr ps j + (w + 1) * (cds (S.1 fr)).length ≤ wk (cds (S.1 fr)) ps (fun _ => -1) := by
  have h1 := sN_le (S := S) (fr := fr) (ps := ps) (j := j + 1)
  rw [sN_step h] at h1
  have h2 : (w + 1) * (cds (S.1 fr)).length ≤ (sW S fr ps j).length * (cds (S.1 fr)).length := Nat.mul_le_mul_right _ (by omega)
  omega
def WV (A : Nat → Nat → Int32) (ws : List Sg) : Prop := ∀ u σ, ws[u]? = some σ → VW A u σ
def NV (A : Nat → Nat → Int32) (ws : List Sg) : Prop := ∀ u σ, ws[u]? = some σ → NX A u σ
/-- what the search leaves as it is -/
def FQ (v : Nat → Int32) (A : Nat → Nat → Int32) (v' : Nat → Int32) (A' : Nat → Nat → Int32) : Prop :=
  (∀ k, k ≠ 41 → k ≠ 43 → k ≠ 45 → k ≠ 47 → v' k = v k) ∧ (∀ k, k < 35 ∨ 37 < k → A' k = A k)
theorem FQ.low {v v1 : Nat → Int32} {A A1 : Nat → Nat → Int32} (h : FQ v A v1 A1) : ∀ k, k < 19 → A1 k = A k := fun k hk => h.2 k (by omega)
theorem FQ.S {v v1 : Nat → Int32} {A A1 : Nat → Nat → Int32} (h : FQ v A v1 A1) : FS v A v1 A1 := ⟨fun k _ _ a b c d => h.1 k a b c d, fun k a => h.2 k (by omega)⟩
noncomputable def slB (v : Nat → Int32) (A : Nat → Nat → Int32) (S : St) (fr : Nat) (v' : Nat → Int32) (A' : Nat → Nat → Int32) : Prop :=
  FQ v A v' A' ∧ v' 41 = v 41 ∧ v' 47 = nI (cds (S.1 fr)).length ∧ ∀ i, i < (cds (S.1 fr)).length → ∃ t, t < 120 ∧ A' 37 i = nI t ∧ A' 20 t = nI (pt ((cds (S.1 fr)).getD i 0) 0) ∧ A' 21 t = nI (pt ((cds (S.1 fr)).getD i 0) 1) ∧ A' 22 t = nI (pt ((cds (S.1 fr)).getD i 0) 2)
theorem slB_to {v v1 v2 : Nat → Int32} {A A1 A2 : Nat → Nat → Int32} {S : St} {fr : Nat} (h : slB v A S fr v1 A1) (hv : ∀ k, k ≠ 43 → k ≠ 45 → v2 k = v1 k) (hA : ∀ k, k ≠ 35 → k ≠ 36 → A2 k = A1 k) : slB v A S fr v2 A2 := by
  refine ⟨⟨fun k a b c d => (hv k b c).trans (h.1.1 k a b c d), fun k hk => (hA k (by omega) (by omega)).trans (h.1.2 k hk)⟩, (hv 41 (by decide) (by decide)).trans h.2.1, (hv 47 (by decide) (by decide)).trans h.2.2.1, ?_⟩
  rw [hA 37 (by decide) (by decide), hA 20 (by decide) (by decide), hA 21 (by decide) (by decide), hA 22 (by decide) (by decide)]
  exact h.2.2.2
theorem slB_0 {v v1 : Nat → Int32} {A A1 : Nat → Nat → Int32} {S : St} {fr : Nat} (h : luP v A S fr v1 A1) : slB v A S fr v1 A1 :=
  ⟨⟨fun k _ _ _ d => h.2.1 k d, fun k hk => h.2.2.1 k (by omega)⟩, h.2.1 41 (by decide), h.1, h.2.2.2⟩
/-- the heads of the loops: by rows of the pattern, by ways, by facts -/
def sl0 (v : Nat → Int32) (A : Nat → Nat → Int32) (S : St) (fr j : Nat) (v' : Nat → Int32) (A' : Nat → Nat → Int32) : Prop := slB v A S fr v' A' ∧ v' 43 = 1 ∧ ∀ k, k < j → A' 35 k = -1
def sl1 (v : Nat → Int32) (A : Nat → Nat → Int32) (S : St) (fr : Nat) (ps : List Rw) (j : Nat) (sp : Int32) (v' : Nat → Int32) (A' : Nat → Nat → Int32) : Prop :=
  slB v A S fr v' A' ∧ sp = nI (sN S fr ps j) ∧ sN S fr ps j ≤ 5000 ∧ v' 43 = nI (sW S fr ps j).length ∧ (sW S fr ps j).length ≤ 5000 ∧ WV A' (sW S fr ps j)
def sl2 (v : Nat → Int32) (A : Nat → Nat → Int32) (S : St) (fr : Nat) (ps : List Rw) (j : Nat) (r : Rw) (w : Nat) (sp : Int32) (v' : Nat → Int32) (A' : Nat → Nat → Int32) : Prop :=
  slB v A S fr v' A' ∧ sp = nI (sN S fr ps j + w * (cds (S.1 fr)).length) ∧ sN S fr ps j + w * (cds (S.1 fr)).length ≤ 5000 ∧ v' 43 = nI (sW S fr ps j).length ∧ WV A' (sW S fr ps j) ∧ v' 45 = nI (nxt (cds (S.1 fr)) r (sW S fr ps j) w 0).length ∧ NV A' (nxt (cds (S.1 fr)) r (sW S fr ps j) w 0)
def sl3 (v : Nat → Int32) (A : Nat → Nat → Int32) (S : St) (fr : Nat) (ws : List Sg) (r : Rw) (w i : Nat) (v' : Nat → Int32) (A' : Nat → Nat → Int32) : Prop :=
  slB v A S fr v' A' ∧ v' 43 = nI ws.length ∧ WV A' ws ∧ v' 45 = nI (nxt (cds (S.1 fr)) r ws w i).length ∧ NV A' (nxt (cds (S.1 fr)) r ws w i)
/-- copying a way's values -/
def sl4 (σ : Sg) (M : Nat) (v3 : Nat → Int32) (A3 : Nat → Nat → Int32) (k : Nat) (v' : Nat → Int32) (A' : Nat → Nat → Int32) : Prop :=
  v' = v3 ∧ (∀ q, q ≠ 36 → A' q = A3 q) ∧ (∀ x, x < 4 * M → A' 36 x = A3 36 x) ∧ ∀ k', k' < k → A' 36 (4 * M + k') = σ k'
theorem sl4_next {σ : Sg} {M : Nat} {v3 v' : Nat → Int32} {A3 A' : Nat → Nat → Int32} {k : Nat} (h : sl4 σ M v3 A3 k v' A') (z : Int32) (hz : z = σ k) : sl4 σ M v3 A3 (k + 1) v' (u1 A' 36 (upd (A' 36) (4 * M + k) z)) := by
  refine ⟨h.1, fun q hq => by rw [← h.2.1 q hq]; simp [u1, hq], fun x hx => ?_, fun k' hk' => ?_⟩
  · rw [← h.2.2.1 x hx]; simp [u1, upd, show x ≠ 4 * M + k by omega]
  · simp only [u1, if_true, upd]
    by_cases e : k' = k
    · rw [if_pos (by omega), hz, e]
    · rw [if_neg (by omega)]; exact h.2.2.2 k' (by omega)
theorem NV_low {A A' : Nat → Nat → Int32} {ws : List Sg} (h : NV A ws) (hk : ∀ x, x < 4 * ws.length → A' 36 x = A 36 x) : NV A' ws := by
  intro u σ hu k hk'
  have := (List.getElem?_eq_some_iff.mp hu).1
  rw [hk _ (by omega)]
  exact h u σ hu k hk'
theorem NV_add {A : Nat → Nat → Int32} {ws : List Sg} {σ : Sg} (h : NV A ws) (h2 : NX A ws.length σ) : NV A (ws ++ [σ]) := by
  intro u σ' hu
  rw [List.getElem?_append] at hu
  split at hu
  · exact h u σ' hu
  · rename_i hlt
    have := (List.getElem?_eq_some_iff.mp hu).1
    have e : u = ws.length := by simp at this; omega
    subst e
    simp at hu
    rw [← hu]; exact h2
theorem WV_same {A A' : Nat → Nat → Int32} {ws : List Sg} (h : WV A ws) (e : A' 35 = A 35) : WV A' ws := by
  intro u σ hu k hk
  rw [e]; exact h u σ hu k hk
theorem NV_same {A A' : Nat → Nat → Int32} {ws : List Sg} (h : NV A ws) (e : A' 36 = A 36) : NV A' ws := by
  intro u σ hu k hk
  rw [e]; exact h u σ hu k hk
def PRr (A : Nat → Nat → Int32) (i : Nat) (ps : List Rw) : Prop := A 10 i = nI ps.length ∧ ps.length ≤ 4 ∧ (∀ t ∈ ps, okR t) ∧ ∀ j t, ps[j]? = some t → A 11 (4 * i + j) = t.1 ∧ A 12 (4 * i + j) = t.2.1 ∧ A 13 (4 * i + j) = t.2.2
theorem PRr.kept {A A' : Nat → Nat → Int32} {i : Nat} {ps : List Rw} (h : PRr A i ps) (hk : ∀ k, k < 19 → A' k = A k) : PRr A' i ps := by
  unfold PRr at h ⊢
  rw [hk 10 (by decide), hk 11 (by decide), hk 12 (by decide), hk 13 (by decide)]
  exact h
theorem ER.P {A : Nat → Nat → Int32} {i : Nat} {q : Sq} (h : ER A i q) (hq : okQ q) : PRr A i q.2.2.2.2.2 := ⟨h.2.2.2.2.2.2.1, hq.2.2.2.2.2.2.2.2.2.2.1, hq.2.2.2.2.2.2.2.2.2.1, h.2.2.2.2.2.2.2⟩
end
section
set_option maxHeartbeats 2000000 in
set_option maxRecDepth 10000 in
theorem hX9_fits {l : Launch} {D : va_G} {aC : Nat → ClassId} {b0 sz : Nat} {r : Nat} {v : Nat → Int32} {A : Nat → Nat → Int32} {R : ZM} {a_ : Int32} {q mq : Nat} {σ : Sg} (hm : v 45 = nI mq) (hm5 : mq ≤ 5000) (hq : q < 2 ^ 31) (ha : isNm a_ ∨ isV a_) (hN : NX A mq σ) : Ct l D aC b0 yX9_fits cX9_fits 4 (some .boolean) 3 0 0 [.ref (r), .int (a_), .int (nI q)] (mm aC r v A R) sz (zpI (fun v A => mm aC r v A R) (ftP v A σ a_ q mq)) := by
  refine Ct.of (by decide) (Nat.le_of_ble_eq_true rfl) ?_
  intro p e s m below meth c ls C hr hlk hnm hl
  have hl : lv_has ls 4 [(0, .ref (r)), (1, .int (a_)), (2, .int (nI q))] := hl
  obtain ⟨hx, hb, -, -, -⟩ := id C
  refine zz (fun _ _ => lv_aload_n hx hb dX9_fits_0 rfl (lv_at hl 0 rfl)) ?_
  refine zz (fun _ _ => lv_aload_n hx hb dX9_fits_1 rfl (lv_at hl 0 rfl)) ?_
  refine z_get (v := .ref (r + 36)) C fd_X9_120 rm_0 rfl dX9_fits_2 ?_
  refine zz (fun _ _ => lv_aload_n hx hb dX9_fits_5 rfl (lv_at hl 0 rfl)) ?_
  refine z_get (v := .int (v 45)) C fd_X9_180 rm_0 rfl dX9_fits_6 ?_
  refine zval (v' := .int (nI mq)) (congrArg Value.int hm) ?_
  refine zz (fun _ _ => lv_iload_n hx hb dX9_fits_9 rfl (lv_at hl 1 rfl)) ?_
  refine zdV (As := [.ref (r + 36), .int (nI mq), .int (a_)]) (rest := []) (st' := [.int ((fX9_valueInN A (nI mq) a_))]) C hl.1 lk_X9_183 (ctX9_valueInN (vplace_in hm5)) rm_0 rfl rfl rfl (Nat.le_of_ble_eq_true rfl) ⟨by decide, by decide, by decide, by decide⟩ dX9_fits_10 rfl (fun sz => ?_)
  refine zval (v' := .int (vl σ a_)) (congrArg Value.int (vinN_s hm5 hN a_)) ?_
  refine zs (fun _ _ => lv_istore_n (lv' := [(3, .int (vl σ a_)), (0, .ref (r)), (1, .int (a_)), (2, .int (nI q))]) hx hb dX9_fits_13 rfl hl (by decide) rfl) (fun ls hl => ?_)
  refine zz (fun _ _ => lv_iload_n hx hb dX9_fits_14 rfl (lv_at hl 0 rfl)) ?_
  refine zz (fun _ _ => lv_iconst (v := (-1)) hx hb dX9_fits_15 (by decide)) ?_
  refine zbn (fun _ _ => lv_icmp_ne (tgt := 44) hx hb dX9_fits_16 (by decide)) (fun c_1 => ?_) (fun c_1 => ?_)
  · refine zz (fun _ _ => lv_iload_n hx hb dX9_fits_44 rfl (lv_at hl 0 rfl)) ?_
    refine zz (fun _ _ => lv_iload_n hx hb dX9_fits_45 rfl (lv_at hl 3 rfl)) ?_
    refine zbn (fun _ _ => lv_icmp_ne (tgt := 53) hx hb dX9_fits_46 (by decide)) (fun c_2 => ?_) (fun c_2 => ?_)
    · refine zz (fun _ _ => lv_iconst (v := 0) hx hb dX9_fits_53 (by decide)) ?_
      exact z_zret C hr rfl hlk dX9_fits_54 (zpI_mk (a := v) (b := A) (ft_ne ha (Or.inl c_1) c_2))
    · refine zz (fun _ _ => lv_iconst (v := 1) hx hb dX9_fits_49 (by decide)) ?_
      refine zz (fun _ _ => lv_goto (tgt := 54) hx hb dX9_fits_50 (by decide)) ?_
      exact z_zret C hr rfl hlk dX9_fits_54 (zpI_mk (a := v) (b := A) (ft_eq hq hN ha c_2))
  · refine zz (fun _ _ => lv_iload_n hx hb dX9_fits_19 rfl (lv_at hl 2 rfl)) ?_
    refine zdS (As := [.int (a_)]) (rest := []) (st' := [.int ((fX9_isVariable a_))]) C hl.1 lk_X9_150 (ctX9_isVariable ) rfl rfl (Nat.le_of_ble_eq_true rfl) ⟨by decide, by decide, by decide, by decide⟩ dX9_fits_20 rfl (fun sz => ?_)
    refine zb (fun _ _ => lv_if_eq (tgt := 44) hx hb dX9_fits_23 (by decide)) (fun c_3 => ?_) (fun c_3 => ?_)
    · refine zz (fun _ _ => lv_iload_n hx hb dX9_fits_44 rfl (lv_at hl 0 rfl)) ?_
      refine zz (fun _ _ => lv_iload_n hx hb dX9_fits_45 rfl (lv_at hl 3 rfl)) ?_
      refine zbn (fun _ _ => lv_icmp_ne (tgt := 53) hx hb dX9_fits_46 (by decide)) (fun c_4 => ?_) (fun c_4 => ?_)
      · refine zz (fun _ _ => lv_iconst (v := 0) hx hb dX9_fits_53 (by decide)) ?_
        exact z_zret C hr rfl hlk dX9_fits_54 (zpI_mk (a := v) (b := A) (ft_ne ha (Or.inr c_3) c_4))
      · refine zz (fun _ _ => lv_iconst (v := 1) hx hb dX9_fits_49 (by decide)) ?_
        refine zz (fun _ _ => lv_goto (tgt := 54) hx hb dX9_fits_50 (by decide)) ?_
        exact z_zret C hr rfl hlk dX9_fits_54 (zpI_mk (a := v) (b := A) (ft_eq hq hN ha c_4))
    · refine zz (fun _ _ => lv_aload_n hx hb dX9_fits_26 rfl (lv_at hl 1 rfl)) ?_
      refine z_get (v := .ref (r + 36)) C fd_X9_120 rm_0 rfl dX9_fits_27 ?_
      refine zz (fun _ _ => lv_iconst (v := 4) hx hb dX9_fits_30 (by decide)) ?_
      refine zz (fun _ _ => lv_aload_n hx hb dX9_fits_31 rfl (lv_at hl 1 rfl)) ?_
      refine z_get (v := .int (v 45)) C fd_X9_180 rm_0 rfl dX9_fits_32 ?_
      refine zval (v' := .int (nI mq)) (congrArg Value.int hm) ?_
      refine zz (fun _ _ => lv_imul hx hb dX9_fits_35) ?_
      refine zz (fun _ _ => lv_iconst (v := 1) hx hb dX9_fits_36 (by decide)) ?_
      refine zz (fun _ _ => lv_isub hx hb dX9_fits_37) ?_
      refine zz (fun _ _ => lv_iload_n hx hb dX9_fits_38 rfl (lv_at hl 2 rfl)) ?_
      refine zz (fun _ _ => lv_isub hx hb dX9_fits_39) ?_
      refine zz (fun _ _ => lv_iload_n hx hb dX9_fits_40 rfl (lv_at hl 3 rfl)) ?_
      refine z_iast (f := A 36) C rm_36 (vplace_in hm5 c_3) dX9_fits_41 ?_
      refine zeq wm_36 ?_
      refine zz (fun _ _ => lv_iconst (v := 1) hx hb dX9_fits_42 (by decide)) ?_
      exact z_zret C hr rfl hlk dX9_fits_43 (zpI_mk (a := v) (b := (u1 A 36 (upd (A 36) (Int32.toNatClampNeg ((((4) * (nI mq)) - (1)) - (a_))) (nI q)))) (ft_set hm5 hN c_1 c_3))
end
section
/-! The search by breadth: from head to head of its loops. -/
theorem sl1_0 {v v' : Nat → Int32} {A A' : Nat → Nat → Int32} {S : St} {fr : Nat} {ps : List Rw} (h : sl0 v A S fr 4 v' A') : sl1 v A S fr ps 0 0 v' A' := by
  unfold sl1
  rw [sN_0, sW_0]
  refine ⟨h.1, rfl, by decide, h.2.1, by decide, fun u σ hu k hk => ?_⟩
  have hu1 := (List.getElem?_eq_some_iff.mp hu).1
  have e : u = 0 := by simp at hu1; omega
  subst e
  simp at hu
  rw [← hu, Nat.mul_zero, Nat.zero_add]
  exact h.2.2 k hk
theorem sl0_next {v v' : Nat → Int32} {A A' : Nat → Nat → Int32} {S : St} {fr j : Nat} (h : sl0 v A S fr j v' A') : sl0 v A S fr (j + 1) v' (u1 A' 35 (upd (A' 35) j (-1))) := by
  refine ⟨slB_to h.1 (fun _ _ _ => rfl) (fun k hk _ => by simp [u1, hk]), h.2.1, fun k hk => ?_⟩
  simp only [u1, if_true, upd]
  split
  · rfl
  · exact h.2.2 k (by omega)
theorem sl2_0 {v v' : Nat → Int32} {A A' : Nat → Nat → Int32} {S : St} {fr j : Nat} {ps : List Rw} {sp : Int32} (r : Rw) (h : sl1 v A S fr ps j sp v' A') : sl2 v A S fr ps j r 0 sp (upd v' 45 0) A' := by
  refine ⟨slB_to h.1 (fun k _ hk => by simp [upd, hk]) (fun _ _ _ => rfl), by rw [Nat.zero_mul, Nat.add_zero]; exact h.2.1, by rw [Nat.zero_mul, Nat.add_zero]; exact h.2.2.1, by simp [upd, h.2.2.2.1], h.2.2.2.2.2, by rw [nxt_0]; simp [upd]; rfl, ?_⟩
  rw [nxt_0]
  intro u σ hu
  simp at hu
theorem sp_next {sp : Int32} {a w n : Nat} (h : sp = nI (a + w * n)) : sp + nI n = nI (a + (w + 1) * n) := by
  rw [h, nI_add, Nat.add_mul, Nat.one_mul, Nat.add_assoc]
theorem sl3_0 {v v' : Nat → Int32} {A A' : Nat → Nat → Int32} {S : St} {fr j w : Nat} {ps : List Rw} {r : Rw} {sp : Int32} (h : sl2 v A S fr ps j r w sp v' A') : sl3 v A S fr (sW S fr ps j) r w 0 v' A' :=
  ⟨h.1, h.2.2.2.1, h.2.2.2.2.1, h.2.2.2.2.2.1, h.2.2.2.2.2.2⟩
theorem getD_of {ws : List Sg} {w : Nat} {σ : Sg} (h : ws[w]? = some σ) : ws.getD w (fun _ => -1) = σ := by
  rw [List.getD_eq_getElem?_getD, h]; rfl
theorem getD_g {l : List Nat} {i : Nat} (h : i < l.length) : l[i] = l.getD i 0 := by
  rw [List.getD_eq_getElem?_getD, List.getElem?_eq_getElem h]; rfl
/-- behind the three parts of a row: kept but for one row of next -/
def kp4 (M : Nat) (v3 : Nat → Int32) (A3 : Nat → Nat → Int32) (v' : Nat → Int32) (A' : Nat → Nat → Int32) : Prop := v' = v3 ∧ (∀ q, q ≠ 36 → A' q = A3 q) ∧ (∀ x, x < 4 * M → A' 36 x = A3 36 x)
theorem kp4_4 {σ : Sg} {M k : Nat} {v3 v' : Nat → Int32} {A3 A' : Nat → Nat → Int32} (h : sl4 σ M v3 A3 k v' A') : kp4 M v3 A3 v' A' := ⟨h.1, h.2.1, h.2.2.1⟩
theorem kp4_f {σ : Sg} {M q : Nat} {v3 v1 v' : Nat → Int32} {A3 A1 A' : Nat → Nat → Int32} {a w : Int32} (h : kp4 M v3 A3 v1 A1) (hf : ftP v1 A1 σ a q M w v' A') : kp4 M v3 A3 v' A' :=
  ⟨hf.1.trans h.1, fun k hk => (hf.2.1 k hk).trans (h.2.1 k hk), fun x hx => (hf.2.2.1 x hx).trans (h.2.2 x hx)⟩
theorem ft_no {σ : Sg} {M q : Nat} {v1 v' : Nat → Int32} {A1 A' : Nat → Nat → Int32} {a w : Int32} (hf : ftP v1 A1 σ a q M w v' A') (hw : w = 0) : agr σ a (nI q) = none := by
  rcases hf.2.2.2 with h | ⟨σ', h, _⟩
  · exact h.2
  · rw [hw] at h; exact absurd h (by decide)
theorem ft_ok {σ : Sg} {M q : Nat} {v1 v' : Nat → Int32} {A1 A' : Nat → Nat → Int32} {a w : Int32} (hf : ftP v1 A1 σ a q M w v' A') (hw : ¬ w = 0) : ∃ σ', agr σ a (nI q) = some σ' ∧ NX A' M σ' := by
  rcases hf.2.2.2 with h | ⟨σ', _, h⟩
  · exact absurd h.1 hw
  · exact ⟨σ', h⟩
theorem mtc_1 {r : Rw} {σ : Sg} {c : Nat} (h : agr σ r.1 (nI (pt c 0)) = none) : mtc r σ c = none := by simp [mtc, h]
theorem mtc_2 {r : Rw} {σ σ1 : Sg} {c : Nat} (h : agr σ r.1 (nI (pt c 0)) = some σ1) (h2 : agr σ1 r.2.1 (nI (pt c 1)) = none) : mtc r σ c = none := by simp [mtc, h, h2]
theorem mtc_3 {r : Rw} {σ σ1 σ2 : Sg} {c : Nat} (h : agr σ r.1 (nI (pt c 0)) = some σ1) (h2 : agr σ1 r.2.1 (nI (pt c 1)) = some σ2) : mtc r σ c = agr σ2 r.2.2 (nI (pt c 2)) := by simp [mtc, h, h2]
theorem sl3_no {v v3 v6 : Nat → Int32} {A A3 A6 : Nat → Nat → Int32} {S : St} {fr w i : Nat} {ws : List Sg} {σ : Sg} {r : Rw} (hi : i < (cds (S.1 fr)).length) (hw : ws[w]? = some σ) (h : sl3 v A S fr ws r w i v3 A3) (hk : kp4 (nxt (cds (S.1 fr)) r ws w i).length v3 A3 v6 A6) (hm : mtc r σ ((cds (S.1 fr)).getD i 0) = none) : sl3 v A S fr ws r w (i + 1) (upd v6 45 (nI (nxt (cds (S.1 fr)) r ws w i).length + 0)) A6 := by
  obtain ⟨rfl, hq, hx⟩ := hk
  have e : nxt (cds (S.1 fr)) r ws w (i + 1) = nxt (cds (S.1 fr)) r ws w i := nxt_n hi (by rw [getD_of hw, getD_g hi]; exact hm)
  refine ⟨slB_to h.1 (fun k _ hk => by simp [upd, hk]) (fun k _ hk => hq k hk), by simp [upd, h.2.1], WV_same h.2.2.1 (hq 35 (by decide)), by rw [e]; simp [upd], ?_⟩
  rw [e]
  exact NV_low h.2.2.2.2 hx
theorem sl3_yes {v v3 v6 : Nat → Int32} {A A3 A6 : Nat → Nat → Int32} {S : St} {fr w i : Nat} {ws : List Sg} {σ σ' : Sg} {r : Rw} (hi : i < (cds (S.1 fr)).length) (hw : ws[w]? = some σ) (h : sl3 v A S fr ws r w i v3 A3) (hk : kp4 (nxt (cds (S.1 fr)) r ws w i).length v3 A3 v6 A6) (hm : mtc r σ ((cds (S.1 fr)).getD i 0) = some σ') (hN : NX A6 (nxt (cds (S.1 fr)) r ws w i).length σ') : sl3 v A S fr ws r w (i + 1) (upd v6 45 (nI (nxt (cds (S.1 fr)) r ws w i).length + 1)) A6 := by
  obtain ⟨rfl, hq, hx⟩ := hk
  have e : nxt (cds (S.1 fr)) r ws w (i + 1) = nxt (cds (S.1 fr)) r ws w i ++ [σ'] := nxt_s hi (by rw [getD_of hw, getD_g hi]; exact hm)
  refine ⟨slB_to h.1 (fun k _ hk => by simp [upd, hk]) (fun k _ hk => hq k hk), by simp [upd, h.2.1], WV_same h.2.2.1 (hq 35 (by decide)), by rw [e, List.length_append]; simp [upd, nI_1], ?_⟩
  rw [e]
  exact NV_add (NV_low h.2.2.2.2 hx) hN
theorem sl2_next {v v' : Nat → Int32} {A A' : Nat → Nat → Int32} {S : St} {fr j w : Nat} {ps : List Rw} {r : Rw} (hw : w < (sW S fr ps j).length) (hs : sN S fr ps j + (w + 1) * (cds (S.1 fr)).length ≤ 5000) (h : sl3 v A S fr (sW S fr ps j) r w (cds (S.1 fr)).length v' A') : sl2 v A S fr ps j r (w + 1) (nI (sN S fr ps j + (w + 1) * (cds (S.1 fr)).length)) v' A' := by
  refine ⟨h.1, rfl, hs, h.2.1, h.2.2.1, ?_, ?_⟩
  · rw [← nxt_row hw]; exact h.2.2.2.1
  · rw [← nxt_row hw]; exact h.2.2.2.2
/-- copying back -/
def sl5 (v5 : Nat → Int32) (A5 : Nat → Nat → Int32) (j : Nat) (v' : Nat → Int32) (A' : Nat → Nat → Int32) : Prop := v' = v5 ∧ (∀ q, q ≠ 35 → A' q = A5 q) ∧ ∀ x, x < j → A' 35 x = A5 36 x
theorem sl5_next {v5 v' : Nat → Int32} {A5 A' : Nat → Nat → Int32} {j : Nat} (h : sl5 v5 A5 j v' A') : sl5 v5 A5 (j + 1) v' (u1 A' 35 (upd (A' 35) j (A' 36 j))) := by
  refine ⟨h.1, fun q hq => by rw [← h.2.1 q hq]; simp [u1, hq], fun x hx => ?_⟩
  simp only [u1, if_true, upd]
  split
  · rename_i e; rw [h.2.1 36 (by decide), e]
  · exact h.2.2 x (by omega)
theorem sl1_next {v v2 v5 : Nat → Int32} {A A2 A5 : Nat → Nat → Int32} {S : St} {fr j : Nat} {ps : List Rw} {r : Rw} {sp : Int32} (hj : ps[j]? = some r) (h : sl2 v A S fr ps j r (sW S fr ps j).length sp v2 A2) (h5 : sl5 (upd v2 43 (nI (nxt (cds (S.1 fr)) r (sW S fr ps j) (sW S fr ps j).length 0).length)) A2 (4 * (nxt (cds (S.1 fr)) r (sW S fr ps j) (sW S fr ps j).length 0).length) v5 A5) : sl1 v A S fr ps (j + 1) sp v5 A5 := by
  obtain ⟨rfl, hq, hx⟩ := h5
  have eW : sW S fr ps (j + 1) = nxt (cds (S.1 fr)) r (sW S fr ps j) (sW S fr ps j).length 0 := by rw [nxt_all, sW_step hj]
  have eN : sN S fr ps (j + 1) = sN S fr ps j + (sW S fr ps j).length * (cds (S.1 fr)).length := sN_step hj
  have hl := lev_len (cds (S.1 fr)) r (sW S fr ps j)
  have h5 := h.2.2.1
  refine ⟨slB_to h.1 (fun k hk _ => by simp [upd, hk]) (fun k hk _ => hq k hk), by rw [eN]; exact h.2.1, by rw [eN]; exact h5, by rw [eW]; simp [upd], by rw [sW_step hj]; omega, ?_⟩
  rw [eW]
  intro u σ hu k hk
  have hu1 := (List.getElem?_eq_some_iff.mp hu).1
  rw [hx _ (by omega)]
  exact h.2.2.2.2.2.2 u σ hu k hk
def slP (v : Nat → Int32) (A : Nat → Nat → Int32) (S : St) (fr : Nat) (ps : List Rw) (w' : Int32) (v' : Nat → Int32) (A' : Nat → Nat → Int32) : Prop :=
  FQ v A v' A' ∧ ((w' = 0 ∧ (sols (cds (S.1 fr)) ps (fun _ => -1)).length ≤ 100 ∧ wk (cds (S.1 fr)) ps (fun _ => -1) ≤ 5000 ∧ v' 43 = nI (sols (cds (S.1 fr)) ps (fun _ => -1)).length ∧ v' 41 = v 41 + nI (wk (cds (S.1 fr)) ps (fun _ => -1)) ∧ WV A' (sols (cds (S.1 fr)) ps (fun _ => -1)))
    ∨ (w' = 5 ∧ ¬ ((sols (cds (S.1 fr)) ps (fun _ => -1)).length ≤ 100 ∧ wk (cds (S.1 fr)) ps (fun _ => -1) ≤ 5000)))
theorem sl_no {v v' : Nat → Int32} {A A' : Nat → Nat → Int32} {S : St} {fr j w : Nat} {ps : List Rw} {r : Rw} (hj : ps[j]? = some r) (hw : w < (sW S fr ps j).length) (hf : slB v A S fr v' A') (hs : sN S fr ps j + w * (cds (S.1 fr)).length ≤ 5000) (hl : (cds (S.1 fr)).length ≤ 120) (h : ¬ nI (sN S fr ps j + (w + 1) * (cds (S.1 fr)).length) ≤ nI 5000) : slP v A S fr ps 5 v' A' := by
  refine ⟨hf.1, Or.inr ⟨rfl, fun q => h ?_⟩⟩
  have := sN_lt hj hw
  exact nI_le (by omega) (by decide)
theorem sl_end {v v' : Nat → Int32} {A A' : Nat → Nat → Int32} {S : St} {fr : Nat} {ps : List Rw} {sp : Int32} (h : sl1 v A S fr ps ps.length sp v' A') : (nI (sW S fr ps ps.length).length ≤ nI 100 → slP v A S fr ps 0 (upd v' 41 (v' 41 + sp)) A') ∧ (¬ nI (sW S fr ps ps.length).length ≤ nI 100 → slP v A S fr ps 5 (upd v' 41 (v' 41 + sp)) A') := by
  obtain ⟨hB, hsp, h5, h43, hl, hW⟩ := h
  have hF : FQ v A (upd v' 41 (v' 41 + sp)) A' := ⟨fun k a b c d => by simp [upd, a]; exact hB.1.1 k a b c d, hB.1.2⟩
  have e := sW_end (S := S) (fr := fr) (ps := ps)
  rw [e.1] at h43 hl hW ⊢
  rw [e.2] at hsp h5
  refine ⟨fun q => ⟨hF, Or.inl ⟨rfl, (nI_leI (by omega) (by decide)).mp q, h5, by simp [upd, h43], by simp [upd, hsp, hB.2.1], hW⟩⟩, fun q => ⟨hF, Or.inr ⟨rfl, fun r => q (nI_le r.1 (by decide))⟩⟩⟩
theorem hs5_of {a w n : Nat} (h1 : a + w * n ≤ 5000) (hn : n ≤ 120) (h : nI (a + (w + 1) * n) ≤ nI 5000) : a + (w + 1) * n ≤ 5000 := by
  have h2 : (w + 1) * n = w * n + n := by rw [Nat.add_mul, Nat.one_mul]
  exact (nI_leI (by omega) (by decide)).mp h
theorem nxt_5 {fs : List Nat} {r : Rw} {ws : List Sg} {w i a : Nat} (h : a + (w + 1) * fs.length ≤ 5000) (hi : i < fs.length) : (nxt fs r ws w i).length ≤ 5000 := by
  have h1 := nxt_len (fs := fs) (r := r) (ws := ws) (w := w) (i := i)
  have h2 : (w + 1) * fs.length = w * fs.length + fs.length := by rw [Nat.add_mul, Nat.one_mul]
  omega
theorem nxt_5e {fs : List Nat} {r : Rw} {ws : List Sg} {w a : Nat} (h : a + w * fs.length ≤ 5000) : (nxt fs r ws w 0).length ≤ 5000 := by
  have h1 := nxt_len (fs := fs) (r := r) (ws := ws) (w := w) (i := 0)
  omega
end
