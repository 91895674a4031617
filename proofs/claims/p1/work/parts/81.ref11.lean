set_option maxHeartbeats 2000000 in
set_option maxRecDepth 10000 in
theorem hX9_add {l : Launch} {D : va_G} {aC : Nat → ClassId} {b0 sz : Nat} {r : Nat} {v : Nat → Int32} {A : Nat → Nat → Int32} {R : ZM} {i w to : Nat} {S : St} {σ : Sg} {ts : List TR} (hi : i < 12) (hw : w ≤ 5000) (hto7 : to < 7) (hto : A 3 i = nI to) (hT : TRr A i ts) (hV : VW A w σ) (hσ : okG σ) (hR : RC v A S) : Ct l D aC b0 yX9_add cX9_add 6 (some .boolean) 4 0 0 [.ref (r), .int (nI i), .int (nI w)] (mm aC r v A R) sz (zpI (fun v A => mm aC r v A R) (fun w' v' A' => adP v A to σ ts S w' v' A')) := by
  refine Ct.of (by decide) (Nat.le_of_ble_eq_true rfl) ?_
  intro p e s m below meth c ls C hr hlk hnm hl
  have hl : lv_has ls 6 [(0, .ref (r)), (1, .int (nI i)), (2, .int (nI w))] := hl
  obtain ⟨hx, hb, -, -, -⟩ := id C
  have hlen := hT.2.1
  refine zz (fun _ _ => lv_iconst (v := 0) hx hb dX9_add_0 (by decide)) ?_
  refine zs (fun _ _ => lv_istore_n (lv' := [(3, .int (0)), (0, .ref (r)), (1, .int (nI i)), (2, .int (nI w))]) hx hb dX9_add_1 rfl hl (by decide) rfl) (fun ls hl => ?_)
  have hl0 := lv_sub hl [1, 2, 3, 0] rfl
  refine z_loop (γ := (Nat → Int32) × (Nat → Nat → Int32)) (G := fun a => mm aC r a.1 a.2 R) (I := fun j a => FR v A a.1 a.2 ∧ RC a.1 a.2 S ∧ ∀ k, k < j → a.2 38 k = -1) (lv := fun j a => [(0, .ref (r)), (1, .int (nI i)), (2, .int (nI w)), (3, .int (nI (j)))]) (4) ?_ ?_ (v, A) _ _ ⟨FR.refl, hR, fun k hk => absurd hk (Nat.not_lt_zero _)⟩ hl0
  · intro j1 a1 sz ls hj1 hI1 hl ih1
    obtain ⟨v1, A1⟩ := a1
    dsimp only at hI1 hl ih1
    refine zeq (M' := (mm aC r v1 A1 R)) rfl ?_
    refine zz (fun _ _ => lv_iload_n hx hb dX9_add_2 rfl (lv_at hl 3 rfl)) ?_
    refine zz (fun _ _ => lv_iconst (v := 4) hx hb dX9_add_3 (by decide)) ?_
    refine zval (v' := .int (nI 4)) (congrArg Value.int rfl) ?_
    refine zb (fun _ _ => lv_icmp_ge (tgt := 20) hx hb dX9_add_4 (by decide)) (fun c_2 => ?_) (fun c_2 => ?_)
    · exact absurd c_2 (nI_ge (by omega) (by omega))
    · refine zz (fun _ _ => lv_aload_n hx hb dX9_add_7 rfl (lv_at hl 0 rfl)) ?_
      refine z_get (v := .ref (r + 38)) C fd_X9_126 rm_0 rfl dX9_add_8 ?_
      refine zz (fun _ _ => lv_iload_n hx hb dX9_add_11 rfl (lv_at hl 3 rfl)) ?_
      refine zz (fun _ _ => lv_iconst (v := (-1)) hx hb dX9_add_12 (by decide)) ?_
      refine z_iast (f := A1 38) C rm_38 (by first | assumption | (apply vp_in_nI <;> omega)) dX9_add_13 ?_
      refine zeq wm_38 ?_
      refine zs (fun _ _ => lv_iinc (v := nI (j1) + 1) (lv' := [(3, .int (nI (j1) + 1)), (0, .ref (r)), (1, .int (nI i)), (2, .int (nI w))]) hx hb dX9_add_14 hl (k := 3) rfl rfl (by decide) rfl) (fun ls hl => ?_)
      refine zz (fun _ _ => lv_goto (tgt := 2) hx hb dX9_add_17 (by decide)) ?_
      have hl := lv_sub hl [1, 2, 3, 0] rfl
      try simp only [nI_1] at hl
      exact ih1 (v1, (u1 A1 38 (upd (A1 38) (Int32.toNatClampNeg (nI (j1))) ((-1))))) _ _ ⟨hI1.1.trans ⟨fun _ _ _ => rfl, fun k hk => by simp [u1, show k ≠ 38 by omega]⟩, RC_made hI1.2.1 (by decide), fun k hk => by rw [nI_clamp (by omega)]; simp only [u1, if_true, upd]; split <;> first | rfl | exact hI1.2.2 k (by omega)⟩ hl
  · intro a1 sz ls hI1 hl
    obtain ⟨v1, A1⟩ := a1
    dsimp only at hI1 hl
    refine zeq (M' := (mm aC r v1 A1 R)) rfl ?_
    refine zz (fun _ _ => lv_iload_n hx hb dX9_add_2 rfl (lv_at hl 3 rfl)) ?_
    refine zz (fun _ _ => lv_iconst (v := 4) hx hb dX9_add_3 (by decide)) ?_
    refine zval (v' := .int (nI 4)) (congrArg Value.int rfl) ?_
    refine zb (fun _ _ => lv_icmp_ge (tgt := 20) hx hb dX9_add_4 (by decide)) (fun c_3 => ?_) (fun c_3 => ?_)
    · refine zz (fun _ _ => lv_bipush (v := 6) hx hb dX9_add_20 (by decide)) ?_
      refine zz (fun _ _ => lv_iload_n hx hb dX9_add_22 rfl (lv_at hl 1 rfl)) ?_
      refine zz (fun _ _ => lv_imul hx hb dX9_add_23) ?_
      refine zval (v' := .int (nI (6 * i))) (congrArg Value.int (pk_mul 6 i)) ?_
      refine zs (fun _ _ => lv_istore_n (lv' := [(3, .int (nI (6 * i))), (0, .ref (r)), (1, .int (nI i)), (2, .int (nI w))]) hx hb dX9_add_24 rfl hl (by decide) rfl) (fun ls hl => ?_)
      have hl0 := lv_sub hl [1, 2, 3, 0] rfl
      refine z_loop (γ := (Nat → Int32) × (Nat → Nat → Int32)) (G := fun a => mm aC r a.1 a.2 R) (I := fun j a => adI v A to σ (ts.take j) S a.1 a.2) (lv := fun j a => [(0, .ref (r)), (1, .int (nI i)), (2, .int (nI w)), (3, .int (nI (6 * i + j)))]) (ts.length) ?_ ?_ (v1, A1) _ _ ⟨hI1.1, S, (fun _ => -1), by rw [List.take_zero]; rfl, hI1.2.1, hI1.2.2, okm_0⟩ hl0
      · intro j4 a4 sz ls hj4 hI4 hl ih4
        obtain ⟨v4, A4⟩ := a4
        dsimp only at hI4 hl ih4
        refine zeq (M' := (mm aC r v4 A4 R)) rfl ?_
        have hT4 : TRr A4 i ts := hT.kept hI4.1.low
        have hto4 : A4 3 i = nI to := by rw [hI4.1.low 3 (by decide)]; exact hto
        have hV4 := hV.kept hI4.1
        obtain ⟨t4, et4⟩ : ∃ t, ts[j4]? = some t := ⟨_, List.getElem?_eq_getElem hj4⟩
        have hrow4 := hT4.2.2.2 j4 t4 et4
        have hok4 := hT.2.2.1 t4 (List.mem_of_getElem? et4)
        refine zz (fun _ _ => lv_iload_n hx hb dX9_add_25 rfl (lv_at hl 3 rfl)) ?_
        refine zz (fun _ _ => lv_bipush (v := 6) hx hb dX9_add_26 (by decide)) ?_
        refine zz (fun _ _ => lv_iload_n hx hb dX9_add_28 rfl (lv_at hl 1 rfl)) ?_
        refine zz (fun _ _ => lv_imul hx hb dX9_add_29) ?_
        refine zval (v' := .int (nI (6 * i))) (congrArg Value.int (pk_mul 6 i)) ?_
        refine zz (fun _ _ => lv_aload_n hx hb dX9_add_30 rfl (lv_at hl 0 rfl)) ?_
        refine z_get (v := .ref (r + 5)) C fd_X9_23 rm_0 rfl dX9_add_31 ?_
        refine zz (fun _ _ => lv_iload_n hx hb dX9_add_34 rfl (lv_at hl 1 rfl)) ?_
        refine z_iald (f := A4 5) C rm_5 (by first | assumption | (apply vp_in_nI <;> omega)) dX9_add_35 ?_
        refine zval (v' := .int (nI ts.length)) (congrArg Value.int (rdI hT4.1 (by omega))) ?_
        refine zz (fun _ _ => lv_iadd hx hb dX9_add_36) ?_
        refine zval (v' := .int (nI (6 * i + ts.length))) (congrArg Value.int (nI_add _ _)) ?_
        refine zb (fun _ _ => lv_icmp_ge (tgt := 155) hx hb dX9_add_37 (by decide)) (fun c_5 => ?_) (fun c_5 => ?_)
        · exact absurd c_5 (nI_ge (by omega) (by omega))
        · refine zz (fun _ _ => lv_aload_n hx hb dX9_add_40 rfl (lv_at hl 0 rfl)) ?_
          refine z_get (v := .ref (r + 9)) C fd_X9_35 rm_0 rfl dX9_add_41 ?_
          refine zz (fun _ _ => lv_iload_n hx hb dX9_add_44 rfl (lv_at hl 3 rfl)) ?_
          refine z_zald (f := A4 9) C rm_9 (by first | assumption | (apply vp_in_nI <;> omega)) dX9_add_45 ?_
          refine zval (v' := .int (tI t4.2.2.2)) (congrArg Value.int (rdI hrow4.2.2.2 (by omega))) ?_
          refine zb (fun _ _ => lv_if_eq (tgt := 149) hx hb dX9_add_46 (by decide)) (fun c_6 => ?_) (fun c_6 => ?_)
          · refine zs (fun _ _ => lv_iinc (v := nI (6 * i + j4) + 1) (lv' := [(3, .int (nI (6 * i + j4) + 1)), (0, .ref (r)), (1, .int (nI i)), (2, .int (nI w))]) hx hb dX9_add_149 hl (k := 3) rfl rfl (by decide) rfl) (fun ls hl => ?_)
            refine zz (fun _ _ => lv_goto (tgt := 25) hx hb dX9_add_152 (by decide)) ?_
            have hl := lv_sub hl [1, 2, 3, 0] rfl
            try simp only [nI_1] at hl
            exact ih4 (v4, A4) _ _ (ad_skip et4 (Or.inl (tI_0.mp c_6)) hI4) hl
          · refine zz (fun _ _ => lv_aload_n hx hb dX9_add_49 rfl (lv_at hl 0 rfl)) ?_
            refine zz (fun _ _ => lv_iload_n hx hb dX9_add_50 rfl (lv_at hl 3 rfl)) ?_
            refine zz (fun _ _ => lv_iload_n hx hb dX9_add_51 rfl (lv_at hl 2 rfl)) ?_
            refine zdV (As := [.int (nI (6 * i + j4)), .int (nI w)]) (rest := []) (st' := [.int ((fX9_isLeftOut A4 (nI (6 * i + j4)) (nI w)))]) C hl.1 lk_X9_202 (ctX9_isLeftOut (vp_in_nI (by omega) (by decide)) (vplace_in hw) (vplace_in hw) (vplace_in hw)) rm_0 rfl rfl rfl (Nat.le_of_ble_eq_true rfl) ⟨by decide, by decide, by decide, by decide⟩ dX9_add_52 rfl (fun sz => ?_)
            refine zb (fun _ _ => lv_if_eq (tgt := 61) hx hb dX9_add_55 (by decide)) (fun c_7 => ?_) (fun c_7 => ?_)
            · refine zz (fun _ _ => lv_aload_n hx hb dX9_add_61 rfl (lv_at hl 0 rfl)) ?_
              refine z_get (v := .ref (r + 23)) C fd_X9_77 rm_0 rfl dX9_add_62 ?_
              refine zz (fun _ _ => lv_aload_n hx hb dX9_add_65 rfl (lv_at hl 0 rfl)) ?_
              refine z_get (v := .ref (r + 3)) C fd_X9_16 rm_0 rfl dX9_add_66 ?_
              refine zz (fun _ _ => lv_iload_n hx hb dX9_add_69 rfl (lv_at hl 1 rfl)) ?_
              refine z_iald (f := A4 3) C rm_3 (by first | assumption | (apply vp_in_nI <;> omega)) dX9_add_70 ?_
              refine zval (v' := .int (nI to)) (congrArg Value.int (rdI hto4 (by omega))) ?_
              refine zz (fun _ _ => lv_iconst (v := 1) hx hb dX9_add_71 (by decide)) ?_
              have hnl9 : ¬ lo σ t4 := (left_s hw hV4 hσ hok4 (by omega) hrow4.1 hrow4.2.1 hrow4.2.2.1).mp c_7
              obtain ⟨hf9, S9, m9, e9, hR9, hm9, hk9⟩ := hI4
              have htm9 := ad_term hσ hok4 hnl9
              have hR10 : RC v4 (u1 A4 23 (upd (A4 23) (Int32.toNatClampNeg (nI to)) 1)) (S9.1, tS S9.2.1 to true, S9.2.2) := by rw [nI_clamp (by omega)]; exact RC_set hR9 to
              have hV10 := VW.set (g := upd (A4 23) (Int32.toNatClampNeg (nI to)) 1) hV4
              have hfs9 : FR v4 A4 v4 (u1 A4 23 (upd (A4 23) (Int32.toNatClampNeg (nI to)) 1)) := FR_set
              refine z_zast (f := A4 23) C rm_23 (by first | assumption | (apply vp_in_nI <;> omega)) rfl dX9_add_72 ?_
              refine zeq wm_23 ?_
              refine zz (fun _ _ => lv_aload_n hx hb dX9_add_73 rfl (lv_at hl 0 rfl)) ?_
              refine zz (fun _ _ => lv_aload_n hx hb dX9_add_74 rfl (lv_at hl 0 rfl)) ?_
              refine z_get (v := .ref (r + 6)) C fd_X9_26 rm_0 rfl dX9_add_75 ?_
              refine zz (fun _ _ => lv_iload_n hx hb dX9_add_78 rfl (lv_at hl 3 rfl)) ?_
              refine z_iald (f := A4 6) C rm_6 (by first | assumption | (apply vp_in_nI <;> omega)) dX9_add_79 ?_
              refine zval (v' := .int (t4.1)) (congrArg Value.int (rdI hrow4.1 (by omega))) ?_
              refine zz (fun _ _ => lv_iload_n hx hb dX9_add_80 rfl (lv_at hl 2 rfl)) ?_
              refine zqVI (As := [.int (t4.1), .int (nI w)]) (rest := []) C hl.1 lk_X9_205 (hX9_comes hw hR10 hV10 hm9 hk9 htm9.1) rm_0 rfl rfl rfl (Nat.le_of_ble_eq_true rfl) ⟨by decide, by decide, by decide, by decide⟩ dX9_add_81 (fun w8 v8 A8 sz h8 => ?_)
              refine zeq (M' := (mm aC r v8 A8 R)) rfl ?_
              refine zs (fun _ _ => lv_istore (lv' := [(4, .int (w8)), (0, .ref (r)), (1, .int (nI i)), (2, .int (nI w)), (3, .int (nI (6 * i + j4)))]) hx hb dX9_add_84 hl (by decide) rfl) (fun ls hl => ?_)
              refine zz (fun _ _ => lv_iload hx hb dX9_add_86 (lv_at hl 0 rfl)) ?_
              refine zz (fun _ _ => lv_iconst (v := (-1)) hx hb dX9_add_88 (by decide)) ?_
              refine zbn (fun _ _ => lv_icmp_ne (tgt := 96) hx hb dX9_add_89 (by decide)) (fun c_9 => ?_) (fun c_9 => ?_)
              · obtain ⟨b9, m10, y9, eb9, hy9, ew9, hR11, hm11, hk11⟩ := cms_ok h8 c_9
                refine zz (fun _ _ => lv_aload_n hx hb dX9_add_96 rfl (lv_at hl 1 rfl)) ?_
                refine zz (fun _ _ => lv_aload_n hx hb dX9_add_97 rfl (lv_at hl 1 rfl)) ?_
                refine z_get (v := .ref (r + 8)) C fd_X9_32 rm_0 rfl dX9_add_98 ?_
                refine zz (fun _ _ => lv_iload_n hx hb dX9_add_101 rfl (lv_at hl 4 rfl)) ?_
                refine z_iald (f := A8 8) C rm_8 (by first | assumption | (apply vp_in_nI <;> omega)) dX9_add_102 ?_
                refine zval (v' := .int (t4.2.2.1)) (congrArg Value.int (rdI ((congrFun ((hfs9.trans h8.1).low 8 (by decide)) _).trans hrow4.2.2.1) (by omega))) ?_
                refine zz (fun _ _ => lv_iload_n hx hb dX9_add_103 rfl (lv_at hl 3 rfl)) ?_
                refine zqVI (As := [.int (t4.2.2.1), .int (nI w)]) (rest := []) C hl.1 lk_X9_205 (hX9_comes hw hR11 (hV10.kept h8.1) hm11 hk11 htm9.2.1) rm_0 rfl rfl rfl (Nat.le_of_ble_eq_true rfl) ⟨by decide, by decide, by decide, by decide⟩ dX9_add_104 (fun w10 v10 A10 sz h10 => ?_)
                refine zeq (M' := (mm aC r v10 A10 R)) rfl ?_
                refine zs (fun _ _ => lv_istore (lv' := [(5, .int (w10)), (4, .int (w8)), (0, .ref (r)), (1, .int (nI i)), (2, .int (nI w)), (3, .int (nI (6 * i + j4)))]) hx hb dX9_add_107 hl (by decide) rfl) (fun ls hl => ?_)
                refine zz (fun _ _ => lv_iload hx hb dX9_add_109 (lv_at hl 0 rfl)) ?_
                refine zz (fun _ _ => lv_iconst (v := (-1)) hx hb dX9_add_111 (by decide)) ?_
                refine zb (fun _ _ => lv_icmp_eq (tgt := 147) hx hb dX9_add_112 (by decide)) (fun c_11 => ?_) (fun c_11 => ?_)
                · refine zz (fun _ _ => lv_iconst (v := 0) hx hb dX9_add_147 (by decide)) ?_
                  exact z_zret C hr rfl hlk dX9_add_148 (zpI_mk (a := v10) (b := A10) (ad_no2 et4 e9 (tI_1.mp c_6) hnl9 ((hf9.trans (hfs9.trans h8.1)).trans h10.1) eb9 (by have h9 := cms_no h10 c_11; exact h9)))
                · obtain ⟨b10, m11, z9, ec9, hz9, ew10, hR12, hm12, hk12⟩ := cms_ok h10 c_11
                  have hp9 := htm9.2.2.1
                  have hoc9 : okc (cd y9 (nn (vl σ t4.2.1)) z9) := okc_cd hy9 hp9 hz9
                  refine zz (fun _ _ => lv_aload_n hx hb dX9_add_115 rfl (lv_at hl 2 rfl)) ?_
                  refine zz (fun _ _ => lv_aload_n hx hb dX9_add_116 rfl (lv_at hl 2 rfl)) ?_
                  refine z_get (v := .ref (r + 3)) C fd_X9_16 rm_0 rfl dX9_add_117 ?_
                  refine zz (fun _ _ => lv_iload_n hx hb dX9_add_120 rfl (lv_at hl 3 rfl)) ?_
                  refine z_iald (f := A10 3) C rm_3 (by first | assumption | (apply vp_in_nI <;> omega)) dX9_add_121 ?_
                  refine zval (v' := .int (nI to)) (congrArg Value.int (rdI ((congrFun (((hf9.trans (hfs9.trans h8.1)).trans h10.1).low 3 (by decide)) _).trans hto) (by omega))) ?_
                  refine zz (fun _ _ => lv_iload hx hb dX9_add_122 (lv_at hl 1 rfl)) ?_
                  refine zval (v' := .int (nI (pt (cd y9 (nn (vl σ t4.2.1)) z9) 0))) (congrArg Value.int (ew9.trans (by rw [pt_cd0 (by omega) (by omega)]))) ?_
                  refine zz (fun _ _ => lv_aload_n hx hb dX9_add_124 rfl (lv_at hl 2 rfl)) ?_
                  refine zz (fun _ _ => lv_aload_n hx hb dX9_add_125 rfl (lv_at hl 2 rfl)) ?_
                  refine z_get (v := .ref (r + 35)) C fd_X9_117 rm_0 rfl dX9_add_126 ?_
                  refine zz (fun _ _ => lv_iload_n hx hb dX9_add_129 rfl (lv_at hl 4 rfl)) ?_
                  refine zz (fun _ _ => lv_aload_n hx hb dX9_add_130 rfl (lv_at hl 2 rfl)) ?_
                  refine z_get (v := .ref (r + 7)) C fd_X9_29 rm_0 rfl dX9_add_131 ?_
                  refine zz (fun _ _ => lv_iload_n hx hb dX9_add_134 rfl (lv_at hl 5 rfl)) ?_
                  refine z_iald (f := A10 7) C rm_7 (by first | assumption | (apply vp_in_nI <;> omega)) dX9_add_135 ?_
                  refine zval (v' := .int (t4.2.1)) (congrArg Value.int (rdI ((congrFun (((hfs9.trans h8.1).trans h10.1).low 7 (by decide)) _).trans hrow4.2.1) (by omega))) ?_
                  refine zdV (As := [.ref (r + 35), .int (nI w), .int (t4.2.1)]) (rest := [.int (nI (pt (cd y9 (nn (vl σ t4.2.1)) z9) 0)), .int (nI to), .ref (r)]) (st' := [.int ((fX9_valueInV A10 (nI w) (t4.2.1))), .int (nI (pt (cd y9 (nn (vl σ t4.2.1)) z9) 0)), .int (nI to), .ref (r)]) C hl.1 lk_X9_183 (ctX9_valueInV (vplace_in hw)) rm_0 rfl rfl rfl (Nat.le_of_ble_eq_true rfl) ⟨by decide, by decide, by decide, by decide⟩ dX9_add_136 rfl (fun sz => ?_)
                  refine zval (v' := .int (nI (pt (cd y9 (nn (vl σ t4.2.1)) z9) 1))) (congrArg Value.int (((vin_s hw (VW.kept (hV10.kept h8.1) h10.1) _).trans htm9.2.2.2).trans (by rw [pt_cd1 (by omega) (by omega)]))) ?_
                  refine zz (fun _ _ => lv_iload hx hb dX9_add_139 (lv_at hl 0 rfl)) ?_
                  refine zval (v' := .int (nI (pt (cd y9 (nn (vl σ t4.2.1)) z9) 2))) (congrArg Value.int (ew10.trans (by rw [pt_cd2 (by omega) (by omega)]))) ?_
                  refine zqVI (As := [.int (nI to), .int (nI (pt (cd y9 (nn (vl σ t4.2.1)) z9) 0)), .int (nI (pt (cd y9 (nn (vl σ t4.2.1)) z9) 1)), .int (nI (pt (cd y9 (nn (vl σ t4.2.1)) z9) 2))]) (rest := []) C hl.1 lk_X9_209 (hX9_come hR12 hto7 hoc9 (by simp [tS])) rm_0 rfl rfl rfl (Nat.le_of_ble_eq_true rfl) ⟨by decide, by decide, by decide, by decide⟩ dX9_add_141 (fun w12 v12 A12 sz h12 => ?_)
                  refine zeq (M' := (mm aC r v12 A12 R)) rfl ?_
                  refine zbn (fun _ _ => lv_if_ne (tgt := 149) hx hb dX9_add_144 (by decide)) (fun c_13 => ?_) (fun c_13 => ?_)
                  · refine zs (fun _ _ => lv_iinc (v := nI (6 * i + j4) + 1) (lv' := [(3, .int (nI (6 * i + j4) + 1)), (5, .int (w10)), (4, .int (w8)), (0, .ref (r)), (1, .int (nI i)), (2, .int (nI w))]) hx hb dX9_add_149 hl (k := 5) rfl rfl (by decide) rfl) (fun ls hl => ?_)
                    refine zz (fun _ _ => lv_goto (tgt := 25) hx hb dX9_add_152 (by decide)) ?_
                    have hl := lv_sub hl [3, 4, 5, 0] rfl
                    try simp only [nI_1] at hl
                    obtain ⟨S13, es9, hR13⟩ := cmP_ok h12 c_13
                    exact ih4 (v12, A12) _ _ (ad_ok et4 e9 (tI_1.mp c_6) hnl9 (((hf9.trans (hfs9.trans h8.1)).trans h10.1).trans h12.1) eb9 ec9 es9 hR13 (fun k hk => (congrFun h12.2.1 k).trans (hm12 k hk)) hk12) hl
                  · refine zz (fun _ _ => lv_iconst (v := 0) hx hb dX9_add_147 (by decide)) ?_
                    exact z_zret C hr rfl hlk dX9_add_148 (zpI_mk (a := v12) (b := A12) (ad_no3 et4 e9 (tI_1.mp c_6) hnl9 (((hf9.trans (hfs9.trans h8.1)).trans h10.1).trans h12.1) eb9 ec9 (by have h9 := cmP_no h12 c_13; exact h9)))
              · refine zz (fun _ _ => lv_iconst (v := (-1)) hx hb dX9_add_92 (by decide)) ?_
                refine zz (fun _ _ => lv_goto (tgt := 107) hx hb dX9_add_93 (by decide)) ?_
                refine zs (fun _ _ => lv_istore (lv' := [(5, .int ((-1))), (4, .int (w8)), (0, .ref (r)), (1, .int (nI i)), (2, .int (nI w)), (3, .int (nI (6 * i + j4)))]) hx hb dX9_add_107 hl (by decide) rfl) (fun ls hl => ?_)
                refine zz (fun _ _ => lv_iload hx hb dX9_add_109 (lv_at hl 0 rfl)) ?_
                refine zz (fun _ _ => lv_iconst (v := (-1)) hx hb dX9_add_111 (by decide)) ?_
                refine zb (fun _ _ => lv_icmp_eq (tgt := 147) hx hb dX9_add_112 (by decide)) (fun c_14 => ?_) (fun c_14 => ?_)
                · refine zz (fun _ _ => lv_iconst (v := 0) hx hb dX9_add_147 (by decide)) ?_
                  exact z_zret C hr rfl hlk dX9_add_148 (zpI_mk (a := v8) (b := A8) (ad_no1 et4 e9 (tI_1.mp c_6) hnl9 (hf9.trans (hfs9.trans h8.1)) (by have h9 := cms_no h8 c_9; exact h9)))
                · exact absurd (by decide) c_14
            · refine zz (fun _ _ => lv_goto (tgt := 149) hx hb dX9_add_58 (by decide)) ?_
              refine zs (fun _ _ => lv_iinc (v := nI (6 * i + j4) + 1) (lv' := [(3, .int (nI (6 * i + j4) + 1)), (0, .ref (r)), (1, .int (nI i)), (2, .int (nI w))]) hx hb dX9_add_149 hl (k := 3) rfl rfl (by decide) rfl) (fun ls hl => ?_)
              refine zz (fun _ _ => lv_goto (tgt := 25) hx hb dX9_add_152 (by decide)) ?_
              have hl := lv_sub hl [1, 2, 3, 0] rfl
              try simp only [nI_1] at hl
              exact ih4 (v4, A4) _ _ (ad_skip et4 (Or.inr (Decidable.not_not.mp (fun q => c_7 ((left_s hw hV4 hσ hok4 (by omega) hrow4.1 hrow4.2.1 hrow4.2.2.1).mpr q)))) hI4) hl
      · intro a4 sz ls hI4 hl
        obtain ⟨v4, A4⟩ := a4
        dsimp only at hI4 hl
        refine zeq (M' := (mm aC r v4 A4 R)) rfl ?_
        have hT4 : TRr A4 i ts := hT.kept hI4.1.low
        have hto4 : A4 3 i = nI to := by rw [hI4.1.low 3 (by decide)]; exact hto
        have hV4 := hV.kept hI4.1
        refine zz (fun _ _ => lv_iload_n hx hb dX9_add_25 rfl (lv_at hl 3 rfl)) ?_
        refine zz (fun _ _ => lv_bipush (v := 6) hx hb dX9_add_26 (by decide)) ?_
        refine zz (fun _ _ => lv_iload_n hx hb dX9_add_28 rfl (lv_at hl 1 rfl)) ?_
        refine zz (fun _ _ => lv_imul hx hb dX9_add_29) ?_
        refine zval (v' := .int (nI (6 * i))) (congrArg Value.int (pk_mul 6 i)) ?_
        refine zz (fun _ _ => lv_aload_n hx hb dX9_add_30 rfl (lv_at hl 0 rfl)) ?_
        refine z_get (v := .ref (r + 5)) C fd_X9_23 rm_0 rfl dX9_add_31 ?_
        refine zz (fun _ _ => lv_iload_n hx hb dX9_add_34 rfl (lv_at hl 1 rfl)) ?_
        refine z_iald (f := A4 5) C rm_5 (by first | assumption | (apply vp_in_nI <;> omega)) dX9_add_35 ?_
        refine zval (v' := .int (nI ts.length)) (congrArg Value.int (rdI hT4.1 (by omega))) ?_
        refine zz (fun _ _ => lv_iadd hx hb dX9_add_36) ?_
        refine zval (v' := .int (nI (6 * i + ts.length))) (congrArg Value.int (nI_add _ _)) ?_
        refine zb (fun _ _ => lv_icmp_ge (tgt := 155) hx hb dX9_add_37 (by decide)) (fun c_15 => ?_) (fun c_15 => ?_)
        · refine zz (fun _ _ => lv_iconst (v := 1) hx hb dX9_add_155 (by decide)) ?_
          exact z_zret C hr rfl hlk dX9_add_156 (zpI_mk (a := v4) (b := A4) (ad_end hI4))
        · exact absurd (nI_le (Nat.le_refl _) (by omega)) c_15
    · exact absurd (nI_le (Nat.le_refl _) (by omega)) c_3
