section
set_option maxHeartbeats 2000000 in
set_option maxRecDepth 10000 in
theorem hX9_solve {l : Launch} {D : va_G} {aC : Nat → ClassId} {b0 sz : Nat} {r : Nat} {v : Nat → Int32} {A : Nat → Nat → Int32} {R : ZM} {i fr : Nat} {S : St} {ps : List Rw} (hi : i < 12) (hfr7 : fr < 7) (hfr : A 2 i = nI fr) (hP : PRr A i ps) (hR : RC v A S) : Ct l D aC b0 yX9_solve cX9_solve 8 (some .int) 4 0 0 [.ref (r), .int (nI i)] (mm aC r v A R) sz (zpI (fun v A => mm aC r v A R) (slP v A S fr ps)) := by
  refine Ct.of (by decide) (Nat.le_of_ble_eq_true rfl) ?_
  intro p e s m below meth c ls C hr hlk hnm hl
  have hl : lv_has ls 8 [(0, .ref (r)), (1, .int (nI i))] := hl
  obtain ⟨hx, hb, -, -, -⟩ := id C
  have hps := hP.2.1
  have hlen : (cds (S.1 fr)).length ≤ 120 := Nat.le_trans (cds_le_card S.1 hfr7) hR.1.2.1
  refine zz (fun _ _ => lv_aload_n hx hb dX9_solve_0 rfl (lv_at hl 0 rfl)) ?_
  refine zz (fun _ _ => lv_aload_n hx hb dX9_solve_1 rfl (lv_at hl 0 rfl)) ?_
  refine z_get (v := .ref (r + 2)) C fd_X9_13 rm_0 rfl dX9_solve_2 ?_
  refine zz (fun _ _ => lv_iload_n hx hb dX9_solve_5 rfl (lv_at hl 1 rfl)) ?_
  refine z_iald (f := A 2) C rm_2 (by first | assumption | (apply vp_in_nI <;> omega)) dX9_solve_6 ?_
  refine zval (v' := .int (nI fr)) (congrArg Value.int (rdI hfr (by omega))) ?_
  refine zqVN (As := [.int (nI fr)]) (rest := []) C hl.1 lk_X9_187 (hX9_lineUp hR hfr7) rm_0 rfl rfl rfl (Nat.le_of_ble_eq_true rfl) ⟨by decide, by decide, by decide, by decide⟩ dX9_solve_7 (fun v1 A1 sz h1 => ?_)
  refine zeq (M' := (mm aC r v1 A1 R)) rfl ?_
  have hB9 := slB_0 h1
  refine zz (fun _ _ => lv_iconst (v := 0) hx hb dX9_solve_10 (by decide)) ?_
  refine zs (fun _ _ => lv_istore_n (lv' := [(2, .int (0)), (0, .ref (r)), (1, .int (nI i))]) hx hb dX9_solve_11 rfl hl (by decide) rfl) (fun ls hl => ?_)
  refine zz (fun _ _ => lv_aload_n hx hb dX9_solve_12 rfl (lv_at hl 1 rfl)) ?_
  refine zz (fun _ _ => lv_iconst (v := 1) hx hb dX9_solve_13 (by decide)) ?_
  refine z_put C fp_X9_190 (fun h => by cases h) rm_0 (Nat.le_of_ble_eq_true rfl) rfl rfl dX9_solve_14 ?_
  refine zeq wm_f43 ?_
  refine zz (fun _ _ => lv_iconst (v := 0) hx hb dX9_solve_17 (by decide)) ?_
  refine zs (fun _ _ => lv_istore_n (lv' := [(3, .int (0)), (2, .int (0)), (0, .ref (r)), (1, .int (nI i))]) hx hb dX9_solve_18 rfl hl (by decide) rfl) (fun ls hl => ?_)
  have hl0 := lv_sub hl [2, 3, 1, 0] rfl
  refine z_loop (γ := (Nat → Int32) × (Nat → Nat → Int32)) (G := fun a => mm aC r a.1 a.2 R) (I := fun j a => sl0 v A S fr j a.1 a.2) (lv := fun j a => [(0, .ref (r)), (1, .int (nI i)), (2, .int (0)), (3, .int (nI (j)))]) (4) ?_ ?_ ((upd v1 43 1), A1) _ _ ⟨slB_to hB9 (fun k hk _ => by simp [upd, hk]) (fun _ _ _ => rfl), by simp [upd], fun k hk => absurd hk (Nat.not_lt_zero _)⟩ hl0
  · intro j2 a2 sz ls hj2 hI2 hl ih2
    obtain ⟨v2, A2⟩ := a2
    dsimp only at hI2 hl ih2
    refine zeq (M' := (mm aC r v2 A2 R)) rfl ?_
    refine zz (fun _ _ => lv_iload_n hx hb dX9_solve_19 rfl (lv_at hl 3 rfl)) ?_
    refine zz (fun _ _ => lv_iconst (v := 4) hx hb dX9_solve_20 (by decide)) ?_
    refine zval (v' := .int (nI 4)) (congrArg Value.int rfl) ?_
    refine zb (fun _ _ => lv_icmp_ge (tgt := 37) hx hb dX9_solve_21 (by decide)) (fun c_3 => ?_) (fun c_3 => ?_)
    · exact absurd c_3 (nI_ge (by omega) (by omega))
    · refine zz (fun _ _ => lv_aload_n hx hb dX9_solve_24 rfl (lv_at hl 0 rfl)) ?_
      refine z_get (v := .ref (r + 35)) C fd_X9_117 rm_0 rfl dX9_solve_25 ?_
      refine zz (fun _ _ => lv_iload_n hx hb dX9_solve_28 rfl (lv_at hl 3 rfl)) ?_
      refine zz (fun _ _ => lv_iconst (v := (-1)) hx hb dX9_solve_29 (by decide)) ?_
      refine z_iast (f := A2 35) C rm_35 (by first | assumption | (apply vp_in_nI <;> omega)) dX9_solve_30 ?_
      refine zeq wm_35 ?_
      refine zs (fun _ _ => lv_iinc (v := nI (j2) + 1) (lv' := [(3, .int (nI (j2) + 1)), (0, .ref (r)), (1, .int (nI i)), (2, .int (0))]) hx hb dX9_solve_31 hl (k := 3) rfl rfl (by decide) rfl) (fun ls hl => ?_)
      refine zz (fun _ _ => lv_goto (tgt := 19) hx hb dX9_solve_34 (by decide)) ?_
      have hl := lv_sub hl [1, 2, 3, 0] rfl
      try simp only [nI_1] at hl
      exact ih2 (v2, (u1 A2 35 (upd (A2 35) (Int32.toNatClampNeg (nI (j2))) ((-1))))) _ _ (by rw [nI_clamp (by omega)]; exact sl0_next hI2) hl
  · intro a2 sz ls hI2 hl
    obtain ⟨v2, A2⟩ := a2
    dsimp only at hI2 hl
    refine zeq (M' := (mm aC r v2 A2 R)) rfl ?_
    refine zz (fun _ _ => lv_iload_n hx hb dX9_solve_19 rfl (lv_at hl 3 rfl)) ?_
    refine zz (fun _ _ => lv_iconst (v := 4) hx hb dX9_solve_20 (by decide)) ?_
    refine zval (v' := .int (nI 4)) (congrArg Value.int rfl) ?_
    refine zb (fun _ _ => lv_icmp_ge (tgt := 37) hx hb dX9_solve_21 (by decide)) (fun c_4 => ?_) (fun c_4 => ?_)
    · refine zz (fun _ _ => lv_iconst (v := 4) hx hb dX9_solve_37 (by decide)) ?_
      refine zz (fun _ _ => lv_iload_n hx hb dX9_solve_38 rfl (lv_at hl 1 rfl)) ?_
      refine zz (fun _ _ => lv_imul hx hb dX9_solve_39) ?_
      refine zval (v' := .int (nI (4 * i))) (congrArg Value.int (pk_mul 4 i)) ?_
      refine zs (fun _ _ => lv_istore_n (lv' := [(3, .int (nI (4 * i))), (0, .ref (r)), (1, .int (nI i)), (2, .int (0))]) hx hb dX9_solve_40 rfl hl (by decide) rfl) (fun ls hl => ?_)
      have hl0 := lv_sub hl [1, 2, 3, 0] rfl
      refine z_loop (γ := (Nat → Int32) × (Nat → Nat → Int32) × Int32) (G := fun a => mm aC r a.1 a.2.1 R) (I := fun j a => sl1 v A S fr ps j a.2.2 a.1 a.2.1) (lv := fun j a => [(0, .ref (r)), (1, .int (nI i)), (2, .int (a.2.2)), (3, .int (nI (4 * i + j)))]) (ps.length) ?_ ?_ (v2, A2, 0) _ _ (sl1_0 hI2) hl0
      · intro j5 a5 sz ls hj5 hI5 hl ih5
        obtain ⟨v5, A5, t5_2⟩ := a5
        dsimp only at hI5 hl ih5
        refine zeq (M' := (mm aC r v5 A5 R)) rfl ?_
        have hP5 : PRr A5 i ps := hP.kept hI5.1.1.low
        obtain ⟨rw5, erw5⟩ : ∃ t, ps[j5]? = some t := ⟨_, List.getElem?_eq_getElem hj5⟩
        have hokr5 := hP.2.2.1 rw5 (List.mem_of_getElem? erw5)
        have hws5 := hI5.2.2.2.2.1
        refine zz (fun _ _ => lv_iload_n hx hb dX9_solve_41 rfl (lv_at hl 3 rfl)) ?_
        refine zz (fun _ _ => lv_iconst (v := 4) hx hb dX9_solve_42 (by decide)) ?_
        refine zz (fun _ _ => lv_iload_n hx hb dX9_solve_43 rfl (lv_at hl 1 rfl)) ?_
        refine zz (fun _ _ => lv_imul hx hb dX9_solve_44) ?_
        refine zval (v' := .int (nI (4 * i))) (congrArg Value.int (pk_mul 4 i)) ?_
        refine zz (fun _ _ => lv_aload_n hx hb dX9_solve_45 rfl (lv_at hl 0 rfl)) ?_
        refine z_get (v := .ref (r + 10)) C fd_X9_38 rm_0 rfl dX9_solve_46 ?_
        refine zz (fun _ _ => lv_iload_n hx hb dX9_solve_49 rfl (lv_at hl 1 rfl)) ?_
        refine z_iald (f := A5 10) C rm_10 (by first | assumption | (apply vp_in_nI <;> omega)) dX9_solve_50 ?_
        refine zval (v' := .int (nI ps.length)) (congrArg Value.int (rdI hP5.1 (by omega))) ?_
        refine zz (fun _ _ => lv_iadd hx hb dX9_solve_51) ?_
        refine zval (v' := .int (nI (4 * i + ps.length))) (congrArg Value.int (nI_add _ _)) ?_
        refine zb (fun _ _ => lv_icmp_ge (tgt := 296) hx hb dX9_solve_52 (by decide)) (fun c_6 => ?_) (fun c_6 => ?_)
        · exact absurd c_6 (nI_ge (by omega) (by omega))
        · refine zz (fun _ _ => lv_aload_n hx hb dX9_solve_55 rfl (lv_at hl 0 rfl)) ?_
          refine zz (fun _ _ => lv_iconst (v := 0) hx hb dX9_solve_56 (by decide)) ?_
          refine z_put C fp_X9_180 (fun h => by cases h) rm_0 (Nat.le_of_ble_eq_true rfl) rfl rfl dX9_solve_57 ?_
          refine zeq wm_f45 ?_
          refine zz (fun _ _ => lv_iconst (v := 0) hx hb dX9_solve_60 (by decide)) ?_
          refine zs (fun _ _ => lv_istore (lv' := [(4, .int (0)), (0, .ref (r)), (1, .int (nI i)), (2, .int (t5_2)), (3, .int (nI (4 * i + j5)))]) hx hb dX9_solve_61 hl (by decide) rfl) (fun ls hl => ?_)
          have hl0 := lv_sub hl [1, 2, 3, 4, 0] rfl
          refine z_loop (γ := (Nat → Int32) × (Nat → Nat → Int32) × Int32) (G := fun a => mm aC r a.1 a.2.1 R) (I := fun j a => sl2 v A S fr ps j5 rw5 j a.2.2 a.1 a.2.1) (lv := fun j a => [(0, .ref (r)), (1, .int (nI i)), (2, .int (a.2.2)), (3, .int (nI (4 * i + j5))), (4, .int (nI (j)))]) ((sW S fr ps j5).length) ?_ ?_ ((upd v5 45 0), A5, t5_2) _ _ (sl2_0 rw5 hI5) hl0
          · intro j7 a7 sz ls hj7 hI7 hl ih7
            obtain ⟨v7, A7, t7_2⟩ := a7
            dsimp only at hI7 hl ih7
            refine zeq (M' := (mm aC r v7 A7 R)) rfl ?_
            obtain ⟨sg7, esg7⟩ : ∃ t, (sW S fr ps j5)[j7]? = some t := ⟨_, List.getElem?_eq_getElem hj7⟩
            have hw57 : j7 < 5000 := by omega
            refine zz (fun _ _ => lv_iload hx hb dX9_solve_63 (lv_at hl 4 rfl)) ?_
            refine zz (fun _ _ => lv_aload_n hx hb dX9_solve_65 rfl (lv_at hl 0 rfl)) ?_
            refine z_get (v := .int (v7 43)) C fd_X9_190 rm_0 rfl dX9_solve_66 ?_
            refine zval (v' := .int (nI (sW S fr ps j5).length)) (congrArg Value.int hI7.2.2.2.1) ?_
            refine zb (fun _ _ => lv_icmp_ge (tgt := 248) hx hb dX9_solve_69 (by decide)) (fun c_8 => ?_) (fun c_8 => ?_)
            · exact absurd c_8 (nI_ge (by omega) (by omega))
            · refine zz (fun _ _ => lv_iload_n hx hb dX9_solve_72 rfl (lv_at hl 2 rfl)) ?_
              refine zz (fun _ _ => lv_aload_n hx hb dX9_solve_73 rfl (lv_at hl 0 rfl)) ?_
              refine z_get (v := .int (v7 47)) C fd_X9_174 rm_0 rfl dX9_solve_74 ?_
              refine zval (v' := .int (nI (cds (S.1 fr)).length)) (congrArg Value.int hI7.1.2.2.1) ?_
              refine zz (fun _ _ => lv_iadd hx hb dX9_solve_77) ?_
              refine zval (v' := .int (nI ((sN S fr ps j5) + (j7 + 1) * (cds (S.1 fr)).length))) (congrArg Value.int (sp_next hI7.2.1)) ?_
              refine zs (fun _ _ => lv_istore_n (lv' := [(2, .int (nI ((sN S fr ps j5) + (j7 + 1) * (cds (S.1 fr)).length))), (0, .ref (r)), (1, .int (nI i)), (3, .int (nI (4 * i + j5))), (4, .int (nI (j7)))]) hx hb dX9_solve_78 rfl hl (by decide) rfl) (fun ls hl => ?_)
              refine zz (fun _ _ => lv_iload_n hx hb dX9_solve_79 rfl (lv_at hl 0 rfl)) ?_
              refine zz (fun _ _ => lv_sipush (v := 5000) hx hb dX9_solve_80 (by decide)) ?_
              refine zval (v' := .int (nI 5000)) (congrArg Value.int rfl) ?_
              refine zb (fun _ _ => lv_icmp_le (tgt := 88) hx hb dX9_solve_83 (by decide)) (fun c_9 => ?_) (fun c_9 => ?_)
              · have hs5 := hs5_of hI7.2.2.1 hlen c_9
                refine zz (fun _ _ => lv_iconst (v := 0) hx hb dX9_solve_88 (by decide)) ?_
                refine zs (fun _ _ => lv_istore (lv' := [(5, .int (0)), (2, .int (nI ((sN S fr ps j5) + (j7 + 1) * (cds (S.1 fr)).length))), (0, .ref (r)), (1, .int (nI i)), (3, .int (nI (4 * i + j5))), (4, .int (nI (j7)))]) hx hb dX9_solve_89 hl (by decide) rfl) (fun ls hl => ?_)
                have hl0 := lv_sub hl [2, 3, 1, 4, 5, 0] rfl
                refine z_loop (γ := (Nat → Int32) × (Nat → Nat → Int32)) (G := fun a => mm aC r a.1 a.2 R) (I := fun j a => sl3 v A S fr (sW S fr ps j5) rw5 j7 j a.1 a.2) (lv := fun j a => [(0, .ref (r)), (1, .int (nI i)), (2, .int (nI ((sN S fr ps j5) + (j7 + 1) * (cds (S.1 fr)).length))), (3, .int (nI (4 * i + j5))), (4, .int (nI (j7))), (5, .int (nI (j)))]) ((cds (S.1 fr)).length) ?_ ?_ (v7, A7) _ _ (sl3_0 hI7) hl0
                · intro j10 a10 sz ls hj10 hI10 hl ih10
                  obtain ⟨v10, A10⟩ := a10
                  dsimp only at hI10 hl ih10
                  refine zeq (M' := (mm aC r v10 A10 R)) rfl ?_
                  obtain ⟨t10, ht10, hord10⟩ := hI10.1.2.2.2 j10 hj10
                  have hM10 : (nxt (cds (S.1 fr)) rw5 (sW S fr ps j5) j7 j10).length ≤ 5000 := nxt_5 hs5 hj10
                  have hq10 := hP.kept (A' := A10) hI10.1.1.low
                  have hprow10 := hq10.2.2.2 _ _ erw5
                  refine zz (fun _ _ => lv_iload hx hb dX9_solve_91 (lv_at hl 5 rfl)) ?_
                  refine zz (fun _ _ => lv_aload_n hx hb dX9_solve_93 rfl (lv_at hl 0 rfl)) ?_
                  refine z_get (v := .int (v10 47)) C fd_X9_174 rm_0 rfl dX9_solve_94 ?_
                  refine zval (v' := .int (nI (cds (S.1 fr)).length)) (congrArg Value.int hI10.1.2.2.1) ?_
                  refine zb (fun _ _ => lv_icmp_ge (tgt := 242) hx hb dX9_solve_97 (by decide)) (fun c_11 => ?_) (fun c_11 => ?_)
                  · exact absurd c_11 (nI_ge (by omega) (by omega))
                  · refine zz (fun _ _ => lv_aload_n hx hb dX9_solve_100 rfl (lv_at hl 0 rfl)) ?_
                    refine z_get (v := .ref (r + 37)) C fd_X9_123 rm_0 rfl dX9_solve_101 ?_
                    refine zz (fun _ _ => lv_iload hx hb dX9_solve_104 (lv_at hl 5 rfl)) ?_
                    refine z_iald (f := A10 37) C rm_37 (by first | assumption | (apply vp_in_nI <;> omega)) dX9_solve_106 ?_
                    refine zval (v' := .int (nI t10)) (congrArg Value.int (rdI hord10.1 (by omega))) ?_
                    refine zs (fun _ _ => lv_istore (lv' := [(6, .int (nI t10)), (0, .ref (r)), (1, .int (nI i)), (2, .int (nI ((sN S fr ps j5) + (j7 + 1) * (cds (S.1 fr)).length))), (3, .int (nI (4 * i + j5))), (4, .int (nI (j7))), (5, .int (nI (j10)))]) hx hb dX9_solve_107 hl (by decide) rfl) (fun ls hl => ?_)
                    refine zz (fun _ _ => lv_iconst (v := 0) hx hb dX9_solve_109 (by decide)) ?_
                    refine zs (fun _ _ => lv_istore (lv' := [(7, .int (0)), (6, .int (nI t10)), (0, .ref (r)), (1, .int (nI i)), (2, .int (nI ((sN S fr ps j5) + (j7 + 1) * (cds (S.1 fr)).length))), (3, .int (nI (4 * i + j5))), (4, .int (nI (j7))), (5, .int (nI (j10)))]) hx hb dX9_solve_110 hl (by decide) rfl) (fun ls hl => ?_)
                    have hl0 := lv_sub hl [2, 3, 4, 5, 6, 7, 1, 0] rfl
                    refine z_loop (γ := (Nat → Int32) × (Nat → Nat → Int32)) (G := fun a => mm aC r a.1 a.2 R) (I := fun j a => sl4 sg7 ((nxt (cds (S.1 fr)) rw5 (sW S fr ps j5) j7 j10).length) v10 A10 j a.1 a.2) (lv := fun j a => [(0, .ref (r)), (1, .int (nI i)), (2, .int (nI ((sN S fr ps j5) + (j7 + 1) * (cds (S.1 fr)).length))), (3, .int (nI (4 * i + j5))), (4, .int (nI (j7))), (5, .int (nI (j10))), (6, .int (nI t10)), (7, .int (nI (j)))]) (4) ?_ ?_ (v10, A10) _ _ ⟨rfl, fun _ _ => rfl, fun _ _ => rfl, fun _ hk => absurd hk (Nat.not_lt_zero _)⟩ hl0
                    · intro j12 a12 sz ls hj12 hI12 hl ih12
                      obtain ⟨v12, A12⟩ := a12
                      dsimp only at hI12 hl ih12
                      refine zeq (M' := (mm aC r v12 A12 R)) rfl ?_
                      refine zz (fun _ _ => lv_iload hx hb dX9_solve_112 (lv_at hl 7 rfl)) ?_
                      refine zz (fun _ _ => lv_iconst (v := 4) hx hb dX9_solve_114 (by decide)) ?_
                      refine zval (v' := .int (nI 4)) (congrArg Value.int rfl) ?_
                      refine zb (fun _ _ => lv_icmp_ge (tgt := 150) hx hb dX9_solve_115 (by decide)) (fun c_13 => ?_) (fun c_13 => ?_)
                      · exact absurd c_13 (nI_ge (by omega) (by omega))
                      · refine zz (fun _ _ => lv_aload_n hx hb dX9_solve_118 rfl (lv_at hl 0 rfl)) ?_
                        refine z_get (v := .ref (r + 36)) C fd_X9_120 rm_0 rfl dX9_solve_119 ?_
                        refine zz (fun _ _ => lv_iconst (v := 4) hx hb dX9_solve_122 (by decide)) ?_
                        refine zz (fun _ _ => lv_aload_n hx hb dX9_solve_123 rfl (lv_at hl 0 rfl)) ?_
                        refine z_get (v := .int (v12 45)) C fd_X9_180 rm_0 rfl dX9_solve_124 ?_
                        refine zval (v' := .int (nI (nxt (cds (S.1 fr)) rw5 (sW S fr ps j5) j7 j10).length)) (congrArg Value.int ((congrFun hI12.1 45).trans hI10.2.2.2.1)) ?_
                        refine zz (fun _ _ => lv_imul hx hb dX9_solve_127) ?_
                        refine zval (v' := .int (nI (4 * (nxt (cds (S.1 fr)) rw5 (sW S fr ps j5) j7 j10).length))) (congrArg Value.int (pk_mul 4 _)) ?_
                        refine zz (fun _ _ => lv_iload hx hb dX9_solve_128 (lv_at hl 7 rfl)) ?_
                        refine zz (fun _ _ => lv_iadd hx hb dX9_solve_130) ?_
                        refine zval (v' := .int (nI (4 * (nxt (cds (S.1 fr)) rw5 (sW S fr ps j5) j7 j10).length + j12))) (congrArg Value.int (nI_add _ _)) ?_
                        refine zz (fun _ _ => lv_aload_n hx hb dX9_solve_131 rfl (lv_at hl 0 rfl)) ?_
                        refine z_get (v := .ref (r + 35)) C fd_X9_117 rm_0 rfl dX9_solve_132 ?_
                        refine zz (fun _ _ => lv_iconst (v := 4) hx hb dX9_solve_135 (by decide)) ?_
                        refine zz (fun _ _ => lv_iload hx hb dX9_solve_136 (lv_at hl 4 rfl)) ?_
                        refine zz (fun _ _ => lv_imul hx hb dX9_solve_138) ?_
                        refine zval (v' := .int (nI (4 * j7))) (congrArg Value.int (pk_mul 4 _)) ?_
                        refine zz (fun _ _ => lv_iload hx hb dX9_solve_139 (lv_at hl 7 rfl)) ?_
                        refine zz (fun _ _ => lv_iadd hx hb dX9_solve_141) ?_
                        refine zval (v' := .int (nI (4 * j7 + j12))) (congrArg Value.int (nI_add _ _)) ?_
                        refine z_iald (f := A12 35) C rm_35 (by first | assumption | (apply vp_in_nI <;> omega)) dX9_solve_142 ?_
                        refine zval (v' := .int (sg7 j12)) (congrArg Value.int (rdI ((congrFun (hI12.2.1 35 (by decide)) _).trans (hI10.2.2.1 _ _ esg7 j12 hj12)) (by omega))) ?_
                        refine z_iast (f := A12 36) C rm_36 (by first | assumption | (apply vp_in_nI <;> omega)) dX9_solve_143 ?_
                        refine zeq wm_36 ?_
                        refine zs (fun _ _ => lv_iinc (v := nI (j12) + 1) (lv' := [(7, .int (nI (j12) + 1)), (0, .ref (r)), (1, .int (nI i)), (2, .int (nI ((sN S fr ps j5) + (j7 + 1) * (cds (S.1 fr)).length))), (3, .int (nI (4 * i + j5))), (4, .int (nI (j7))), (5, .int (nI (j10))), (6, .int (nI t10))]) hx hb dX9_solve_144 hl (k := 7) rfl rfl (by decide) rfl) (fun ls hl => ?_)
                        refine zz (fun _ _ => lv_goto (tgt := 112) hx hb dX9_solve_147 (by decide)) ?_
                        have hl := lv_sub hl [1, 2, 3, 4, 5, 6, 7, 0] rfl
                        try simp only [nI_1] at hl
                        exact ih12 (v12, (u1 A12 36 (upd (A12 36) (Int32.toNatClampNeg (nI (4 * (nxt (cds (S.1 fr)) rw5 (sW S fr ps j5) j7 j10).length + j12))) (sg7 j12)))) _ _ (by dsimp only; rw [nI_clamp (n := 4 * (nxt (cds (S.1 fr)) rw5 (sW S fr ps j5) j7 j10).length + j12) (by omega)]; exact sl4_next hI12 _ rfl) hl
                    · intro a12 sz ls hI12 hl
                      obtain ⟨v12, A12⟩ := a12
                      dsimp only at hI12 hl
                      refine zeq (M' := (mm aC r v12 A12 R)) rfl ?_
                      refine zz (fun _ _ => lv_iload hx hb dX9_solve_112 (lv_at hl 7 rfl)) ?_
                      refine zz (fun _ _ => lv_iconst (v := 4) hx hb dX9_solve_114 (by decide)) ?_
                      refine zval (v' := .int (nI 4)) (congrArg Value.int rfl) ?_
                      refine zb (fun _ _ => lv_icmp_ge (tgt := 150) hx hb dX9_solve_115 (by decide)) (fun c_14 => ?_) (fun c_14 => ?_)
                      · have hokc9 : okc ((cds (S.1 fr)).getD j10 0) := okP_g hR.1.1 fr _ ((cds_mem (okP_g hR.1.1 fr)).mp (getD_mem hj10))
                        refine zz (fun _ _ => lv_aload_n hx hb dX9_solve_150 rfl (lv_at hl 0 rfl)) ?_
                        refine zz (fun _ _ => lv_aload_n hx hb dX9_solve_151 rfl (lv_at hl 0 rfl)) ?_
                        refine z_get (v := .ref (r + 11)) C fd_X9_41 rm_0 rfl dX9_solve_152 ?_
                        refine zz (fun _ _ => lv_iload_n hx hb dX9_solve_155 rfl (lv_at hl 3 rfl)) ?_
                        refine z_iald (f := A12 11) C rm_11 (by first | assumption | (apply vp_in_nI <;> omega)) dX9_solve_156 ?_
                        refine zval (v' := .int (rw5.1)) (congrArg Value.int (rdI ((congrFun ((kp4_4 hI12).2.1 11 (by decide)) _).trans hprow10.1) (by omega))) ?_
                        refine zz (fun _ _ => lv_aload_n hx hb dX9_solve_157 rfl (lv_at hl 0 rfl)) ?_
                        refine z_get (v := .ref (r + 20)) C fd_X9_68 rm_0 rfl dX9_solve_158 ?_
                        refine zz (fun _ _ => lv_iload hx hb dX9_solve_161 (lv_at hl 6 rfl)) ?_
                        refine z_iald (f := A12 20) C rm_20 (by first | assumption | (apply vp_in_nI <;> omega)) dX9_solve_163 ?_
                        refine zval (v' := .int (nI (pt ((cds (S.1 fr)).getD j10 0) 0))) (congrArg Value.int (rdI ((congrFun ((kp4_4 hI12).2.1 20 (by decide)) _).trans hord10.2.1) (by omega))) ?_
                        refine zqVI (As := [.int (rw5.1), .int (nI (pt ((cds (S.1 fr)).getD j10 0) 0))]) (rest := []) C hl.1 lk_X9_193 (hX9_fits ((congrFun (kp4_4 hI12).1 45).trans hI10.2.2.2.1) hM10 (by have := pt_lt hokc9 0; omega) hokr5.1 hI12.2.2.2) rm_0 rfl rfl rfl (Nat.le_of_ble_eq_true rfl) ⟨by decide, by decide, by decide, by decide⟩ dX9_solve_164 (fun w15 v15 A15 sz h15 => ?_)
                        refine zeq (M' := (mm aC r v15 A15 R)) rfl ?_
                        refine zb (fun _ _ => lv_if_eq (tgt := 214) hx hb dX9_solve_167 (by decide)) (fun c_16 => ?_) (fun c_16 => ?_)
                        · refine zz (fun _ _ => lv_iconst (v := 0) hx hb dX9_solve_214 (by decide)) ?_
                          refine zs (fun _ _ => lv_istore (lv' := [(7, .int (0)), (0, .ref (r)), (1, .int (nI i)), (2, .int (nI ((sN S fr ps j5) + (j7 + 1) * (cds (S.1 fr)).length))), (3, .int (nI (4 * i + j5))), (4, .int (nI (j7))), (5, .int (nI (j10))), (6, .int (nI t10))]) hx hb dX9_solve_215 hl (by decide) rfl) (fun ls hl => ?_)
                          refine zz (fun _ _ => lv_aload_n hx hb dX9_solve_217 rfl (lv_at hl 1 rfl)) ?_
                          refine zz (fun _ _ => lv_dup hx hb dX9_solve_218 rfl) ?_
                          refine z_get (v := .int (v15 45)) C fd_X9_180 rm_0 rfl dX9_solve_219 ?_
                          refine zval (v' := .int (nI (nxt (cds (S.1 fr)) rw5 (sW S fr ps j5) j7 j10).length)) (congrArg Value.int ((congrFun (kp4_f (kp4_4 hI12) h15).1 45).trans hI10.2.2.2.1)) ?_
                          refine zz (fun _ _ => lv_iload hx hb dX9_solve_222 (lv_at hl 0 rfl)) ?_
                          refine zb (fun _ _ => lv_if_eq (tgt := 231) hx hb dX9_solve_224 (by decide)) (fun c_17 => ?_) (fun c_17 => ?_)
                          · refine zz (fun _ _ => lv_iconst (v := 0) hx hb dX9_solve_231 (by decide)) ?_
                            refine zz (fun _ _ => lv_iadd hx hb dX9_solve_232) ?_
                            refine z_put C fp_X9_180 (fun h => by cases h) rm_0 (Nat.le_of_ble_eq_true rfl) rfl rfl dX9_solve_233 ?_
                            refine zeq wm_f45 ?_
                            refine zs (fun _ _ => lv_iinc (v := nI (j10) + 1) (lv' := [(5, .int (nI (j10) + 1)), (7, .int (0)), (0, .ref (r)), (1, .int (nI i)), (2, .int (nI ((sN S fr ps j5) + (j7 + 1) * (cds (S.1 fr)).length))), (3, .int (nI (4 * i + j5))), (4, .int (nI (j7))), (6, .int (nI t10))]) hx hb dX9_solve_236 hl (k := 6) rfl rfl (by decide) rfl) (fun ls hl => ?_)
                            refine zz (fun _ _ => lv_goto (tgt := 91) hx hb dX9_solve_239 (by decide)) ?_
                            have hl := lv_sub hl [2, 3, 4, 5, 6, 0] rfl
                            try simp only [nI_1] at hl
                            exact ih10 ((upd v15 45 ((nI (nxt (cds (S.1 fr)) rw5 (sW S fr ps j5) j7 j10).length) + (0))), A15) _ _ (sl3_no hj10 esg7 hI10 (kp4_f (kp4_4 hI12) h15) (mtc_1 (ft_no h15 c_16))) hl
                          · exact absurd (by decide) c_17
                        · obtain ⟨sx2, ex2, hx2⟩ := ft_ok h15 c_16
                          refine zz (fun _ _ => lv_aload_n hx hb dX9_solve_170 rfl (lv_at hl 0 rfl)) ?_
                          refine zz (fun _ _ => lv_aload_n hx hb dX9_solve_171 rfl (lv_at hl 0 rfl)) ?_
                          refine z_get (v := .ref (r + 12)) C fd_X9_44 rm_0 rfl dX9_solve_172 ?_
                          refine zz (fun _ _ => lv_iload_n hx hb dX9_solve_175 rfl (lv_at hl 3 rfl)) ?_
                          refine z_iald (f := A15 12) C rm_12 (by first | assumption | (apply vp_in_nI <;> omega)) dX9_solve_176 ?_
                          refine zval (v' := .int (rw5.2.1)) (congrArg Value.int (rdI ((congrFun ((kp4_f (kp4_4 hI12) h15).2.1 12 (by decide)) _).trans hprow10.2.1) (by omega))) ?_
                          refine zz (fun _ _ => lv_aload_n hx hb dX9_solve_177 rfl (lv_at hl 0 rfl)) ?_
                          refine z_get (v := .ref (r + 21)) C fd_X9_71 rm_0 rfl dX9_solve_178 ?_
                          refine zz (fun _ _ => lv_iload hx hb dX9_solve_181 (lv_at hl 6 rfl)) ?_
                          refine z_iald (f := A15 21) C rm_21 (by first | assumption | (apply vp_in_nI <;> omega)) dX9_solve_183 ?_
                          refine zval (v' := .int (nI (pt ((cds (S.1 fr)).getD j10 0) 1))) (congrArg Value.int (rdI ((congrFun ((kp4_f (kp4_4 hI12) h15).2.1 21 (by decide)) _).trans hord10.2.2.1) (by omega))) ?_
                          refine zqVI (As := [.int (rw5.2.1), .int (nI (pt ((cds (S.1 fr)).getD j10 0) 1))]) (rest := []) C hl.1 lk_X9_193 (hX9_fits ((congrFun (kp4_f (kp4_4 hI12) h15).1 45).trans hI10.2.2.2.1) hM10 (by have := pt_lt hokc9 1; omega) hokr5.2.1 hx2) rm_0 rfl rfl rfl (Nat.le_of_ble_eq_true rfl) ⟨by decide, by decide, by decide, by decide⟩ dX9_solve_184 (fun w18 v18 A18 sz h18 => ?_)
                          refine zeq (M' := (mm aC r v18 A18 R)) rfl ?_
                          refine zb (fun _ _ => lv_if_eq (tgt := 214) hx hb dX9_solve_187 (by decide)) (fun c_19 => ?_) (fun c_19 => ?_)
                          · refine zz (fun _ _ => lv_iconst (v := 0) hx hb dX9_solve_214 (by decide)) ?_
                            refine zs (fun _ _ => lv_istore (lv' := [(7, .int (0)), (0, .ref (r)), (1, .int (nI i)), (2, .int (nI ((sN S fr ps j5) + (j7 + 1) * (cds (S.1 fr)).length))), (3, .int (nI (4 * i + j5))), (4, .int (nI (j7))), (5, .int (nI (j10))), (6, .int (nI t10))]) hx hb dX9_solve_215 hl (by decide) rfl) (fun ls hl => ?_)
                            refine zz (fun _ _ => lv_aload_n hx hb dX9_solve_217 rfl (lv_at hl 1 rfl)) ?_
                            refine zz (fun _ _ => lv_dup hx hb dX9_solve_218 rfl) ?_
                            refine z_get (v := .int (v18 45)) C fd_X9_180 rm_0 rfl dX9_solve_219 ?_
                            refine zval (v' := .int (nI (nxt (cds (S.1 fr)) rw5 (sW S fr ps j5) j7 j10).length)) (congrArg Value.int ((congrFun (kp4_f (kp4_f (kp4_4 hI12) h15) h18).1 45).trans hI10.2.2.2.1)) ?_
                            refine zz (fun _ _ => lv_iload hx hb dX9_solve_222 (lv_at hl 0 rfl)) ?_
                            refine zb (fun _ _ => lv_if_eq (tgt := 231) hx hb dX9_solve_224 (by decide)) (fun c_20 => ?_) (fun c_20 => ?_)
                            · refine zz (fun _ _ => lv_iconst (v := 0) hx hb dX9_solve_231 (by decide)) ?_
                              refine zz (fun _ _ => lv_iadd hx hb dX9_solve_232) ?_
                              refine z_put C fp_X9_180 (fun h => by cases h) rm_0 (Nat.le_of_ble_eq_true rfl) rfl rfl dX9_solve_233 ?_
                              refine zeq wm_f45 ?_
                              refine zs (fun _ _ => lv_iinc (v := nI (j10) + 1) (lv' := [(5, .int (nI (j10) + 1)), (7, .int (0)), (0, .ref (r)), (1, .int (nI i)), (2, .int (nI ((sN S fr ps j5) + (j7 + 1) * (cds (S.1 fr)).length))), (3, .int (nI (4 * i + j5))), (4, .int (nI (j7))), (6, .int (nI t10))]) hx hb dX9_solve_236 hl (k := 6) rfl rfl (by decide) rfl) (fun ls hl => ?_)
                              refine zz (fun _ _ => lv_goto (tgt := 91) hx hb dX9_solve_239 (by decide)) ?_
                              have hl := lv_sub hl [2, 3, 4, 5, 6, 0] rfl
                              try simp only [nI_1] at hl
                              exact ih10 ((upd v18 45 ((nI (nxt (cds (S.1 fr)) rw5 (sW S fr ps j5) j7 j10).length) + (0))), A18) _ _ (sl3_no hj10 esg7 hI10 (kp4_f (kp4_f (kp4_4 hI12) h15) h18) (mtc_2 ex2 (ft_no h18 c_19))) hl
                            · exact absurd (by decide) c_20
                          · obtain ⟨sx3, ex3, hx3⟩ := ft_ok h18 c_19
                            refine zz (fun _ _ => lv_aload_n hx hb dX9_solve_190 rfl (lv_at hl 0 rfl)) ?_
                            refine zz (fun _ _ => lv_aload_n hx hb dX9_solve_191 rfl (lv_at hl 0 rfl)) ?_
                            refine z_get (v := .ref (r + 13)) C fd_X9_47 rm_0 rfl dX9_solve_192 ?_
                            refine zz (fun _ _ => lv_iload_n hx hb dX9_solve_195 rfl (lv_at hl 3 rfl)) ?_
                            refine z_iald (f := A18 13) C rm_13 (by first | assumption | (apply vp_in_nI <;> omega)) dX9_solve_196 ?_
                            refine zval (v' := .int (rw5.2.2)) (congrArg Value.int (rdI ((congrFun ((kp4_f (kp4_f (kp4_4 hI12) h15) h18).2.1 13 (by decide)) _).trans hprow10.2.2) (by omega))) ?_
                            refine zz (fun _ _ => lv_aload_n hx hb dX9_solve_197 rfl (lv_at hl 0 rfl)) ?_
                            refine z_get (v := .ref (r + 22)) C fd_X9_74 rm_0 rfl dX9_solve_198 ?_
                            refine zz (fun _ _ => lv_iload hx hb dX9_solve_201 (lv_at hl 6 rfl)) ?_
                            refine z_iald (f := A18 22) C rm_22 (by first | assumption | (apply vp_in_nI <;> omega)) dX9_solve_203 ?_
                            refine zval (v' := .int (nI (pt ((cds (S.1 fr)).getD j10 0) 2))) (congrArg Value.int (rdI ((congrFun ((kp4_f (kp4_f (kp4_4 hI12) h15) h18).2.1 22 (by decide)) _).trans hord10.2.2.2) (by omega))) ?_
                            refine zqVI (As := [.int (rw5.2.2), .int (nI (pt ((cds (S.1 fr)).getD j10 0) 2))]) (rest := []) C hl.1 lk_X9_193 (hX9_fits ((congrFun (kp4_f (kp4_f (kp4_4 hI12) h15) h18).1 45).trans hI10.2.2.2.1) hM10 (by have := pt_lt hokc9 2; omega) hokr5.2.2 hx3) rm_0 rfl rfl rfl (Nat.le_of_ble_eq_true rfl) ⟨by decide, by decide, by decide, by decide⟩ dX9_solve_204 (fun w21 v21 A21 sz h21 => ?_)
                            refine zeq (M' := (mm aC r v21 A21 R)) rfl ?_
                            refine zb (fun _ _ => lv_if_eq (tgt := 214) hx hb dX9_solve_207 (by decide)) (fun c_22 => ?_) (fun c_22 => ?_)
                            · refine zz (fun _ _ => lv_iconst (v := 0) hx hb dX9_solve_214 (by decide)) ?_
                              refine zs (fun _ _ => lv_istore (lv' := [(7, .int (0)), (0, .ref (r)), (1, .int (nI i)), (2, .int (nI ((sN S fr ps j5) + (j7 + 1) * (cds (S.1 fr)).length))), (3, .int (nI (4 * i + j5))), (4, .int (nI (j7))), (5, .int (nI (j10))), (6, .int (nI t10))]) hx hb dX9_solve_215 hl (by decide) rfl) (fun ls hl => ?_)
                              refine zz (fun _ _ => lv_aload_n hx hb dX9_solve_217 rfl (lv_at hl 1 rfl)) ?_
                              refine zz (fun _ _ => lv_dup hx hb dX9_solve_218 rfl) ?_
                              refine z_get (v := .int (v21 45)) C fd_X9_180 rm_0 rfl dX9_solve_219 ?_
                              refine zval (v' := .int (nI (nxt (cds (S.1 fr)) rw5 (sW S fr ps j5) j7 j10).length)) (congrArg Value.int ((congrFun (kp4_f (kp4_f (kp4_f (kp4_4 hI12) h15) h18) h21).1 45).trans hI10.2.2.2.1)) ?_
                              refine zz (fun _ _ => lv_iload hx hb dX9_solve_222 (lv_at hl 0 rfl)) ?_
                              refine zb (fun _ _ => lv_if_eq (tgt := 231) hx hb dX9_solve_224 (by decide)) (fun c_23 => ?_) (fun c_23 => ?_)
                              · refine zz (fun _ _ => lv_iconst (v := 0) hx hb dX9_solve_231 (by decide)) ?_
                                refine zz (fun _ _ => lv_iadd hx hb dX9_solve_232) ?_
                                refine z_put C fp_X9_180 (fun h => by cases h) rm_0 (Nat.le_of_ble_eq_true rfl) rfl rfl dX9_solve_233 ?_
                                refine zeq wm_f45 ?_
                                refine zs (fun _ _ => lv_iinc (v := nI (j10) + 1) (lv' := [(5, .int (nI (j10) + 1)), (7, .int (0)), (0, .ref (r)), (1, .int (nI i)), (2, .int (nI ((sN S fr ps j5) + (j7 + 1) * (cds (S.1 fr)).length))), (3, .int (nI (4 * i + j5))), (4, .int (nI (j7))), (6, .int (nI t10))]) hx hb dX9_solve_236 hl (k := 6) rfl rfl (by decide) rfl) (fun ls hl => ?_)
                                refine zz (fun _ _ => lv_goto (tgt := 91) hx hb dX9_solve_239 (by decide)) ?_
                                have hl := lv_sub hl [2, 3, 4, 5, 6, 0] rfl
                                try simp only [nI_1] at hl
                                exact ih10 ((upd v21 45 ((nI (nxt (cds (S.1 fr)) rw5 (sW S fr ps j5) j7 j10).length) + (0))), A21) _ _ (sl3_no hj10 esg7 hI10 (kp4_f (kp4_f (kp4_f (kp4_4 hI12) h15) h18) h21) ((mtc_3 ex2 ex3).trans (ft_no h21 c_22))) hl
                              · exact absurd (by decide) c_23
                            · refine zz (fun _ _ => lv_iconst (v := 1) hx hb dX9_solve_210 (by decide)) ?_
                              refine zz (fun _ _ => lv_goto (tgt := 215) hx hb dX9_solve_211 (by decide)) ?_
                              refine zs (fun _ _ => lv_istore (lv' := [(7, .int (1)), (0, .ref (r)), (1, .int (nI i)), (2, .int (nI ((sN S fr ps j5) + (j7 + 1) * (cds (S.1 fr)).length))), (3, .int (nI (4 * i + j5))), (4, .int (nI (j7))), (5, .int (nI (j10))), (6, .int (nI t10))]) hx hb dX9_solve_215 hl (by decide) rfl) (fun ls hl => ?_)
                              refine zz (fun _ _ => lv_aload_n hx hb dX9_solve_217 rfl (lv_at hl 1 rfl)) ?_
                              refine zz (fun _ _ => lv_dup hx hb dX9_solve_218 rfl) ?_
                              refine z_get (v := .int (v21 45)) C fd_X9_180 rm_0 rfl dX9_solve_219 ?_
                              refine zval (v' := .int (nI (nxt (cds (S.1 fr)) rw5 (sW S fr ps j5) j7 j10).length)) (congrArg Value.int ((congrFun (kp4_f (kp4_f (kp4_f (kp4_4 hI12) h15) h18) h21).1 45).trans hI10.2.2.2.1)) ?_
                              refine zz (fun _ _ => lv_iload hx hb dX9_solve_222 (lv_at hl 0 rfl)) ?_
                              refine zb (fun _ _ => lv_if_eq (tgt := 231) hx hb dX9_solve_224 (by decide)) (fun c_24 => ?_) (fun c_24 => ?_)
                              · exact absurd c_24 (by decide)
                              · refine zz (fun _ _ => lv_iconst (v := 1) hx hb dX9_solve_227 (by decide)) ?_
                                refine zz (fun _ _ => lv_goto (tgt := 232) hx hb dX9_solve_228 (by decide)) ?_
                                refine zz (fun _ _ => lv_iadd hx hb dX9_solve_232) ?_
                                refine z_put C fp_X9_180 (fun h => by cases h) rm_0 (Nat.le_of_ble_eq_true rfl) rfl rfl dX9_solve_233 ?_
                                refine zeq wm_f45 ?_
                                refine zs (fun _ _ => lv_iinc (v := nI (j10) + 1) (lv' := [(5, .int (nI (j10) + 1)), (7, .int (1)), (0, .ref (r)), (1, .int (nI i)), (2, .int (nI ((sN S fr ps j5) + (j7 + 1) * (cds (S.1 fr)).length))), (3, .int (nI (4 * i + j5))), (4, .int (nI (j7))), (6, .int (nI t10))]) hx hb dX9_solve_236 hl (k := 6) rfl rfl (by decide) rfl) (fun ls hl => ?_)
                                refine zz (fun _ _ => lv_goto (tgt := 91) hx hb dX9_solve_239 (by decide)) ?_
                                have hl := lv_sub hl [2, 3, 4, 5, 6, 0] rfl
                                try simp only [nI_1] at hl
                                obtain ⟨sx4, ex4, hx4⟩ := ft_ok h21 c_22
                                exact ih10 ((upd v21 45 ((nI (nxt (cds (S.1 fr)) rw5 (sW S fr ps j5) j7 j10).length) + (1))), A21) _ _ (sl3_yes hj10 esg7 hI10 (kp4_f (kp4_f (kp4_f (kp4_4 hI12) h15) h18) h21) ((mtc_3 ex2 ex3).trans ex4) hx4) hl
                      · exact absurd (nI_le (Nat.le_refl _) (by omega)) c_14
                · intro a10 sz ls hI10 hl
                  obtain ⟨v10, A10⟩ := a10
                  dsimp only at hI10 hl
                  refine zeq (M' := (mm aC r v10 A10 R)) rfl ?_
                  refine zz (fun _ _ => lv_iload hx hb dX9_solve_91 (lv_at hl 5 rfl)) ?_
                  refine zz (fun _ _ => lv_aload_n hx hb dX9_solve_93 rfl (lv_at hl 0 rfl)) ?_
                  refine z_get (v := .int (v10 47)) C fd_X9_174 rm_0 rfl dX9_solve_94 ?_
                  refine zval (v' := .int (nI (cds (S.1 fr)).length)) (congrArg Value.int hI10.1.2.2.1) ?_
                  refine zb (fun _ _ => lv_icmp_ge (tgt := 242) hx hb dX9_solve_97 (by decide)) (fun c_25 => ?_) (fun c_25 => ?_)
                  · refine zs (fun _ _ => lv_iinc (v := nI (j7) + 1) (lv' := [(4, .int (nI (j7) + 1)), (0, .ref (r)), (1, .int (nI i)), (2, .int (nI ((sN S fr ps j5) + (j7 + 1) * (cds (S.1 fr)).length))), (3, .int (nI (4 * i + j5))), (5, .int (nI (((cds (S.1 fr)).length))))]) hx hb dX9_solve_242 hl (k := 4) rfl rfl (by decide) rfl) (fun ls hl => ?_)
                    refine zz (fun _ _ => lv_goto (tgt := 63) hx hb dX9_solve_245 (by decide)) ?_
                    have hl := lv_sub hl [1, 2, 3, 4, 0] rfl
                    try simp only [nI_1] at hl
                    exact ih7 (v10, A10, nI ((sN S fr ps j5) + (j7 + 1) * (cds (S.1 fr)).length)) _ _ (sl2_next hj7 hs5 hI10) hl
                  · exact absurd (nI_le (Nat.le_refl _) (by omega)) c_25
              · refine zz (fun _ _ => lv_iconst (v := 5) hx hb dX9_solve_86 (by decide)) ?_
                exact z_iret C hr hlk dX9_solve_87 (zpI_mk (a := v7) (b := A7) (sl_no erw5 hj7 hI7.1 hI7.2.2.1 hlen c_9))
          · intro a7 sz ls hI7 hl
            obtain ⟨v7, A7, t7_2⟩ := a7
            dsimp only at hI7 hl
            refine zeq (M' := (mm aC r v7 A7 R)) rfl ?_
            have hX5 : (nxt (cds (S.1 fr)) rw5 (sW S fr ps j5) ((sW S fr ps j5).length) 0).length ≤ 5000 := nxt_5e hI7.2.2.1
            refine zz (fun _ _ => lv_iload hx hb dX9_solve_63 (lv_at hl 4 rfl)) ?_
            refine zz (fun _ _ => lv_aload_n hx hb dX9_solve_65 rfl (lv_at hl 0 rfl)) ?_
            refine z_get (v := .int (v7 43)) C fd_X9_190 rm_0 rfl dX9_solve_66 ?_
            refine zval (v' := .int (nI (sW S fr ps j5).length)) (congrArg Value.int hI7.2.2.2.1) ?_
            refine zb (fun _ _ => lv_icmp_ge (tgt := 248) hx hb dX9_solve_69 (by decide)) (fun c_26 => ?_) (fun c_26 => ?_)
            · refine zz (fun _ _ => lv_aload_n hx hb dX9_solve_248 rfl (lv_at hl 0 rfl)) ?_
              refine zz (fun _ _ => lv_aload_n hx hb dX9_solve_249 rfl (lv_at hl 0 rfl)) ?_
              refine z_get (v := .int (v7 45)) C fd_X9_180 rm_0 rfl dX9_solve_250 ?_
              refine zval (v' := .int (nI (nxt (cds (S.1 fr)) rw5 (sW S fr ps j5) ((sW S fr ps j5).length) 0).length)) (congrArg Value.int hI7.2.2.2.2.2.1) ?_
              refine z_put C fp_X9_190 (fun h => by cases h) rm_0 (Nat.le_of_ble_eq_true rfl) rfl rfl dX9_solve_253 ?_
              refine zeq wm_f43 ?_
              refine zz (fun _ _ => lv_iconst (v := 0) hx hb dX9_solve_256 (by decide)) ?_
              refine zs (fun _ _ => lv_istore (lv' := [(4, .int (0)), (0, .ref (r)), (1, .int (nI i)), (2, .int (t7_2)), (3, .int (nI (4 * i + j5)))]) hx hb dX9_solve_257 hl (by decide) rfl) (fun ls hl => ?_)
              have hl0 := lv_sub hl [1, 2, 3, 4, 0] rfl
              refine z_loop (γ := (Nat → Int32) × (Nat → Nat → Int32)) (G := fun a => mm aC r a.1 a.2 R) (I := fun j a => sl5 (upd v7 43 (nI (nxt (cds (S.1 fr)) rw5 (sW S fr ps j5) ((sW S fr ps j5).length) 0).length)) A7 j a.1 a.2) (lv := fun j a => [(0, .ref (r)), (1, .int (nI i)), (2, .int (t7_2)), (3, .int (nI (4 * i + j5))), (4, .int (nI (j)))]) (4 * (nxt (cds (S.1 fr)) rw5 (sW S fr ps j5) ((sW S fr ps j5).length) 0).length) ?_ ?_ ((upd v7 43 (nI (nxt (cds (S.1 fr)) rw5 (sW S fr ps j5) ((sW S fr ps j5).length) 0).length)), A7) _ _ ⟨rfl, fun _ _ => rfl, fun _ hx => absurd hx (Nat.not_lt_zero _)⟩ hl0
              · intro j27 a27 sz ls hj27 hI27 hl ih27
                obtain ⟨v27, A27⟩ := a27
                dsimp only at hI27 hl ih27
                refine zeq (M' := (mm aC r v27 A27 R)) rfl ?_
                refine zz (fun _ _ => lv_iload hx hb dX9_solve_259 (lv_at hl 4 rfl)) ?_
                refine zz (fun _ _ => lv_iconst (v := 4) hx hb dX9_solve_261 (by decide)) ?_
                refine zz (fun _ _ => lv_aload_n hx hb dX9_solve_262 rfl (lv_at hl 0 rfl)) ?_
                refine z_get (v := .int (v27 43)) C fd_X9_190 rm_0 rfl dX9_solve_263 ?_
                refine zval (v' := .int (nI (nxt (cds (S.1 fr)) rw5 (sW S fr ps j5) ((sW S fr ps j5).length) 0).length)) (congrArg Value.int (by rw [hI27.1]; simp [upd])) ?_
                refine zz (fun _ _ => lv_imul hx hb dX9_solve_266) ?_
                refine zval (v' := .int (nI (4 * (nxt (cds (S.1 fr)) rw5 (sW S fr ps j5) ((sW S fr ps j5).length) 0).length))) (congrArg Value.int (pk_mul 4 _)) ?_
                refine zb (fun _ _ => lv_icmp_ge (tgt := 290) hx hb dX9_solve_267 (by decide)) (fun c_28 => ?_) (fun c_28 => ?_)
                · exact absurd c_28 (nI_ge (by omega) (by omega))
                · refine zz (fun _ _ => lv_aload_n hx hb dX9_solve_270 rfl (lv_at hl 0 rfl)) ?_
                  refine z_get (v := .ref (r + 35)) C fd_X9_117 rm_0 rfl dX9_solve_271 ?_
                  refine zz (fun _ _ => lv_iload hx hb dX9_solve_274 (lv_at hl 4 rfl)) ?_
                  refine zz (fun _ _ => lv_aload_n hx hb dX9_solve_276 rfl (lv_at hl 0 rfl)) ?_
                  refine z_get (v := .ref (r + 36)) C fd_X9_120 rm_0 rfl dX9_solve_277 ?_
                  refine zz (fun _ _ => lv_iload hx hb dX9_solve_280 (lv_at hl 4 rfl)) ?_
                  refine z_iald (f := A27 36) C rm_36 (by first | assumption | (apply vp_in_nI <;> omega)) dX9_solve_282 ?_
                  refine z_iast (f := A27 35) C rm_35 (by first | assumption | (apply vp_in_nI <;> omega)) dX9_solve_283 ?_
                  refine zeq wm_35 ?_
                  refine zs (fun _ _ => lv_iinc (v := nI (j27) + 1) (lv' := [(4, .int (nI (j27) + 1)), (0, .ref (r)), (1, .int (nI i)), (2, .int (t7_2)), (3, .int (nI (4 * i + j5)))]) hx hb dX9_solve_284 hl (k := 4) rfl rfl (by decide) rfl) (fun ls hl => ?_)
                  refine zz (fun _ _ => lv_goto (tgt := 259) hx hb dX9_solve_287 (by decide)) ?_
                  have hl := lv_sub hl [1, 2, 3, 4, 0] rfl
                  try simp only [nI_1] at hl
                  exact ih27 (v27, (u1 A27 35 (upd (A27 35) (Int32.toNatClampNeg (nI (j27))) (A27 36 (Int32.toNatClampNeg (nI (j27))))))) _ _ (by dsimp only; rw [nI_clamp (n := j27) (by omega)]; exact sl5_next hI27) hl
              · intro a27 sz ls hI27 hl
                obtain ⟨v27, A27⟩ := a27
                dsimp only at hI27 hl
                refine zeq (M' := (mm aC r v27 A27 R)) rfl ?_
                refine zz (fun _ _ => lv_iload hx hb dX9_solve_259 (lv_at hl 4 rfl)) ?_
                refine zz (fun _ _ => lv_iconst (v := 4) hx hb dX9_solve_261 (by decide)) ?_
                refine zz (fun _ _ => lv_aload_n hx hb dX9_solve_262 rfl (lv_at hl 0 rfl)) ?_
                refine z_get (v := .int (v27 43)) C fd_X9_190 rm_0 rfl dX9_solve_263 ?_
                refine zval (v' := .int (nI (nxt (cds (S.1 fr)) rw5 (sW S fr ps j5) ((sW S fr ps j5).length) 0).length)) (congrArg Value.int (by rw [hI27.1]; simp [upd])) ?_
                refine zz (fun _ _ => lv_imul hx hb dX9_solve_266) ?_
                refine zval (v' := .int (nI (4 * (nxt (cds (S.1 fr)) rw5 (sW S fr ps j5) ((sW S fr ps j5).length) 0).length))) (congrArg Value.int (pk_mul 4 _)) ?_
                refine zb (fun _ _ => lv_icmp_ge (tgt := 290) hx hb dX9_solve_267 (by decide)) (fun c_29 => ?_) (fun c_29 => ?_)
                · refine zs (fun _ _ => lv_iinc (v := nI (4 * i + j5) + 1) (lv' := [(3, .int (nI (4 * i + j5) + 1)), (0, .ref (r)), (1, .int (nI i)), (2, .int (t7_2)), (4, .int (nI ((4 * (nxt (cds (S.1 fr)) rw5 (sW S fr ps j5) ((sW S fr ps j5).length) 0).length))))]) hx hb dX9_solve_290 hl (k := 3) rfl rfl (by decide) rfl) (fun ls hl => ?_)
                  refine zz (fun _ _ => lv_goto (tgt := 41) hx hb dX9_solve_293 (by decide)) ?_
                  have hl := lv_sub hl [1, 2, 3, 0] rfl
                  try simp only [nI_1] at hl
                  exact ih5 (v27, A27, t7_2) _ _ (sl1_next erw5 hI7 hI27) hl
                · exact absurd (nI_le (Nat.le_refl _) (by omega)) c_29
            · exact absurd (nI_le (Nat.le_refl _) (by omega)) c_26
      · intro a5 sz ls hI5 hl
        obtain ⟨v5, A5, t5_2⟩ := a5
        dsimp only at hI5 hl
        refine zeq (M' := (mm aC r v5 A5 R)) rfl ?_
        have hP5 : PRr A5 i ps := hP.kept hI5.1.1.low
        refine zz (fun _ _ => lv_iload_n hx hb dX9_solve_41 rfl (lv_at hl 3 rfl)) ?_
        refine zz (fun _ _ => lv_iconst (v := 4) hx hb dX9_solve_42 (by decide)) ?_
        refine zz (fun _ _ => lv_iload_n hx hb dX9_solve_43 rfl (lv_at hl 1 rfl)) ?_
        refine zz (fun _ _ => lv_imul hx hb dX9_solve_44) ?_
        refine zval (v' := .int (nI (4 * i))) (congrArg Value.int (pk_mul 4 i)) ?_
        refine zz (fun _ _ => lv_aload_n hx hb dX9_solve_45 rfl (lv_at hl 0 rfl)) ?_
        refine z_get (v := .ref (r + 10)) C fd_X9_38 rm_0 rfl dX9_solve_46 ?_
        refine zz (fun _ _ => lv_iload_n hx hb dX9_solve_49 rfl (lv_at hl 1 rfl)) ?_
        refine z_iald (f := A5 10) C rm_10 (by first | assumption | (apply vp_in_nI <;> omega)) dX9_solve_50 ?_
        refine zval (v' := .int (nI ps.length)) (congrArg Value.int (rdI hP5.1 (by omega))) ?_
        refine zz (fun _ _ => lv_iadd hx hb dX9_solve_51) ?_
        refine zval (v' := .int (nI (4 * i + ps.length))) (congrArg Value.int (nI_add _ _)) ?_
        refine zb (fun _ _ => lv_icmp_ge (tgt := 296) hx hb dX9_solve_52 (by decide)) (fun c_30 => ?_) (fun c_30 => ?_)
        · refine zz (fun _ _ => lv_aload_n hx hb dX9_solve_296 rfl (lv_at hl 0 rfl)) ?_
          refine zz (fun _ _ => lv_dup hx hb dX9_solve_297 rfl) ?_
          refine z_get (v := .int (v5 41)) C fd_X9_196 rm_0 rfl dX9_solve_298 ?_
          refine zz (fun _ _ => lv_iload_n hx hb dX9_solve_301 rfl (lv_at hl 2 rfl)) ?_
          refine zz (fun _ _ => lv_iadd hx hb dX9_solve_302) ?_
          refine z_put C fp_X9_196 (fun h => by cases h) rm_0 (Nat.le_of_ble_eq_true rfl) rfl rfl dX9_solve_303 ?_
          refine zeq wm_f41 ?_
          refine zz (fun _ _ => lv_aload_n hx hb dX9_solve_306 rfl (lv_at hl 0 rfl)) ?_
          refine z_get (v := .int (v5 43)) C fd_X9_190 rm_0 rfl dX9_solve_307 ?_
          refine zval (v' := .int (nI (sW S fr ps ps.length).length)) (congrArg Value.int hI5.2.2.2.1) ?_
          refine zz (fun _ _ => lv_bipush (v := 100) hx hb dX9_solve_310 (by decide)) ?_
          refine zval (v' := .int (nI 100)) (congrArg Value.int rfl) ?_
          refine zb (fun _ _ => lv_icmp_le (tgt := 319) hx hb dX9_solve_312 (by decide)) (fun c_31 => ?_) (fun c_31 => ?_)
          · refine zz (fun _ _ => lv_iconst (v := 0) hx hb dX9_solve_319 (by decide)) ?_
            exact z_iret C hr hlk dX9_solve_320 (zpI_mk (a := (upd v5 41 ((v5 41) + (t5_2)))) (b := A5) ((sl_end hI5).1 c_31))
          · refine zz (fun _ _ => lv_iconst (v := 5) hx hb dX9_solve_315 (by decide)) ?_
            refine zz (fun _ _ => lv_goto (tgt := 320) hx hb dX9_solve_316 (by decide)) ?_
            exact z_iret C hr hlk dX9_solve_320 (zpI_mk (a := (upd v5 41 ((v5 41) + (t5_2)))) (b := A5) ((sl_end hI5).2 c_31))
        · exact absurd (nI_le (Nat.le_refl _) (by omega)) c_30
    · exact absurd (nI_le (Nat.le_refl _) (by omega)) c_4
end
section
/-! A CHANGE of the reference, in its parts. -/
theorem agr_ok {σ σ' : Sg} {t : Int32} {q : Nat} (hσ : okG σ) (ht : isNm t ∨ isV t) (hq : q < 160) (h : agr σ t (nI q) = some σ') : okG σ' := by
  rcases ht with r | r
  · rw [agr_n r] at h
    split at h
    · cases h; exact hσ
    · cases h
  · rw [agr_v r] at h
    split at h
    · cases h
      intro k hk
      unfold upd
      split
      · refine Or.inr ?_
        unfold isPn
        rw [nI_toInt (by omega)]
        omega
      · exact hσ k hk
    · split at h
      · cases h; exact hσ
      · cases h
theorem mtc_ok {r : Rw} {σ σ' : Sg} {c : Nat} (hσ : okG σ) (hr : okR r) (hc : okc c) (h : mtc r σ c = some σ') : okG σ' := by
  unfold mtc at h
  cases e1 : agr σ r.1 (nI (pt c 0)) with
  | none => rw [e1] at h; cases h
  | some σ1 =>
    rw [e1, Option.bind_some] at h
    cases e2 : agr σ1 r.2.1 (nI (pt c 1)) with
    | none => rw [e2] at h; cases h
    | some σ2 =>
      rw [e2, Option.bind_some] at h
      exact agr_ok (agr_ok (agr_ok hσ hr.1 hc.1 e1) hr.2.1 (by have := hc.2.1; omega) e2) hr.2.2 hc.2.2 h
theorem sols_ok {fs : List Nat} (hf : ∀ c ∈ fs, okc c) : ∀ (ps : List Rw) (σ : Sg), (∀ t ∈ ps, okR t) → okG σ → ∀ σ' ∈ sols fs ps σ, okG σ'
  | [], σ, _, hσ => fun σ' h => by
    have : σ' = σ := by simpa [sols] using h
    rw [this]; exact hσ
  | r :: rs, σ, hr, hσ => fun σ' h => by
    unfold sols at h
    obtain ⟨σ1, h1, h2⟩ := List.mem_flatMap.mp h
    obtain ⟨c, hc, e⟩ := List.mem_filterMap.mp h1
    exact sols_ok hf rs σ1 (fun t ht => hr t (by simp [ht])) (mtc_ok hσ (hr r (by simp)) (hf c hc) e) σ' h2
theorem okG_0 : okG (fun _ => -1) := fun _ _ => Or.inl rfl
theorem foldl_takeS {β : Type} {ts : List Sg} {f : β → Sg → β} {S : β} {j : Nat} {t : Sg} (h : ts[j]? = some t) : (ts.take (j + 1)).foldl f S = f ((ts.take j).foldl f S) t := by
  rw [List.take_succ, h, List.foldl_append]
  rfl
theorem addSols_append (to : Nat) (ts : List TR) : ∀ (l l' : List Sg) (S : St), addSols to ts (l ++ l') S = (match addSols to ts l S with
    | none => none
    | some S' => addSols to ts l' S')
  | [], _, _ => rfl
  | σ :: σs, l', S => by
    rw [List.cons_append, addSols, addSols]
    cases addSol to ts S σ with
    | none => rfl
    | some S' => exact addSols_append to ts σs l' S'
theorem addSols_step {to : Nat} {ts : List TR} {ss : List Sg} {j : Nat} {σ : Sg} (h : ss[j]? = some σ) (S : St) : addSols to ts (ss.take (j + 1)) S = (match addSols to ts (ss.take j) S with
    | none => none
    | some S' => addSol to ts S' σ) := by
  rw [List.take_succ, h, addSols_append]
  cases addSols to ts (ss.take j) S with
  | none => rfl
  | some a =>
    show addSols to ts [σ] a = addSol to ts a σ
    simp only [addSols]
    cases addSol to ts a σ <;> rfl
theorem addSols_none {to : Nat} {ts : List TR} {ss : List Sg} {j : Nat} {S : St} (h : addSols to ts (ss.take j) S = none) : addSols to ts ss S = none := by
  rw [← List.take_append_drop j ss, addSols_append, h]
theorem okS_take {to : Nat} {σ : Sg} {S : St} (h : okS S) (t : TR) : okS (takeRow to σ S t) := by
  unfold takeRow
  split
  · exact h
  · exact okS_del h _ _
/-- adding, solution by solution -/
def asI (v : Nat → Int32) (A : Nat → Nat → Int32) (to : Nat) (ts : List TR) (l : List Sg) (S : St) (v' : Nat → Int32) (A' : Nat → Nat → Int32) : Prop := FR v A v' A' ∧ ∃ S', addSols to ts l S = some S' ∧ RC v' A' S'
theorem asI_next {v v1 v2 : Nat → Int32} {A A1 A2 : Nat → Nat → Int32} {to j : Nat} {ts : List TR} {ss : List Sg} {σ : Sg} {S S' : St} {w : Int32} (hj : ss[j]? = some σ) (hf : FR v A v1 A1) (e : addSols to ts (ss.take j) S = some S') (h : adP v1 A1 to σ ts S' w v2 A2) (hw : ¬ w = 0) : asI v A to ts (ss.take (j + 1)) S v2 A2 := by
  refine ⟨hf.trans h.1, ?_⟩
  rcases h.2 with q | ⟨S2, q, _, hR⟩
  · exact absurd q.2 hw
  · exact ⟨S2, by rw [addSols_step hj, e]; exact q, hR⟩
theorem asI_no {v1 v2 : Nat → Int32} {A1 A2 : Nat → Nat → Int32} {to j : Nat} {ts : List TR} {ss : List Sg} {σ : Sg} {S S' : St} {w : Int32} (hj : ss[j]? = some σ) (e : addSols to ts (ss.take j) S = some S') (h : adP v1 A1 to σ ts S' w v2 A2) (hw : w = 0) : addSols to ts ss S = none := by
  refine addSols_none (j := j + 1) ?_
  rw [addSols_step hj, e]
  rcases h.2 with q | ⟨S2, _, q, _⟩
  · exact q.1
  · rw [hw] at q; exact absurd q (by decide)
theorem slP_ok {v v' : Nat → Int32} {A A' : Nat → Nat → Int32} {S : St} {fr : Nat} {ps : List Rw} {w : Int32} (h : slP v A S fr ps w v' A') (hw : w ≤ 0) : FQ v A v' A' ∧ (sols (cds (S.1 fr)) ps (fun _ => -1)).length ≤ 100 ∧ wk (cds (S.1 fr)) ps (fun _ => -1) ≤ 5000 ∧ v' 43 = nI (sols (cds (S.1 fr)) ps (fun _ => -1)).length ∧ v' 41 = v 41 + nI (wk (cds (S.1 fr)) ps (fun _ => -1)) ∧ WV A' (sols (cds (S.1 fr)) ps (fun _ => -1)) := by
  rcases h.2 with q | q
  · exact ⟨h.1, q.2⟩
  · rw [q.1] at hw; exact absurd hw (by decide)
theorem ch_5 {v v' : Nat → Int32} {A A' : Nat → Nat → Int32} {S : St} {fr to : Nat} {ts : List TR} {ps : List Rw} {w : Int32} (h : slP v A S fr ps w v' A') (hw : ¬ w ≤ 0) : AR v A (aRew fr to ts ps S) w v' A' := by
  rcases h.2 with q | q
  · rw [q.1] at hw; exact absurd (by decide) hw
  · unfold aRew AR
    dsimp only
    rw [if_neg q.2]
    exact ⟨q.1, h.1.S, fun q => absurd q (show ¬ (5 : Nat) < 4 by decide)⟩
theorem FS_34 {v : Nat → Int32} {A : Nat → Nat → Int32} {g : Nat → Int32} : FS v A v (u1 A 34 g) := ⟨fun _ _ _ _ _ _ _ => rfl, fun k hk => by simp [u1, show k ≠ 34 by omega]⟩
theorem RC_FQ {v v' : Nat → Int32} {A A' : Nat → Nat → Int32} {S : St} {g : Nat → Int32} (h : RC v A S) (hf : FQ v A v' A') : RC v' (u1 A' 34 g) S :=
  RC_made (RC_v h (hf.1 20 (by decide) (by decide) (by decide) (by decide)) (hf.1 26 (by decide) (by decide) (by decide) (by decide)) (fun q _ h2 => hf.2 q (by omega))) (by decide)
theorem ch_4 {v v1 v' : Nat → Int32} {A A1 A' : Nat → Nat → Int32} {S : St} {fr to : Nat} {ts : List TR} {ps : List Rw} (hl : (sols (cds (S.1 fr)) ps (fun _ => -1)).length ≤ 100) (hw : wk (cds (S.1 fr)) ps (fun _ => -1) ≤ 5000) (hf : FS v A v1 A1) (hf2 : FR v1 A1 v' A') (h : addSols to ts (sols (cds (S.1 fr)) ps (fun _ => -1)) ((sols (cds (S.1 fr)) ps (fun _ => -1)).foldl (takeSol to ts) S) = none) : AR v A (aRew fr to ts ps S) 4 v' A' := by
  unfold aRew AR
  dsimp only
  rw [if_pos ⟨hl, hw⟩, h]
  exact ⟨rfl, hf.trans hf2.S, fun q => absurd q (show ¬ (4 : Nat) < 4 by decide)⟩
theorem ch_0 {v v1 v' : Nat → Int32} {A A1 A' : Nat → Nat → Int32} {S : St} {fr to : Nat} {ts : List TR} {ps : List Rw} (hl : (sols (cds (S.1 fr)) ps (fun _ => -1)).length ≤ 100) (hw : wk (cds (S.1 fr)) ps (fun _ => -1) ≤ 5000) (hf : FS v A v1 A1) (h41 : v1 41 = v 41 + nI (wk (cds (S.1 fr)) ps (fun _ => -1))) (h : asI v1 A1 to ts ((sols (cds (S.1 fr)) ps (fun _ => -1)).take (sols (cds (S.1 fr)) ps (fun _ => -1)).length) ((sols (cds (S.1 fr)) ps (fun _ => -1)).foldl (takeSol to ts) S) v' A') : AR v A (aRew fr to ts ps S) 0 v' A' := by
  rw [List.take_length] at h
  obtain ⟨hf2, S', e, hR⟩ := h
  unfold aRew AR
  dsimp only
  rw [if_pos ⟨hl, hw⟩, e]
  exact ⟨rfl, hf.trans hf2.S, fun _ => ⟨hR, by rw [hf2.1 41 (by decide) (by decide)]; exact h41⟩⟩
theorem WV_34 {A : Nat → Nat → Int32} {ws : List Sg} {g : Nat → Int32} (h : WV A ws) : WV (u1 A 34 g) ws := WV_same h (by simp [u1])
end
section
set_option maxHeartbeats 2000000 in
set_option maxRecDepth 10000 in
theorem hX9_change {l : Launch} {D : va_G} {aC : Nat → ClassId} {b0 sz : Nat} {r : Nat} {v : Nat → Int32} {A : Nat → Nat → Int32} {R : ZM} {i fr to : Nat} {S : St} {ps : List Rw} {ts : List TR} (hi : i < 12) (hfr7 : fr < 7) (hto7 : to < 7) (hfr : A 2 i = nI fr) (hto : A 3 i = nI to) (hP : PRr A i ps) (hT : TRr A i ts) (hR : RC v A S) : Ct l D aC b0 yX9_change cX9_change 4 (some .int) 5 0 0 [.ref (r), .int (nI i)] (mm aC r v A R) sz (zpI (fun v A => mm aC r v A R) (fun w' v' A' => AR v A (aRew fr to ts ps S) w' v' A')) := by
  refine Ct.of (by decide) (Nat.le_of_ble_eq_true rfl) ?_
  intro p e s m below meth c ls C hr hlk hnm hl
  have hl : lv_has ls 4 [(0, .ref (r)), (1, .int (nI i))] := hl
  obtain ⟨hx, hb, -, -, -⟩ := id C
  have hPk := hP.2.2.1
  refine zz (fun _ _ => lv_aload_n hx hb dX9_change_0 rfl (lv_at hl 0 rfl)) ?_
  refine zz (fun _ _ => lv_iload_n hx hb dX9_change_1 rfl (lv_at hl 1 rfl)) ?_
  refine zqVI (As := [.int (nI i)]) (rest := []) C hl.1 lk_X9_217 (hX9_solve hi hfr7 hfr hP hR) rm_0 rfl rfl rfl (Nat.le_of_ble_eq_true rfl) ⟨by decide, by decide, by decide, by decide⟩ dX9_change_2 (fun w1 v1 A1 sz h1 => ?_)
  refine zeq (M' := (mm aC r v1 A1 R)) rfl ?_
  refine zs (fun _ _ => lv_istore_n (lv' := [(2, .int (w1)), (0, .ref (r)), (1, .int (nI i))]) hx hb dX9_change_5 rfl hl (by decide) rfl) (fun ls hl => ?_)
  refine zz (fun _ _ => lv_iload_n hx hb dX9_change_6 rfl (lv_at hl 0 rfl)) ?_
  refine zb (fun _ _ => lv_if_le (tgt := 12) hx hb dX9_change_7 (by decide)) (fun c_2 => ?_) (fun c_2 => ?_)
  · have hq9 := slP_ok h1 c_2
    have hR9 : RC v1 (u1 A1 34 (upd (A1 34) (Int32.toNatClampNeg (nI i)) (nI (sols (cds (S.1 fr)) ps (fun _ => -1)).length))) S := RC_FQ hR hq9.1
    have hS9 : FS v A v1 (u1 A1 34 (upd (A1 34) (Int32.toNatClampNeg (nI i)) (nI (sols (cds (S.1 fr)) ps (fun _ => -1)).length))) := hq9.1.S.trans FS_34
    have hT9 : TRr (u1 A1 34 (upd (A1 34) (Int32.toNatClampNeg (nI i)) (nI (sols (cds (S.1 fr)) ps (fun _ => -1)).length))) i ts := hT.kept hS9.low
    have hto9 : (u1 A1 34 (upd (A1 34) (Int32.toNatClampNeg (nI i)) (nI (sols (cds (S.1 fr)) ps (fun _ => -1)).length))) 3 i = nI to := by rw [hS9.low 3 (by decide)]; exact hto
    have hV9 := WV_34 (g := (upd (A1 34) (Int32.toNatClampNeg (nI i)) (nI (sols (cds (S.1 fr)) ps (fun _ => -1)).length))) hq9.2.2.2.2.2
    have hl9 := hq9.2.1
    refine zz (fun _ _ => lv_aload_n hx hb dX9_change_12 rfl (lv_at hl 1 rfl)) ?_
    refine z_get (v := .ref (r + 34)) C fd_X9_110 rm_0 rfl dX9_change_13 ?_
    refine zz (fun _ _ => lv_iload_n hx hb dX9_change_16 rfl (lv_at hl 2 rfl)) ?_
    refine zz (fun _ _ => lv_aload_n hx hb dX9_change_17 rfl (lv_at hl 1 rfl)) ?_
    refine z_get (v := .int (v1 43)) C fd_X9_190 rm_0 rfl dX9_change_18 ?_
    refine zval (v' := .int (nI (sols (cds (S.1 fr)) ps (fun _ => -1)).length)) (congrArg Value.int hq9.2.2.2.1) ?_
    refine z_iast (f := A1 34) C rm_34 (by first | assumption | (apply vp_in_nI <;> omega)) dX9_change_21 ?_
    refine zeq wm_34 ?_
    refine zz (fun _ _ => lv_iconst (v := 0) hx hb dX9_change_22 (by decide)) ?_
    refine zs (fun _ _ => lv_istore_n (lv' := [(3, .int (0)), (2, .int (w1)), (0, .ref (r)), (1, .int (nI i))]) hx hb dX9_change_23 rfl hl (by decide) rfl) (fun ls hl => ?_)
    have hl0 := lv_sub hl [2, 3, 1, 0] rfl
    refine z_loop (γ := (Nat → Int32) × (Nat → Nat → Int32)) (G := fun a => mm aC r a.1 a.2 R) (I := fun j a => tkI v1 (u1 A1 34 (upd (A1 34) (Int32.toNatClampNeg (nI i)) (nI (sols (cds (S.1 fr)) ps (fun _ => -1)).length))) (((sols (cds (S.1 fr)) ps (fun _ => -1)).take j).foldl (takeSol to ts) S) a.1 a.2) (lv := fun j a => [(0, .ref (r)), (1, .int (nI i)), (2, .int (w1)), (3, .int (nI (j)))]) ((sols (cds (S.1 fr)) ps (fun _ => -1)).length) ?_ ?_ (v1, (u1 A1 34 (upd (A1 34) (Int32.toNatClampNeg (nI i)) (nI (sols (cds (S.1 fr)) ps (fun _ => -1)).length)))) _ _ ⟨FR.refl, by rw [List.take_zero]; exact hR9⟩ hl0
    · intro j3 a3 sz ls hj3 hI3 hl ih3
      obtain ⟨v3, A3⟩ := a3
      dsimp only at hI3 hl ih3
      refine zeq (M' := (mm aC r v3 A3 R)) rfl ?_
      obtain ⟨sg3, es3⟩ : ∃ t, (sols (cds (S.1 fr)) ps (fun _ => -1))[j3]? = some t := ⟨_, List.getElem?_eq_getElem hj3⟩
      have hg3 := sols_ok (fun c hc => okP_g hR.1.1 fr c ((cds_mem (okP_g hR.1.1 fr)).mp hc)) ps _ hPk okG_0 sg3 (List.mem_of_getElem? es3)
      refine zz (fun _ _ => lv_iload_n hx hb dX9_change_24 rfl (lv_at hl 3 rfl)) ?_
      refine zz (fun _ _ => lv_aload_n hx hb dX9_change_25 rfl (lv_at hl 0 rfl)) ?_
      refine z_get (v := .int (v3 43)) C fd_X9_190 rm_0 rfl dX9_change_26 ?_
      refine zval (v' := .int (nI (sols (cds (S.1 fr)) ps (fun _ => -1)).length)) (congrArg Value.int ((hI3.1.1 43 (by decide) (by decide)).trans hq9.2.2.2.1)) ?_
      refine zb (fun _ _ => lv_icmp_ge (tgt := 44) hx hb dX9_change_29 (by decide)) (fun c_4 => ?_) (fun c_4 => ?_)
      · exact absurd c_4 (nI_ge (by omega) (by omega))
      · refine zz (fun _ _ => lv_aload_n hx hb dX9_change_32 rfl (lv_at hl 0 rfl)) ?_
        refine zz (fun _ _ => lv_iload_n hx hb dX9_change_33 rfl (lv_at hl 1 rfl)) ?_
        refine zz (fun _ _ => lv_iload_n hx hb dX9_change_34 rfl (lv_at hl 3 rfl)) ?_
        refine zqVN (As := [.int (nI i), .int (nI (j3))]) (rest := []) C hl.1 lk_X9_221 (hX9_takeAway hi (by omega) hto7 (by rw [hI3.1.low 3 (by decide)]; exact hto9) (hT9.kept hI3.1.low) ((hV9 _ _ es3).kept hI3.1) hg3 hI3.2) rm_0 rfl rfl rfl (Nat.le_of_ble_eq_true rfl) ⟨by decide, by decide, by decide, by decide⟩ dX9_change_35 (fun v5 A5 sz h5 => ?_)
        refine zeq (M' := (mm aC r v5 A5 R)) rfl ?_
        refine zs (fun _ _ => lv_iinc (v := nI (j3) + 1) (lv' := [(3, .int (nI (j3) + 1)), (0, .ref (r)), (1, .int (nI i)), (2, .int (w1))]) hx hb dX9_change_38 hl (k := 3) rfl rfl (by decide) rfl) (fun ls hl => ?_)
        refine zz (fun _ _ => lv_goto (tgt := 24) hx hb dX9_change_41 (by decide)) ?_
        have hl := lv_sub hl [1, 2, 3, 0] rfl
        try simp only [nI_1] at hl
        exact ih3 (v5, A5) _ _ (by show tkI _ _ (((sols (cds (S.1 fr)) ps (fun _ => -1)).take (j3 + 1)).foldl (takeSol to ts) S) _ _; rw [foldl_takeS es3]; exact ⟨hI3.1.trans h5.1, h5.2⟩) hl
    · intro a3 sz ls hI3 hl
      obtain ⟨v3, A3⟩ := a3
      dsimp only at hI3 hl
      refine zeq (M' := (mm aC r v3 A3 R)) rfl ?_
      refine zz (fun _ _ => lv_iload_n hx hb dX9_change_24 rfl (lv_at hl 3 rfl)) ?_
      refine zz (fun _ _ => lv_aload_n hx hb dX9_change_25 rfl (lv_at hl 0 rfl)) ?_
      refine z_get (v := .int (v3 43)) C fd_X9_190 rm_0 rfl dX9_change_26 ?_
      refine zval (v' := .int (nI (sols (cds (S.1 fr)) ps (fun _ => -1)).length)) (congrArg Value.int ((hI3.1.1 43 (by decide) (by decide)).trans hq9.2.2.2.1)) ?_
      refine zb (fun _ _ => lv_icmp_ge (tgt := 44) hx hb dX9_change_29 (by decide)) (fun c_6 => ?_) (fun c_6 => ?_)
      · refine zz (fun _ _ => lv_iconst (v := 0) hx hb dX9_change_44 (by decide)) ?_
        refine zs (fun _ _ => lv_istore_n (lv' := [(3, .int (0)), (0, .ref (r)), (1, .int (nI i)), (2, .int (w1))]) hx hb dX9_change_45 rfl hl (by decide) rfl) (fun ls hl => ?_)
        have hl0 := lv_sub hl [1, 2, 3, 0] rfl
        refine z_loop (γ := (Nat → Int32) × (Nat → Nat → Int32)) (G := fun a => mm aC r a.1 a.2 R) (I := fun j a => asI v1 (u1 A1 34 (upd (A1 34) (Int32.toNatClampNeg (nI i)) (nI (sols (cds (S.1 fr)) ps (fun _ => -1)).length))) to ts ((sols (cds (S.1 fr)) ps (fun _ => -1)).take j) ((sols (cds (S.1 fr)) ps (fun _ => -1)).foldl (takeSol to ts) S) a.1 a.2) (lv := fun j a => [(0, .ref (r)), (1, .int (nI i)), (2, .int (w1)), (3, .int (nI (j)))]) ((sols (cds (S.1 fr)) ps (fun _ => -1)).length) ?_ ?_ (v3, A3) _ _ ⟨hI3.1, _, by rw [List.take_zero]; rfl, by have h9 := hI3.2; rw [List.take_length] at h9; exact h9⟩ hl0
        · intro j7 a7 sz ls hj7 hI7 hl ih7
          obtain ⟨v7, A7⟩ := a7
          dsimp only at hI7 hl ih7
          refine zeq (M' := (mm aC r v7 A7 R)) rfl ?_
          obtain ⟨sg7, es7⟩ : ∃ t, (sols (cds (S.1 fr)) ps (fun _ => -1))[j7]? = some t := ⟨_, List.getElem?_eq_getElem hj7⟩
          have hg7 := sols_ok (fun c hc => okP_g hR.1.1 fr c ((cds_mem (okP_g hR.1.1 fr)).mp hc)) ps _ hPk okG_0 sg7 (List.mem_of_getElem? es7)
          obtain ⟨hf8, S8, e8, hR8⟩ := id hI7
          refine zz (fun _ _ => lv_iload_n hx hb dX9_change_46 rfl (lv_at hl 3 rfl)) ?_
          refine zz (fun _ _ => lv_aload_n hx hb dX9_change_47 rfl (lv_at hl 0 rfl)) ?_
          refine z_get (v := .int (v7 43)) C fd_X9_190 rm_0 rfl dX9_change_48 ?_
          refine zval (v' := .int (nI (sols (cds (S.1 fr)) ps (fun _ => -1)).length)) (congrArg Value.int ((hI7.1.1 43 (by decide) (by decide)).trans hq9.2.2.2.1)) ?_
          refine zb (fun _ _ => lv_icmp_ge (tgt := 71) hx hb dX9_change_51 (by decide)) (fun c_8 => ?_) (fun c_8 => ?_)
          · exact absurd c_8 (nI_ge (by omega) (by omega))
          · refine zz (fun _ _ => lv_aload_n hx hb dX9_change_54 rfl (lv_at hl 0 rfl)) ?_
            refine zz (fun _ _ => lv_iload_n hx hb dX9_change_55 rfl (lv_at hl 1 rfl)) ?_
            refine zz (fun _ _ => lv_iload_n hx hb dX9_change_56 rfl (lv_at hl 3 rfl)) ?_
            refine zqVI (As := [.int (nI i), .int (nI (j7))]) (rest := []) C hl.1 lk_X9_225 (hX9_add hi (by omega) hto7 (by rw [hI7.1.low 3 (by decide)]; exact hto9) (hT9.kept hI7.1.low) ((hV9 _ _ es7).kept hI7.1) hg7 hR8) rm_0 rfl rfl rfl (Nat.le_of_ble_eq_true rfl) ⟨by decide, by decide, by decide, by decide⟩ dX9_change_57 (fun w9 v9 A9 sz h9 => ?_)
            refine zeq (M' := (mm aC r v9 A9 R)) rfl ?_
            refine zbn (fun _ _ => lv_if_ne (tgt := 65) hx hb dX9_change_60 (by decide)) (fun c_10 => ?_) (fun c_10 => ?_)
            · refine zs (fun _ _ => lv_iinc (v := nI (j7) + 1) (lv' := [(3, .int (nI (j7) + 1)), (0, .ref (r)), (1, .int (nI i)), (2, .int (w1))]) hx hb dX9_change_65 hl (k := 3) rfl rfl (by decide) rfl) (fun ls hl => ?_)
              refine zz (fun _ _ => lv_goto (tgt := 46) hx hb dX9_change_68 (by decide)) ?_
              have hl := lv_sub hl [1, 2, 3, 0] rfl
              try simp only [nI_1] at hl
              exact ih7 (v9, A9) _ _ (asI_next es7 hf8 e8 h9 c_10) hl
            · refine zz (fun _ _ => lv_iconst (v := 4) hx hb dX9_change_63 (by decide)) ?_
              exact z_iret C hr hlk dX9_change_64 (zpI_mk (a := v9) (b := A9) (ch_4 hl9 hq9.2.2.1 hS9 (hf8.trans h9.1) (asI_no es7 e8 h9 c_10)))
        · intro a7 sz ls hI7 hl
          obtain ⟨v7, A7⟩ := a7
          dsimp only at hI7 hl
          refine zeq (M' := (mm aC r v7 A7 R)) rfl ?_
          refine zz (fun _ _ => lv_iload_n hx hb dX9_change_46 rfl (lv_at hl 3 rfl)) ?_
          refine zz (fun _ _ => lv_aload_n hx hb dX9_change_47 rfl (lv_at hl 0 rfl)) ?_
          refine z_get (v := .int (v7 43)) C fd_X9_190 rm_0 rfl dX9_change_48 ?_
          refine zval (v' := .int (nI (sols (cds (S.1 fr)) ps (fun _ => -1)).length)) (congrArg Value.int ((hI7.1.1 43 (by decide) (by decide)).trans hq9.2.2.2.1)) ?_
          refine zb (fun _ _ => lv_icmp_ge (tgt := 71) hx hb dX9_change_51 (by decide)) (fun c_11 => ?_) (fun c_11 => ?_)
          · refine zz (fun _ _ => lv_iconst (v := 0) hx hb dX9_change_71 (by decide)) ?_
            exact z_iret C hr hlk dX9_change_72 (zpI_mk (a := v7) (b := A7) (ch_0 hl9 hq9.2.2.1 hS9 hq9.2.2.2.2.1 hI7))
          · exact absurd (nI_le (Nat.le_refl _) (by omega)) c_11
      · exact absurd (nI_le (Nat.le_refl _) (by omega)) c_6
  · refine zz (fun _ _ => lv_iload_n hx hb dX9_change_10 rfl (lv_at hl 0 rfl)) ?_
    exact z_iret C hr hlk dX9_change_11 (zpI_mk (a := v1) (b := A1) (ch_5 h1 c_2))
end
section
/-! One step of the reference. -/
theorem out9 {k : Nat} (h : k ≤ 9) (h0 : ¬ nI k = 0) (h1 : ¬ nI k = 1) (h2 : ¬ nI k = 2) (h3 : ¬ nI k = 3) (h4 : ¬ nI k = 4) (h5 : ¬ nI k = 5) (h6 : ¬ nI k = 6) (h7 : ¬ nI k = 7) (h8 : ¬ nI k = 8) (h9 : ¬ nI k = 9) : False := by
  rcases (show k = 0 ∨ k = 1 ∨ k = 2 ∨ k = 3 ∨ k = 4 ∨ k = 5 ∨ k = 6 ∨ k = 7 ∨ k = 8 ∨ k = 9 by omega) with rfl | rfl | rfl | rfl | rfl | rfl | rfl | rfl | rfl | rfl
  · exact h0 rfl
  · exact h1 rfl
  · exact h2 rfl
  · exact h3 rfl
  · exact h4 rfl
  · exact h5 rfl
  · exact h6 rfl
  · exact h7 rfl
  · exact h8 rfl
  · exact h9 rfl
theorem takeSol_id {to : Nat} {σ : Sg} : ∀ (ts : List TR) (S : St), (∀ t ∈ ts, t.2.2.2 = true) → ts.foldl (takeRow to σ) S = S
  | [], _, _ => rfl
  | t :: ts, S, h => by
    rw [List.foldl_cons, tk_skip (Or.inl (h t (by simp)))]
    exact takeSol_id ts S (fun t' ht' => h t' (by simp [ht']))
theorem addRows_id {to : Nat} {σ : Sg} : ∀ (ts : List TR) (S : St) (m : Sg), (∀ t ∈ ts, t.2.2.2 = false) → addRows to σ ts S m = some (S, m)
  | [], _, _, _ => rfl
  | t :: ts, S, m, h => by
    rw [addRows]
    have : addRow to σ S m t = some (S, m) := by unfold addRow; rw [if_pos (Or.inl (h t (by simp)))]
    rw [this]
    exact addRows_id ts S m (fun t' ht' => h t' (by simp [ht']))
theorem aRew_one {fr to : Nat} {ts : List TR} {S : St} : aRew fr to ts [] S = (match addSols to ts [fun _ => -1] (takeSol to ts S (fun _ => -1)) with
    | none => (4, S, 0)
    | some S' => (0, S', 0)) := by
  unfold aRew
  dsimp only
  rw [if_pos (show (sols (cds (S.1 fr)) [] (fun _ => -1)).length ≤ 100 ∧ wk (cds (S.1 fr)) [] (fun _ => -1) ≤ 5000 from ⟨(by decide : (1 : Nat) ≤ 100), (by decide : (0 : Nat) ≤ 5000)⟩)]
  rfl
theorem aRew_put {fr to : Nat} {ts : List TR} {S : St} (h : ∀ t ∈ ts, t.2.2.2 = true) : aRew fr to ts [] S = (match addSol to ts S (fun _ => -1) with
    | none => (4, S, 0)
    | some S' => (0, S', 0)) := by
  rw [aRew_one]
  have : takeSol to ts S (fun _ => -1) = S := takeSol_id ts S h
  rw [this]
  simp only [addSols]
  cases addSol to ts S (fun _ => -1) <;> rfl
theorem aRew_take {fr to : Nat} {ts : List TR} {S : St} (h : ∀ t ∈ ts, t.2.2.2 = false) : aRew fr to ts [] S = (0, takeSol to ts S (fun _ => -1), 0) := by
  rw [aRew_one]
  simp only [addSols]
  have : addSol to ts (takeSol to ts S (fun _ => -1)) (fun _ => -1) = some (takeSol to ts S (fun _ => -1)) := by
    unfold addSol
    rw [addRows_id ts _ _ h]
    rfl
  rw [this]
/-- the start of a step: one way, without values -/
def ac0 (v : Nat → Int32) (A : Nat → Nat → Int32) (j : Nat) (v' : Nat → Int32) (A' : Nat → Nat → Int32) : Prop := v' = upd v 43 1 ∧ (∀ q, q ≠ 35 → A' q = A q) ∧ ∀ k, k < j → A' 35 k = -1
theorem ac0_next {v v' : Nat → Int32} {A A' : Nat → Nat → Int32} {j : Nat} (h : ac0 v A j v' A') : ac0 v A (j + 1) v' (u1 A' 35 (upd (A' 35) j (-1))) := by
  refine ⟨h.1, fun q hq => by rw [← h.2.1 q hq]; simp [u1, hq], fun k hk => ?_⟩
  simp only [u1, if_true, upd]
  split
  · rfl
  · exact h.2.2 k (by omega)
theorem ac0_FS {v v' : Nat → Int32} {A A' : Nat → Nat → Int32} {j : Nat} (h : ac0 v A j v' A') : FS v A v' A' ∧ v' 41 = v 41 := by
  obtain ⟨rfl, h2, _⟩ := h
  exact ⟨⟨fun k _ _ _ a _ _ => by simp [upd, a], fun k hk => h2 k (by omega)⟩, by simp [upd]⟩
theorem ac0_RC {v v' : Nat → Int32} {A A' : Nat → Nat → Int32} {j : Nat} {S : St} (h : ac0 v A j v' A') (hR : RC v A S) : RC v' A' S := by
  obtain ⟨rfl, h2, _⟩ := h
  exact RC_v hR (by simp [upd]) (by simp [upd]) (fun q _ hq => h2 q (by omega))
theorem ac0_VW {v v' : Nat → Int32} {A A' : Nat → Nat → Int32} (h : ac0 v A 4 v' A') : VW A' 0 (fun _ => -1) := by
  intro k hk
  rw [Nat.mul_zero, Nat.zero_add]
  exact h.2.2 k hk
theorem AR_act {v v1 v' : Nat → Int32} {A A1 A' : Nat → Nat → Int32} {a b : Nat × St × Nat} {w : Int32} (hf : FS v A v1 A1 ∧ v1 41 = v 41) (h : AR v1 A1 a w v' A') (e : b = a) : AR v A b w v' A' := by
  subst e
  exact ⟨h.1, hf.1.trans h.2.1, fun q => ⟨(h.2.2 q).1, by rw [(h.2.2 q).2, hf.2]⟩⟩
theorem kd {k n : Nat} {c : Int32} (hk : k ≤ 9) (hn : n < 10) (hc : c = nI n) (h : nI k = c) : k = n := (nI_eq (by omega) (by omega)).mp (h.trans hc)
theorem ad_AR {v v' : Nat → Int32} {A A' : Nat → Nat → Int32} {S : St} {fr to : Nat} {ts : List TR} {w : Int32} (ha : ∀ t ∈ ts, t.2.2.2 = true) (h : adP v A to (fun _ => -1) ts S w v' A') : (w = 0 → AR v A (aRew fr to ts [] S) 4 v' A') ∧ (¬ w = 0 → AR v A (aRew fr to ts [] S) 0 v' A') := by
  rw [aRew_put ha]
  unfold AR
  refine ⟨fun q => ?_, fun q => ?_⟩
  · rcases h.2 with r | ⟨S', _, r, _⟩
    · rw [r.1]; exact ⟨rfl, h.1.S, fun q => absurd q (show ¬ (4 : Nat) < 4 by decide)⟩
    · rw [q] at r; exact absurd r (by decide)
  · rcases h.2 with r | ⟨S', e, _, hR⟩
    · exact absurd r.2 q
    · rw [e]; exact ⟨rfl, h.1.S, fun _ => ⟨hR, by show v' 41 = v 41 + nI 0; rw [nI_0, h.1.1 41 (by decide) (by decide)]; simp⟩⟩
theorem tk_AR {v v' : Nat → Int32} {A A' : Nat → Nat → Int32} {S : St} {fr to : Nat} {ts : List TR} (ha : ∀ t ∈ ts, t.2.2.2 = false) (h : tkI v A (takeSol to ts S (fun _ => -1)) v' A') : AR v A (aRew fr to ts [] S) 0 v' A' := by
  rw [aRew_take ha]
  exact ⟨rfl, h.1.S, fun _ => ⟨h.2, by show v' 41 = v 41 + nI 0; rw [nI_0, h.1.1 41 (by decide) (by decide)]; simp⟩⟩
theorem mk_AR1 {v : Nat → Int32} {A : Nat → Nat → Int32} {S : St} {to : Nat} (hR : RC v A S) (h : ¬ tI (S.2.1 to) = 0) : AR v A (aMake to S) 1 v A := by
  unfold aMake AR
  rw [if_pos (tI_1.mp h)]
  exact ⟨rfl, FS.refl, fun _ => ⟨hR, by show v 41 = v 41 + nI 0; rw [nI_0]; simp⟩⟩
theorem mk_AR0 {v : Nat → Int32} {A : Nat → Nat → Int32} {S : St} {to : Nat} (hR : RC v A S) (h : tI (S.2.1 to) = 0) : AR v A (aMake to S) 0 v (u1 A 23 (upd (A 23) to 1)) := by
  unfold aMake AR
  rw [if_neg (by rw [tI_0.mp h]; decide)]
  exact ⟨rfl, FR_set.S, fun _ => ⟨RC_set hR to, by show v 41 = v 41 + nI 0; rw [nI_0]; simp⟩⟩
theorem aAct_0 {TN : Nat → Bool} {FL : Nat → List Nat} {q : Sq} {S : St} (h : q.1 < 3) : aAct TN FL q S = aRew q.2.1 (nn q.2.2.1) q.2.2.2.2.1 q.2.2.2.2.2 S := if_pos h
theorem aAct_3 {TN : Nat → Bool} {FL : Nat → List Nat} {q : Sq} {S : St} (h : q.1 = 3 ∨ q.1 = 5) : aAct TN FL q S = aWipe (decide (q.1 = 5)) q.2.2.1 S := by
  unfold aAct
  rw [if_neg (by omega), if_pos h]
theorem aAct_4 {TN : Nat → Bool} {FL : Nat → List Nat} {q : Sq} {S : St} (h : q.1 = 4) : aAct TN FL q S = aMake (nn q.2.2.1) S := by
  unfold aAct
  rw [if_neg (by omega), if_neg (by omega), if_pos h]
theorem aAct_9 {TN : Nat → Bool} {FL : Nat → List Nat} {q : Sq} {S : St} (h : q.1 = 9) : aAct TN FL q S = aRead (TN q.2.1) (FL q.2.1) (nn q.2.2.1) S := by
  unfold aAct
  rw [if_neg (by omega), if_neg (by omega), if_neg (by omega), if_pos h]
theorem aAct_6 {TN : Nat → Bool} {FL : Nat → List Nat} {q : Sq} {S : St} (h : 6 ≤ q.1) (h2 : q.1 ≤ 8) : aAct TN FL q S = aBring q.1 q.2.1 (nn q.2.2.1) S := by
  unfold aAct
  rw [if_neg (by omega), if_neg (by omega), if_neg (by omega), if_neg (by omega)]
end
section
set_option maxHeartbeats 2000000 in
set_option maxRecDepth 10000 in
theorem hX9_act {l : Launch} {D : va_G} {aC : Nat → ClassId} {b0 sz : Nat} {r : Nat} {v : Nat → Int32} {A : Nat → Nat → Int32} {R : ZM} {i : Nat} {q : Sq} {S : St} {TN : Nat → Bool} {FL : Nat → List Nat} (hi : i < 12) (hE : ER A i q) (hq : okQ q) (hL : FLr A TN FL) (hR : RC v A S) : Ct l D aC b0 yX9_act cX9_act 3 (some .int) 6 0 0 [.ref (r), .int (nI i)] (mm aC r v A R) sz (zpI (fun v A => mm aC r v A R) (fun w' v' A' => AR v A (aAct TN FL q S) w' v' A')) := by
  refine Ct.of (by decide) (Nat.le_of_ble_eq_true rfl) ?_
  intro p e s m below meth c ls C hr hlk hnm hl
  have hl : lv_has ls 3 [(0, .ref (r)), (1, .int (nI i))] := hl
  obtain ⟨hx, hb, -, -, -⟩ := id C
  refine zz (fun _ _ => lv_aload_n hx hb dX9_act_0 rfl (lv_at hl 0 rfl)) ?_
  refine zz (fun _ _ => lv_iconst (v := 1) hx hb dX9_act_1 (by decide)) ?_
  refine z_put C fp_X9_190 (fun h => by cases h) rm_0 (Nat.le_of_ble_eq_true rfl) rfl rfl dX9_act_2 ?_
  refine zeq wm_f43 ?_
  refine zz (fun _ _ => lv_iconst (v := 0) hx hb dX9_act_5 (by decide)) ?_
  refine zs (fun _ _ => lv_istore_n (lv' := [(2, .int (0)), (0, .ref (r)), (1, .int (nI i))]) hx hb dX9_act_6 rfl hl (by decide) rfl) (fun ls hl => ?_)
  have hl0 := lv_sub hl [1, 2, 0] rfl
  refine z_loop (γ := (Nat → Int32) × (Nat → Nat → Int32)) (G := fun a => mm aC r a.1 a.2 R) (I := fun j a => ac0 v A j a.1 a.2) (lv := fun j a => [(0, .ref (r)), (1, .int (nI i)), (2, .int (nI (j)))]) (4) ?_ ?_ ((upd v 43 1), A) _ _ ⟨rfl, fun _ _ => rfl, fun k hk => absurd hk (Nat.not_lt_zero _)⟩ hl0
  · intro j1 a1 sz ls hj1 hI1 hl ih1
    obtain ⟨v1, A1⟩ := a1
    dsimp only at hI1 hl ih1
    refine zeq (M' := (mm aC r v1 A1 R)) rfl ?_
    refine zz (fun _ _ => lv_iload_n hx hb dX9_act_7 rfl (lv_at hl 2 rfl)) ?_
    refine zz (fun _ _ => lv_iconst (v := 4) hx hb dX9_act_8 (by decide)) ?_
    refine zval (v' := .int (nI 4)) (congrArg Value.int rfl) ?_
    refine zb (fun _ _ => lv_icmp_ge (tgt := 25) hx hb dX9_act_9 (by decide)) (fun c_2 => ?_) (fun c_2 => ?_)
    · exact absurd c_2 (nI_ge (by omega) (by omega))
    · refine zz (fun _ _ => lv_aload_n hx hb dX9_act_12 rfl (lv_at hl 0 rfl)) ?_
      refine z_get (v := .ref (r + 35)) C fd_X9_117 rm_0 rfl dX9_act_13 ?_
      refine zz (fun _ _ => lv_iload_n hx hb dX9_act_16 rfl (lv_at hl 2 rfl)) ?_
      refine zz (fun _ _ => lv_iconst (v := (-1)) hx hb dX9_act_17 (by decide)) ?_
      refine z_iast (f := A1 35) C rm_35 (by first | assumption | (apply vp_in_nI <;> omega)) dX9_act_18 ?_
      refine zeq wm_35 ?_
      refine zs (fun _ _ => lv_iinc (v := nI (j1) + 1) (lv' := [(2, .int (nI (j1) + 1)), (0, .ref (r)), (1, .int (nI i))]) hx hb dX9_act_19 hl (k := 2) rfl rfl (by decide) rfl) (fun ls hl => ?_)
      refine zz (fun _ _ => lv_goto (tgt := 7) hx hb dX9_act_22 (by decide)) ?_
      have hl := lv_sub hl [1, 2, 0] rfl
      try simp only [nI_1] at hl
      exact ih1 (v1, (u1 A1 35 (upd (A1 35) (Int32.toNatClampNeg (nI (j1))) ((-1))))) _ _ (by dsimp only; rw [nI_clamp (n := j1) (by omega)]; exact ac0_next hI1) hl
  · intro a1 sz ls hI1 hl
    obtain ⟨v1, A1⟩ := a1
    dsimp only at hI1 hl
    refine zeq (M' := (mm aC r v1 A1 R)) rfl ?_
    have hF9 := ac0_FS hI1
    have hR9 := ac0_RC hI1 hR
    have hE9 := hE.kept hF9.1.low
    have hL9 := hL.kept hF9.1.low
    have hV9 := ac0_VW hI1
    have hk9 := hq.1
    refine zz (fun _ _ => lv_iload_n hx hb dX9_act_7 rfl (lv_at hl 2 rfl)) ?_
    refine zz (fun _ _ => lv_iconst (v := 4) hx hb dX9_act_8 (by decide)) ?_
    refine zval (v' := .int (nI 4)) (congrArg Value.int rfl) ?_
    refine zb (fun _ _ => lv_icmp_ge (tgt := 25) hx hb dX9_act_9 (by decide)) (fun c_3 => ?_) (fun c_3 => ?_)
    · refine zz (fun _ _ => lv_aload_n hx hb dX9_act_25 rfl (lv_at hl 0 rfl)) ?_
      refine z_get (v := .ref (r + 1)) C fd_X9_7 rm_0 rfl dX9_act_26 ?_
      refine zz (fun _ _ => lv_iload_n hx hb dX9_act_29 rfl (lv_at hl 1 rfl)) ?_
      refine z_iald (f := A1 1) C rm_1 (by first | assumption | (apply vp_in_nI <;> omega)) dX9_act_30 ?_
      refine zval (v' := .int (nI q.1)) (congrArg Value.int (rdI hE9.1 (by omega))) ?_
      by_cases c_4 : nI q.1 = 0
      · refine zz (fun _ _ => lv_tableIn (tgt := 84) (off := (53)) hx hb dX9_act_31 (by rw [c_4]; decide) (by rw [c_4]; decide) (by rw [c_4]; rfl) (by decide)) ?_
        have hkd9 : q.1 = 0 := kd hq.1 (by decide) rfl c_4
        obtain ⟨t9, ht9, et9, en9⟩ := okQ_to hq (by omega)
        refine zz (fun _ _ => lv_aload_n hx hb dX9_act_84 rfl (lv_at hl 0 rfl)) ?_
        refine zz (fun _ _ => lv_iload_n hx hb dX9_act_85 rfl (lv_at hl 1 rfl)) ?_
        refine zz (fun _ _ => lv_iconst (v := 0) hx hb dX9_act_86 (by decide)) ?_
        refine zval (v' := .int (nI 0)) (congrArg Value.int rfl) ?_
        refine zqVI (As := [.int (nI i), .int (nI 0)]) (rest := []) C hl.1 lk_X9_225 (hX9_add hi (by decide) ht9 (hE9.2.2.1.trans et9) (hE9.T hq) hV9 okG_0 hR9) rm_0 rfl rfl rfl (Nat.le_of_ble_eq_true rfl) ⟨by decide, by decide, by decide, by decide⟩ dX9_act_87 (fun w5 v5 A5 sz h5 => ?_)
        refine zeq (M' := (mm aC r v5 A5 R)) rfl ?_
        refine zb (fun _ _ => lv_if_eq (tgt := 97) hx hb dX9_act_90 (by decide)) (fun c_6 => ?_) (fun c_6 => ?_)
        · refine zz (fun _ _ => lv_iconst (v := 4) hx hb dX9_act_97 (by decide)) ?_
          exact z_iret C hr hlk dX9_act_98 (zpI_mk (a := v5) (b := A5) (AR_act hF9 ((ad_AR (hq.2.2.2.2.2.2.1 hkd9) h5).1 c_6) (by rw [aAct_0 (by omega), (show q.2.2.2.2.2 = [] from hq.2.2.2.2.2.2.2.2.2.2.2 (by omega)), en9])))
        · refine zz (fun _ _ => lv_iconst (v := 0) hx hb dX9_act_93 (by decide)) ?_
          refine zz (fun _ _ => lv_goto (tgt := 98) hx hb dX9_act_94 (by decide)) ?_
          exact z_iret C hr hlk dX9_act_98 (zpI_mk (a := v5) (b := A5) (AR_act hF9 ((ad_AR (hq.2.2.2.2.2.2.1 hkd9) h5).2 c_6) (by rw [aAct_0 (by omega), (show q.2.2.2.2.2 = [] from hq.2.2.2.2.2.2.2.2.2.2.2 (by omega)), en9])))
      · skip
        by_cases c_7 : nI q.1 = 1
        · refine zz (fun _ _ => lv_tableIn (tgt := 99) (off := (68)) hx hb dX9_act_31 (by rw [c_7]; decide) (by rw [c_7]; decide) (by rw [c_7]; rfl) (by decide)) ?_
          have hkd9 : q.1 = 1 := kd hq.1 (by decide) rfl c_7
          obtain ⟨t9, ht9, et9, en9⟩ := okQ_to hq (by omega)
          refine zz (fun _ _ => lv_aload_n hx hb dX9_act_99 rfl (lv_at hl 0 rfl)) ?_
          refine zz (fun _ _ => lv_iload_n hx hb dX9_act_100 rfl (lv_at hl 1 rfl)) ?_
          refine zz (fun _ _ => lv_iconst (v := 0) hx hb dX9_act_101 (by decide)) ?_
          refine zval (v' := .int (nI 0)) (congrArg Value.int rfl) ?_
          refine zqVN (As := [.int (nI i), .int (nI 0)]) (rest := []) C hl.1 lk_X9_221 (hX9_takeAway hi (by decide) ht9 (hE9.2.2.1.trans et9) (hE9.T hq) hV9 okG_0 hR9) rm_0 rfl rfl rfl (Nat.le_of_ble_eq_true rfl) ⟨by decide, by decide, by decide, by decide⟩ dX9_act_102 (fun v8 A8 sz h8 => ?_)
          refine zeq (M' := (mm aC r v8 A8 R)) rfl ?_
          refine zz (fun _ _ => lv_iconst (v := 0) hx hb dX9_act_105 (by decide)) ?_
          exact z_iret C hr hlk dX9_act_106 (zpI_mk (a := v8) (b := A8) (AR_act hF9 (tk_AR (hq.2.2.2.2.2.2.2.1 hkd9) h8) (by rw [aAct_0 (by omega), (show q.2.2.2.2.2 = [] from hq.2.2.2.2.2.2.2.2.2.2.2 (by omega)), en9])))
        · skip
          by_cases c_9 : nI q.1 = 2
          · refine zz (fun _ _ => lv_tableIn (tgt := 107) (off := (76)) hx hb dX9_act_31 (by rw [c_9]; decide) (by rw [c_9]; decide) (by rw [c_9]; rfl) (by decide)) ?_
            have hkd9 : q.1 = 2 := kd hq.1 (by decide) rfl c_9
            obtain ⟨t9, ht9, et9, en9⟩ := okQ_to hq (by omega)
            refine zz (fun _ _ => lv_aload_n hx hb dX9_act_107 rfl (lv_at hl 0 rfl)) ?_
            refine zz (fun _ _ => lv_iload_n hx hb dX9_act_108 rfl (lv_at hl 1 rfl)) ?_
            refine zqVI (As := [.int (nI i)]) (rest := []) C hl.1 lk_X9_231 (hX9_change hi hq.2.1 ht9 (hE9.2.1 (by omega)) (hE9.2.2.1.trans et9) (hE9.P hq) (hE9.T hq) hR9) rm_0 rfl rfl rfl (Nat.le_of_ble_eq_true rfl) ⟨by decide, by decide, by decide, by decide⟩ dX9_act_109 (fun w10 v10 A10 sz h10 => ?_)
            refine zeq (M' := (mm aC r v10 A10 R)) rfl ?_
            exact z_iret C hr hlk dX9_act_112 (zpI_mk (a := v10) (b := A10) (AR_act hF9 h10 (by rw [aAct_0 (by omega), en9])))
          · skip
            by_cases c_11 : nI q.1 = 3
            · refine zz (fun _ _ => lv_tableIn (tgt := 113) (off := (82)) hx hb dX9_act_31 (by rw [c_11]; decide) (by rw [c_11]; decide) (by rw [c_11]; rfl) (by decide)) ?_
              have hkd9 : q.1 = 3 := kd hq.1 (by decide) rfl c_11
              refine zz (fun _ _ => lv_aload_n hx hb dX9_act_113 rfl (lv_at hl 0 rfl)) ?_
              refine zz (fun _ _ => lv_iload_n hx hb dX9_act_114 rfl (lv_at hl 1 rfl)) ?_
              refine zz (fun _ _ => lv_iconst (v := 0) hx hb dX9_act_115 (by decide)) ?_
              refine zval (v' := .int (tI false)) (congrArg Value.int rfl) ?_
              refine zqVI (As := [.int (nI i), .int (tI false)]) (rest := []) C hl.1 lk_X9_234 (hX9_wipe hi hE9.2.2.1 (hq.2.2.2.1 (by omega)).2 hR9) rm_0 rfl rfl rfl (Nat.le_of_ble_eq_true rfl) ⟨by decide, by decide, by decide, by decide⟩ dX9_act_116 (fun w12 v12 A12 sz h12 => ?_)
              refine zeq (M' := (mm aC r v12 A12 R)) rfl ?_
              exact z_iret C hr hlk dX9_act_119 (zpI_mk (a := v12) (b := A12) (AR_act hF9 h12 (by rw [aAct_3 (by omega), show decide (q.1 = 5) = false by rw [hkd9]; rfl])))
            · skip
              by_cases c_13 : nI q.1 = 4
              · refine zz (fun _ _ => lv_tableIn (tgt := 120) (off := (89)) hx hb dX9_act_31 (by rw [c_13]; decide) (by rw [c_13]; decide) (by rw [c_13]; rfl) (by decide)) ?_
                have hkd9 : q.1 = 4 := kd hq.1 (by decide) rfl c_13
                obtain ⟨t9, ht9, et9, en9⟩ := okQ_to hq (by omega)
                refine zz (fun _ _ => lv_aload_n hx hb dX9_act_120 rfl (lv_at hl 0 rfl)) ?_
                refine z_get (v := .ref (r + 23)) C fd_X9_77 rm_0 rfl dX9_act_121 ?_
                refine zz (fun _ _ => lv_aload_n hx hb dX9_act_124 rfl (lv_at hl 0 rfl)) ?_
                refine z_get (v := .ref (r + 3)) C fd_X9_16 rm_0 rfl dX9_act_125 ?_
                refine zz (fun _ _ => lv_iload_n hx hb dX9_act_128 rfl (lv_at hl 1 rfl)) ?_
                refine z_iald (f := A1 3) C rm_3 (by first | assumption | (apply vp_in_nI <;> omega)) dX9_act_129 ?_
                refine zval (v' := .int (nI t9)) (congrArg Value.int (rdI (hE9.2.2.1.trans et9) (by omega))) ?_
                refine z_zald (f := A1 23) C rm_23 (by first | assumption | (apply vp_in_nI <;> omega)) dX9_act_130 ?_
                refine zval (v' := .int (tI (S.2.1 t9))) (congrArg Value.int (rdI (RC_there hR9 ht9) (by omega))) ?_
                refine zb (fun _ _ => lv_if_eq (tgt := 136) hx hb dX9_act_131 (by decide)) (fun c_14 => ?_) (fun c_14 => ?_)
                · refine zz (fun _ _ => lv_aload_n hx hb dX9_act_136 rfl (lv_at hl 0 rfl)) ?_
                  refine z_get (v := .ref (r + 23)) C fd_X9_77 rm_0 rfl dX9_act_137 ?_
                  refine zz (fun _ _ => lv_aload_n hx hb dX9_act_140 rfl (lv_at hl 0 rfl)) ?_
                  refine z_get (v := .ref (r + 3)) C fd_X9_16 rm_0 rfl dX9_act_141 ?_
                  refine zz (fun _ _ => lv_iload_n hx hb dX9_act_144 rfl (lv_at hl 1 rfl)) ?_
                  refine z_iald (f := A1 3) C rm_3 (by first | assumption | (apply vp_in_nI <;> omega)) dX9_act_145 ?_
                  refine zval (v' := .int (nI t9)) (congrArg Value.int (rdI (hE9.2.2.1.trans et9) (by omega))) ?_
                  refine zz (fun _ _ => lv_iconst (v := 1) hx hb dX9_act_146 (by decide)) ?_
                  refine z_zast (f := A1 23) C rm_23 (by first | assumption | (apply vp_in_nI <;> omega)) rfl dX9_act_147 ?_
                  refine zeq wm_23 ?_
                  refine zz (fun _ _ => lv_iconst (v := 0) hx hb dX9_act_148 (by decide)) ?_
                  exact z_iret C hr hlk dX9_act_149 (zpI_mk (a := v1) (b := (u1 A1 23 (upd (A1 23) (Int32.toNatClampNeg (nI t9)) (1)))) (AR_act hF9 (by rw [nI_clamp (by omega)]; exact mk_AR0 hR9 c_14) (by rw [aAct_4 hkd9, en9])))
                · refine zz (fun _ _ => lv_iconst (v := 1) hx hb dX9_act_134 (by decide)) ?_
                  exact z_iret C hr hlk dX9_act_135 (zpI_mk (a := v1) (b := A1) (AR_act hF9 (mk_AR1 hR9 c_14) (by rw [aAct_4 hkd9, en9])))
              · skip
                by_cases c_15 : nI q.1 = 5
                · refine zz (fun _ _ => lv_tableIn (tgt := 150) (off := (119)) hx hb dX9_act_31 (by rw [c_15]; decide) (by rw [c_15]; decide) (by rw [c_15]; rfl) (by decide)) ?_
                  have hkd9 : q.1 = 5 := kd hq.1 (by decide) rfl c_15
                  refine zz (fun _ _ => lv_aload_n hx hb dX9_act_150 rfl (lv_at hl 0 rfl)) ?_
                  refine zz (fun _ _ => lv_iload_n hx hb dX9_act_151 rfl (lv_at hl 1 rfl)) ?_
                  refine zz (fun _ _ => lv_iconst (v := 1) hx hb dX9_act_152 (by decide)) ?_
                  refine zval (v' := .int (tI true)) (congrArg Value.int rfl) ?_
                  refine zqVI (As := [.int (nI i), .int (tI true)]) (rest := []) C hl.1 lk_X9_234 (hX9_wipe hi hE9.2.2.1 (hq.2.2.2.1 (by omega)).2 hR9) rm_0 rfl rfl rfl (Nat.le_of_ble_eq_true rfl) ⟨by decide, by decide, by decide, by decide⟩ dX9_act_153 (fun w16 v16 A16 sz h16 => ?_)
                  refine zeq (M' := (mm aC r v16 A16 R)) rfl ?_
                  exact z_iret C hr hlk dX9_act_156 (zpI_mk (a := v16) (b := A16) (AR_act hF9 h16 (by rw [aAct_3 (by omega), show decide (q.1 = 5) = true by rw [hkd9]; rfl])))
                · skip
                  by_cases c_17 : nI q.1 = 6
                  · refine zz (fun _ _ => lv_tableIn (tgt := 163) (off := (132)) hx hb dX9_act_31 (by rw [c_17]; decide) (by rw [c_17]; decide) (by rw [c_17]; rfl) (by decide)) ?_
                    have hkd9 : q.1 = 6 := kd hq.1 (by decide) rfl c_17
                    obtain ⟨t9, ht9, et9, en9⟩ := okQ_to hq (by omega)
                    refine zz (fun _ _ => lv_aload_n hx hb dX9_act_163 rfl (lv_at hl 0 rfl)) ?_
                    refine zz (fun _ _ => lv_iload_n hx hb dX9_act_164 rfl (lv_at hl 1 rfl)) ?_
                    refine zqVI (As := [.int (nI i)]) (rest := []) C hl.1 lk_X9_241 (hX9_copy hi hq.1 hq.2.1 ht9 hE9.1 (hE9.2.1 (by omega)) (hE9.2.2.1.trans et9) hR9) rm_0 rfl rfl rfl (Nat.le_of_ble_eq_true rfl) ⟨by decide, by decide, by decide, by decide⟩ dX9_act_165 (fun w18 v18 A18 sz h18 => ?_)
                    refine zeq (M' := (mm aC r v18 A18 R)) rfl ?_
                    exact z_iret C hr hlk dX9_act_168 (zpI_mk (a := v18) (b := A18) (AR_act hF9 h18 (by rw [aAct_6 (by omega) (by omega), en9])))
                  · skip
                    by_cases c_19 : nI q.1 = 7
                    · refine zz (fun _ _ => lv_tableIn (tgt := 163) (off := (132)) hx hb dX9_act_31 (by rw [c_19]; decide) (by rw [c_19]; decide) (by rw [c_19]; rfl) (by decide)) ?_
                      have hkd9 : q.1 = 7 := kd hq.1 (by decide) rfl c_19
                      obtain ⟨t9, ht9, et9, en9⟩ := okQ_to hq (by omega)
                      refine zz (fun _ _ => lv_aload_n hx hb dX9_act_163 rfl (lv_at hl 0 rfl)) ?_
                      refine zz (fun _ _ => lv_iload_n hx hb dX9_act_164 rfl (lv_at hl 1 rfl)) ?_
                      refine zqVI (As := [.int (nI i)]) (rest := []) C hl.1 lk_X9_241 (hX9_copy hi hq.1 hq.2.1 ht9 hE9.1 (hE9.2.1 (by omega)) (hE9.2.2.1.trans et9) hR9) rm_0 rfl rfl rfl (Nat.le_of_ble_eq_true rfl) ⟨by decide, by decide, by decide, by decide⟩ dX9_act_165 (fun w20 v20 A20 sz h20 => ?_)
                      refine zeq (M' := (mm aC r v20 A20 R)) rfl ?_
                      exact z_iret C hr hlk dX9_act_168 (zpI_mk (a := v20) (b := A20) (AR_act hF9 h20 (by rw [aAct_6 (by omega) (by omega), en9])))
                    · skip
                      by_cases c_21 : nI q.1 = 8
                      · refine zz (fun _ _ => lv_tableIn (tgt := 163) (off := (132)) hx hb dX9_act_31 (by rw [c_21]; decide) (by rw [c_21]; decide) (by rw [c_21]; rfl) (by decide)) ?_
                        have hkd9 : q.1 = 8 := kd hq.1 (by decide) rfl c_21
                        obtain ⟨t9, ht9, et9, en9⟩ := okQ_to hq (by omega)
                        refine zz (fun _ _ => lv_aload_n hx hb dX9_act_163 rfl (lv_at hl 0 rfl)) ?_
                        refine zz (fun _ _ => lv_iload_n hx hb dX9_act_164 rfl (lv_at hl 1 rfl)) ?_
                        refine zqVI (As := [.int (nI i)]) (rest := []) C hl.1 lk_X9_241 (hX9_copy hi hq.1 hq.2.1 ht9 hE9.1 (hE9.2.1 (by omega)) (hE9.2.2.1.trans et9) hR9) rm_0 rfl rfl rfl (Nat.le_of_ble_eq_true rfl) ⟨by decide, by decide, by decide, by decide⟩ dX9_act_165 (fun w22 v22 A22 sz h22 => ?_)
                        refine zeq (M' := (mm aC r v22 A22 R)) rfl ?_
                        exact z_iret C hr hlk dX9_act_168 (zpI_mk (a := v22) (b := A22) (AR_act hF9 h22 (by rw [aAct_6 (by omega) (by omega), en9])))
                      · skip
                        by_cases c_23 : nI q.1 = 9
                        · refine zz (fun _ _ => lv_tableIn (tgt := 157) (off := (126)) hx hb dX9_act_31 (by rw [c_23]; decide) (by rw [c_23]; decide) (by rw [c_23]; rfl) (by decide)) ?_
                          have hkd9 : q.1 = 9 := kd hq.1 (by decide) rfl c_23
                          obtain ⟨t9, ht9, et9, en9⟩ := okQ_to hq (by omega)
                          refine zz (fun _ _ => lv_aload_n hx hb dX9_act_157 rfl (lv_at hl 0 rfl)) ?_
                          refine zz (fun _ _ => lv_iload_n hx hb dX9_act_158 rfl (lv_at hl 1 rfl)) ?_
                          refine zqVI (As := [.int (nI i)]) (rest := []) C hl.1 lk_X9_238 (hX9_readFile hi (hq.2.2.1 hkd9) ht9 (hE9.2.1 (by omega)) (hE9.2.2.1.trans et9) hL9 hR9) rm_0 rfl rfl rfl (Nat.le_of_ble_eq_true rfl) ⟨by decide, by decide, by decide, by decide⟩ dX9_act_159 (fun w24 v24 A24 sz h24 => ?_)
                          refine zeq (M' := (mm aC r v24 A24 R)) rfl ?_
                          exact z_iret C hr hlk dX9_act_162 (zpI_mk (a := v24) (b := A24) (AR_act hF9 h24 (by rw [aAct_9 hkd9, en9])))
                        · skip
                          refine zz (fun _ _ => lv_tableOut (tgt := 163) hx hb dX9_act_31 (sw_out (fun n h1 h2 => by rcases (show n = 0 ∨ n = 1 ∨ n = 2 ∨ n = 3 ∨ n = 4 ∨ n = 5 ∨ n = 6 ∨ n = 7 ∨ n = 8 ∨ n = 9 by omega) with rfl | rfl | rfl | rfl | rfl | rfl | rfl | rfl | rfl | rfl <;> assumption)) (by decide)) ?_
                          exact (out9 hq.1 c_4 c_7 c_9 c_11 c_13 c_15 c_17 c_19 c_21 c_23).elim
    · exact absurd (nI_le (Nat.le_refl _) (by omega)) c_3
end
section
/-! The changes of a run, sorted by graph and fact. -/
abbrev Cg := Nat × Nat × Bool
def ltC (a b : Cg) : Prop := a.1 < b.1 ∨ (a.1 = b.1 ∧ a.2.1 < b.2.1)
abbrev srC (l : List Cg) : Prop := l.Pairwise ltC
theorem ltC_trans {a b c : Cg} (h : ltC a b) (h2 : ltC b c) : ltC a c := by unfold ltC at h h2 ⊢; omega
theorem ltC_irr {a : Cg} : ¬ ltC a a := by unfold ltC; omega
def chR (A : Nat → Nat → Int32) (L : List Cg) : Prop := ∀ i g c b, L[i]? = some (g, c, b) → A 29 i = nI g ∧ A 30 i = nI (pt c 0) ∧ A 31 i = nI (pt c 1) ∧ A 32 i = nI (pt c 2) ∧ A 33 i = tI b
def okC (L : List Cg) : Prop := ∀ y ∈ L, y.1 < 7 ∧ okc y.2.1
theorem isAfter_s {A : Nat → Nat → Int32} {L : List Cg} (h : chR A L) (ho : okC L) {i g c : Nat} {b : Bool} {y : Cg} (hi : i < 2 ^ 31) (hy : L[i]? = some y) (hg : g < 7) (hc : okc c) : fX9_isAfter A (nI i) (nI g) (nI (pt c 0)) (nI (pt c 1)) (nI (pt c 2)) = 0 ↔ ¬ ltC (g, c, b) y := by
  obtain ⟨g', c', b'⟩ := y
  have r := h i g' c' b' hy
  have o : g' < 7 ∧ okc c' := ho _ (List.mem_of_getElem? hy)
  have bi : ∀ q, pt c q < 2 ^ 31 := fun q => by have := pt_lt hc q; omega
  have bk : ∀ q, pt c' q < 2 ^ 31 := fun q => by have := pt_lt o.2 q; omega
  have hg2 : g' < 2 ^ 31 := by have := o.1; omega
  unfold fX9_isAfter ltC
  rw [nI_clamp hi, r.1, r.2.1, r.2.2.1, r.2.2.2.1]
  simp only [nI_eq hg2 (show g < 2 ^ 31 by omega), nI_eq (bk 0) (bi 0), nI_eq (bk 1) (bi 1), nI_leI hg2 (show g < 2 ^ 31 by omega), nI_leI (bk 0) (bi 0), nI_leI (bk 1) (bi 1), nI_leI (bk 2) (bi 2), pt_lex (c := c) (c' := c')]
  by_cases q : g' = g
  · rw [if_pos q]
    by_cases q0 : pt c' 0 = pt c 0
    · rw [if_pos q0, if_pos q0.symm]
      by_cases q1 : pt c' 1 = pt c 1
      · rw [if_pos q1, if_pos q1.symm]
        by_cases q2 : pt c' 2 ≤ pt c 2
        · rw [if_pos q2]; exact ⟨fun _ => by omega, fun _ => rfl⟩
        · rw [if_neg q2]; exact ⟨fun s => absurd s (by decide), fun s => absurd (Or.inr ⟨q.symm, by omega⟩) s⟩
      · rw [if_neg q1, if_neg (show ¬ pt c 1 = pt c' 1 from fun s => q1 s.symm)]
        by_cases q2 : pt c' 1 ≤ pt c 1
        · rw [if_pos q2]; exact ⟨fun _ => by omega, fun _ => rfl⟩
        · rw [if_neg q2]; exact ⟨fun s => absurd s (by decide), fun s => absurd (Or.inr ⟨q.symm, by omega⟩) s⟩
    · rw [if_neg q0, if_neg (show ¬ pt c 0 = pt c' 0 from fun s => q0 s.symm)]
      by_cases q2 : pt c' 0 ≤ pt c 0
      · rw [if_pos q2]; exact ⟨fun _ => by omega, fun _ => rfl⟩
      · rw [if_neg q2]; exact ⟨fun s => absurd s (by decide), fun s => absurd (Or.inr ⟨q.symm, by omega⟩) s⟩
  · rw [if_neg q]
    by_cases q2 : g' ≤ g
    · rw [if_pos q2]; exact ⟨fun _ => by omega, fun _ => rfl⟩
    · rw [if_neg q2]; exact ⟨fun s => absurd s (by decide), fun s => absurd (Or.inl (by show g < g'; omega)) s⟩
/-- places moved up by one, down to k -/
def ntI (n k : Nat) (v : Nat → Int32) (A : Nat → Nat → Int32) (v' : Nat → Int32) (A' : Nat → Nat → Int32) : Prop := v' = v ∧ (∀ q, q < 29 ∨ 33 < q → A' q = A q) ∧ ∀ q, 29 ≤ q → q ≤ 33 → (∀ i, i < k → A' q i = A q i) ∧ ∀ i, k < i → i ≤ n → A' q i = A q (i - 1)
theorem ntI_0 {n : Nat} {v : Nat → Int32} {A : Nat → Nat → Int32} : ntI n n v A v A := ⟨rfl, fun _ _ => rfl, fun _ _ _ => ⟨fun _ _ => rfl, fun i h1 h2 => absurd h1 (by omega)⟩⟩
def w5 (A : Nat → Nat → Int32) (k : Nat) (a b c d e : Int32) : Nat → Nat → Int32 := u1 (u1 (u1 (u1 (u1 A 29 (upd (A 29) k a)) 30 (upd (A 30) k b)) 31 (upd (A 31) k c)) 32 (upd (A 32) k d)) 33 (upd (A 33) k e)
theorem w5_k {A : Nat → Nat → Int32} {k : Nat} {a b c d e : Int32} : w5 A k a b c d e 29 k = a ∧ w5 A k a b c d e 30 k = b ∧ w5 A k a b c d e 31 k = c ∧ w5 A k a b c d e 32 k = d ∧ w5 A k a b c d e 33 k = e := by
  simp [w5, u1, upd]
theorem w5_o {A : Nat → Nat → Int32} {k q i : Nat} {a b c d e : Int32} (h : i ≠ k) : w5 A k a b c d e q i = A q i := by
  unfold w5 u1 upd
  repeat' split
  all_goals first | rfl | (subst_vars; simp_all)
theorem w5_q {A : Nat → Nat → Int32} {k q : Nat} {a b c d e : Int32} (h : q < 29 ∨ 33 < q) : w5 A k a b c d e q = A q := by
  simp [w5, u1, show q ≠ 29 by omega, show q ≠ 30 by omega, show q ≠ 31 by omega, show q ≠ 32 by omega, show q ≠ 33 by omega]
theorem nt_next {n k : Nat} {v v' : Nat → Int32} {A A' : Nat → Nat → Int32} (hk : k < n) (h : ntI n (k + 1) v A v' A') : ntI n k v A v' (w5 A' (k + 1) (A' 29 k) (A' 30 k) (A' 31 k) (A' 32 k) (A' 33 k)) := by
  refine ⟨h.1, fun q hq => by rw [w5_q hq]; exact h.2.1 q hq, fun q h1 h2 => ⟨fun i hi => ?_, fun i h3 h4 => ?_⟩⟩
  · rw [w5_o (by omega)]; exact (h.2.2 q h1 h2).1 i (by omega)
  · by_cases e : i = k + 1
    · subst e
      have hx := w5_k (A := A') (k := k + 1) (a := A' 29 k) (b := A' 30 k) (c := A' 31 k) (d := A' 32 k) (e := A' 33 k)
      have hr := (h.2.2 q h1 h2).1 k (by omega)
      rw [Nat.add_sub_cancel, ← hr]
      rcases (show q = 29 ∨ q = 30 ∨ q = 31 ∨ q = 32 ∨ q = 33 by omega) with rfl | rfl | rfl | rfl | rfl
      · exact hx.1
      · exact hx.2.1
      · exact hx.2.2.1
      · exact hx.2.2.2.1
      · exact hx.2.2.2.2
    · rw [w5_o e]; exact (h.2.2 q h1 h2).2 i (by omega) h4
theorem nt_list {L : List Cg} {A A' : Nat → Nat → Int32} {v v' : Nat → Int32} {k g c : Nat} {b : Bool} (hk : k ≤ L.length) (hc : chR A L) (h : ntI L.length k v A v' A') : chR (w5 A' k (nI g) (nI (pt c 0)) (nI (pt c 1)) (nI (pt c 2)) (tI b)) (L.take k ++ (g, c, b) :: L.drop k) := by
  intro i g' c' b' hi
  rw [List.getElem?_append, List.length_take, Nat.min_eq_left hk] at hi
  split at hi
  · rename_i hlt
    rw [List.getElem?_take_of_lt hlt] at hi
    have r := hc i g' c' b' hi
    have e : ∀ q, 29 ≤ q → q ≤ 33 → w5 A' k (nI g) (nI (pt c 0)) (nI (pt c 1)) (nI (pt c 2)) (tI b) q i = A q i := fun q h1 h2 => by rw [w5_o (by omega)]; exact (h.2.2 q h1 h2).1 i hlt
    rw [e 29 (by decide) (by decide), e 30 (by decide) (by decide), e 31 (by decide) (by decide), e 32 (by decide) (by decide), e 33 (by decide) (by decide)]
    exact r
  · by_cases e : i = k
    · subst e
      simp at hi
      obtain ⟨rfl, rfl, rfl⟩ := hi
      exact w5_k
    · rw [List.getElem?_cons, if_neg (by omega), List.getElem?_drop, show k + (i - k - 1) = i - 1 by omega] at hi
      have hlt := (List.getElem?_eq_some_iff.mp hi).1
      have r := hc (i - 1) g' c' b' hi
      have e : ∀ q, 29 ≤ q → q ≤ 33 → w5 A' k (nI g) (nI (pt c 0)) (nI (pt c 1)) (nI (pt c 2)) (tI b) q i = A q (i - 1) := fun q h1 h2 => by rw [w5_o e]; exact (h.2.2 q h1 h2).2 i (by omega) (by omega)
      rw [e 29 (by decide) (by decide), e 30 (by decide) (by decide), e 31 (by decide) (by decide), e 32 (by decide) (by decide), e 33 (by decide) (by decide)]
      exact r
/-- the behind of a note -/
def ntP (v : Nat → Int32) (A : Nat → Nat → Int32) (L : List Cg) (x : Cg) (v' : Nat → Int32) (A' : Nat → Nat → Int32) : Prop :=
  v' = upd v 34 (nI (L.length + 1)) ∧ (∀ q, q < 29 ∨ 33 < q → A' q = A q) ∧ ∃ L', chR A' L' ∧ srC L' ∧ okC L' ∧ L'.length = L.length + 1 ∧ ∀ y, y ∈ L' ↔ y ∈ L ∨ y = x
theorem nt_end {L : List Cg} {A A' : Nat → Nat → Int32} {v v' : Nat → Int32} {k g c : Nat} {b : Bool} (hk : k ≤ L.length) (hg : g < 7) (hcc : okc c) (hc : chR A L) (hs : srC L) (ho : okC L) (hu : ∀ y ∈ L, ¬ (y.1 = g ∧ y.2.1 = c)) (h : ntI L.length k v A v' A') (ha : ∀ i y, k ≤ i → L[i]? = some y → ltC (g, c, b) y) (hb : ∀ y, k ≠ 0 → L[k - 1]? = some y → ¬ ltC (g, c, b) y) :
    ntP v A L (g, c, b) (upd v' 34 (nI (L.length + 1))) (w5 A' k (nI g) (nI (pt c 0)) (nI (pt c 1)) (nI (pt c 2)) (tI b)) := by
  refine ⟨by rw [h.1], fun q hq => by rw [w5_q hq]; exact h.2.1 q hq, L.take k ++ (g, c, b) :: L.drop k, nt_list hk hc h, ?_, ?_, ?_, ?_⟩
  · have hs2 := hs
    unfold srC at hs2
    rw [← List.take_append_drop k L, List.pairwise_append] at hs2
    have hd : ∀ y ∈ L.drop k, ltC (g, c, b) y := by
      intro y hy
      obtain ⟨i, hi, e⟩ := List.getElem_of_mem hy
      rw [List.getElem_drop] at e
      exact ha (k + i) y (by omega) (by rw [← e]; exact List.getElem?_eq_getElem _)
    have ht : ∀ y ∈ L.take k, ltC y (g, c, b) := by
      intro y hy
      obtain ⟨i, hi, e⟩ := List.getElem_of_mem hy
      rw [List.length_take] at hi
      rw [List.getElem_take] at e
      have hk1 : L[k - 1]? = some L[k - 1] := List.getElem?_eq_getElem (by omega)
      have hn := hb _ (by omega) hk1
      have hm : L[k - 1] ∈ L := List.getElem_mem _
      have hne := hu _ hm
      have hl : ltC L[k - 1] (g, c, b) := by
        unfold ltC at hn ⊢
        simp only at hn ⊢
        omega
      by_cases q : i = k - 1
      · subst q; rw [← e]; exact hl
      · have := List.pairwise_iff_getElem.mp hs i (k - 1) (by omega) (by omega) (by omega)
        rw [e] at this
        exact ltC_trans this hl
    unfold srC
    rw [List.pairwise_append]
    refine ⟨hs2.1, List.pairwise_cons.mpr ⟨hd, hs2.2.1⟩, fun a ha2 b2 hb2 => ?_⟩
    rcases List.mem_cons.mp hb2 with e | e
    · rw [e]; exact ht a ha2
    · exact hs2.2.2 a ha2 b2 e
  · intro y hy
    rcases List.mem_append.mp hy with q | q
    · exact ho y (List.mem_of_mem_take q)
    · rcases List.mem_cons.mp q with e | e
      · rw [e]; exact ⟨hg, hcc⟩
      · exact ho y (List.mem_of_mem_drop e)
  · simp; omega
  · intro y
    have hall : y ∈ L ↔ y ∈ L.take k ∨ y ∈ L.drop k := by rw [← List.mem_append, List.take_append_drop]
    rw [List.mem_append, List.mem_cons, hall]
    constructor
    · rintro (q | q | q)
      · exact Or.inl (Or.inl q)
      · exact Or.inr q
      · exact Or.inl (Or.inr q)
    · rintro ((q | q) | q)
      · exact Or.inl q
      · exact Or.inr (Or.inr q)
      · exact Or.inr (Or.inl q)
end
section
theorem isAfter_A {n k : Nat} {v v' : Nat → Int32} {A A' : Nat → Nat → Int32} (h : ntI n (k + 1) v A v' A') (hk : k < 2 ^ 31) {a b c d : Int32} : fX9_isAfter A' (nI k) a b c d = fX9_isAfter A (nI k) a b c d := by
  unfold fX9_isAfter
  rw [nI_clamp hk, (h.2.2 29 (by decide) (by decide)).1 k (by omega), (h.2.2 30 (by decide) (by decide)).1 k (by omega), (h.2.2 31 (by decide) (by decide)).1 k (by omega), (h.2.2 32 (by decide) (by decide)).1 k (by omega)]
theorem nt_up {L : List Cg} {k : Nat} {x y9 : Cg} (h : ∀ i y, k + 1 ≤ i → L[i]? = some y → ltC x y) (e : L[k]? = some y9) (hx : ltC x y9) : ∀ i y, k ≤ i → L[i]? = some y → ltC x y := by
  intro i y h1 h2
  by_cases q : i = k
  · subst q; rw [e] at h2; cases h2; exact hx
  · exact h i y (by omega) h2
set_option maxHeartbeats 2000000 in
set_option maxRecDepth 10000 in
theorem hX9_note {l : Launch} {D : va_G} {aC : Nat → ClassId} {b0 sz : Nat} {r : Nat} {v : Nat → Int32} {A : Nat → Nat → Int32} {R : ZM} {g c9 : Nat} {b : Bool} {L : List Cg} (hn9 : v 34 = nI L.length) (hl4 : L.length < 240) (hg : g < 7) (hcc : okc c9) (hc : chR A L) (hs : srC L) (ho : okC L) (hu : ∀ y ∈ L, ¬ (y.1 = g ∧ y.2.1 = c9)) : Ct l D aC b0 yX9_note cX9_note 7 none 1 0 0 [.ref (r), .int (nI g), .int (nI (pt c9 0)), .int (nI (pt c9 1)), .int (nI (pt c9 2)), .int (tI b)] (mm aC r v A R) sz (zpN (fun v A => mm aC r v A R) (ntP v A L (g, c9, b))) := by
  refine Ct.of (by decide) (Nat.le_of_ble_eq_true rfl) ?_
  intro p e s m below meth c ls C hr hlk hnm hl
  have hl : lv_has ls 7 [(0, .ref (r)), (1, .int (nI g)), (2, .int (nI (pt c9 0))), (3, .int (nI (pt c9 1))), (4, .int (nI (pt c9 2))), (5, .int (tI b))] := hl
  obtain ⟨hx, hb, -, -, -⟩ := id C
  refine zz (fun _ _ => lv_aload_n hx hb dX9_note_0 rfl (lv_at hl 0 rfl)) ?_
  refine z_get (v := .int (v 34)) C fd_X9_250 rm_0 rfl dX9_note_1 ?_
  refine zval (v' := .int (nI L.length)) (congrArg Value.int hn9) ?_
  refine zs (fun _ _ => lv_istore (lv' := [(6, .int (nI L.length)), (0, .ref (r)), (1, .int (nI g)), (2, .int (nI (pt c9 0))), (3, .int (nI (pt c9 1))), (4, .int (nI (pt c9 2))), (5, .int (tI b))]) hx hb dX9_note_4 hl (by decide) rfl) (fun ls hl => ?_)
  have hl0 := lv_sub hl [1, 2, 3, 4, 5, 6, 0] rfl
  refine z_loop (γ := (Nat → Int32) × (Nat → Nat → Int32)) (G := fun a => mm aC r a.1 a.2 R) (I := fun j a => ntI L.length (L.length - j) v A a.1 a.2 ∧ ∀ i y, L.length - j ≤ i → L[i]? = some y → ltC (g, c9, b) y) (lv := fun j a => [(0, .ref (r)), (1, .int (nI g)), (2, .int (nI (pt c9 0))), (3, .int (nI (pt c9 1))), (4, .int (nI (pt c9 2))), (5, .int (tI b)), (6, .int (nI (L.length - j)))]) (L.length) ?_ ?_ (v, A) _ _ ⟨ntI_0, fun i y h1 h2 => absurd (List.getElem?_eq_some_iff.mp h2).1 (by omega)⟩ hl0
  · intro j1 a1 sz ls hj1 hI1 hl ih1
    obtain ⟨v1, A1⟩ := a1
    dsimp only at hI1 hl ih1
    refine zeq (M' := (mm aC r v1 A1 R)) rfl ?_
    obtain ⟨k9, hk9⟩ : ∃ k, L.length - j1 = k + 1 := ⟨L.length - j1 - 1, by omega⟩
    obtain ⟨y9, ey9⟩ : ∃ y, L[k9]? = some y := ⟨_, List.getElem?_eq_getElem (by omega)⟩
    have hI9 := hI1
    rw [hk9] at hI9
    have hz9 : A1 33 k9 = 0 ∨ A1 33 k9 = 1 := by rw [(hI9.1.2.2 33 (by decide) (by decide)).1 k9 (by omega), (hc k9 _ _ _ ey9).2.2.2.2]; exact tI_b _
    have hd9 : L.length - (j1 + 1) = k9 := by omega
    have hcc9 : fX9_isAfter A1 (nI k9) (nI g) (nI (pt c9 0)) (nI (pt c9 1)) (nI (pt c9 2)) = 0 ↔ ¬ ltC (g, c9, b) y9 := by rw [isAfter_A hI9.1 (by omega)]; exact isAfter_s hc ho (by omega) ey9 hg hcc
    refine zz (fun _ _ => lv_iload hx hb dX9_note_6 (lv_at hl 6 rfl)) ?_
    refine zval (v' := .int (nI (k9 + 1))) (congrArg Value.int (by rw [hk9])) ?_
    refine zb (fun _ _ => lv_if_le (tgt := 113) hx hb dX9_note_8 (by decide)) (fun c_2 => ?_) (fun c_2 => ?_)
    · exact absurd c_2 (nI_nle (by omega) (by omega))
    · refine zz (fun _ _ => lv_aload_n hx hb dX9_note_11 rfl (lv_at hl 0 rfl)) ?_
      refine zz (fun _ _ => lv_iload hx hb dX9_note_12 (lv_at hl 6 rfl)) ?_
      refine zval (v' := .int (nI (k9 + 1))) (congrArg Value.int (by rw [hk9])) ?_
      refine zz (fun _ _ => lv_iconst (v := 1) hx hb dX9_note_14 (by decide)) ?_
      refine zz (fun _ _ => lv_isub hx hb dX9_note_15) ?_
      refine zval (v' := .int (nI k9)) (congrArg Value.int (nI_p1 k9)) ?_
      refine zz (fun _ _ => lv_iload_n hx hb dX9_note_16 rfl (lv_at hl 1 rfl)) ?_
      refine zz (fun _ _ => lv_iload_n hx hb dX9_note_17 rfl (lv_at hl 2 rfl)) ?_
      refine zz (fun _ _ => lv_iload_n hx hb dX9_note_18 rfl (lv_at hl 3 rfl)) ?_
      refine zz (fun _ _ => lv_iload hx hb dX9_note_19 (lv_at hl 4 rfl)) ?_
      refine zdV (As := [.int (nI k9), .int (nI g), .int (nI (pt c9 0)), .int (nI (pt c9 1)), .int (nI (pt c9 2))]) (rest := []) (st' := [.int ((fX9_isAfter A1 (nI k9) (nI g) (nI (pt c9 0)) (nI (pt c9 1)) (nI (pt c9 2))))]) C hl.1 lk_X9_253 (ctX9_isAfter (vp_in_nI (by omega) (by decide))) rm_0 rfl rfl rfl (Nat.le_of_ble_eq_true rfl) ⟨by decide, by decide, by decide, by decide⟩ dX9_note_21 rfl (fun sz => ?_)
      refine zb (fun _ _ => lv_if_eq (tgt := 113) hx hb dX9_note_24 (by decide)) (fun c_3 => ?_) (fun c_3 => ?_)
      · refine zz (fun _ _ => lv_aload_n hx hb dX9_note_113 rfl (lv_at hl 0 rfl)) ?_
        refine z_get (v := .ref (r + 29)) C fd_X9_95 rm_0 rfl dX9_note_114 ?_
        refine zz (fun _ _ => lv_iload hx hb dX9_note_117 (lv_at hl 6 rfl)) ?_
        refine zval (v' := .int (nI (k9 + 1))) (congrArg Value.int (by rw [hk9])) ?_
        refine zz (fun _ _ => lv_iload_n hx hb dX9_note_119 rfl (lv_at hl 1 rfl)) ?_
        refine z_iast (f := A1 29) C rm_29 (by first | assumption | (apply vp_in_nI <;> omega)) dX9_note_120 ?_
        refine zeq wm_29 ?_
        refine zz (fun _ _ => lv_aload_n hx hb dX9_note_121 rfl (lv_at hl 0 rfl)) ?_
        refine z_get (v := .ref (r + 30)) C fd_X9_98 rm_0 rfl dX9_note_122 ?_
        refine zz (fun _ _ => lv_iload hx hb dX9_note_125 (lv_at hl 6 rfl)) ?_
        refine zval (v' := .int (nI (k9 + 1))) (congrArg Value.int (by rw [hk9])) ?_
        refine zz (fun _ _ => lv_iload_n hx hb dX9_note_127 rfl (lv_at hl 2 rfl)) ?_
        refine z_iast (f := A1 30) C rm_30 (by first | assumption | (apply vp_in_nI <;> omega)) dX9_note_128 ?_
        refine zeq wm_30 ?_
        refine zz (fun _ _ => lv_aload_n hx hb dX9_note_129 rfl (lv_at hl 0 rfl)) ?_
        refine z_get (v := .ref (r + 31)) C fd_X9_101 rm_0 rfl dX9_note_130 ?_
        refine zz (fun _ _ => lv_iload hx hb dX9_note_133 (lv_at hl 6 rfl)) ?_
        refine zval (v' := .int (nI (k9 + 1))) (congrArg Value.int (by rw [hk9])) ?_
        refine zz (fun _ _ => lv_iload_n hx hb dX9_note_135 rfl (lv_at hl 3 rfl)) ?_
        refine z_iast (f := A1 31) C rm_31 (by first | assumption | (apply vp_in_nI <;> omega)) dX9_note_136 ?_
        refine zeq wm_31 ?_
        refine zz (fun _ _ => lv_aload_n hx hb dX9_note_137 rfl (lv_at hl 0 rfl)) ?_
        refine z_get (v := .ref (r + 32)) C fd_X9_104 rm_0 rfl dX9_note_138 ?_
        refine zz (fun _ _ => lv_iload hx hb dX9_note_141 (lv_at hl 6 rfl)) ?_
        refine zval (v' := .int (nI (k9 + 1))) (congrArg Value.int (by rw [hk9])) ?_
        refine zz (fun _ _ => lv_iload hx hb dX9_note_143 (lv_at hl 4 rfl)) ?_
        refine z_iast (f := A1 32) C rm_32 (by first | assumption | (apply vp_in_nI <;> omega)) dX9_note_145 ?_
        refine zeq wm_32 ?_
        refine zz (fun _ _ => lv_aload_n hx hb dX9_note_146 rfl (lv_at hl 0 rfl)) ?_
        refine z_get (v := .ref (r + 33)) C fd_X9_107 rm_0 rfl dX9_note_147 ?_
        refine zz (fun _ _ => lv_iload hx hb dX9_note_150 (lv_at hl 6 rfl)) ?_
        refine zval (v' := .int (nI (k9 + 1))) (congrArg Value.int (by rw [hk9])) ?_
        refine zz (fun _ _ => lv_iload hx hb dX9_note_152 (lv_at hl 5 rfl)) ?_
        refine z_zast (f := A1 33) C rm_33 (by first | assumption | (apply vp_in_nI <;> omega)) (bz (tI_b b)) dX9_note_154 ?_
        refine zeq wm_33 ?_
        refine zz (fun _ _ => lv_aload_n hx hb dX9_note_155 rfl (lv_at hl 0 rfl)) ?_
        refine zz (fun _ _ => lv_dup hx hb dX9_note_156 rfl) ?_
        refine z_get (v := .int (v1 34)) C fd_X9_250 rm_0 rfl dX9_note_157 ?_
        refine zval (v' := .int (nI L.length)) (congrArg Value.int ((congrFun hI1.1.1 34).trans hn9)) ?_
        refine zz (fun _ _ => lv_iconst (v := 1) hx hb dX9_note_160 (by decide)) ?_
        refine zz (fun _ _ => lv_iadd hx hb dX9_note_161) ?_
        refine zval (v' := .int (nI (L.length + 1))) (congrArg Value.int (nI_1 _)) ?_
        refine z_put C fp_X9_250 (fun h => by cases h) rm_0 (Nat.le_of_ble_eq_true rfl) rfl rfl dX9_note_162 ?_
        refine zeq wm_f34 ?_
        exact z_vret C hr hlk dX9_note_165 (zpN_mk (a := (upd v1 34 (nI (L.length + 1)))) (b := (u1 (u1 (u1 (u1 (u1 A1 29 (upd (A1 29) (Int32.toNatClampNeg (nI (k9 + 1))) (nI g))) 30 (upd (A1 30) (Int32.toNatClampNeg (nI (k9 + 1))) (nI (pt c9 0)))) 31 (upd (A1 31) (Int32.toNatClampNeg (nI (k9 + 1))) (nI (pt c9 1)))) 32 (upd (A1 32) (Int32.toNatClampNeg (nI (k9 + 1))) (nI (pt c9 2)))) 33 (upd (A1 33) (Int32.toNatClampNeg (nI (k9 + 1))) (tI b)))) (by rw [nI_clamp (n := k9 + 1) (by omega)]; exact nt_end (by omega) hg hcc hc hs ho hu hI9.1 hI9.2 (fun y _ h2 => by rw [Nat.add_sub_cancel, ey9] at h2; cases h2; exact hcc9.mp c_3)))
      · refine zz (fun _ _ => lv_aload_n hx hb dX9_note_27 rfl (lv_at hl 0 rfl)) ?_
        refine z_get (v := .ref (r + 29)) C fd_X9_95 rm_0 rfl dX9_note_28 ?_
        refine zz (fun _ _ => lv_iload hx hb dX9_note_31 (lv_at hl 6 rfl)) ?_
        refine zval (v' := .int (nI (k9 + 1))) (congrArg Value.int (by rw [hk9])) ?_
        refine zz (fun _ _ => lv_aload_n hx hb dX9_note_33 rfl (lv_at hl 0 rfl)) ?_
        refine z_get (v := .ref (r + 29)) C fd_X9_95 rm_0 rfl dX9_note_34 ?_
        refine zz (fun _ _ => lv_iload hx hb dX9_note_37 (lv_at hl 6 rfl)) ?_
        refine zval (v' := .int (nI (k9 + 1))) (congrArg Value.int (by rw [hk9])) ?_
        refine zz (fun _ _ => lv_iconst (v := 1) hx hb dX9_note_39 (by decide)) ?_
        refine zz (fun _ _ => lv_isub hx hb dX9_note_40) ?_
        refine zval (v' := .int (nI k9)) (congrArg Value.int (nI_p1 k9)) ?_
        refine z_iald (f := A1 29) C rm_29 (by first | assumption | (apply vp_in_nI <;> omega)) dX9_note_41 ?_
        refine zval (v' := .int (A1 29 k9)) (congrArg Value.int (rdI rfl (by omega))) ?_
        refine z_iast (f := A1 29) C rm_29 (by first | assumption | (apply vp_in_nI <;> omega)) dX9_note_42 ?_
        refine zeq wm_29 ?_
        refine zz (fun _ _ => lv_aload_n hx hb dX9_note_43 rfl (lv_at hl 0 rfl)) ?_
        refine z_get (v := .ref (r + 30)) C fd_X9_98 rm_0 rfl dX9_note_44 ?_
        refine zz (fun _ _ => lv_iload hx hb dX9_note_47 (lv_at hl 6 rfl)) ?_
        refine zval (v' := .int (nI (k9 + 1))) (congrArg Value.int (by rw [hk9])) ?_
        refine zz (fun _ _ => lv_aload_n hx hb dX9_note_49 rfl (lv_at hl 0 rfl)) ?_
        refine z_get (v := .ref (r + 30)) C fd_X9_98 rm_0 rfl dX9_note_50 ?_
        refine zz (fun _ _ => lv_iload hx hb dX9_note_53 (lv_at hl 6 rfl)) ?_
        refine zval (v' := .int (nI (k9 + 1))) (congrArg Value.int (by rw [hk9])) ?_
        refine zz (fun _ _ => lv_iconst (v := 1) hx hb dX9_note_55 (by decide)) ?_
        refine zz (fun _ _ => lv_isub hx hb dX9_note_56) ?_
        refine zval (v' := .int (nI k9)) (congrArg Value.int (nI_p1 k9)) ?_
        refine z_iald (f := A1 30) C rm_30 (by first | assumption | (apply vp_in_nI <;> omega)) dX9_note_57 ?_
        refine zval (v' := .int (A1 30 k9)) (congrArg Value.int (rdI rfl (by omega))) ?_
        refine z_iast (f := A1 30) C rm_30 (by first | assumption | (apply vp_in_nI <;> omega)) dX9_note_58 ?_
        refine zeq wm_30 ?_
        refine zz (fun _ _ => lv_aload_n hx hb dX9_note_59 rfl (lv_at hl 0 rfl)) ?_
        refine z_get (v := .ref (r + 31)) C fd_X9_101 rm_0 rfl dX9_note_60 ?_
        refine zz (fun _ _ => lv_iload hx hb dX9_note_63 (lv_at hl 6 rfl)) ?_
        refine zval (v' := .int (nI (k9 + 1))) (congrArg Value.int (by rw [hk9])) ?_
        refine zz (fun _ _ => lv_aload_n hx hb dX9_note_65 rfl (lv_at hl 0 rfl)) ?_
        refine z_get (v := .ref (r + 31)) C fd_X9_101 rm_0 rfl dX9_note_66 ?_
        refine zz (fun _ _ => lv_iload hx hb dX9_note_69 (lv_at hl 6 rfl)) ?_
        refine zval (v' := .int (nI (k9 + 1))) (congrArg Value.int (by rw [hk9])) ?_
        refine zz (fun _ _ => lv_iconst (v := 1) hx hb dX9_note_71 (by decide)) ?_
        refine zz (fun _ _ => lv_isub hx hb dX9_note_72) ?_
        refine zval (v' := .int (nI k9)) (congrArg Value.int (nI_p1 k9)) ?_
        refine z_iald (f := A1 31) C rm_31 (by first | assumption | (apply vp_in_nI <;> omega)) dX9_note_73 ?_
        refine zval (v' := .int (A1 31 k9)) (congrArg Value.int (rdI rfl (by omega))) ?_
        refine z_iast (f := A1 31) C rm_31 (by first | assumption | (apply vp_in_nI <;> omega)) dX9_note_74 ?_
        refine zeq wm_31 ?_
        refine zz (fun _ _ => lv_aload_n hx hb dX9_note_75 rfl (lv_at hl 0 rfl)) ?_
        refine z_get (v := .ref (r + 32)) C fd_X9_104 rm_0 rfl dX9_note_76 ?_
        refine zz (fun _ _ => lv_iload hx hb dX9_note_79 (lv_at hl 6 rfl)) ?_
        refine zval (v' := .int (nI (k9 + 1))) (congrArg Value.int (by rw [hk9])) ?_
        refine zz (fun _ _ => lv_aload_n hx hb dX9_note_81 rfl (lv_at hl 0 rfl)) ?_
        refine z_get (v := .ref (r + 32)) C fd_X9_104 rm_0 rfl dX9_note_82 ?_
        refine zz (fun _ _ => lv_iload hx hb dX9_note_85 (lv_at hl 6 rfl)) ?_
        refine zval (v' := .int (nI (k9 + 1))) (congrArg Value.int (by rw [hk9])) ?_
        refine zz (fun _ _ => lv_iconst (v := 1) hx hb dX9_note_87 (by decide)) ?_
        refine zz (fun _ _ => lv_isub hx hb dX9_note_88) ?_
        refine zval (v' := .int (nI k9)) (congrArg Value.int (nI_p1 k9)) ?_
        refine z_iald (f := A1 32) C rm_32 (by first | assumption | (apply vp_in_nI <;> omega)) dX9_note_89 ?_
        refine zval (v' := .int (A1 32 k9)) (congrArg Value.int (rdI rfl (by omega))) ?_
        refine z_iast (f := A1 32) C rm_32 (by first | assumption | (apply vp_in_nI <;> omega)) dX9_note_90 ?_
        refine zeq wm_32 ?_
        refine zz (fun _ _ => lv_aload_n hx hb dX9_note_91 rfl (lv_at hl 0 rfl)) ?_
        refine z_get (v := .ref (r + 33)) C fd_X9_107 rm_0 rfl dX9_note_92 ?_
        refine zz (fun _ _ => lv_iload hx hb dX9_note_95 (lv_at hl 6 rfl)) ?_
        refine zval (v' := .int (nI (k9 + 1))) (congrArg Value.int (by rw [hk9])) ?_
        refine zz (fun _ _ => lv_aload_n hx hb dX9_note_97 rfl (lv_at hl 0 rfl)) ?_
        refine z_get (v := .ref (r + 33)) C fd_X9_107 rm_0 rfl dX9_note_98 ?_
        refine zz (fun _ _ => lv_iload hx hb dX9_note_101 (lv_at hl 6 rfl)) ?_
        refine zval (v' := .int (nI (k9 + 1))) (congrArg Value.int (by rw [hk9])) ?_
        refine zz (fun _ _ => lv_iconst (v := 1) hx hb dX9_note_103 (by decide)) ?_
        refine zz (fun _ _ => lv_isub hx hb dX9_note_104) ?_
        refine zval (v' := .int (nI k9)) (congrArg Value.int (nI_p1 k9)) ?_
        refine z_zald (f := A1 33) C rm_33 (by first | assumption | (apply vp_in_nI <;> omega)) dX9_note_105 ?_
        refine zval (v' := .int (A1 33 k9)) (congrArg Value.int (rdI rfl (by omega))) ?_
        refine z_zast (f := A1 33) C rm_33 (by first | assumption | (apply vp_in_nI <;> omega)) (bz hz9) dX9_note_106 ?_
        refine zeq wm_33 ?_
        refine zs (fun _ _ => lv_iinc (v := nI (L.length - j1) + (-1)) (lv' := [(6, .int (nI (L.length - j1) + (-1))), (0, .ref (r)), (1, .int (nI g)), (2, .int (nI (pt c9 0))), (3, .int (nI (pt c9 1))), (4, .int (nI (pt c9 2))), (5, .int (tI b))]) hx hb dX9_note_107 hl (k := 6) rfl rfl (by decide) rfl) (fun ls hl => ?_)
        refine zz (fun _ _ => lv_goto (tgt := 6) hx hb dX9_note_110 (by decide)) ?_
        have hl := lv_sub hl [1, 2, 3, 4, 5, 6, 0] rfl
        try simp only [nI_1] at hl
        rw [show nI (L.length - j1) + (-1) = nI (L.length - (j1 + 1)) by rw [hk9, nI_m1, hd9]] at hl
        exact ih1 (v1, (u1 (u1 (u1 (u1 (u1 A1 29 (upd (A1 29) (Int32.toNatClampNeg (nI (k9 + 1))) (A1 29 k9))) 30 (upd (A1 30) (Int32.toNatClampNeg (nI (k9 + 1))) (A1 30 k9))) 31 (upd (A1 31) (Int32.toNatClampNeg (nI (k9 + 1))) (A1 31 k9))) 32 (upd (A1 32) (Int32.toNatClampNeg (nI (k9 + 1))) (A1 32 k9))) 33 (upd (A1 33) (Int32.toNatClampNeg (nI (k9 + 1))) (A1 33 k9)))) _ _ (by show ntI L.length (L.length - (j1 + 1)) v A _ _ ∧ _; rw [hd9, nI_clamp (n := k9 + 1) (by omega)]; exact ⟨nt_next (by omega) hI9.1, fun i y h1 h2 => nt_up hI9.2 ey9 (Classical.not_not.mp (fun q => c_3 (hcc9.mpr q))) i y h1 h2⟩) hl
  · intro a1 sz ls hI1 hl
    obtain ⟨v1, A1⟩ := a1
    dsimp only at hI1 hl
    refine zeq (M' := (mm aC r v1 A1 R)) rfl ?_
    refine zz (fun _ _ => lv_iload hx hb dX9_note_6 (lv_at hl 6 rfl)) ?_
    refine zval (v' := .int (nI 0)) (congrArg Value.int (by rw [Nat.sub_self])) ?_
    refine zb (fun _ _ => lv_if_le (tgt := 113) hx hb dX9_note_8 (by decide)) (fun c_4 => ?_) (fun c_4 => ?_)
    · refine zz (fun _ _ => lv_aload_n hx hb dX9_note_113 rfl (lv_at hl 0 rfl)) ?_
      refine z_get (v := .ref (r + 29)) C fd_X9_95 rm_0 rfl dX9_note_114 ?_
      refine zz (fun _ _ => lv_iload hx hb dX9_note_117 (lv_at hl 6 rfl)) ?_
      refine zval (v' := .int (nI 0)) (congrArg Value.int (by rw [Nat.sub_self])) ?_
      refine zz (fun _ _ => lv_iload_n hx hb dX9_note_119 rfl (lv_at hl 1 rfl)) ?_
      refine z_iast (f := A1 29) C rm_29 (by first | assumption | (apply vp_in_nI <;> omega)) dX9_note_120 ?_
      refine zeq wm_29 ?_
      refine zz (fun _ _ => lv_aload_n hx hb dX9_note_121 rfl (lv_at hl 0 rfl)) ?_
      refine z_get (v := .ref (r + 30)) C fd_X9_98 rm_0 rfl dX9_note_122 ?_
      refine zz (fun _ _ => lv_iload hx hb dX9_note_125 (lv_at hl 6 rfl)) ?_
      refine zval (v' := .int (nI 0)) (congrArg Value.int (by rw [Nat.sub_self])) ?_
      refine zz (fun _ _ => lv_iload_n hx hb dX9_note_127 rfl (lv_at hl 2 rfl)) ?_
      refine z_iast (f := A1 30) C rm_30 (by first | assumption | (apply vp_in_nI <;> omega)) dX9_note_128 ?_
      refine zeq wm_30 ?_
      refine zz (fun _ _ => lv_aload_n hx hb dX9_note_129 rfl (lv_at hl 0 rfl)) ?_
      refine z_get (v := .ref (r + 31)) C fd_X9_101 rm_0 rfl dX9_note_130 ?_
      refine zz (fun _ _ => lv_iload hx hb dX9_note_133 (lv_at hl 6 rfl)) ?_
      refine zval (v' := .int (nI 0)) (congrArg Value.int (by rw [Nat.sub_self])) ?_
      refine zz (fun _ _ => lv_iload_n hx hb dX9_note_135 rfl (lv_at hl 3 rfl)) ?_
      refine z_iast (f := A1 31) C rm_31 (by first | assumption | (apply vp_in_nI <;> omega)) dX9_note_136 ?_
      refine zeq wm_31 ?_
      refine zz (fun _ _ => lv_aload_n hx hb dX9_note_137 rfl (lv_at hl 0 rfl)) ?_
      refine z_get (v := .ref (r + 32)) C fd_X9_104 rm_0 rfl dX9_note_138 ?_
      refine zz (fun _ _ => lv_iload hx hb dX9_note_141 (lv_at hl 6 rfl)) ?_
      refine zval (v' := .int (nI 0)) (congrArg Value.int (by rw [Nat.sub_self])) ?_
      refine zz (fun _ _ => lv_iload hx hb dX9_note_143 (lv_at hl 4 rfl)) ?_
      refine z_iast (f := A1 32) C rm_32 (by first | assumption | (apply vp_in_nI <;> omega)) dX9_note_145 ?_
      refine zeq wm_32 ?_
      refine zz (fun _ _ => lv_aload_n hx hb dX9_note_146 rfl (lv_at hl 0 rfl)) ?_
      refine z_get (v := .ref (r + 33)) C fd_X9_107 rm_0 rfl dX9_note_147 ?_
      refine zz (fun _ _ => lv_iload hx hb dX9_note_150 (lv_at hl 6 rfl)) ?_
      refine zval (v' := .int (nI 0)) (congrArg Value.int (by rw [Nat.sub_self])) ?_
      refine zz (fun _ _ => lv_iload hx hb dX9_note_152 (lv_at hl 5 rfl)) ?_
      refine z_zast (f := A1 33) C rm_33 (by first | assumption | (apply vp_in_nI <;> omega)) (bz (tI_b b)) dX9_note_154 ?_
      refine zeq wm_33 ?_
      refine zz (fun _ _ => lv_aload_n hx hb dX9_note_155 rfl (lv_at hl 0 rfl)) ?_
      refine zz (fun _ _ => lv_dup hx hb dX9_note_156 rfl) ?_
      refine z_get (v := .int (v1 34)) C fd_X9_250 rm_0 rfl dX9_note_157 ?_
      refine zval (v' := .int (nI L.length)) (congrArg Value.int ((congrFun hI1.1.1 34).trans hn9)) ?_
      refine zz (fun _ _ => lv_iconst (v := 1) hx hb dX9_note_160 (by decide)) ?_
      refine zz (fun _ _ => lv_iadd hx hb dX9_note_161) ?_
      refine zval (v' := .int (nI (L.length + 1))) (congrArg Value.int (nI_1 _)) ?_
      refine z_put C fp_X9_250 (fun h => by cases h) rm_0 (Nat.le_of_ble_eq_true rfl) rfl rfl dX9_note_162 ?_
      refine zeq wm_f34 ?_
      exact z_vret C hr hlk dX9_note_165 (zpN_mk (a := (upd v1 34 (nI (L.length + 1)))) (b := (u1 (u1 (u1 (u1 (u1 A1 29 (upd (A1 29) (Int32.toNatClampNeg (nI 0)) (nI g))) 30 (upd (A1 30) (Int32.toNatClampNeg (nI 0)) (nI (pt c9 0)))) 31 (upd (A1 31) (Int32.toNatClampNeg (nI 0)) (nI (pt c9 1)))) 32 (upd (A1 32) (Int32.toNatClampNeg (nI 0)) (nI (pt c9 2)))) 33 (upd (A1 33) (Int32.toNatClampNeg (nI 0)) (tI b)))) (by rw [nI_clamp (n := 0) (by decide)]; have h9 := hI1; rw [Nat.sub_self] at h9; exact nt_end (Nat.zero_le _) hg hcc hc hs ho hu h9.1 h9.2 (fun y h1 _ => absurd rfl h1)))
    · exact absurd (by decide) c_4
end
section
/-! What was before a run: kept, looked up, brought back. -/
def OLs (v : Nat → Int32) (A : Nat → Nat → Int32) (S : St) (n : Nat) (f : Nat → Nat × Nat) : Prop :=
  v 27 = nI n ∧ (∀ i j, i < n → j < n → f i = f j → i = j) ∧ (∀ g c, S.1 g c = true ↔ ∃ i, i < n ∧ f i = (g, c)) ∧
  (∀ i, i < n → A 24 i = nI (f i).1 ∧ A 25 i = nI (pt (f i).2 0) ∧ A 26 i = nI (pt (f i).2 1) ∧ A 27 i = nI (pt (f i).2 2)) ∧
  (∀ g, g < 7 → A 28 g = tI (S.2.1 g)) ∧ v 33 = nI S.2.2
def OC (v : Nat → Int32) (A : Nat → Nat → Int32) (S : St) : Prop := okS S ∧ ∃ n f, OLs v A S n f
theorem OL_n {v : Nat → Int32} {A : Nat → Nat → Int32} {S : St} {n : Nat} {f : Nat → Nat × Nat} (h : OLs v A S n f) (ho : okS S) : n ≤ 120 := by
  have e : n = card S.1 := by
    have := card_eq ho.1 (L := (List.range n).map f) (by
      unfold List.Nodup
      rw [List.pairwise_map]
      refine (List.nodup_range (n := n)).imp_of_mem (fun {a b} ha hb hne he => hne ?_)
      exact h.2.1 a b (List.mem_range.mp ha) (List.mem_range.mp hb) he) (fun g c => by
      rw [List.mem_map, h.2.2.1]
      simp only [List.mem_range])
    simpa using this
  exact e ▸ ho.2.1
theorem OL_ok {v : Nat → Int32} {A : Nat → Nat → Int32} {S : St} {n : Nat} {f : Nat → Nat × Nat} (h : OLs v A S n f) (ho : okS S) {i : Nat} (hi : i < n) : (f i).1 < 7 ∧ okc (f i).2 :=
  ho.1 _ _ ((h.2.2.1 _ _).mpr ⟨i, hi, rfl⟩)
theorem OC.kept {v v' : Nat → Int32} {A A' : Nat → Nat → Int32} {S : St} (h : OC v A S) (h1 : v' 27 = v 27) (h2 : v' 33 = v 33) (hA : ∀ q, 24 ≤ q → q ≤ 28 → A' q = A q) : OC v' A' S := by
  obtain ⟨ho, n, f, h⟩ := h
  refine ⟨ho, n, f, ?_⟩
  unfold OLs at h ⊢
  rw [hA 24 (by omega) (by omega), hA 25 (by omega) (by omega), hA 26 (by omega) (by omega), hA 27 (by omega) (by omega), hA 28 (by omega) (by omega), h1, h2]
  exact h
theorem keep18_s (A : Nat → Nat → Int32) (a b c d : Nat → Int32) : ∀ n, n ≤ 200 → ∀ i, i < n → (stX9_keep_18 A a b c d n).1 i = A 19 i ∧ (stX9_keep_18 A a b c d n).2.1 i = A 20 i ∧ (stX9_keep_18 A a b c d n).2.2.1 i = A 21 i ∧ (stX9_keep_18 A a b c d n).2.2.2 i = A 22 i
  | 0, _, i, hi => absurd hi (Nat.not_lt_zero _)
  | n + 1, hn, i, hi => by
    have ih := keep18_s A a b c d n (by omega) i
    simp only [stX9_keep_18, nI_clamp (show n < 2 ^ 31 by omega)]
    by_cases q : i = n
    · subst q; simp [upd]
    · have ih := ih (by omega)
      simp only [upd, if_neg q]
      exact ih
theorem keep82_s (A : Nat → Nat → Int32) (a : Nat → Int32) : ∀ n, n ≤ 200 → ∀ i, i < n → stX9_keep_82 A a n i = A 23 i
  | 0, _, i, hi => absurd hi (Nat.not_lt_zero _)
  | n + 1, hn, i, hi => by
    have ih := keep82_s A a n (by omega) i
    simp only [stX9_keep_82, nI_clamp (show n < 2 ^ 31 by omega)]
    by_cases q : i = n
    · subst q; simp [upd]
    · have ih := ih (by omega)
      simp only [upd, if_neg q]
      exact ih
theorem back18_s (A : Nat → Nat → Int32) (a b c d : Nat → Int32) : ∀ n, n ≤ 200 → ∀ i, i < n → (stX9_goBack_18 A a b c d n).1 i = A 24 i ∧ (stX9_goBack_18 A a b c d n).2.1 i = A 25 i ∧ (stX9_goBack_18 A a b c d n).2.2.1 i = A 26 i ∧ (stX9_goBack_18 A a b c d n).2.2.2 i = A 27 i
  | 0, _, i, hi => absurd hi (Nat.not_lt_zero _)
  | n + 1, hn, i, hi => by
    have ih := back18_s A a b c d n (by omega) i
    simp only [stX9_goBack_18, nI_clamp (show n < 2 ^ 31 by omega)]
    by_cases q : i = n
    · subst q; simp [upd]
    · have ih := ih (by omega)
      simp only [upd, if_neg q]
      exact ih
theorem back82_s (A : Nat → Nat → Int32) (a : Nat → Int32) : ∀ n, n ≤ 200 → ∀ i, i < n → stX9_goBack_82 A a n i = A 28 i
  | 0, _, i, hi => absurd hi (Nat.not_lt_zero _)
  | n + 1, hn, i, hi => by
    have ih := back82_s A a n (by omega) i
    simp only [stX9_goBack_82, nI_clamp (show n < 2 ^ 31 by omega)]
    by_cases q : i = n
    · subst q; simp [upd]
    · have ih := ih (by omega)
      simp only [upd, if_neg q]
      exact ih
/-- behind keep -/
def keP (v : Nat → Int32) (A : Nat → Nat → Int32) (S : St) (v' : Nat → Int32) (A' : Nat → Nat → Int32) : Prop := (∀ k, k ≠ 27 → k ≠ 33 → v' k = v k) ∧ (∀ q, q < 24 ∨ 28 < q → A' q = A q) ∧ OC v' A' S
theorem keep_s {v : Nat → Int32} {A : Nat → Nat → Int32} {S : St} (hR : RC v A S) : keP v A S (fX9_keep v A).1 (fX9_keep v A).2 := by
  obtain ⟨ho, n, f, h⟩ := hR
  have hn := (RL_n h ho).2
  refine ⟨fun k h1 h2 => by simp [fX9_keep, upd, h1, h2], fun q hq => by simp [fX9_keep, u1, show q ≠ 24 by omega, show q ≠ 25 by omega, show q ≠ 26 by omega, show q ≠ 27 by omega, show q ≠ 28 by omega], ho, n, f, ?_, h.2.1, h.2.2.1, ?_, ?_, ?_⟩
  · simp [fX9_keep, upd, h.1]
  · intro i hi
    have hk := keep18_s A (A 24) (A 25) (A 26) (A 27) n (by omega) i hi
    have r := h.2.2.2.1 i hi
    simp only [fX9_keep, h.1, nI_clamp (show n < 2 ^ 31 by omega), u1]
    rw [← hk.1, ← hk.2.1, ← hk.2.2.1, ← hk.2.2.2] at r
    simpa using r
  · intro g hg
    have r := h.2.2.2.2.1 g hg
    have e : (fX9_keep v A).2 28 g = A 23 g := by
      simp only [fX9_keep]
      rw [show ∀ (B : Nat → Nat → Int32) (z : Nat → Int32), u1 B 28 z 28 = z from fun B z => u1_s B 28 z, keep82_s _ _ 7 (by decide) g hg]
      simp [u1]
    rw [e]; exact r
  · simp [fX9_keep, upd, h.2.2.2.2.2]
theorem hX9_keep {l : Launch} {D : va_G} {aC : Nat → ClassId} {b0 sz r : Nat} {v : Nat → Int32} {A : Nat → Nat → Int32} {R : ZM} {S : St} (hR : RC v A S) :
    Ct l D aC b0 yX9_keep cX9_keep 2 none 0 0 0 [.ref r] (mm aC r v A R) sz (zpN (fun v A => mm aC r v A R) (keP v A S)) := by
  obtain ⟨n, hs, hn⟩ := RC_n hR
  exact Ct.toN (G := fun v A => mm aC r v A R) (ctX9_keep hs hn (fun j hj => by rw [RC_there hR hj]; exact tI_b _)) (keep_s hR)
def gbP (v : Nat → Int32) (A : Nat → Nat → Int32) (S : St) (v' : Nat → Int32) (A' : Nat → Nat → Int32) : Prop := (∀ k, k ≠ 20 → k ≠ 26 → v' k = v k) ∧ (∀ q, q < 19 ∨ 23 < q → A' q = A q) ∧ RC v' A' S
theorem goBack_s {v : Nat → Int32} {A : Nat → Nat → Int32} {S : St} (hO : OC v A S) : gbP v A S (fX9_goBack v A).1 (fX9_goBack v A).2 := by
  obtain ⟨ho, n, f, h⟩ := hO
  have hn := OL_n h ho
  refine ⟨fun k h1 h2 => by simp [fX9_goBack, upd, h1, h2], fun q hq => by simp [fX9_goBack, u1, show q ≠ 19 by omega, show q ≠ 20 by omega, show q ≠ 21 by omega, show q ≠ 22 by omega, show q ≠ 23 by omega], ho, n, f, ?_, h.2.1, h.2.2.1, ?_, ?_, ?_⟩
  · simp [fX9_goBack, upd, h.1]
  · intro i hi
    have hk := back18_s A (A 19) (A 20) (A 21) (A 22) n (by omega) i hi
    have r := h.2.2.2.1 i hi
    simp only [fX9_goBack, h.1, nI_clamp (show n < 2 ^ 31 by omega), u1]
    rw [← hk.1, ← hk.2.1, ← hk.2.2.1, ← hk.2.2.2] at r
    simpa using r
  · intro g hg
    have r := h.2.2.2.2.1 g hg
    have e : (fX9_goBack v A).2 23 g = A 28 g := by
      simp only [fX9_goBack]
      rw [show ∀ (B : Nat → Nat → Int32) (z : Nat → Int32), u1 B 23 z 23 = z from fun B z => u1_s B 23 z, back82_s _ _ 7 (by decide) g hg]
      simp [u1]
    rw [e]; exact r
  · simp [fX9_goBack, upd, h.2.2.2.2.2]
theorem hX9_goBack {l : Launch} {D : va_G} {aC : Nat → ClassId} {b0 sz r : Nat} {v : Nat → Int32} {A : Nat → Nat → Int32} {R : ZM} {S : St} (hO : OC v A S) :
    Ct l D aC b0 yX9_goBack cX9_goBack 2 none 0 0 0 [.ref r] (mm aC r v A R) sz (zpN (fun v A => mm aC r v A R) (gbP v A S)) := by
  have hs := goBack_s hO
  obtain ⟨ho, n, f, h⟩ := hO
  exact Ct.toN (G := fun v A => mm aC r v A R) (ctX9_goBack h.1 (OL_n h ho) (fun j hj => by rw [h.2.2.2.2.1 j hj]; exact tI_b _)) hs
theorem wasIn_g (A : Nat → Nat → Int32) (a b c d : Int32) : ∀ n, n < 2 ^ 31 → (stX9_wasIn_6 A a b c d 0 n = 0 ∧ ∀ i, i < n → ¬ (A 24 i = a ∧ A 25 i = b ∧ A 26 i = c ∧ A 27 i = d)) ∨ (stX9_wasIn_6 A a b c d 0 n = 1 ∧ ∃ j, j < n ∧ A 24 j = a ∧ A 25 j = b ∧ A 26 j = c ∧ A 27 j = d)
  | 0, _ => Or.inl ⟨rfl, fun i hi => absurd hi (Nat.not_lt_zero _)⟩
  | n + 1, hn => by
    have ih := wasIn_g A a b c d n (by omega)
    simp only [stX9_wasIn_6, nI_clamp (show n < 2 ^ 31 by omega)]
    rcases ih with ⟨h1, h2⟩ | ⟨h1, j, hj, h2⟩
    · rw [if_pos h1]
      by_cases q : A 24 n = a ∧ A 25 n = b ∧ A 26 n = c ∧ A 27 n = d
      · rw [if_pos q.1, if_pos q.2.1, if_pos q.2.2.1, if_pos q.2.2.2]
        exact Or.inr ⟨rfl, n, by omega, q⟩
      · refine Or.inl ⟨?_, fun i hi => ?_⟩
        · split
          · split
            · split
              · split
                · rename_i a1 a2 a3 a4; exact absurd ⟨a1, a2, a3, a4⟩ q
                · rfl
              · rfl
            · rfl
          · rfl
        · by_cases e : i = n
          · rw [e]; exact q
          · exact h2 i (by omega)
    · rw [if_neg (by rw [h1]; decide)]
      exact Or.inr ⟨rfl, j, by omega, h2⟩
theorem wasIn_s {v : Nat → Int32} {A : Nat → Nat → Int32} {S : St} {n : Nat} {f : Nat → Nat × Nat} (h : OLs v A S n f) (ho : okS S) {g c : Nat} (hg : g < 7) (hc : okc c) : fX9_wasIn v A (nI g) (nI (pt c 0)) (nI (pt c 1)) (nI (pt c 2)) = tI (S.1 g c) := by
  have hn := OL_n h ho
  unfold fX9_wasIn
  rw [h.1, nI_clamp (by omega)]
  rcases wasIn_g A (nI g) (nI (pt c 0)) (nI (pt c 1)) (nI (pt c 2)) n (by omega) with ⟨h1, h2⟩ | ⟨h1, j, hj, h2⟩
  · rw [h1, show S.1 g c = false from Bool.eq_false_iff.mpr (fun q => by
      obtain ⟨i, hi, e⟩ := (h.2.2.1 g c).mp q
      have r := h.2.2.2.1 i hi
      rw [e] at r
      exact h2 i hi r)]
    rfl
  · have r := h.2.2.2.1 j hj
    have hk := OL_ok h ho hj
    have e1 : (f j).1 = g := by
      have := r.1.symm.trans h2.1
      rwa [nI_eq (by omega) (by omega)] at this
    have e2 : (f j).2 = c := nIpt hk.2 hc (r.2.1.symm.trans h2.2.1) (r.2.2.1.symm.trans h2.2.2.1) (r.2.2.2.symm.trans h2.2.2.2)
    rw [h1, (h.2.2.1 g c).mpr ⟨j, hj, by rw [← e1, ← e2]⟩]
    rfl
/-- the changes from one state to another -/
def isCh (P0 P : Pd) (L : List Cg) : Prop := srC L ∧ ∀ g c b, (g, c, b) ∈ L ↔ (b = true ∧ P g c = true ∧ P0 g c = false) ∨ (b = false ∧ P g c = false ∧ P0 g c = true)
theorem srC_uniq : ∀ {l l' : List Cg}, srC l → srC l' → (∀ x, x ∈ l ↔ x ∈ l') → l = l'
  | [], [], _, _, _ => rfl
  | [], b :: l', _, _, h => absurd ((h b).mpr (by simp)) (by simp)
  | a :: l, [], _, _, h => absurd ((h a).mp (by simp)) (by simp)
  | a :: l, b :: l', h1, h2, h => by
    have h1 := List.pairwise_cons.mp h1
    have h2 := List.pairwise_cons.mp h2
    have hab : a = b := by
      have ha := (h a).mp (by simp)
      have hb := (h b).mpr (by simp)
      rw [List.mem_cons] at ha hb
      rcases ha with ha | ha
      · exact ha
      · rcases hb with hb | hb
        · exact hb.symm
        · exact absurd (ltC_trans (h1.1 b hb) (h2.1 a ha)) ltC_irr
    subst hab
    congr 1
    refine srC_uniq h1.2 h2.2 (fun x => ?_)
    have hx := h x
    rw [List.mem_cons, List.mem_cons] at hx
    constructor
    · intro q
      rcases hx.mp (Or.inr q) with r | r
      · rw [r] at q; exact absurd (h1.1 _ q) ltC_irr
      · exact r
    · intro q
      rcases hx.mpr (Or.inr q) with r | r
      · rw [r] at q; exact absurd (h2.1 _ q) ltC_irr
      · exact r
theorem isCh_uniq {P0 P : Pd} {L L' : List Cg} (h : isCh P0 P L) (h' : isCh P0 P L') : L = L' := srC_uniq h.1 h'.1 (fun ⟨g, c, b⟩ => by rw [h.2, h'.2])
/-- noting what came, row by row -/
def FN (v : Nat → Int32) (A : Nat → Nat → Int32) (v' : Nat → Int32) (A' : Nat → Nat → Int32) : Prop := (∀ k, k ≠ 34 → v' k = v k) ∧ (∀ q, q < 29 ∨ 33 < q → A' q = A q)
def naI (v : Nat → Int32) (A : Nat → Nat → Int32) (M : Cg → Prop) (b : Nat) (v' : Nat → Int32) (A' : Nat → Nat → Int32) : Prop := FN v A v' A' ∧ ∃ L, v' 34 = nI L.length ∧ L.length ≤ b ∧ chR A' L ∧ srC L ∧ okC L ∧ ∀ y, y ∈ L ↔ M y
theorem na_same {v v' : Nat → Int32} {A A' : Nat → Nat → Int32} {M M' : Cg → Prop} {b b' : Nat} (h : naI v A M b v' A') (hb : b ≤ b') (hm : ∀ y, M y ↔ M' y) : naI v A M' b' v' A' := by
  obtain ⟨hf, L, h1, h2, h3, h4, h5, h6⟩ := h
  exact ⟨hf, L, h1, by omega, h3, h4, h5, fun y => by rw [h6, hm]⟩
theorem na_note {v v1 v2 : Nat → Int32} {A A1 A2 : Nat → Nat → Int32} {M M' : Cg → Prop} {b b' : Nat} {L : List Cg} {x : Cg} (hf : FN v A v1 A1) (h2 : L.length ≤ b) (h6 : ∀ y, y ∈ L ↔ M y) (hn : ntP v1 A1 L x v2 A2) (hb : b + 1 ≤ b') (hm : ∀ y, M' y ↔ M y ∨ y = x) : naI v A M' b' v2 A2 := by
  obtain ⟨rfl, hq, L', a1, a2, a3, a4, a5⟩ := hn
  refine ⟨⟨fun k hk => by simp [upd, hk]; exact hf.1 k hk, fun q hq' => (hq q hq').trans (hf.2 q hq')⟩, L', by simp [upd, a4], by omega, a1, a2, a3, fun y => by rw [a5, h6, hm]⟩
end
section
/-! All changes of a run noted, in the reference; a run step by step. -/
def naM1 (P0 : Pd) (f : Nat → Nat × Nat) (j : Nat) (y : Cg) : Prop := ∃ i, i < j ∧ y = ((f i).1, (f i).2, true) ∧ P0 (f i).1 (f i).2 = false
def naM2 (P0 P : Pd) (n : Nat) (f f0 : Nat → Nat × Nat) (j : Nat) (y : Cg) : Prop := naM1 P0 f n y ∨ ∃ i, i < j ∧ y = ((f0 i).1, (f0 i).2, false) ∧ P (f0 i).1 (f0 i).2 = false
theorem naM1_skip {P0 : Pd} {f : Nat → Nat × Nat} {j : Nat} (h : P0 (f j).1 (f j).2 = true) (y : Cg) : naM1 P0 f j y ↔ naM1 P0 f (j + 1) y := by
  constructor
  · rintro ⟨i, hi, r⟩; exact ⟨i, by omega, r⟩
  · rintro ⟨i, hi, r⟩
    refine ⟨i, ?_, r⟩
    by_cases e : i = j
    · rw [e, h] at r; cases r.2
    · omega
theorem naM1_add {P0 : Pd} {f : Nat → Nat × Nat} {j : Nat} (h : P0 (f j).1 (f j).2 = false) (y : Cg) : naM1 P0 f (j + 1) y ↔ naM1 P0 f j y ∨ y = ((f j).1, (f j).2, true) := by
  constructor
  · rintro ⟨i, hi, r⟩
    by_cases e : i = j
    · rw [e] at r; exact Or.inr r.1
    · exact Or.inl ⟨i, by omega, r⟩
  · rintro (⟨i, hi, r⟩ | r)
    · exact ⟨i, by omega, r⟩
    · exact ⟨j, by omega, r, h⟩
theorem naM2_skip {P0 P : Pd} {n : Nat} {f f0 : Nat → Nat × Nat} {j : Nat} (h : P (f0 j).1 (f0 j).2 = true) (y : Cg) : naM2 P0 P n f f0 j y ↔ naM2 P0 P n f f0 (j + 1) y := by
  unfold naM2
  constructor
  · rintro (r | ⟨i, hi, r⟩)
    · exact Or.inl r
    · exact Or.inr ⟨i, by omega, r⟩
  · rintro (r | ⟨i, hi, r⟩)
    · exact Or.inl r
    · refine Or.inr ⟨i, ?_, r⟩
      by_cases e : i = j
      · rw [e, h] at r; cases r.2
      · omega
theorem naM2_add {P0 P : Pd} {n : Nat} {f f0 : Nat → Nat × Nat} {j : Nat} (h : P (f0 j).1 (f0 j).2 = false) (y : Cg) : naM2 P0 P n f f0 (j + 1) y ↔ naM2 P0 P n f f0 j y ∨ y = ((f0 j).1, (f0 j).2, false) := by
  unfold naM2
  constructor
  · rintro (r | ⟨i, hi, r⟩)
    · exact Or.inl (Or.inl r)
    · by_cases e : i = j
      · rw [e] at r; exact Or.inr r.1
      · exact Or.inl (Or.inr ⟨i, by omega, r⟩)
  · rintro ((r | ⟨i, hi, r⟩) | r)
    · exact Or.inl r
    · exact Or.inr ⟨i, by omega, r⟩
    · exact Or.inr ⟨j, by omega, r, h⟩
theorem naM1_new {v : Nat → Int32} {A : Nat → Nat → Int32} {S : St} {P0 : Pd} {n : Nat} {f : Nat → Nat × Nat} {j : Nat} (hL : RLs v A S n f) (hj : j < n) {L : List Cg} (h : ∀ y, y ∈ L ↔ naM1 P0 f j y) : ∀ y ∈ L, ¬ (y.1 = (f j).1 ∧ y.2.1 = (f j).2) := by
  intro y hy q
  obtain ⟨i, hi, r, _⟩ := (h y).mp hy
  rw [r] at q
  have := hL.2.1 i j (by omega) hj (Prod.ext q.1 q.2)
  omega
theorem naM2_new {v : Nat → Int32} {A : Nat → Nat → Int32} {S S0 : St} {n n0 : Nat} {f f0 : Nat → Nat × Nat} {j : Nat} (hL : RLs v A S n f) (hO : OLs v A S0 n0 f0) (hj : j < n0) (hf : S.1 (f0 j).1 (f0 j).2 = false) {L : List Cg} (h : ∀ y, y ∈ L ↔ naM2 S0.1 S.1 n f f0 j y) : ∀ y ∈ L, ¬ (y.1 = (f0 j).1 ∧ y.2.1 = (f0 j).2) := by
  intro y hy q
  rcases (h y).mp hy with ⟨i, hi, r, _⟩ | ⟨i, hi, r, _⟩
  · rw [r] at q
    have := (hL.2.2.1 (f0 j).1 (f0 j).2).mpr ⟨i, hi, Prod.ext q.1 q.2⟩
    rw [hf] at this; cases this
  · rw [r] at q
    have := hO.2.1 i j (by omega) hj (Prod.ext q.1 q.2)
    omega
def naP (v : Nat → Int32) (A : Nat → Nat → Int32) (P0 P : Pd) (v' : Nat → Int32) (A' : Nat → Nat → Int32) : Prop := FN v A v' A' ∧ ∃ L, v' 34 = nI L.length ∧ L.length ≤ 240 ∧ chR A' L ∧ okC L ∧ isCh P0 P L
theorem na_end {v v' : Nat → Int32} {A A' : Nat → Nat → Int32} {S S0 : St} {n n0 : Nat} {f f0 : Nat → Nat × Nat} (ho : okS S) (ho0 : okS S0) (hL : RLs v A S n f) (hO : OLs v A S0 n0 f0) (h : naI v A (naM2 S0.1 S.1 n f f0 n0) (n + n0) v' A') : naP v A S0.1 S.1 v' A' := by
  have h1 := (RL_n hL ho).2
  have h2 := OL_n hO ho0
  obtain ⟨hf, L, a1, a2, a3, a4, a5, a6⟩ := h
  refine ⟨hf, L, a1, by omega, a3, a5, a4, fun g c b => ?_⟩
  rw [a6]
  constructor
  · rintro (⟨i, hi, r, r2⟩ | ⟨i, hi, r, r2⟩)
    · cases r
      exact Or.inl ⟨rfl, (hL.2.2.1 _ _).mpr ⟨i, hi, rfl⟩, r2⟩
    · cases r
      exact Or.inr ⟨rfl, r2, (hO.2.2.1 _ _).mpr ⟨i, hi, rfl⟩⟩
  · rintro (⟨rfl, q1, q2⟩ | ⟨rfl, q1, q2⟩)
    · obtain ⟨i, hi, e⟩ := (hL.2.2.1 g c).mp q1
      exact Or.inl ⟨i, hi, by rw [e], by rw [e]; exact q2⟩
    · obtain ⟨i, hi, e⟩ := (hO.2.2.1 g c).mp q2
      exact Or.inr ⟨i, hi, by rw [e], by rw [e]; exact q1⟩
theorem RLs.FN {v v' : Nat → Int32} {A A' : Nat → Nat → Int32} {S : St} {n : Nat} {f : Nat → Nat × Nat} (h : RLs v A S n f) (hf : FN v A v' A') : RLs v' A' S n f := by
  unfold RLs at h ⊢
  rw [hf.1 20 (by decide), hf.1 26 (by decide), hf.2 19 (by decide), hf.2 20 (by decide), hf.2 21 (by decide), hf.2 22 (by decide), hf.2 23 (by decide)]
  exact h
theorem OLs.FN {v v' : Nat → Int32} {A A' : Nat → Nat → Int32} {S : St} {n : Nat} {f : Nat → Nat × Nat} (h : OLs v A S n f) (hf : FN v A v' A') : OLs v' A' S n f := by
  unfold OLs at h ⊢
  rw [hf.1 27 (by decide), hf.1 33 (by decide), hf.2 24 (by decide), hf.2 25 (by decide), hf.2 26 (by decide), hf.2 27 (by decide), hf.2 28 (by decide)]
  exact h
theorem find_neg {v : Nat → Int32} {A : Nat → Nat → Int32} {S : St} {n : Nat} {f : Nat → Nat × Nat} (h : RLs v A S n f) (ho : okS S) {g c : Nat} (hg : g < 7) (hc : okc c) : (¬ 0 ≤ fX9_find v A (nI g) (nI (pt c 0)) (nI (pt c 1)) (nI (pt c 2)) → S.1 g c = false) ∧ (0 ≤ fX9_find v A (nI g) (nI (pt c 0)) (nI (pt c 1)) (nI (pt c 2)) → S.1 g c = true) := by
  have hn := (RL_n h ho).2
  rcases find_s h ho hg hc with ⟨hf, e⟩ | ⟨j, hj, _, hf, e⟩
  · rw [e]; exact ⟨fun _ => hf, fun q => absurd q (by decide)⟩
  · rw [e]; exact ⟨fun q => absurd (nI_pos' (by omega)) q, fun _ => hf⟩
/-- the sequence, as the reference holds it -/
def QR (v : Nat → Int32) (A : Nat → Nat → Int32) (Q : List Sq) : Prop := v 1 = nI Q.length ∧ Q.length ≤ 12 ∧ ∀ i q, Q[i]? = some q → ER A i q ∧ okQ q
theorem aRun_append (TN : Nat → Bool) (FL : Nat → List Nat) : ∀ (l l' : List Sq) (i : Nat) (S : St) (w : Nat), aRun TN FL (l ++ l') i S w = (match aRun TN FL l i S w with
    | .inl a => .inl a
    | .inr a => aRun TN FL l' (i + l.length) a.1 a.2)
  | [], l', i, S, w => rfl
  | q :: qs, l', i, S, w => by
    rw [List.cons_append, aRun, aRun]
    split
    · rw [aRun_append TN FL qs l' (i + 1), List.length_cons, show i + 1 + qs.length = i + (qs.length + 1) by omega]
    · rfl
theorem aRun_step {TN : Nat → Bool} {FL : Nat → List Nat} {Q : List Sq} {j : Nat} {q : Sq} {S S' : St} {w' : Nat} (hj : Q[j]? = some q) (e : aRun TN FL (Q.take j) 0 S 0 = .inr (S', w')) : aRun TN FL (Q.take (j + 1)) 0 S 0 = (if (aAct TN FL q S').1 = 0 ∨ (q.2.2.2.1 = true ∧ (aAct TN FL q S').1 < 4) then .inr ((aAct TN FL q S').2.1, w' + (aAct TN FL q S').2.2) else .inl (j, (aAct TN FL q S').1)) := by
  have hl := (List.getElem?_eq_some_iff.mp hj).1
  rw [List.take_succ, hj, aRun_append, e]
  show aRun TN FL [q] (0 + (Q.take j).length) S' w' = _
  rw [List.length_take, Nat.min_eq_left (by omega), Nat.zero_add]
  simp only [aRun]
theorem aRun_fail {TN : Nat → Bool} {FL : Nat → List Nat} {Q : List Sq} {j : Nat} {S : St} {a : Nat × Nat} (h : aRun TN FL (Q.take j) 0 S 0 = .inl a) : aRun TN FL Q 0 S 0 = .inl a := by
  rw [← List.take_append_drop j Q, aRun_append, h]
/-- all but what steps change -/
def rnF (v : Nat → Int32) (A : Nat → Nat → Int32) (v' : Nat → Int32) (A' : Nat → Nat → Int32) : Prop := v' 0 = 0 ∧ v' 1 = v 1 ∧ v' 34 = v 34 ∧ (∀ q, q < 19 ∨ (29 ≤ q ∧ q ≤ 33) → A' q = A q)
def rn0 (v : Nat → Int32) (A : Nat → Nat → Int32) (S : St) (v' : Nat → Int32) (A' : Nat → Nat → Int32) : Prop := rnF v A v' A' ∧ v' 42 = -1 ∧ v' 41 = 0 ∧ RC v' A' S ∧ OC v' A' S
def rn1 (TN : Nat → Bool) (FL : Nat → List Nat) (v : Nat → Int32) (A : Nat → Nat → Int32) (S : St) (Q : List Sq) (j : Nat) (v' : Nat → Int32) (A' : Nat → Nat → Int32) : Prop := rnF v A v' A' ∧ v' 42 = -1 ∧ OC v' A' S ∧ ∃ S' w', aRun TN FL (Q.take j) 0 S 0 = .inr (S', w') ∧ RC v' A' S' ∧ v' 41 = nI w'
def rnP (TN : Nat → Bool) (FL : Nat → List Nat) (v : Nat → Int32) (A : Nat → Nat → Int32) (S : St) (Q : List Sq) (w : Int32) (v' : Nat → Int32) (A' : Nat → Nat → Int32) : Prop :=
  v' 0 = 0 ∧ v' 1 = v 1 ∧ (∀ q, q < 19 → A' q = A q) ∧
  (∀ i rs, aRun TN FL Q 0 S 0 = .inl (i, rs) → w = (-1) - nI rs ∧ v' 42 = nI i ∧ v' 41 = 0 ∧ RC v' A' S ∧ v' 34 = v 34 ∧ ∀ q, 29 ≤ q → q ≤ 33 → A' q = A q) ∧
  (∀ S' wk', aRun TN FL Q 0 S 0 = .inr (S', wk') → v' 42 = -1 ∧ v' 41 = nI wk' ∧ RC v' A' S' ∧ ∃ L, w = nI L.length ∧ v' 34 = nI L.length ∧ L.length ≤ 240 ∧ chR A' L ∧ okC L ∧ isCh S.1 S'.1 L)
theorem rn0_0 {v v1 : Nat → Int32} {A A1 : Nat → Nat → Int32} {S : St} (hR : RC v A S) (h : keP (upd v 0 0) A S v1 A1) : rn0 v A S (upd (upd v1 41 0) 42 (-1)) A1 := by
  have e : ∀ k, k ≠ 27 → k ≠ 33 → k ≠ 41 → k ≠ 42 → (upd (upd v1 41 0) 42 (-1)) k = (upd v 0 0) k := fun k a b c d => by rw [← h.1 k a b]; simp [upd, c, d]
  refine ⟨⟨by rw [e 0 (by decide) (by decide) (by decide) (by decide)]; simp [upd], by rw [e 1 (by decide) (by decide) (by decide) (by decide)]; simp [upd], by rw [e 34 (by decide) (by decide) (by decide) (by decide)]; simp [upd], fun q hq => h.2.1 q (by omega)⟩, by simp [upd], by simp [upd], ?_, ?_⟩
  · exact RC_v hR (by rw [e 20 (by decide) (by decide) (by decide) (by decide)]; simp [upd]) (by rw [e 26 (by decide) (by decide) (by decide) (by decide)]; simp [upd]) (fun q _ h2 => h.2.1 q (by omega))
  · exact h.2.2.kept (by simp [upd]) (by simp [upd]) (fun _ _ _ => rfl)
theorem rn0_34 {v v1 : Nat → Int32} {A A1 : Nat → Nat → Int32} {S : St} {g : Nat → Int32} (h : rn0 v A S v1 A1) : rn0 v A S v1 (u1 A1 34 g) := by
  have e : ∀ q, q ≠ 34 → u1 A1 34 g q = A1 q := fun q hq => by simp [u1, hq]
  exact ⟨⟨h.1.1, h.1.2.1, h.1.2.2.1, fun q hq => (e q (by omega)).trans (h.1.2.2.2 q hq)⟩, h.2.1, h.2.2.1, RC_made h.2.2.2.1 (by decide), h.2.2.2.2.kept rfl rfl (fun q _ h2 => e q (by omega))⟩
theorem rn1_0 {TN : Nat → Bool} {FL : Nat → List Nat} {v v1 : Nat → Int32} {A A1 : Nat → Nat → Int32} {S : St} {Q : List Sq} (h : rn0 v A S v1 A1) : rn1 TN FL v A S Q 0 v1 A1 :=
  ⟨h.1, h.2.1, h.2.2.2.2, S, 0, by rw [List.take_zero]; rfl, h.2.2.2.1, h.2.2.1⟩
theorem rn1_F {v v1 v2 : Nat → Int32} {A A1 A2 : Nat → Nat → Int32} (h : rnF v A v1 A1) (hf : FS v1 A1 v2 A2) : rnF v A v2 A2 :=
  ⟨(hf.1 0 (by decide) (by decide) (by decide) (by decide) (by decide) (by decide)).trans h.1, (hf.1 1 (by decide) (by decide) (by decide) (by decide) (by decide) (by decide)).trans h.2.1, (hf.1 34 (by decide) (by decide) (by decide) (by decide) (by decide) (by decide)).trans h.2.2.1, fun q hq => (hf.2 q (by omega)).trans (h.2.2.2 q hq)⟩
theorem rn1_O {v1 v2 : Nat → Int32} {A1 A2 : Nat → Nat → Int32} {S : St} (h : OC v1 A1 S) (hf : FS v1 A1 v2 A2) : OC v2 A2 S :=
  h.kept (hf.1 27 (by decide) (by decide) (by decide) (by decide) (by decide) (by decide)) (hf.1 33 (by decide) (by decide) (by decide) (by decide) (by decide) (by decide)) (fun q h1 h2 => hf.2 q (by omega))
theorem rn1_next {TN : Nat → Bool} {FL : Nat → List Nat} {v v1 v2 : Nat → Int32} {A A1 A2 : Nat → Nat → Int32} {S S' : St} {Q : List Sq} {j w' : Nat} {q : Sq} {w : Int32} (hj : Q[j]? = some q) (hF : rnF v A v1 A1) (h42 : v1 42 = -1) (hO : OC v1 A1 S) (e : aRun TN FL (Q.take j) 0 S 0 = .inr (S', w')) (h41 : v1 41 = nI w') (h : AR v1 A1 (aAct TN FL q S') w v2 A2) (hz : (aAct TN FL q S').1 = 0 ∨ (q.2.2.2.1 = true ∧ (aAct TN FL q S').1 < 4)) : rn1 TN FL v A S Q (j + 1) v2 A2 := by
  have h4 : (aAct TN FL q S').1 < 4 := by rcases hz with r | r <;> omega
  refine ⟨rn1_F hF h.2.1, (h.2.1.1 42 (by decide) (by decide) (by decide) (by decide) (by decide) (by decide)).trans h42, rn1_O hO h.2.1, _, _, by rw [aRun_step hj e, if_pos hz], (h.2.2 h4).1, ?_⟩
  rw [(h.2.2 h4).2, h41, nI_add]
theorem rn_fail {TN : Nat → Bool} {FL : Nat → List Nat} {v v1 v2 v3 : Nat → Int32} {A A1 A2 A3 : Nat → Nat → Int32} {S S' : St} {Q : List Sq} {j w' : Nat} {q : Sq} {w : Int32} (hj : Q[j]? = some q) (hF : rnF v A v1 A1) (e : aRun TN FL (Q.take j) 0 S 0 = .inr (S', w')) (h : AR v1 A1 (aAct TN FL q S') w v2 A2) (hz : ¬ ((aAct TN FL q S').1 = 0 ∨ (q.2.2.2.1 = true ∧ (aAct TN FL q S').1 < 4))) (hb : gbP v2 A2 S v3 A3) : rnP TN FL v A S Q ((-1) - w) (upd (upd v3 42 (nI j)) 41 0) A3 := by
  have hr : aRun TN FL Q 0 S 0 = .inl (j, (aAct TN FL q S').1) := aRun_fail (j := j + 1) (by rw [aRun_step hj e, if_neg hz])
  have hF2 := rn1_F hF h.2.1
  have ev : ∀ k, k ≠ 20 → k ≠ 26 → k ≠ 41 → k ≠ 42 → (upd (upd v3 42 (nI j)) 41 0) k = v2 k := fun k a b c d => by rw [← hb.1 k a b]; simp [upd, c, d]
  refine ⟨by rw [ev 0 (by decide) (by decide) (by decide) (by decide)]; exact hF2.1, by rw [ev 1 (by decide) (by decide) (by decide) (by decide)]; exact hF2.2.1, fun q hq => (hb.2.1 q (by omega)).trans (hF2.2.2.2 q (by omega)), fun i rs hi => ?_, fun S2 w2 hi => by rw [hr] at hi; cases hi⟩
  rw [hr] at hi
  cases hi
  exact ⟨by rw [h.1], by simp [upd], by simp [upd], RC_v hb.2.2 (by simp [upd]) (by simp [upd]) (fun _ _ _ => rfl), by rw [ev 34 (by decide) (by decide) (by decide) (by decide)]; exact hF2.2.2.1, fun q h1 h2 => (hb.2.1 q (by omega)).trans (hF2.2.2.2 q (by omega))⟩
theorem rn_end {TN : Nat → Bool} {FL : Nat → List Nat} {v v1 v2 : Nat → Int32} {A A1 A2 : Nat → Nat → Int32} {S S' : St} {Q : List Sq} {w' : Nat} (hF : rnF v A v1 A1) (h42 : v1 42 = -1) (e : aRun TN FL (Q.take Q.length) 0 S 0 = .inr (S', w')) (hR : RC v1 A1 S') (h41 : v1 41 = nI w') (h : naP v1 A1 S.1 S'.1 v2 A2) : rnP TN FL v A S Q (v2 34) v2 A2 := by
  rw [List.take_length] at e
  obtain ⟨hf, L, a1, a2, a3, a4, a5⟩ := h
  refine ⟨(hf.1 0 (by decide)).trans hF.1, (hf.1 1 (by decide)).trans hF.2.1, fun q hq => (hf.2 q (by omega)).trans (hF.2.2.2 q (by omega)), fun i rs hi => (by rw [e] at hi; cases hi), fun S2 w2 hi => ?_⟩
  rw [e] at hi
  cases hi
  exact ⟨(hf.1 42 (by decide)).trans h42, (hf.1 41 (by decide)).trans h41, RC_v hR (hf.1 20 (by decide)) (hf.1 26 (by decide)) (fun q _ h2 => hf.2 q (by omega)), L, a1, a1, a2, a3, a4, a5⟩
theorem aAct_le {TN : Nat → Bool} {FL : Nat → List Nat} {q : Sq} {S : St} : (aAct TN FL q S).1 ≤ 5 := by
  unfold aAct aRew aWipe aMake aRead aBring
  dsimp only
  repeat' split
  all_goals first | decide | (show _ ≤ _; simp)
end
section
set_option maxHeartbeats 2000000 in
set_option maxRecDepth 10000 in
theorem hX9_noteAll {l : Launch} {D : va_G} {aC : Nat → ClassId} {b0 sz : Nat} {r : Nat} {v : Nat → Int32} {A : Nat → Nat → Int32} {R : ZM} {n n0 : Nat} {f f0 : Nat → Nat × Nat} {S S0 : St} (ho : okS S) (ho0 : okS S0) (hL : RLs v A S n f) (hO : OLs v A S0 n0 f0) : Ct l D aC b0 yX9_noteAll cX9_noteAll 2 none 2 0 0 [.ref (r)] (mm aC r v A R) sz (zpN (fun v A => mm aC r v A R) (naP v A S0.1 S.1)) := by
  refine Ct.of (by decide) (Nat.le_of_ble_eq_true rfl) ?_
  intro p e s m below meth c ls C hr hlk hnm hl
  have hl : lv_has ls 2 [(0, .ref (r))] := hl
  obtain ⟨hx, hb, -, -, -⟩ := id C
  have hn2 := (RL_n hL ho).2
  have hn02 := OL_n hO ho0
  refine zz (fun _ _ => lv_aload_n hx hb dX9_noteAll_0 rfl (lv_at hl 0 rfl)) ?_
  refine zz (fun _ _ => lv_iconst (v := 0) hx hb dX9_noteAll_1 (by decide)) ?_
  refine z_put C fp_X9_250 (fun h => by cases h) rm_0 (Nat.le_of_ble_eq_true rfl) rfl rfl dX9_noteAll_2 ?_
  refine zeq wm_f34 ?_
  refine zz (fun _ _ => lv_iconst (v := 0) hx hb dX9_noteAll_5 (by decide)) ?_
  refine zs (fun _ _ => lv_istore_n (lv' := [(1, .int (0)), (0, .ref (r))]) hx hb dX9_noteAll_6 rfl hl (by decide) rfl) (fun ls hl => ?_)
  have hl0 := lv_sub hl [1, 0] rfl
  refine z_loop (γ := (Nat → Int32) × (Nat → Nat → Int32)) (G := fun a => mm aC r a.1 a.2 R) (I := fun j a => naI v A (naM1 S0.1 f j) j a.1 a.2) (lv := fun j a => [(0, .ref (r)), (1, .int (nI (j)))]) (n) ?_ ?_ ((upd v 34 0), A) _ _ ⟨⟨fun k hk => by simp [upd, hk], fun _ _ => rfl⟩, [], by simp [upd]; rfl, Nat.le_refl _, fun i _ _ _ h => by simp at h, List.Pairwise.nil, fun y hy => by simp at hy, fun y => ⟨fun h => by simp at h, fun ⟨i, hi, _⟩ => absurd hi (Nat.not_lt_zero _)⟩⟩ hl0
  · intro j1 a1 sz ls hj1 hI1 hl ih1
    obtain ⟨v1, A1⟩ := a1
    dsimp only at hI1 hl ih1
    refine zeq (M' := (mm aC r v1 A1 R)) rfl ?_
    refine zz (fun _ _ => lv_iload_n hx hb dX9_noteAll_7 rfl (lv_at hl 1 rfl)) ?_
    refine zz (fun _ _ => lv_aload_n hx hb dX9_noteAll_8 rfl (lv_at hl 0 rfl)) ?_
    refine z_get (v := .int (v1 20)) C fd_X9_160 rm_0 rfl dX9_noteAll_9 ?_
    refine zval (v' := .int (nI n)) (congrArg Value.int ((hI1.1.1 20 (by decide)).trans hL.1)) ?_
    refine zb (fun _ _ => lv_icmp_ge (tgt := 81) hx hb dX9_noteAll_12 (by decide)) (fun c_2 => ?_) (fun c_2 => ?_)
    · exact absurd c_2 (nI_ge (by omega) (by omega))
    · refine zz (fun _ _ => lv_aload_n hx hb dX9_noteAll_15 rfl (lv_at hl 0 rfl)) ?_
      refine zz (fun _ _ => lv_aload_n hx hb dX9_noteAll_16 rfl (lv_at hl 0 rfl)) ?_
      refine z_get (v := .ref (r + 19)) C fd_X9_65 rm_0 rfl dX9_noteAll_17 ?_
      refine zz (fun _ _ => lv_iload_n hx hb dX9_noteAll_20 rfl (lv_at hl 1 rfl)) ?_
      refine z_iald (f := A1 19) C rm_19 (by first | assumption | (apply vp_in_nI <;> omega)) dX9_noteAll_21 ?_
      refine zval (v' := .int (nI (f j1).1)) (congrArg Value.int (rdI ((congrFun (hI1.1.2 19 (by decide)) _).trans (hL.2.2.2.1 j1 hj1).1) (by omega))) ?_
      refine zz (fun _ _ => lv_aload_n hx hb dX9_noteAll_22 rfl (lv_at hl 0 rfl)) ?_
      refine z_get (v := .ref (r + 20)) C fd_X9_68 rm_0 rfl dX9_noteAll_23 ?_
      refine zz (fun _ _ => lv_iload_n hx hb dX9_noteAll_26 rfl (lv_at hl 1 rfl)) ?_
      refine z_iald (f := A1 20) C rm_20 (by first | assumption | (apply vp_in_nI <;> omega)) dX9_noteAll_27 ?_
      refine zval (v' := .int (nI (pt (f j1).2 0))) (congrArg Value.int (rdI ((congrFun (hI1.1.2 20 (by decide)) _).trans (hL.2.2.2.1 j1 hj1).2.1) (by omega))) ?_
      refine zz (fun _ _ => lv_aload_n hx hb dX9_noteAll_28 rfl (lv_at hl 0 rfl)) ?_
      refine z_get (v := .ref (r + 21)) C fd_X9_71 rm_0 rfl dX9_noteAll_29 ?_
      refine zz (fun _ _ => lv_iload_n hx hb dX9_noteAll_32 rfl (lv_at hl 1 rfl)) ?_
      refine z_iald (f := A1 21) C rm_21 (by first | assumption | (apply vp_in_nI <;> omega)) dX9_noteAll_33 ?_
      refine zval (v' := .int (nI (pt (f j1).2 1))) (congrArg Value.int (rdI ((congrFun (hI1.1.2 21 (by decide)) _).trans (hL.2.2.2.1 j1 hj1).2.2.1) (by omega))) ?_
      refine zz (fun _ _ => lv_aload_n hx hb dX9_noteAll_34 rfl (lv_at hl 0 rfl)) ?_
      refine z_get (v := .ref (r + 22)) C fd_X9_74 rm_0 rfl dX9_noteAll_35 ?_
      refine zz (fun _ _ => lv_iload_n hx hb dX9_noteAll_38 rfl (lv_at hl 1 rfl)) ?_
      refine z_iald (f := A1 22) C rm_22 (by first | assumption | (apply vp_in_nI <;> omega)) dX9_noteAll_39 ?_
      refine zval (v' := .int (nI (pt (f j1).2 2))) (congrArg Value.int (rdI ((congrFun (hI1.1.2 22 (by decide)) _).trans (hL.2.2.2.1 j1 hj1).2.2.2) (by omega))) ?_
      refine zdV (As := [.int (nI (f j1).1), .int (nI (pt (f j1).2 0)), .int (nI (pt (f j1).2 1)), .int (nI (pt (f j1).2 2))]) (rest := []) (st' := [.int ((fX9_wasIn v1 A1 (nI (f j1).1) (nI (pt (f j1).2 0)) (nI (pt (f j1).2 1)) (nI (pt (f j1).2 2))))]) C hl.1 lk_X9_257 (ctX9_wasIn ((hI1.1.1 27 (by decide)).trans hO.1) hn02) rm_0 rfl rfl rfl (Nat.le_of_ble_eq_true rfl) ⟨by decide, by decide, by decide, by decide⟩ dX9_noteAll_40 rfl (fun sz => ?_)
      refine zval (v' := .int (tI (S0.1 (f j1).1 (f j1).2))) (congrArg Value.int (wasIn_s (hO.FN hI1.1) ho0 (RL_ok hL ho hj1).1 (RL_ok hL ho hj1).2)) ?_
      refine zbn (fun _ _ => lv_if_ne (tgt := 75) hx hb dX9_noteAll_43 (by decide)) (fun c_3 => ?_) (fun c_3 => ?_)
      · refine zs (fun _ _ => lv_iinc (v := nI (j1) + 1) (lv' := [(1, .int (nI (j1) + 1)), (0, .ref (r))]) hx hb dX9_noteAll_75 hl (k := 1) rfl rfl (by decide) rfl) (fun ls hl => ?_)
        refine zz (fun _ _ => lv_goto (tgt := 7) hx hb dX9_noteAll_78 (by decide)) ?_
        have hl := lv_sub hl [1, 0] rfl
        try simp only [nI_1] at hl
        exact ih1 (v1, A1) _ _ (na_same hI1 (by omega) (naM1_skip (tI_1.mp c_3))) hl
      · refine zz (fun _ _ => lv_aload_n hx hb dX9_noteAll_46 rfl (lv_at hl 0 rfl)) ?_
        refine zz (fun _ _ => lv_aload_n hx hb dX9_noteAll_47 rfl (lv_at hl 0 rfl)) ?_
        refine z_get (v := .ref (r + 19)) C fd_X9_65 rm_0 rfl dX9_noteAll_48 ?_
        refine zz (fun _ _ => lv_iload_n hx hb dX9_noteAll_51 rfl (lv_at hl 1 rfl)) ?_
        refine z_iald (f := A1 19) C rm_19 (by first | assumption | (apply vp_in_nI <;> omega)) dX9_noteAll_52 ?_
        refine zval (v' := .int (nI (f j1).1)) (congrArg Value.int (rdI ((congrFun (hI1.1.2 19 (by decide)) _).trans (hL.2.2.2.1 j1 hj1).1) (by omega))) ?_
        refine zz (fun _ _ => lv_aload_n hx hb dX9_noteAll_53 rfl (lv_at hl 0 rfl)) ?_
        refine z_get (v := .ref (r + 20)) C fd_X9_68 rm_0 rfl dX9_noteAll_54 ?_
        refine zz (fun _ _ => lv_iload_n hx hb dX9_noteAll_57 rfl (lv_at hl 1 rfl)) ?_
        refine z_iald (f := A1 20) C rm_20 (by first | assumption | (apply vp_in_nI <;> omega)) dX9_noteAll_58 ?_
        refine zval (v' := .int (nI (pt (f j1).2 0))) (congrArg Value.int (rdI ((congrFun (hI1.1.2 20 (by decide)) _).trans (hL.2.2.2.1 j1 hj1).2.1) (by omega))) ?_
        refine zz (fun _ _ => lv_aload_n hx hb dX9_noteAll_59 rfl (lv_at hl 0 rfl)) ?_
        refine z_get (v := .ref (r + 21)) C fd_X9_71 rm_0 rfl dX9_noteAll_60 ?_
        refine zz (fun _ _ => lv_iload_n hx hb dX9_noteAll_63 rfl (lv_at hl 1 rfl)) ?_
        refine z_iald (f := A1 21) C rm_21 (by first | assumption | (apply vp_in_nI <;> omega)) dX9_noteAll_64 ?_
        refine zval (v' := .int (nI (pt (f j1).2 1))) (congrArg Value.int (rdI ((congrFun (hI1.1.2 21 (by decide)) _).trans (hL.2.2.2.1 j1 hj1).2.2.1) (by omega))) ?_
        refine zz (fun _ _ => lv_aload_n hx hb dX9_noteAll_65 rfl (lv_at hl 0 rfl)) ?_
        refine z_get (v := .ref (r + 22)) C fd_X9_74 rm_0 rfl dX9_noteAll_66 ?_
        refine zz (fun _ _ => lv_iload_n hx hb dX9_noteAll_69 rfl (lv_at hl 1 rfl)) ?_
        refine z_iald (f := A1 22) C rm_22 (by first | assumption | (apply vp_in_nI <;> omega)) dX9_noteAll_70 ?_
        refine zval (v' := .int (nI (pt (f j1).2 2))) (congrArg Value.int (rdI ((congrFun (hI1.1.2 22 (by decide)) _).trans (hL.2.2.2.1 j1 hj1).2.2.2) (by omega))) ?_
        obtain ⟨hf8, L8, e8, hl8, hc8, hs8, ho8, hm8⟩ := id hI1
        refine zz (fun _ _ => lv_iconst (v := 1) hx hb dX9_noteAll_71 (by decide)) ?_
        refine zval (v' := .int (tI true)) (congrArg Value.int rfl) ?_
        refine zqVN (As := [.int (nI (f j1).1), .int (nI (pt (f j1).2 0)), .int (nI (pt (f j1).2 1)), .int (nI (pt (f j1).2 2)), .int (tI true)]) (rest := []) C hl.1 lk_X9_260 (hX9_note e8 (by omega) (RL_ok hL ho hj1).1 (RL_ok hL ho hj1).2 hc8 hs8 ho8 (naM1_new hL hj1 hm8)) rm_0 rfl rfl rfl (Nat.le_of_ble_eq_true rfl) ⟨by decide, by decide, by decide, by decide⟩ dX9_noteAll_72 (fun v4 A4 sz h4 => ?_)
        refine zeq (M' := (mm aC r v4 A4 R)) rfl ?_
        refine zs (fun _ _ => lv_iinc (v := nI (j1) + 1) (lv' := [(1, .int (nI (j1) + 1)), (0, .ref (r))]) hx hb dX9_noteAll_75 hl (k := 1) rfl rfl (by decide) rfl) (fun ls hl => ?_)
        refine zz (fun _ _ => lv_goto (tgt := 7) hx hb dX9_noteAll_78 (by decide)) ?_
        have hl := lv_sub hl [1, 0] rfl
        try simp only [nI_1] at hl
        exact ih1 (v4, A4) _ _ (na_note hf8 hl8 hm8 h4 (Nat.le_refl _) (naM1_add (tI_0.mp c_3))) hl
  · intro a1 sz ls hI1 hl
    obtain ⟨v1, A1⟩ := a1
    dsimp only at hI1 hl
    refine zeq (M' := (mm aC r v1 A1 R)) rfl ?_
    refine zz (fun _ _ => lv_iload_n hx hb dX9_noteAll_7 rfl (lv_at hl 1 rfl)) ?_
    refine zz (fun _ _ => lv_aload_n hx hb dX9_noteAll_8 rfl (lv_at hl 0 rfl)) ?_
    refine z_get (v := .int (v1 20)) C fd_X9_160 rm_0 rfl dX9_noteAll_9 ?_
    refine zval (v' := .int (nI n)) (congrArg Value.int ((hI1.1.1 20 (by decide)).trans hL.1)) ?_
    refine zb (fun _ _ => lv_icmp_ge (tgt := 81) hx hb dX9_noteAll_12 (by decide)) (fun c_5 => ?_) (fun c_5 => ?_)
    · refine zz (fun _ _ => lv_iconst (v := 0) hx hb dX9_noteAll_81 (by decide)) ?_
      refine zs (fun _ _ => lv_istore_n (lv' := [(1, .int (0)), (0, .ref (r))]) hx hb dX9_noteAll_82 rfl hl (by decide) rfl) (fun ls hl => ?_)
      have hl0 := lv_sub hl [1, 0] rfl
      refine z_loop (γ := (Nat → Int32) × (Nat → Nat → Int32)) (G := fun a => mm aC r a.1 a.2 R) (I := fun j a => naI v A (naM2 S0.1 S.1 n f f0 j) (n + j) a.1 a.2) (lv := fun j a => [(0, .ref (r)), (1, .int (nI (j)))]) (n0) ?_ ?_ (v1, A1) _ _ (na_same hI1 (by omega) (fun y => ⟨Or.inl, fun q => q.elim id (fun ⟨i, hi, _⟩ => absurd hi (Nat.not_lt_zero _))⟩)) hl0
      · intro j6 a6 sz ls hj6 hI6 hl ih6
        obtain ⟨v6, A6⟩ := a6
        dsimp only at hI6 hl ih6
        refine zeq (M' := (mm aC r v6 A6 R)) rfl ?_
        refine zz (fun _ _ => lv_iload_n hx hb dX9_noteAll_83 rfl (lv_at hl 1 rfl)) ?_
        refine zz (fun _ _ => lv_aload_n hx hb dX9_noteAll_84 rfl (lv_at hl 0 rfl)) ?_
        refine z_get (v := .int (v6 27)) C fd_X9_244 rm_0 rfl dX9_noteAll_85 ?_
        refine zval (v' := .int (nI n0)) (congrArg Value.int ((hI6.1.1 27 (by decide)).trans hO.1)) ?_
        refine zb (fun _ _ => lv_icmp_ge (tgt := 157) hx hb dX9_noteAll_88 (by decide)) (fun c_7 => ?_) (fun c_7 => ?_)
        · exact absurd c_7 (nI_ge (by omega) (by omega))
        · refine zz (fun _ _ => lv_aload_n hx hb dX9_noteAll_91 rfl (lv_at hl 0 rfl)) ?_
          refine zz (fun _ _ => lv_aload_n hx hb dX9_noteAll_92 rfl (lv_at hl 0 rfl)) ?_
          refine z_get (v := .ref (r + 24)) C fd_X9_80 rm_0 rfl dX9_noteAll_93 ?_
          refine zz (fun _ _ => lv_iload_n hx hb dX9_noteAll_96 rfl (lv_at hl 1 rfl)) ?_
          refine z_iald (f := A6 24) C rm_24 (by first | assumption | (apply vp_in_nI <;> omega)) dX9_noteAll_97 ?_
          refine zval (v' := .int (nI (f0 j6).1)) (congrArg Value.int (rdI ((congrFun (hI6.1.2 24 (by decide)) _).trans (hO.2.2.2.1 j6 hj6).1) (by omega))) ?_
          refine zz (fun _ _ => lv_aload_n hx hb dX9_noteAll_98 rfl (lv_at hl 0 rfl)) ?_
          refine z_get (v := .ref (r + 25)) C fd_X9_83 rm_0 rfl dX9_noteAll_99 ?_
          refine zz (fun _ _ => lv_iload_n hx hb dX9_noteAll_102 rfl (lv_at hl 1 rfl)) ?_
          refine z_iald (f := A6 25) C rm_25 (by first | assumption | (apply vp_in_nI <;> omega)) dX9_noteAll_103 ?_
          refine zval (v' := .int (nI (pt (f0 j6).2 0))) (congrArg Value.int (rdI ((congrFun (hI6.1.2 25 (by decide)) _).trans (hO.2.2.2.1 j6 hj6).2.1) (by omega))) ?_
          refine zz (fun _ _ => lv_aload_n hx hb dX9_noteAll_104 rfl (lv_at hl 0 rfl)) ?_
          refine z_get (v := .ref (r + 26)) C fd_X9_86 rm_0 rfl dX9_noteAll_105 ?_
          refine zz (fun _ _ => lv_iload_n hx hb dX9_noteAll_108 rfl (lv_at hl 1 rfl)) ?_
          refine z_iald (f := A6 26) C rm_26 (by first | assumption | (apply vp_in_nI <;> omega)) dX9_noteAll_109 ?_
          refine zval (v' := .int (nI (pt (f0 j6).2 1))) (congrArg Value.int (rdI ((congrFun (hI6.1.2 26 (by decide)) _).trans (hO.2.2.2.1 j6 hj6).2.2.1) (by omega))) ?_
          refine zz (fun _ _ => lv_aload_n hx hb dX9_noteAll_110 rfl (lv_at hl 0 rfl)) ?_
          refine z_get (v := .ref (r + 27)) C fd_X9_89 rm_0 rfl dX9_noteAll_111 ?_
          refine zz (fun _ _ => lv_iload_n hx hb dX9_noteAll_114 rfl (lv_at hl 1 rfl)) ?_
          refine z_iald (f := A6 27) C rm_27 (by first | assumption | (apply vp_in_nI <;> omega)) dX9_noteAll_115 ?_
          refine zval (v' := .int (nI (pt (f0 j6).2 2))) (congrArg Value.int (rdI ((congrFun (hI6.1.2 27 (by decide)) _).trans (hO.2.2.2.1 j6 hj6).2.2.2) (by omega))) ?_
          refine zdV (As := [.int (nI (f0 j6).1), .int (nI (pt (f0 j6).2 0)), .int (nI (pt (f0 j6).2 1)), .int (nI (pt (f0 j6).2 2))]) (rest := []) (st' := [.int ((fX9_find v6 A6 (nI (f0 j6).1) (nI (pt (f0 j6).2 0)) (nI (pt (f0 j6).2 1)) (nI (pt (f0 j6).2 2))))]) C hl.1 lk_X9_163 (ctX9_find ((hI6.1.1 20 (by decide)).trans hL.1) hn2) rm_0 rfl rfl rfl (Nat.le_of_ble_eq_true rfl) ⟨by decide, by decide, by decide, by decide⟩ dX9_noteAll_116 rfl (fun sz => ?_)
          refine zb (fun _ _ => lv_if_ge (tgt := 151) hx hb dX9_noteAll_119 (by decide)) (fun c_8 => ?_) (fun c_8 => ?_)
          · refine zs (fun _ _ => lv_iinc (v := nI (j6) + 1) (lv' := [(1, .int (nI (j6) + 1)), (0, .ref (r))]) hx hb dX9_noteAll_151 hl (k := 1) rfl rfl (by decide) rfl) (fun ls hl => ?_)
            refine zz (fun _ _ => lv_goto (tgt := 83) hx hb dX9_noteAll_154 (by decide)) ?_
            have hl := lv_sub hl [1, 0] rfl
            try simp only [nI_1] at hl
            exact ih6 (v6, A6) _ _ (na_same hI6 (by omega) (naM2_skip ((find_neg (hL.FN hI6.1) ho (OL_ok hO ho0 hj6).1 (OL_ok hO ho0 hj6).2).2 c_8))) hl
          · refine zz (fun _ _ => lv_aload_n hx hb dX9_noteAll_122 rfl (lv_at hl 0 rfl)) ?_
            refine zz (fun _ _ => lv_aload_n hx hb dX9_noteAll_123 rfl (lv_at hl 0 rfl)) ?_
            refine z_get (v := .ref (r + 24)) C fd_X9_80 rm_0 rfl dX9_noteAll_124 ?_
            refine zz (fun _ _ => lv_iload_n hx hb dX9_noteAll_127 rfl (lv_at hl 1 rfl)) ?_
            refine z_iald (f := A6 24) C rm_24 (by first | assumption | (apply vp_in_nI <;> omega)) dX9_noteAll_128 ?_
            refine zval (v' := .int (nI (f0 j6).1)) (congrArg Value.int (rdI ((congrFun (hI6.1.2 24 (by decide)) _).trans (hO.2.2.2.1 j6 hj6).1) (by omega))) ?_
            refine zz (fun _ _ => lv_aload_n hx hb dX9_noteAll_129 rfl (lv_at hl 0 rfl)) ?_
            refine z_get (v := .ref (r + 25)) C fd_X9_83 rm_0 rfl dX9_noteAll_130 ?_
            refine zz (fun _ _ => lv_iload_n hx hb dX9_noteAll_133 rfl (lv_at hl 1 rfl)) ?_
            refine z_iald (f := A6 25) C rm_25 (by first | assumption | (apply vp_in_nI <;> omega)) dX9_noteAll_134 ?_
            refine zval (v' := .int (nI (pt (f0 j6).2 0))) (congrArg Value.int (rdI ((congrFun (hI6.1.2 25 (by decide)) _).trans (hO.2.2.2.1 j6 hj6).2.1) (by omega))) ?_
            refine zz (fun _ _ => lv_aload_n hx hb dX9_noteAll_135 rfl (lv_at hl 0 rfl)) ?_
            refine z_get (v := .ref (r + 26)) C fd_X9_86 rm_0 rfl dX9_noteAll_136 ?_
            refine zz (fun _ _ => lv_iload_n hx hb dX9_noteAll_139 rfl (lv_at hl 1 rfl)) ?_
            refine z_iald (f := A6 26) C rm_26 (by first | assumption | (apply vp_in_nI <;> omega)) dX9_noteAll_140 ?_
            refine zval (v' := .int (nI (pt (f0 j6).2 1))) (congrArg Value.int (rdI ((congrFun (hI6.1.2 26 (by decide)) _).trans (hO.2.2.2.1 j6 hj6).2.2.1) (by omega))) ?_
            refine zz (fun _ _ => lv_aload_n hx hb dX9_noteAll_141 rfl (lv_at hl 0 rfl)) ?_
            refine z_get (v := .ref (r + 27)) C fd_X9_89 rm_0 rfl dX9_noteAll_142 ?_
            refine zz (fun _ _ => lv_iload_n hx hb dX9_noteAll_145 rfl (lv_at hl 1 rfl)) ?_
            refine z_iald (f := A6 27) C rm_27 (by first | assumption | (apply vp_in_nI <;> omega)) dX9_noteAll_146 ?_
            refine zval (v' := .int (nI (pt (f0 j6).2 2))) (congrArg Value.int (rdI ((congrFun (hI6.1.2 27 (by decide)) _).trans (hO.2.2.2.1 j6 hj6).2.2.2) (by omega))) ?_
            obtain ⟨hf8, L8, e8, hl8, hc8, hs8, ho8, hm8⟩ := id hI6
            refine zz (fun _ _ => lv_iconst (v := 0) hx hb dX9_noteAll_147 (by decide)) ?_
            refine zval (v' := .int (tI false)) (congrArg Value.int rfl) ?_
            refine zqVN (As := [.int (nI (f0 j6).1), .int (nI (pt (f0 j6).2 0)), .int (nI (pt (f0 j6).2 1)), .int (nI (pt (f0 j6).2 2)), .int (tI false)]) (rest := []) C hl.1 lk_X9_260 (hX9_note e8 (by omega) (OL_ok hO ho0 hj6).1 (OL_ok hO ho0 hj6).2 hc8 hs8 ho8 (naM2_new hL hO hj6 ((find_neg (hL.FN hI6.1) ho (OL_ok hO ho0 hj6).1 (OL_ok hO ho0 hj6).2).1 c_8) hm8)) rm_0 rfl rfl rfl (Nat.le_of_ble_eq_true rfl) ⟨by decide, by decide, by decide, by decide⟩ dX9_noteAll_148 (fun v9 A9 sz h9 => ?_)
            refine zeq (M' := (mm aC r v9 A9 R)) rfl ?_
            refine zs (fun _ _ => lv_iinc (v := nI (j6) + 1) (lv' := [(1, .int (nI (j6) + 1)), (0, .ref (r))]) hx hb dX9_noteAll_151 hl (k := 1) rfl rfl (by decide) rfl) (fun ls hl => ?_)
            refine zz (fun _ _ => lv_goto (tgt := 83) hx hb dX9_noteAll_154 (by decide)) ?_
            have hl := lv_sub hl [1, 0] rfl
            try simp only [nI_1] at hl
            exact ih6 (v9, A9) _ _ (na_note hf8 hl8 hm8 h9 (by omega) (naM2_add ((find_neg (hL.FN hI6.1) ho (OL_ok hO ho0 hj6).1 (OL_ok hO ho0 hj6).2).1 c_8))) hl
      · intro a6 sz ls hI6 hl
        obtain ⟨v6, A6⟩ := a6
        dsimp only at hI6 hl
        refine zeq (M' := (mm aC r v6 A6 R)) rfl ?_
        refine zz (fun _ _ => lv_iload_n hx hb dX9_noteAll_83 rfl (lv_at hl 1 rfl)) ?_
        refine zz (fun _ _ => lv_aload_n hx hb dX9_noteAll_84 rfl (lv_at hl 0 rfl)) ?_
        refine z_get (v := .int (v6 27)) C fd_X9_244 rm_0 rfl dX9_noteAll_85 ?_
        refine zval (v' := .int (nI n0)) (congrArg Value.int ((hI6.1.1 27 (by decide)).trans hO.1)) ?_
        refine zb (fun _ _ => lv_icmp_ge (tgt := 157) hx hb dX9_noteAll_88 (by decide)) (fun c_10 => ?_) (fun c_10 => ?_)
        · exact z_vret C hr hlk dX9_noteAll_157 (zpN_mk (a := v6) (b := A6) (na_end ho ho0 hL hO hI6))
        · exact absurd (nI_le (Nat.le_refl _) (by omega)) c_10
    · exact absurd (nI_le (Nat.le_refl _) (by omega)) c_5
end
section
theorem rn_z {w : Int32} {n : Nat} (h : w = nI n) (hn : n ≤ 5) (hz : w ≤ 0) : n = 0 := by
  rcases Nat.eq_zero_or_pos n with q | q
  · exact q
  · rw [h] at hz; exact absurd hz (nI_nle q (by omega))
theorem rn_4 {w : Int32} {n : Nat} (h : w = nI n) (hn : n ≤ 5) (hz : w < 4) : n < 4 := by
  rw [h] at hz; exact (nI_ltI (b := 4) (by omega) (by decide)).mp hz
theorem rn_n1 {w : Int32} {n : Nat} {b : Bool} (h : w = nI n) (hn : n ≤ 5) (h0 : ¬ w ≤ 0) (hb : b = false) : ¬ (n = 0 ∨ (b = true ∧ n < 4)) := by
  rintro (q | q)
  · exact h0 (by rw [h, q]; decide)
  · rw [hb] at q; cases q.1
theorem rn_n2 {w : Int32} {n : Nat} {b : Bool} (h : w = nI n) (hn : n ≤ 5) (h0 : ¬ w ≤ 0) (h4 : ¬ w < 4) : ¬ (n = 0 ∨ (b = true ∧ n < 4)) := by
  rintro (q | q)
  · exact h0 (by rw [h, q]; decide)
  · exact h4 (by rw [h]; exact (nI_ltI (b := 4) (by omega) (by decide)).mpr q.2)
set_option maxHeartbeats 2000000 in
set_option maxRecDepth 10000 in
theorem hX9_run {l : Launch} {D : va_G} {aC : Nat → ClassId} {b0 sz : Nat} {r : Nat} {v : Nat → Int32} {A : Nat → Nat → Int32} {R : ZM} {Q : List Sq} {S : St} {TN : Nat → Bool} {FL : Nat → List Nat} (hQ : QR v A Q) (hL : FLr A TN FL) (hR : RC v A S) : Ct l D aC b0 yX9_run cX9_run 3 (some .int) 7 0 0 [.ref (r)] (mm aC r v A R) sz (zpI (fun v A => mm aC r v A R) (fun w' v' A' => rnP TN FL v A S Q w' v' A')) := by
  refine Ct.of (by decide) (Nat.le_of_ble_eq_true rfl) ?_
  intro p e s m below meth c ls C hr hlk hnm hl
  have hl : lv_has ls 3 [(0, .ref (r))] := hl
  obtain ⟨hx, hb, -, -, -⟩ := id C
  have hQl := hQ.2.1
  refine zz (fun _ _ => lv_aload_n hx hb dX9_run_0 rfl (lv_at hl 0 rfl)) ?_
  refine zz (fun _ _ => lv_iconst (v := 0) hx hb dX9_run_1 (by decide)) ?_
  refine z_put C fp_X9_129 (fun h => by cases h) rm_0 (Nat.le_of_ble_eq_true rfl) rfl rfl dX9_run_2 ?_
  refine zeq wm_f0 ?_
  refine zz (fun _ _ => lv_aload_n hx hb dX9_run_5 rfl (lv_at hl 0 rfl)) ?_
  refine zqVN (As := []) (rest := []) C hl.1 lk_X9_264 (hX9_keep (RC_v hR (by simp [upd]) (by simp [upd]) (fun _ _ _ => rfl))) rm_0 rfl rfl rfl (Nat.le_of_ble_eq_true rfl) ⟨by decide, by decide, by decide, by decide⟩ dX9_run_6 (fun v1 A1 sz h1 => ?_)
  refine zeq (M' := (mm aC r v1 A1 R)) rfl ?_
  refine zz (fun _ _ => lv_aload_n hx hb dX9_run_9 rfl (lv_at hl 0 rfl)) ?_
  refine zz (fun _ _ => lv_iconst (v := 0) hx hb dX9_run_10 (by decide)) ?_
  refine z_put C fp_X9_196 (fun h => by cases h) rm_0 (Nat.le_of_ble_eq_true rfl) rfl rfl dX9_run_11 ?_
  refine zeq wm_f41 ?_
  refine zz (fun _ _ => lv_aload_n hx hb dX9_run_14 rfl (lv_at hl 0 rfl)) ?_
  refine zz (fun _ _ => lv_iconst (v := (-1)) hx hb dX9_run_15 (by decide)) ?_
  refine z_put C fp_X9_113 (fun h => by cases h) rm_0 (Nat.le_of_ble_eq_true rfl) rfl rfl dX9_run_16 ?_
  refine zeq wm_f42 ?_
  refine zz (fun _ _ => lv_iconst (v := 0) hx hb dX9_run_19 (by decide)) ?_
  refine zs (fun _ _ => lv_istore_n (lv' := [(1, .int (0)), (0, .ref (r))]) hx hb dX9_run_20 rfl hl (by decide) rfl) (fun ls hl => ?_)
  have hl0 := lv_sub hl [1, 0] rfl
  refine z_loop (γ := (Nat → Int32) × (Nat → Nat → Int32)) (G := fun a => mm aC r a.1 a.2 R) (I := fun j a => rn0 v A S a.1 a.2) (lv := fun j a => [(0, .ref (r)), (1, .int (nI (j)))]) (12) ?_ ?_ ((upd (upd v1 41 0) 42 (-1)), A1) _ _ (rn0_0 hR h1) hl0
  · intro j2 a2 sz ls hj2 hI2 hl ih2
    obtain ⟨v2, A2⟩ := a2
    dsimp only at hI2 hl ih2
    refine zeq (M' := (mm aC r v2 A2 R)) rfl ?_
    refine zz (fun _ _ => lv_iload_n hx hb dX9_run_21 rfl (lv_at hl 1 rfl)) ?_
    refine zz (fun _ _ => lv_bipush (v := 12) hx hb dX9_run_22 (by decide)) ?_
    refine zval (v' := .int (nI 12)) (congrArg Value.int rfl) ?_
    refine zb (fun _ _ => lv_icmp_ge (tgt := 40) hx hb dX9_run_24 (by decide)) (fun c_3 => ?_) (fun c_3 => ?_)
    · exact absurd c_3 (nI_ge (by omega) (by omega))
    · refine zz (fun _ _ => lv_aload_n hx hb dX9_run_27 rfl (lv_at hl 0 rfl)) ?_
      refine z_get (v := .ref (r + 34)) C fd_X9_110 rm_0 rfl dX9_run_28 ?_
      refine zz (fun _ _ => lv_iload_n hx hb dX9_run_31 rfl (lv_at hl 1 rfl)) ?_
      refine zz (fun _ _ => lv_iconst (v := (-1)) hx hb dX9_run_32 (by decide)) ?_
      refine z_iast (f := A2 34) C rm_34 (by first | assumption | (apply vp_in_nI <;> omega)) dX9_run_33 ?_
      refine zeq wm_34 ?_
      refine zs (fun _ _ => lv_iinc (v := nI (j2) + 1) (lv' := [(1, .int (nI (j2) + 1)), (0, .ref (r))]) hx hb dX9_run_34 hl (k := 1) rfl rfl (by decide) rfl) (fun ls hl => ?_)
      refine zz (fun _ _ => lv_goto (tgt := 21) hx hb dX9_run_37 (by decide)) ?_
      have hl := lv_sub hl [1, 0] rfl
      try simp only [nI_1] at hl
      exact ih2 (v2, (u1 A2 34 (upd (A2 34) (Int32.toNatClampNeg (nI (j2))) ((-1))))) _ _ (rn0_34 hI2) hl
  · intro a2 sz ls hI2 hl
    obtain ⟨v2, A2⟩ := a2
    dsimp only at hI2 hl
    refine zeq (M' := (mm aC r v2 A2 R)) rfl ?_
    refine zz (fun _ _ => lv_iload_n hx hb dX9_run_21 rfl (lv_at hl 1 rfl)) ?_
    refine zz (fun _ _ => lv_bipush (v := 12) hx hb dX9_run_22 (by decide)) ?_
    refine zval (v' := .int (nI 12)) (congrArg Value.int rfl) ?_
    refine zb (fun _ _ => lv_icmp_ge (tgt := 40) hx hb dX9_run_24 (by decide)) (fun c_4 => ?_) (fun c_4 => ?_)
    · refine zz (fun _ _ => lv_iconst (v := 0) hx hb dX9_run_40 (by decide)) ?_
      refine zs (fun _ _ => lv_istore_n (lv' := [(1, .int (0)), (0, .ref (r))]) hx hb dX9_run_41 rfl hl (by decide) rfl) (fun ls hl => ?_)
      have hl0 := lv_sub hl [1, 0] rfl
      refine z_loop (γ := (Nat → Int32) × (Nat → Nat → Int32)) (G := fun a => mm aC r a.1 a.2 R) (I := fun j a => rn1 TN FL v A S Q j a.1 a.2) (lv := fun j a => [(0, .ref (r)), (1, .int (nI (j)))]) (Q.length) ?_ ?_ (v2, A2) _ _ (rn1_0 hI2) hl0
      · intro j5 a5 sz ls hj5 hI5 hl ih5
        obtain ⟨v5, A5⟩ := a5
        dsimp only at hI5 hl ih5
        refine zeq (M' := (mm aC r v5 A5 R)) rfl ?_
        obtain ⟨q5, eq5⟩ : ∃ t, Q[j5]? = some t := ⟨_, List.getElem?_eq_getElem hj5⟩
        obtain ⟨hF8, h42, hO8, S8, w8, e8, hR8, h41⟩ := id hI5
        have hE5 := (hQ.2.2 j5 q5 eq5).1.kept (A' := A5) (fun q hq => hF8.2.2.2 q (Or.inl hq))
        have hq5 := (hQ.2.2 j5 q5 eq5).2
        refine zz (fun _ _ => lv_iload_n hx hb dX9_run_42 rfl (lv_at hl 1 rfl)) ?_
        refine zz (fun _ _ => lv_aload_n hx hb dX9_run_43 rfl (lv_at hl 0 rfl)) ?_
        refine z_get (v := .int (v5 1)) C fd_X9_132 rm_0 rfl dX9_run_44 ?_
        refine zval (v' := .int (nI Q.length)) (congrArg Value.int (hI5.1.2.1.trans hQ.1)) ?_
        refine zb (fun _ _ => lv_icmp_ge (tgt := 98) hx hb dX9_run_47 (by decide)) (fun c_6 => ?_) (fun c_6 => ?_)
        · exact absurd c_6 (nI_ge (by omega) (by omega))
        · refine zz (fun _ _ => lv_aload_n hx hb dX9_run_50 rfl (lv_at hl 0 rfl)) ?_
          refine zz (fun _ _ => lv_iload_n hx hb dX9_run_51 rfl (lv_at hl 1 rfl)) ?_
          refine zqVI (As := [.int (nI (j5))]) (rest := []) C hl.1 lk_X9_267 (hX9_act (by omega) hE5 hq5 (hL.kept (fun q hq => hF8.2.2.2 q (Or.inl hq))) hR8) rm_0 rfl rfl rfl (Nat.le_of_ble_eq_true rfl) ⟨by decide, by decide, by decide, by decide⟩ dX9_run_52 (fun w7 v7 A7 sz h7 => ?_)
          refine zeq (M' := (mm aC r v7 A7 R)) rfl ?_
          have hle8 := aAct_le (TN := TN) (FL := FL) (q := q5) (S := S8)
          refine zs (fun _ _ => lv_istore_n (lv' := [(2, .int (w7)), (0, .ref (r)), (1, .int (nI (j5)))]) hx hb dX9_run_55 rfl hl (by decide) rfl) (fun ls hl => ?_)
          refine zz (fun _ _ => lv_iload_n hx hb dX9_run_56 rfl (lv_at hl 0 rfl)) ?_
          refine zb (fun _ _ => lv_if_le (tgt := 92) hx hb dX9_run_57 (by decide)) (fun c_8 => ?_) (fun c_8 => ?_)
          · refine zs (fun _ _ => lv_iinc (v := nI (j5) + 1) (lv' := [(1, .int (nI (j5) + 1)), (2, .int (w7)), (0, .ref (r))]) hx hb dX9_run_92 hl (k := 2) rfl rfl (by decide) rfl) (fun ls hl => ?_)
            refine zz (fun _ _ => lv_goto (tgt := 42) hx hb dX9_run_95 (by decide)) ?_
            have hl := lv_sub hl [2, 0] rfl
            try simp only [nI_1] at hl
            exact ih5 (v7, A7) _ _ (rn1_next eq5 hF8 h42 hO8 e8 h41 h7 (Or.inl (rn_z h7.1 hle8 c_8))) hl
          · refine zz (fun _ _ => lv_aload_n hx hb dX9_run_60 rfl (lv_at hl 1 rfl)) ?_
            refine z_get (v := .ref (r + 4)) C fd_X9_19 rm_0 rfl dX9_run_61 ?_
            refine zz (fun _ _ => lv_iload_n hx hb dX9_run_64 rfl (lv_at hl 2 rfl)) ?_
            refine z_zald (f := A7 4) C rm_4 (by first | assumption | (apply vp_in_nI <;> omega)) dX9_run_65 ?_
            refine zval (v' := .int (tI q5.2.2.2.1)) (congrArg Value.int (rdI ((congrFun (h7.2.1.low 4 (by decide)) _).trans (hE5).2.2.2.1) (by omega))) ?_
            refine zb (fun _ _ => lv_if_eq (tgt := 74) hx hb dX9_run_66 (by decide)) (fun c_9 => ?_) (fun c_9 => ?_)
            · refine zz (fun _ _ => lv_aload_n hx hb dX9_run_74 rfl (lv_at hl 1 rfl)) ?_
              refine zqVN (As := []) (rest := []) C hl.1 lk_X9_270 (hX9_goBack (rn1_O hO8 h7.2.1)) rm_0 rfl rfl rfl (Nat.le_of_ble_eq_true rfl) ⟨by decide, by decide, by decide, by decide⟩ dX9_run_75 (fun v10 A10 sz h10 => ?_)
              refine zeq (M' := (mm aC r v10 A10 R)) rfl ?_
              refine zz (fun _ _ => lv_aload_n hx hb dX9_run_78 rfl (lv_at hl 1 rfl)) ?_
              refine zz (fun _ _ => lv_iload_n hx hb dX9_run_79 rfl (lv_at hl 2 rfl)) ?_
              refine z_put C fp_X9_113 (fun h => by cases h) rm_0 (Nat.le_of_ble_eq_true rfl) rfl rfl dX9_run_80 ?_
              refine zeq wm_f42 ?_
              refine zz (fun _ _ => lv_aload_n hx hb dX9_run_83 rfl (lv_at hl 1 rfl)) ?_
              refine zz (fun _ _ => lv_iconst (v := 0) hx hb dX9_run_84 (by decide)) ?_
              refine z_put C fp_X9_196 (fun h => by cases h) rm_0 (Nat.le_of_ble_eq_true rfl) rfl rfl dX9_run_85 ?_
              refine zeq wm_f41 ?_
              refine zz (fun _ _ => lv_iconst (v := (-1)) hx hb dX9_run_88 (by decide)) ?_
              refine zz (fun _ _ => lv_iload_n hx hb dX9_run_89 rfl (lv_at hl 0 rfl)) ?_
              refine zz (fun _ _ => lv_isub hx hb dX9_run_90) ?_
              exact z_iret C hr hlk dX9_run_91 (zpI_mk (a := (upd (upd v10 42 (nI (j5))) 41 0)) (b := A10) (rn_fail eq5 hF8 e8 h7 (rn_n1 h7.1 hle8 c_8 (tI_0.mp c_9)) h10))
            · refine zz (fun _ _ => lv_iload_n hx hb dX9_run_69 rfl (lv_at hl 0 rfl)) ?_
              refine zz (fun _ _ => lv_iconst (v := 4) hx hb dX9_run_70 (by decide)) ?_
              refine zb (fun _ _ => lv_icmp_lt (tgt := 92) hx hb dX9_run_71 (by decide)) (fun c_11 => ?_) (fun c_11 => ?_)
              · refine zs (fun _ _ => lv_iinc (v := nI (j5) + 1) (lv' := [(1, .int (nI (j5) + 1)), (2, .int (w7)), (0, .ref (r))]) hx hb dX9_run_92 hl (k := 2) rfl rfl (by decide) rfl) (fun ls hl => ?_)
                refine zz (fun _ _ => lv_goto (tgt := 42) hx hb dX9_run_95 (by decide)) ?_
                have hl := lv_sub hl [2, 0] rfl
                try simp only [nI_1] at hl
                exact ih5 (v7, A7) _ _ (rn1_next eq5 hF8 h42 hO8 e8 h41 h7 (Or.inr ⟨tI_1.mp c_9, rn_4 h7.1 hle8 c_11⟩)) hl
              · refine zz (fun _ _ => lv_aload_n hx hb dX9_run_74 rfl (lv_at hl 1 rfl)) ?_
                refine zqVN (As := []) (rest := []) C hl.1 lk_X9_270 (hX9_goBack (rn1_O hO8 h7.2.1)) rm_0 rfl rfl rfl (Nat.le_of_ble_eq_true rfl) ⟨by decide, by decide, by decide, by decide⟩ dX9_run_75 (fun v12 A12 sz h12 => ?_)
                refine zeq (M' := (mm aC r v12 A12 R)) rfl ?_
                refine zz (fun _ _ => lv_aload_n hx hb dX9_run_78 rfl (lv_at hl 1 rfl)) ?_
                refine zz (fun _ _ => lv_iload_n hx hb dX9_run_79 rfl (lv_at hl 2 rfl)) ?_
                refine z_put C fp_X9_113 (fun h => by cases h) rm_0 (Nat.le_of_ble_eq_true rfl) rfl rfl dX9_run_80 ?_
                refine zeq wm_f42 ?_
                refine zz (fun _ _ => lv_aload_n hx hb dX9_run_83 rfl (lv_at hl 1 rfl)) ?_
                refine zz (fun _ _ => lv_iconst (v := 0) hx hb dX9_run_84 (by decide)) ?_
                refine z_put C fp_X9_196 (fun h => by cases h) rm_0 (Nat.le_of_ble_eq_true rfl) rfl rfl dX9_run_85 ?_
                refine zeq wm_f41 ?_
                refine zz (fun _ _ => lv_iconst (v := (-1)) hx hb dX9_run_88 (by decide)) ?_
                refine zz (fun _ _ => lv_iload_n hx hb dX9_run_89 rfl (lv_at hl 0 rfl)) ?_
                refine zz (fun _ _ => lv_isub hx hb dX9_run_90) ?_
                exact z_iret C hr hlk dX9_run_91 (zpI_mk (a := (upd (upd v12 42 (nI (j5))) 41 0)) (b := A12) (rn_fail eq5 hF8 e8 h7 (rn_n2 h7.1 hle8 c_8 c_11) h12))
      · intro a5 sz ls hI5 hl
        obtain ⟨v5, A5⟩ := a5
        dsimp only at hI5 hl
        refine zeq (M' := (mm aC r v5 A5 R)) rfl ?_
        obtain ⟨hF8, h42, hO8, S8, w8, e8, hR8, h41⟩ := id hI5
        obtain ⟨ho8, n8, f8, hL8⟩ := id hR8
        obtain ⟨ho9, n9, f9, hO9⟩ := id hO8
        refine zz (fun _ _ => lv_iload_n hx hb dX9_run_42 rfl (lv_at hl 1 rfl)) ?_
        refine zz (fun _ _ => lv_aload_n hx hb dX9_run_43 rfl (lv_at hl 0 rfl)) ?_
        refine z_get (v := .int (v5 1)) C fd_X9_132 rm_0 rfl dX9_run_44 ?_
        refine zval (v' := .int (nI Q.length)) (congrArg Value.int (hI5.1.2.1.trans hQ.1)) ?_
        refine zb (fun _ _ => lv_icmp_ge (tgt := 98) hx hb dX9_run_47 (by decide)) (fun c_13 => ?_) (fun c_13 => ?_)
        · refine zz (fun _ _ => lv_aload_n hx hb dX9_run_98 rfl (lv_at hl 0 rfl)) ?_
          refine zqVN (As := []) (rest := []) C hl.1 lk_X9_273 (hX9_noteAll ho8 ho9 hL8 hO9) rm_0 rfl rfl rfl (Nat.le_of_ble_eq_true rfl) ⟨by decide, by decide, by decide, by decide⟩ dX9_run_99 (fun v14 A14 sz h14 => ?_)
          refine zeq (M' := (mm aC r v14 A14 R)) rfl ?_
          refine zz (fun _ _ => lv_aload_n hx hb dX9_run_102 rfl (lv_at hl 0 rfl)) ?_
          refine z_get (v := .int (v14 34)) C fd_X9_250 rm_0 rfl dX9_run_103 ?_
          exact z_iret C hr hlk dX9_run_106 (zpI_mk (a := v14) (b := A14) (rn_end hF8 h42 e8 hR8 h41 h14))
        · exact absurd (nI_le (Nat.le_refl _) (by omega)) c_13
    · exact absurd (nI_le (Nat.le_refl _) (by omega)) c_4
end
section
/-! The store as sorted rows: put in, take out. -/
def GF (k : Nat) (iv av iv' av' : Nat → Nat → Int32) : Prop := (∀ k' f, k' ≠ k → iv' k' f = iv k' f) ∧ ∀ k', k' ≠ k + 1 → av' k' = av k'
theorem GC.kept {iv av iv' av' : Nat → Nat → Int32} {k : Nat} {p : Nat → Bool} {t : Bool} (h : GC iv av k p t) (h1 : iv' k 1 = iv k 1) (h2 : iv' k 2 = iv k 2) (h3 : av' (k + 1) = av (k + 1)) : GC iv' av' k p t := by
  unfold GC at h ⊢
  rw [h1, h2, h3]
  exact h
theorem ins_end {iv av : Nat → Nat → Int32} {k c q : Nat} {p : Nat → Bool} {t : Bool} (hG : GC iv av k p t) (ho : ∀ c, p c = true → okc c) (hn : (cds p).length < 120) (hc : okc c) (hp : p c = false) (hq : q ≤ (cds p).length) (h1 : ∀ i, i < q → (cds p).getD i 0 < c) (h2 : ∀ i, q ≤ i → i < (cds p).length → c ≤ (cds p).getD i 0) :
    GC (u2 iv k 1 (nI ((cds p).length + 1))) (u1 (u1 av (k + 1) (va_cpy (av (k + 1)) (av (k + 1)) (Int32.toNatClampNeg (nI q)) (Int32.toNatClampNeg (nI (q + 1))) (Int32.toNatClampNeg (nI ((cds p).length - q))))) (k + 1) (upd (va_cpy (av (k + 1)) (av (k + 1)) (Int32.toNatClampNeg (nI q)) (Int32.toNatClampNeg (nI (q + 1))) (Int32.toNatClampNeg (nI ((cds p).length - q)))) (Int32.toNatClampNeg (nI q)) (nI c))) k (pC p c true) t ∧
    GF k iv av (u2 iv k 1 (nI ((cds p).length + 1))) (u1 (u1 av (k + 1) (va_cpy (av (k + 1)) (av (k + 1)) (Int32.toNatClampNeg (nI q)) (Int32.toNatClampNeg (nI (q + 1))) (Int32.toNatClampNeg (nI ((cds p).length - q))))) (k + 1) (upd (va_cpy (av (k + 1)) (av (k + 1)) (Int32.toNatClampNeg (nI q)) (Int32.toNatClampNeg (nI (q + 1))) (Int32.toNatClampNeg (nI ((cds p).length - q)))) (Int32.toNatClampNeg (nI q)) (nI c))) := by
  rw [nI_clamp (show q < 2 ^ 31 by omega), nI_clamp (show q + 1 < 2 ^ 31 by omega), nI_clamp (show (cds p).length - q < 2 ^ 31 by omega)]
  have h := insert_s hG ho (by omega) hc hp hq h1 h2
  refine ⟨⟨by rw [h.1]; exact u2_s _ _ _ _, by rw [u2_f _ _ _ (by decide)]; exact hG.2.1, fun i hi => ?_⟩, fun k' f hk => u2_k _ _ _ _ hk, fun k' hk => by rw [u1_k _ _ hk, u1_k _ _ hk]⟩
  rw [u1_s]
  exact h.2 i (by omega)
theorem rem_end {iv av : Nat → Nat → Int32} {k c q : Nat} {p : Nat → Bool} {t : Bool} (hG : GC iv av k p t) (ho : ∀ c, p c = true → okc c) (hn : (cds p).length ≤ 120) (hq : q < (cds p).length) (hqc : (cds p).getD q 0 = c) :
    GC (u2 iv k 1 (nI ((cds p).length - 1))) (u1 av (k + 1) (va_cpy (av (k + 1)) (av (k + 1)) (Int32.toNatClampNeg (nI (q + 1))) (Int32.toNatClampNeg (nI q)) (Int32.toNatClampNeg (nI ((cds p).length - q - 1))))) k (pC p c false) t ∧
    GF k iv av (u2 iv k 1 (nI ((cds p).length - 1))) (u1 av (k + 1) (va_cpy (av (k + 1)) (av (k + 1)) (Int32.toNatClampNeg (nI (q + 1))) (Int32.toNatClampNeg (nI q)) (Int32.toNatClampNeg (nI ((cds p).length - q - 1))))) := by
  rw [nI_clamp (show q < 2 ^ 31 by omega), nI_clamp (show q + 1 < 2 ^ 31 by omega), nI_clamp (show (cds p).length - q - 1 < 2 ^ 31 by omega)]
  have h := remove_s hG ho hq hqc
  refine ⟨⟨by rw [h.1]; exact u2_s _ _ _ _, by rw [u2_f _ _ _ (by decide)]; exact hG.2.1, fun i hi => ?_⟩, fun k' f hk => u2_k _ _ _ _ hk, fun k' hk => by rw [u1_k _ _ hk]⟩
  rw [u1_s]
  exact h.2 i (by omega)
theorem rem_no {iv av : Nat → Nat → Int32} {k c : Nat} {p : Nat → Bool} {t : Bool} (hG : GC iv av k p t) (h : p c = false) : GC iv av k (pC p c false) t ∧ GF k iv av iv av := by
  have e : pC p c false = p := by funext c'; unfold pC; split <;> simp_all
  rw [e]
  exact ⟨hG, fun _ _ _ => rfl, fun _ _ => rfl⟩
/-- the working store -/
def SC (iv av : Nat → Nat → Int32) (S : St) : Prop := okS S ∧ (∀ g, g < 7 → GC iv av (4 + 1 + 2 * g) (S.1 g) (S.2.1 g)) ∧ iv 3 1 = nI S.2.2
/-- what the store's methods leave as it is -/
def FC (iv av iv' av' : Nat → Nat → Int32) : Prop := (∀ k f, k < 3 ∨ 18 < k → iv' k f = iv k f) ∧ ∀ k, k < 3 ∨ (18 < k ∧ k ≠ 28) → av' k = av k
theorem FC.refl {iv av : Nat → Nat → Int32} : FC iv av iv av := ⟨fun _ _ _ => rfl, fun _ _ => rfl⟩
theorem FC.trans {iv av iv1 av1 iv2 av2 : Nat → Nat → Int32} (h : FC iv av iv1 av1) (h2 : FC iv1 av1 iv2 av2) : FC iv av iv2 av2 := ⟨fun k f a => (h2.1 k f a).trans (h.1 k f a), fun k a => (h2.2 k a).trans (h.2 k a)⟩
theorem GF.C {iv av iv' av' : Nat → Nat → Int32} {g : Nat} (h : GF (4 + 1 + 2 * g) iv av iv' av') (hg : g < 7) : FC iv av iv' av' := ⟨fun k f a => h.1 k f (by omega), fun k a => h.2 k (by omega)⟩
theorem SC_len {iv av : Nat → Nat → Int32} {S : St} (h : SC iv av S) {g : Nat} (hg : g < 7) : (cds (S.1 g)).length ≤ 120 := Nat.le_trans (cds_le_card S.1 hg) h.1.2.1
theorem factCount_s {iv av : Nat → Nat → Int32} {S : St} (h : SC iv av S) : fX6_factCount iv 3 = nI (card S.1) := by
  have e : ∀ g, g < 7 → iv (3 + 1 + 1 + 2 * g) 1 = nI (cds (S.1 g)).length := fun g hg => (h.2.1 g hg).1
  unfold fX6_factCount
  simp only [stX6_factCount_4]
  rw [e 0 (by decide), e 1 (by decide), e 2 (by decide), e 3 (by decide), e 4 (by decide), e 5 (by decide), e 6 (by decide), card_sum, show (0 : Int32) = nI 0 from rfl]
  simp only [nI_add, Nat.zero_add]
theorem SC_put1 {iv av iv' av' : Nat → Nat → Int32} {S S' : St} {g : Nat} (h : SC iv av S) (hg : g < 7) (ho : okS S') (hG : GC iv' av' (4 + 1 + 2 * g) (S'.1 g) (S'.2.1 g)) (hF : GF (4 + 1 + 2 * g) iv av iv' av') (h1 : ∀ g', g' ≠ g → S'.1 g' = S.1 g') (h2 : ∀ g', g' ≠ g → S'.2.1 g' = S.2.1 g') (h3 : S'.2.2 = S.2.2) : SC iv' av' S' := by
  refine ⟨ho, fun g' hg' => ?_, by rw [hF.1 3 1 (by omega), h3]; exact h.2.2⟩
  by_cases q : g' = g
  · subst q; exact hG
  · rw [h1 g' q, h2 g' q]
    exact (h.2.1 g' hg').kept (hF.1 _ _ (by omega)) (hF.1 _ _ (by omega)) (hF.2 _ (by omega))
def ptP (iv av : Nat → Nat → Int32) (S : St) (g c : Nat) (w : Int32) (iv' av' : Nat → Nat → Int32) : Prop := FC iv av iv' av' ∧ av' 28 = av 28 ∧ ((w = 0 ∧ stPut S g c = none) ∨ ∃ S', w = 1 ∧ stPut S g c = some S' ∧ SC iv' av' S')
theorem FC_there {iv av : Nat → Nat → Int32} {g : Nat} {z : Int32} (hg : g < 7) : FC iv av (u2 iv (4 + 1 + 2 * g) 2 z) av := ⟨fun k f a => u2_k _ _ _ _ (by omega), fun _ _ => rfl⟩
theorem SC_there {iv av : Nat → Nat → Int32} {S : St} {g : Nat} (h : SC iv av S) (hg : g < 7) : SC (u2 iv (4 + 1 + 2 * g) 2 1) av (S.1, tS S.2.1 g true, S.2.2) := by
  refine SC_put1 h hg (okS_there h.1 g) ?_ ⟨fun k' f hk => u2_k _ _ _ _ hk, fun _ _ => rfl⟩ (fun _ _ => rfl) (fun g' q => by simp [tS, q]) rfl
  have hG := h.2.1 g hg
  exact ⟨by rw [u2_f _ _ _ (by decide)]; exact hG.1, by rw [u2_s]; simp [tS, tI], hG.2.2⟩
theorem pt_has {iv av : Nat → Nat → Int32} {S : St} {g c : Nat} (h : SC iv av S) (hg : g < 7) (hp : ¬ tI (S.1 g c) = 0) : ptP iv av S g c 1 (u2 iv (4 + 1 + 2 * g) 2 1) av :=
  ⟨FC_there hg, rfl, Or.inr ⟨_, rfl, by unfold stPut; rw [if_pos (tI_1.mp hp)], SC_there h hg⟩⟩
theorem pt_no {iv av : Nat → Nat → Int32} {S : St} {g c : Nat} (h : SC iv av S) (hg : g < 7) (hp : tI (S.1 g c) = 0) (hf : ¬ nI (card S.1) < nI 120) : ptP iv av S g c 0 (u2 iv (4 + 1 + 2 * g) 2 1) av := by
  refine ⟨FC_there hg, rfl, Or.inl ⟨rfl, ?_⟩⟩
  have h1 := h.1.2.1
  rw [nI_ltI (by omega) (by decide)] at hf
  unfold stPut
  rw [if_neg (by rw [tI_0.mp hp]; decide), if_pos (by omega)]
theorem pt_in {iv av iv' av' : Nat → Nat → Int32} {S : St} {g c : Nat} (h : SC iv av S) (hg : g < 7) (hc : okc c) (hp : tI (S.1 g c) = 0) (hf : nI (card S.1) < nI 120) (hi : GC iv' av' (4 + 1 + 2 * g) (pC (S.1 g) c true) true ∧ GF (4 + 1 + 2 * g) (u2 iv (4 + 1 + 2 * g) 2 1) av iv' av') : ptP iv av S g c 1 iv' av' := by
  have h1 := h.1.2.1
  rw [nI_ltI (by omega) (by decide)] at hf
  have e : stPut S g c = some (pS S.1 g c true, tS S.2.1 g true, S.2.2) := by
    unfold stPut
    rw [if_neg (by rw [tI_0.mp hp]; decide), if_neg (by omega)]
  refine ⟨(FC_there hg).trans (hi.2.C hg), hi.2.2 28 (by omega), Or.inr ⟨_, rfl, e, ?_⟩⟩
  refine SC_put1 (SC_there h hg) hg (okS_put h.1 hg hc e) ?_ hi.2 (fun g' q => pS_k _ _ _ q) (fun _ _ => rfl) rfl
  show GC iv' av' (4 + 1 + 2 * g) (pS S.1 g c true g) (tS S.2.1 g true g)
  rw [pS_s]
  have : tS S.2.1 g true g = true := by simp [tS]
  rw [this]
  exact hi.1
end
