set_option maxHeartbeats 2000000 in
set_option maxRecDepth 10000 in
theorem hX9_solve {l : Launch} {D : va_G} {aC : Nat → ClassId} {b0 sz : Nat} {r : Nat} {v : Nat → Int32} {A : Nat → Nat → Int32} {R : ZM} {i fr : Nat} {S : St} {ps : List Rw} (hi : i < 12) (hfr7 : fr < 7) (hfr : A 2 i = nI fr) (hP : PRr A i ps) (hR : RC v A S) : Ct l D aC b0 yX9_solve cX9_solve 8 (some .int) 4 0 0 [.ref (r), .int (nI i)] (mm aC r v A R) sz (zpI (fun v A => mm aC r v A R) (slP v A S fr ps)) := by
  refine Ct.of (by decide) (Nat.le_of_ble_eq_true rfl) ?_
  intro p e s m below meth c ls C hr hlk hnm hl
  have hl : lv_has ls 8 [(0, .ref (r)), (1, .int (nI i))] := hl
  obtain ⟨hx, hb, -, -, -⟩ := id C
  have hps := hP.2.1
  have hlen : (cds (S.1 fr)).length ≤ 120 := Nat.le_trans (cds_le_card S.1 hfr7) hR.1.2.1
  refine zz (fun _ _ => lv_aload_n hx hb dX9_solve_0 rfl (lv_at hl 0 rfl)) ?_
  refine zz (fun _ _ => lv_aload_n hx hb dX9_solve_1 rfl (lv_at hl 0 rfl)) ?_
  refine z_get (v := .ref (r + 2)) C fd_X9_13 rm_0 rfl dX9_solve_2 ?_
  refine zz (fun _ _ => lv_iload_n hx hb dX9_solve_5 rfl (lv_at hl 1 rfl)) ?_
  refine z_iald (f := A 2) C rm_2 (by first | assumption | (apply vp_in_nI <;> omega)) dX9_solve_6 ?_
  refine zval (v' := .int (nI fr)) (congrArg Value.int (rdI hfr (by omega))) ?_
  refine zqVN (As := [.int (nI fr)]) (rest := []) C hl.1 lk_X9_187 (hX9_lineUp hR hfr7) rm_0 rfl rfl rfl (Nat.le_of_ble_eq_true rfl) ⟨by decide, by decide, by decide, by decide⟩ dX9_solve_7 (fun v1 A1 sz h1 => ?_)
  refine zeq (M' := (mm aC r v1 A1 R)) rfl ?_
  have hB9 := slB_0 h1
  refine zz (fun _ _ => lv_iconst (v := 0) hx hb dX9_solve_10 (by decide)) ?_
  refine zs (fun _ _ => lv_istore_n (lv' := [(2, .int (0)), (0, .ref (r)), (1, .int (nI i))]) hx hb dX9_solve_11 rfl hl (by decide) rfl) (fun ls hl => ?_)
  refine zz (fun _ _ => lv_aload_n hx hb dX9_solve_12 rfl (lv_at hl 1 rfl)) ?_
  refine zz (fun _ _ => lv_iconst (v := 1) hx hb dX9_solve_13 (by decide)) ?_
  refine z_put C fp_X9_190 (fun h => by cases h) rm_0 (Nat.le_of_ble_eq_true rfl) rfl rfl dX9_solve_14 ?_
  refine zeq wm_f43 ?_
  refine zz (fun _ _ => lv_iconst (v := 0) hx hb dX9_solve_17 (by decide)) ?_
  refine zs (fun _ _ => lv_istore_n (lv' := [(3, .int (0)), (2, .int (0)), (0, .ref (r)), (1, .int (nI i))]) hx hb dX9_solve_18 rfl hl (by decide) rfl) (fun ls hl => ?_)
  have hl0 := lv_sub hl [2, 3, 1, 0] rfl
  refine z_loop (γ := (Nat → Int32) × (Nat → Nat → Int32)) (G := fun a => mm aC r a.1 a.2 R) (I := fun j a => sl0 v A S fr j a.1 a.2) (lv := fun j a => [(0, .ref (r)), (1, .int (nI i)), (2, .int (0)), (3, .int (nI (j)))]) (4) ?_ ?_ ((upd v1 43 1), A1) _ _ ⟨slB_to hB9 (fun k hk _ => by simp [upd, hk]) (fun _ _ _ => rfl), by simp [upd], fun k hk => absurd hk (Nat.not_lt_zero _)⟩ hl0
  · intro j2 a2 sz ls hj2 hI2 hl ih2
    obtain ⟨v2, A2⟩ := a2
    dsimp only at hI2 hl ih2
    refine zeq (M' := (mm aC r v2 A2 R)) rfl ?_
    refine zz (fun _ _ => lv_iload_n hx hb dX9_solve_19 rfl (lv_at hl 3 rfl)) ?_
    refine zz (fun _ _ => lv_iconst (v := 4) hx hb dX9_solve_20 (by decide)) ?_
    refine zval (v' := .int (nI 4)) (congrArg Value.int rfl) ?_
    refine zb (fun _ _ => lv_icmp_ge (tgt := 37) hx hb dX9_solve_21 (by decide)) (fun c_3 => ?_) (fun c_3 => ?_)
    · exact absurd c_3 (nI_ge (by omega) (by omega))
    · refine zz (fun _ _ => lv_aload_n hx hb dX9_solve_24 rfl (lv_at hl 0 rfl)) ?_
      refine z_get (v := .ref (r + 35)) C fd_X9_117 rm_0 rfl dX9_solve_25 ?_
      refine zz (fun _ _ => lv_iload_n hx hb dX9_solve_28 rfl (lv_at hl 3 rfl)) ?_
      refine zz (fun _ _ => lv_iconst (v := (-1)) hx hb dX9_solve_29 (by decide)) ?_
      refine z_iast (f := A2 35) C rm_35 (by first | assumption | (apply vp_in_nI <;> omega)) dX9_solve_30 ?_
      refine zeq wm_35 ?_
      refine zs (fun _ _ => lv_iinc (v := nI (j2) + 1) (lv' := [(3, .int (nI (j2) + 1)), (0, .ref (r)), (1, .int (nI i)), (2, .int (0))]) hx hb dX9_solve_31 hl (k := 3) rfl rfl (by decide) rfl) (fun ls hl => ?_)
      refine zz (fun _ _ => lv_goto (tgt := 19) hx hb dX9_solve_34 (by decide)) ?_
      have hl := lv_sub hl [1, 2, 3, 0] rfl
      try simp only [nI_1] at hl
      exact ih2 (v2, (u1 A2 35 (upd (A2 35) (Int32.toNatClampNeg (nI (j2))) ((-1))))) _ _ (by rw [nI_clamp (by omega)]; exact sl0_next hI2) hl
  · intro a2 sz ls hI2 hl
    obtain ⟨v2, A2⟩ := a2
    dsimp only at hI2 hl
    refine zeq (M' := (mm aC r v2 A2 R)) rfl ?_
    refine zz (fun _ _ => lv_iload_n hx hb dX9_solve_19 rfl (lv_at hl 3 rfl)) ?_
    refine zz (fun _ _ => lv_iconst (v := 4) hx hb dX9_solve_20 (by decide)) ?_
    refine zval (v' := .int (nI 4)) (congrArg Value.int rfl) ?_
    refine zb (fun _ _ => lv_icmp_ge (tgt := 37) hx hb dX9_solve_21 (by decide)) (fun c_4 => ?_) (fun c_4 => ?_)
    · refine zz (fun _ _ => lv_iconst (v := 4) hx hb dX9_solve_37 (by decide)) ?_
      refine zz (fun _ _ => lv_iload_n hx hb dX9_solve_38 rfl (lv_at hl 1 rfl)) ?_
      refine zz (fun _ _ => lv_imul hx hb dX9_solve_39) ?_
      refine zval (v' := .int (nI (4 * i))) (congrArg Value.int (pk_mul 4 i)) ?_
      refine zs (fun _ _ => lv_istore_n (lv' := [(3, .int (nI (4 * i))), (0, .ref (r)), (1, .int (nI i)), (2, .int (0))]) hx hb dX9_solve_40 rfl hl (by decide) rfl) (fun ls hl => ?_)
      have hl0 := lv_sub hl [1, 2, 3, 0] rfl
      refine z_loop (γ := (Nat → Int32) × (Nat → Nat → Int32) × Int32) (G := fun a => mm aC r a.1 a.2.1 R) (I := fun j a => sl1 v A S fr ps j a.2.2 a.1 a.2.1) (lv := fun j a => [(0, .ref (r)), (1, .int (nI i)), (2, .int (a.2.2)), (3, .int (nI (4 * i + j)))]) (ps.length) ?_ ?_ (v2, A2, 0) _ _ (sl1_0 hI2) hl0
      · intro j5 a5 sz ls hj5 hI5 hl ih5
        obtain ⟨v5, A5, t5_2⟩ := a5
        dsimp only at hI5 hl ih5
        refine zeq (M' := (mm aC r v5 A5 R)) rfl ?_
        have hP5 : PRr A5 i ps := hP.kept hI5.1.1.low
        obtain ⟨rw5, erw5⟩ : ∃ t, ps[j5]? = some t := ⟨_, List.getElem?_eq_getElem hj5⟩
        have hokr5 := hP.2.2.1 rw5 (List.mem_of_getElem? erw5)
        have hws5 := hI5.2.2.2.2.1
        refine zz (fun _ _ => lv_iload_n hx hb dX9_solve_41 rfl (lv_at hl 3 rfl)) ?_
        refine zz (fun _ _ => lv_iconst (v := 4) hx hb dX9_solve_42 (by decide)) ?_
        refine zz (fun _ _ => lv_iload_n hx hb dX9_solve_43 rfl (lv_at hl 1 rfl)) ?_
        refine zz (fun _ _ => lv_imul hx hb dX9_solve_44) ?_
        refine zval (v' := .int (nI (4 * i))) (congrArg Value.int (pk_mul 4 i)) ?_
        refine zz (fun _ _ => lv_aload_n hx hb dX9_solve_45 rfl (lv_at hl 0 rfl)) ?_
        refine z_get (v := .ref (r + 10)) C fd_X9_38 rm_0 rfl dX9_solve_46 ?_
        refine zz (fun _ _ => lv_iload_n hx hb dX9_solve_49 rfl (lv_at hl 1 rfl)) ?_
        refine z_iald (f := A5 10) C rm_10 (by first | assumption | (apply vp_in_nI <;> omega)) dX9_solve_50 ?_
        refine zval (v' := .int (nI ps.length)) (congrArg Value.int (rdI hP5.1 (by omega))) ?_
        refine zz (fun _ _ => lv_iadd hx hb dX9_solve_51) ?_
        refine zval (v' := .int (nI (4 * i + ps.length))) (congrArg Value.int (nI_add _ _)) ?_
        refine zb (fun _ _ => lv_icmp_ge (tgt := 296) hx hb dX9_solve_52 (by decide)) (fun c_6 => ?_) (fun c_6 => ?_)
        · exact absurd c_6 (nI_ge (by omega) (by omega))
        · refine zz (fun _ _ => lv_aload_n hx hb dX9_solve_55 rfl (lv_at hl 0 rfl)) ?_
          refine zz (fun _ _ => lv_iconst (v := 0) hx hb dX9_solve_56 (by decide)) ?_
          refine z_put C fp_X9_180 (fun h => by cases h) rm_0 (Nat.le_of_ble_eq_true rfl) rfl rfl dX9_solve_57 ?_
          refine zeq wm_f45 ?_
          refine zz (fun _ _ => lv_iconst (v := 0) hx hb dX9_solve_60 (by decide)) ?_
          refine zs (fun _ _ => lv_istore (lv' := [(4, .int (0)), (0, .ref (r)), (1, .int (nI i)), (2, .int (t5_2)), (3, .int (nI (4 * i + j5)))]) hx hb dX9_solve_61 hl (by decide) rfl) (fun ls hl => ?_)
          have hl0 := lv_sub hl [1, 2, 3, 4, 0] rfl
          refine z_loop (γ := (Nat → Int32) × (Nat → Nat → Int32) × Int32) (G := fun a => mm aC r a.1 a.2.1 R) (I := fun j a => sl2 v A S fr ps j5 rw5 j a.2.2 a.1 a.2.1) (lv := fun j a => [(0, .ref (r)), (1, .int (nI i)), (2, .int (a.2.2)), (3, .int (nI (4 * i + j5))), (4, .int (nI (j)))]) ((sW S fr ps j5).length) ?_ ?_ ((upd v5 45 0), A5, t5_2) _ _ (sl2_0 rw5 hI5) hl0
          · intro j7 a7 sz ls hj7 hI7 hl ih7
            obtain ⟨v7, A7, t7_2⟩ := a7
            dsimp only at hI7 hl ih7
            refine zeq (M' := (mm aC r v7 A7 R)) rfl ?_
            obtain ⟨sg7, esg7⟩ : ∃ t, (sW S fr ps j5)[j7]? = some t := ⟨_, List.getElem?_eq_getElem hj7⟩
            have hw57 : j7 < 5000 := by omega
            refine zz (fun _ _ => lv_iload hx hb dX9_solve_63 (lv_at hl 4 rfl)) ?_
            refine zz (fun _ _ => lv_aload_n hx hb dX9_solve_65 rfl (lv_at hl 0 rfl)) ?_
            refine z_get (v := .int (v7 43)) C fd_X9_190 rm_0 rfl dX9_solve_66 ?_
            refine zval (v' := .int (nI (sW S fr ps j5).length)) (congrArg Value.int hI7.2.2.2.1) ?_
            refine zb (fun _ _ => lv_icmp_ge (tgt := 248) hx hb dX9_solve_69 (by decide)) (fun c_8 => ?_) (fun c_8 => ?_)
            · exact absurd c_8 (nI_ge (by omega) (by omega))
            · refine zz (fun _ _ => lv_iload_n hx hb dX9_solve_72 rfl (lv_at hl 2 rfl)) ?_
              refine zz (fun _ _ => lv_aload_n hx hb dX9_solve_73 rfl (lv_at hl 0 rfl)) ?_
              refine z_get (v := .int (v7 47)) C fd_X9_174 rm_0 rfl dX9_solve_74 ?_
              refine zval (v' := .int (nI (cds (S.1 fr)).length)) (congrArg Value.int hI7.1.2.2.1) ?_
              refine zz (fun _ _ => lv_iadd hx hb dX9_solve_77) ?_
              refine zval (v' := .int (nI ((sN S fr ps j5) + (j7 + 1) * (cds (S.1 fr)).length))) (congrArg Value.int (sp_next hI7.2.1)) ?_
              refine zs (fun _ _ => lv_istore_n (lv' := [(2, .int (nI ((sN S fr ps j5) + (j7 + 1) * (cds (S.1 fr)).length))), (0, .ref (r)), (1, .int (nI i)), (3, .int (nI (4 * i + j5))), (4, .int (nI (j7)))]) hx hb dX9_solve_78 rfl hl (by decide) rfl) (fun ls hl => ?_)
              refine zz (fun _ _ => lv_iload_n hx hb dX9_solve_79 rfl (lv_at hl 0 rfl)) ?_
              refine zz (fun _ _ => lv_sipush (v := 5000) hx hb dX9_solve_80 (by decide)) ?_
              refine zval (v' := .int (nI 5000)) (congrArg Value.int rfl) ?_
              refine zb (fun _ _ => lv_icmp_le (tgt := 88) hx hb dX9_solve_83 (by decide)) (fun c_9 => ?_) (fun c_9 => ?_)
              · have hs5 := hs5_of hI7.2.2.1 hlen c_9
                refine zz (fun _ _ => lv_iconst (v := 0) hx hb dX9_solve_88 (by decide)) ?_
                refine zs (fun _ _ => lv_istore (lv' := [(5, .int (0)), (2, .int (nI ((sN S fr ps j5) + (j7 + 1) * (cds (S.1 fr)).length))), (0, .ref (r)), (1, .int (nI i)), (3, .int (nI (4 * i + j5))), (4, .int (nI (j7)))]) hx hb dX9_solve_89 hl (by decide) rfl) (fun ls hl => ?_)
                have hl0 := lv_sub hl [2, 3, 1, 4, 5, 0] rfl
                refine z_loop (γ := (Nat → Int32) × (Nat → Nat → Int32)) (G := fun a => mm aC r a.1 a.2 R) (I := fun j a => sl3 v A S fr (sW S fr ps j5) rw5 j7 j a.1 a.2) (lv := fun j a => [(0, .ref (r)), (1, .int (nI i)), (2, .int (nI ((sN S fr ps j5) + (j7 + 1) * (cds (S.1 fr)).length))), (3, .int (nI (4 * i + j5))), (4, .int (nI (j7))), (5, .int (nI (j)))]) ((cds (S.1 fr)).length) ?_ ?_ (v7, A7) _ _ (sl3_0 hI7) hl0
                · intro j10 a10 sz ls hj10 hI10 hl ih10
                  obtain ⟨v10, A10⟩ := a10
                  dsimp only at hI10 hl ih10
                  refine zeq (M' := (mm aC r v10 A10 R)) rfl ?_
                  obtain ⟨t10, ht10, hord10⟩ := hI10.1.2.2.2 j10 hj10
                  have hM10 : (nxt (cds (S.1 fr)) rw5 (sW S fr ps j5) j7 j10).length ≤ 5000 := nxt_5 hs5 hj10
                  have hq10 := hP.kept (A' := A10) hI10.1.1.low
                  have hprow10 := hq10.2.2.2 _ _ erw5
                  refine zz (fun _ _ => lv_iload hx hb dX9_solve_91 (lv_at hl 5 rfl)) ?_
                  refine zz (fun _ _ => lv_aload_n hx hb dX9_solve_93 rfl (lv_at hl 0 rfl)) ?_
                  refine z_get (v := .int (v10 47)) C fd_X9_174 rm_0 rfl dX9_solve_94 ?_
                  refine zval (v' := .int (nI (cds (S.1 fr)).length)) (congrArg Value.int hI10.1.2.2.1) ?_
                  refine zb (fun _ _ => lv_icmp_ge (tgt := 242) hx hb dX9_solve_97 (by decide)) (fun c_11 => ?_) (fun c_11 => ?_)
                  · exact absurd c_11 (nI_ge (by omega) (by omega))
                  · refine zz (fun _ _ => lv_aload_n hx hb dX9_solve_100 rfl (lv_at hl 0 rfl)) ?_
                    refine z_get (v := .ref (r + 37)) C fd_X9_123 rm_0 rfl dX9_solve_101 ?_
                    refine zz (fun _ _ => lv_iload hx hb dX9_solve_104 (lv_at hl 5 rfl)) ?_
                    refine z_iald (f := A10 37) C rm_37 (by first | assumption | (apply vp_in_nI <;> omega)) dX9_solve_106 ?_
                    refine zval (v' := .int (nI t10)) (congrArg Value.int (rdI hord10.1 (by omega))) ?_
                    refine zs (fun _ _ => lv_istore (lv' := [(6, .int (nI t10)), (0, .ref (r)), (1, .int (nI i)), (2, .int (nI ((sN S fr ps j5) + (j7 + 1) * (cds (S.1 fr)).length))), (3, .int (nI (4 * i + j5))), (4, .int (nI (j7))), (5, .int (nI (j10)))]) hx hb dX9_solve_107 hl (by decide) rfl) (fun ls hl => ?_)
                    refine zz (fun _ _ => lv_iconst (v := 0) hx hb dX9_solve_109 (by decide)) ?_
                    refine zs (fun _ _ => lv_istore (lv' := [(7, .int (0)), (6, .int (nI t10)), (0, .ref (r)), (1, .int (nI i)), (2, .int (nI ((sN S fr ps j5) + (j7 + 1) * (cds (S.1 fr)).length))), (3, .int (nI (4 * i + j5))), (4, .int (nI (j7))), (5, .int (nI (j10)))]) hx hb dX9_solve_110 hl (by decide) rfl) (fun ls hl => ?_)
                    have hl0 := lv_sub hl [2, 3, 4, 5, 6, 7, 1, 0] rfl
                    refine z_loop (γ := (Nat → Int32) × (Nat → Nat → Int32)) (G := fun a => mm aC r a.1 a.2 R) (I := fun j a => sl4 sg7 ((nxt (cds (S.1 fr)) rw5 (sW S fr ps j5) j7 j10).length) v10 A10 j a.1 a.2) (lv := fun j a => [(0, .ref (r)), (1, .int (nI i)), (2, .int (nI ((sN S fr ps j5) + (j7 + 1) * (cds (S.1 fr)).length))), (3, .int (nI (4 * i + j5))), (4, .int (nI (j7))), (5, .int (nI (j10))), (6, .int (nI t10)), (7, .int (nI (j)))]) (4) ?_ ?_ (v10, A10) _ _ ⟨rfl, fun _ _ => rfl, fun _ _ => rfl, fun _ hk => absurd hk (Nat.not_lt_zero _)⟩ hl0
                    · intro j12 a12 sz ls hj12 hI12 hl ih12
                      obtain ⟨v12, A12⟩ := a12
                      dsimp only at hI12 hl ih12
                      refine zeq (M' := (mm aC r v12 A12 R)) rfl ?_
                      refine zz (fun _ _ => lv_iload hx hb dX9_solve_112 (lv_at hl 7 rfl)) ?_
                      refine zz (fun _ _ => lv_iconst (v := 4) hx hb dX9_solve_114 (by decide)) ?_
                      refine zval (v' := .int (nI 4)) (congrArg Value.int rfl) ?_
                      refine zb (fun _ _ => lv_icmp_ge (tgt := 150) hx hb dX9_solve_115 (by decide)) (fun c_13 => ?_) (fun c_13 => ?_)
                      · exact absurd c_13 (nI_ge (by omega) (by omega))
                      · refine zz (fun _ _ => lv_aload_n hx hb dX9_solve_118 rfl (lv_at hl 0 rfl)) ?_
                        refine z_get (v := .ref (r + 36)) C fd_X9_120 rm_0 rfl dX9_solve_119 ?_
                        refine zz (fun _ _ => lv_iconst (v := 4) hx hb dX9_solve_122 (by decide)) ?_
                        refine zz (fun _ _ => lv_aload_n hx hb dX9_solve_123 rfl (lv_at hl 0 rfl)) ?_
                        refine z_get (v := .int (v12 45)) C fd_X9_180 rm_0 rfl dX9_solve_124 ?_
                        refine zval (v' := .int (nI (nxt (cds (S.1 fr)) rw5 (sW S fr ps j5) j7 j10).length)) (congrArg Value.int ((congrFun hI12.1 45).trans hI10.2.2.2.1)) ?_
                        refine zz (fun _ _ => lv_imul hx hb dX9_solve_127) ?_
                        refine zval (v' := .int (nI (4 * (nxt (cds (S.1 fr)) rw5 (sW S fr ps j5) j7 j10).length))) (congrArg Value.int (pk_mul 4 _)) ?_
                        refine zz (fun _ _ => lv_iload hx hb dX9_solve_128 (lv_at hl 7 rfl)) ?_
                        refine zz (fun _ _ => lv_iadd hx hb dX9_solve_130) ?_
                        refine zval (v' := .int (nI (4 * (nxt (cds (S.1 fr)) rw5 (sW S fr ps j5) j7 j10).length + j12))) (congrArg Value.int (nI_add _ _)) ?_
                        refine zz (fun _ _ => lv_aload_n hx hb dX9_solve_131 rfl (lv_at hl 0 rfl)) ?_
                        refine z_get (v := .ref (r + 35)) C fd_X9_117 rm_0 rfl dX9_solve_132 ?_
                        refine zz (fun _ _ => lv_iconst (v := 4) hx hb dX9_solve_135 (by decide)) ?_
                        refine zz (fun _ _ => lv_iload hx hb dX9_solve_136 (lv_at hl 4 rfl)) ?_
                        refine zz (fun _ _ => lv_imul hx hb dX9_solve_138) ?_
                        refine zval (v' := .int (nI (4 * j7))) (congrArg Value.int (pk_mul 4 _)) ?_
                        refine zz (fun _ _ => lv_iload hx hb dX9_solve_139 (lv_at hl 7 rfl)) ?_
                        refine zz (fun _ _ => lv_iadd hx hb dX9_solve_141) ?_
                        refine zval (v' := .int (nI (4 * j7 + j12))) (congrArg Value.int (nI_add _ _)) ?_
                        refine z_iald (f := A12 35) C rm_35 (by first | assumption | (apply vp_in_nI <;> omega)) dX9_solve_142 ?_
                        refine zval (v' := .int (sg7 j12)) (congrArg Value.int (rdI ((congrFun (hI12.2.1 35 (by decide)) _).trans (hI10.2.2.1 _ _ esg7 j12 hj12)) (by omega))) ?_
                        refine z_iast (f := A12 36) C rm_36 (by first | assumption | (apply vp_in_nI <;> omega)) dX9_solve_143 ?_
                        refine zeq wm_36 ?_
                        refine zs (fun _ _ => lv_iinc (v := nI (j12) + 1) (lv' := [(7, .int (nI (j12) + 1)), (0, .ref (r)), (1, .int (nI i)), (2, .int (nI ((sN S fr ps j5) + (j7 + 1) * (cds (S.1 fr)).length))), (3, .int (nI (4 * i + j5))), (4, .int (nI (j7))), (5, .int (nI (j10))), (6, .int (nI t10))]) hx hb dX9_solve_144 hl (k := 7) rfl rfl (by decide) rfl) (fun ls hl => ?_)
                        refine zz (fun _ _ => lv_goto (tgt := 112) hx hb dX9_solve_147 (by decide)) ?_
                        have hl := lv_sub hl [1, 2, 3, 4, 5, 6, 7, 0] rfl
                        try simp only [nI_1] at hl
                        exact ih12 (v12, (u1 A12 36 (upd (A12 36) (Int32.toNatClampNeg (nI (4 * (nxt (cds (S.1 fr)) rw5 (sW S fr ps j5) j7 j10).length + j12))) (sg7 j12)))) _ _ (by dsimp only; rw [nI_clamp (n := 4 * (nxt (cds (S.1 fr)) rw5 (sW S fr ps j5) j7 j10).length + j12) (by omega)]; exact sl4_next hI12 _ rfl) hl
                    · intro a12 sz ls hI12 hl
                      obtain ⟨v12, A12⟩ := a12
                      dsimp only at hI12 hl
                      refine zeq (M' := (mm aC r v12 A12 R)) rfl ?_
                      refine zz (fun _ _ => lv_iload hx hb dX9_solve_112 (lv_at hl 7 rfl)) ?_
                      refine zz (fun _ _ => lv_iconst (v := 4) hx hb dX9_solve_114 (by decide)) ?_
                      refine zval (v' := .int (nI 4)) (congrArg Value.int rfl) ?_
                      refine zb (fun _ _ => lv_icmp_ge (tgt := 150) hx hb dX9_solve_115 (by decide)) (fun c_14 => ?_) (fun c_14 => ?_)
                      · have hokc9 : okc ((cds (S.1 fr)).getD j10 0) := okP_g hR.1.1 fr _ ((cds_mem (okP_g hR.1.1 fr)).mp (getD_mem hj10))
                        refine zz (fun _ _ => lv_aload_n hx hb dX9_solve_150 rfl (lv_at hl 0 rfl)) ?_
                        refine zz (fun _ _ => lv_aload_n hx hb dX9_solve_151 rfl (lv_at hl 0 rfl)) ?_
                        refine z_get (v := .ref (r + 11)) C fd_X9_41 rm_0 rfl dX9_solve_152 ?_
                        refine zz (fun _ _ => lv_iload_n hx hb dX9_solve_155 rfl (lv_at hl 3 rfl)) ?_
                        refine z_iald (f := A12 11) C rm_11 (by first | assumption | (apply vp_in_nI <;> omega)) dX9_solve_156 ?_
                        refine zval (v' := .int (rw5.1)) (congrArg Value.int (rdI ((congrFun ((kp4_4 hI12).2.1 11 (by decide)) _).trans hprow10.1) (by omega))) ?_
                        refine zz (fun _ _ => lv_aload_n hx hb dX9_solve_157 rfl (lv_at hl 0 rfl)) ?_
                        refine z_get (v := .ref (r + 20)) C fd_X9_68 rm_0 rfl dX9_solve_158 ?_
                        refine zz (fun _ _ => lv_iload hx hb dX9_solve_161 (lv_at hl 6 rfl)) ?_
                        refine z_iald (f := A12 20) C rm_20 (by first | assumption | (apply vp_in_nI <;> omega)) dX9_solve_163 ?_
                        refine zval (v' := .int (nI (pt ((cds (S.1 fr)).getD j10 0) 0))) (congrArg Value.int (rdI ((congrFun ((kp4_4 hI12).2.1 20 (by decide)) _).trans hord10.2.1) (by omega))) ?_
                        refine zqVI (As := [.int (rw5.1), .int (nI (pt ((cds (S.1 fr)).getD j10 0) 0))]) (rest := []) C hl.1 lk_X9_193 (hX9_fits ((congrFun (kp4_4 hI12).1 45).trans hI10.2.2.2.1) hM10 (by have := pt_lt hokc9 0; omega) hokr5.1 hI12.2.2.2) rm_0 rfl rfl rfl (Nat.le_of_ble_eq_true rfl) ⟨by decide, by decide, by decide, by decide⟩ dX9_solve_164 (fun w15 v15 A15 sz h15 => ?_)
                        refine zeq (M' := (mm aC r v15 A15 R)) rfl ?_
                        refine zb (fun _ _ => lv_if_eq (tgt := 214) hx hb dX9_solve_167 (by decide)) (fun c_16 => ?_) (fun c_16 => ?_)
                        · refine zz (fun _ _ => lv_iconst (v := 0) hx hb dX9_solve_214 (by decide)) ?_
                          refine zs (fun _ _ => lv_istore (lv' := [(7, .int (0)), (0, .ref (r)), (1, .int (nI i)), (2, .int (nI ((sN S fr ps j5) + (j7 + 1) * (cds (S.1 fr)).length))), (3, .int (nI (4 * i + j5))), (4, .int (nI (j7))), (5, .int (nI (j10))), (6, .int (nI t10))]) hx hb dX9_solve_215 hl (by decide) rfl) (fun ls hl => ?_)
                          refine zz (fun _ _ => lv_aload_n hx hb dX9_solve_217 rfl (lv_at hl 1 rfl)) ?_
                          refine zz (fun _ _ => lv_dup hx hb dX9_solve_218 rfl) ?_
                          refine z_get (v := .int (v15 45)) C fd_X9_180 rm_0 rfl dX9_solve_219 ?_
                          refine zval (v' := .int (nI (nxt (cds (S.1 fr)) rw5 (sW S fr ps j5) j7 j10).length)) (congrArg Value.int ((congrFun (kp4_f (kp4_4 hI12) h15).1 45).trans hI10.2.2.2.1)) ?_
                          refine zz (fun _ _ => lv_iload hx hb dX9_solve_222 (lv_at hl 0 rfl)) ?_
                          refine zb (fun _ _ => lv_if_eq (tgt := 231) hx hb dX9_solve_224 (by decide)) (fun c_17 => ?_) (fun c_17 => ?_)
                          · refine zz (fun _ _ => lv_iconst (v := 0) hx hb dX9_solve_231 (by decide)) ?_
                            refine zz (fun _ _ => lv_iadd hx hb dX9_solve_232) ?_
                            refine z_put C fp_X9_180 (fun h => by cases h) rm_0 (Nat.le_of_ble_eq_true rfl) rfl rfl dX9_solve_233 ?_
                            refine zeq wm_f45 ?_
                            refine zs (fun _ _ => lv_iinc (v := nI (j10) + 1) (lv' := [(5, .int (nI (j10) + 1)), (7, .int (0)), (0, .ref (r)), (1, .int (nI i)), (2, .int (nI ((sN S fr ps j5) + (j7 + 1) * (cds (S.1 fr)).length))), (3, .int (nI (4 * i + j5))), (4, .int (nI (j7))), (6, .int (nI t10))]) hx hb dX9_solve_236 hl (k := 6) rfl rfl (by decide) rfl) (fun ls hl => ?_)
                            refine zz (fun _ _ => lv_goto (tgt := 91) hx hb dX9_solve_239 (by decide)) ?_
                            have hl := lv_sub hl [2, 3, 4, 5, 6, 0] rfl
                            try simp only [nI_1] at hl
                            exact ih10 ((upd v15 45 ((nI (nxt (cds (S.1 fr)) rw5 (sW S fr ps j5) j7 j10).length) + (0))), A15) _ _ (sl3_no hj10 esg7 hI10 (kp4_f (kp4_4 hI12) h15) (mtc_1 (ft_no h15 c_16))) hl
                          · exact absurd (by decide) c_17
                        · obtain ⟨sx2, ex2, hx2⟩ := ft_ok h15 c_16
                          refine zz (fun _ _ => lv_aload_n hx hb dX9_solve_170 rfl (lv_at hl 0 rfl)) ?_
                          refine zz (fun _ _ => lv_aload_n hx hb dX9_solve_171 rfl (lv_at hl 0 rfl)) ?_
                          refine z_get (v := .ref (r + 12)) C fd_X9_44 rm_0 rfl dX9_solve_172 ?_
                          refine zz (fun _ _ => lv_iload_n hx hb dX9_solve_175 rfl (lv_at hl 3 rfl)) ?_
                          refine z_iald (f := A15 12) C rm_12 (by first | assumption | (apply vp_in_nI <;> omega)) dX9_solve_176 ?_
                          refine zval (v' := .int (rw5.2.1)) (congrArg Value.int (rdI ((congrFun ((kp4_f (kp4_4 hI12) h15).2.1 12 (by decide)) _).trans hprow10.2.1) (by omega))) ?_
                          refine zz (fun _ _ => lv_aload_n hx hb dX9_solve_177 rfl (lv_at hl 0 rfl)) ?_
                          refine z_get (v := .ref (r + 21)) C fd_X9_71 rm_0 rfl dX9_solve_178 ?_
                          refine zz (fun _ _ => lv_iload hx hb dX9_solve_181 (lv_at hl 6 rfl)) ?_
                          refine z_iald (f := A15 21) C rm_21 (by first | assumption | (apply vp_in_nI <;> omega)) dX9_solve_183 ?_
                          refine zval (v' := .int (nI (pt ((cds (S.1 fr)).getD j10 0) 1))) (congrArg Value.int (rdI ((congrFun ((kp4_f (kp4_4 hI12) h15).2.1 21 (by decide)) _).trans hord10.2.2.1) (by omega))) ?_
                          refine zqVI (As := [.int (rw5.2.1), .int (nI (pt ((cds (S.1 fr)).getD j10 0) 1))]) (rest := []) C hl.1 lk_X9_193 (hX9_fits ((congrFun (kp4_f (kp4_4 hI12) h15).1 45).trans hI10.2.2.2.1) hM10 (by have := pt_lt hokc9 1; omega) hokr5.2.1 hx2) rm_0 rfl rfl rfl (Nat.le_of_ble_eq_true rfl) ⟨by decide, by decide, by decide, by decide⟩ dX9_solve_184 (fun w18 v18 A18 sz h18 => ?_)
                          refine zeq (M' := (mm aC r v18 A18 R)) rfl ?_
                          refine zb (fun _ _ => lv_if_eq (tgt := 214) hx hb dX9_solve_187 (by decide)) (fun c_19 => ?_) (fun c_19 => ?_)
                          · refine zz (fun _ _ => lv_iconst (v := 0) hx hb dX9_solve_214 (by decide)) ?_
                            refine zs (fun _ _ => lv_istore (lv' := [(7, .int (0)), (0, .ref (r)), (1, .int (nI i)), (2, .int (nI ((sN S fr ps j5) + (j7 + 1) * (cds (S.1 fr)).length))), (3, .int (nI (4 * i + j5))), (4, .int (nI (j7))), (5, .int (nI (j10))), (6, .int (nI t10))]) hx hb dX9_solve_215 hl (by decide) rfl) (fun ls hl => ?_)
                            refine zz (fun _ _ => lv_aload_n hx hb dX9_solve_217 rfl (lv_at hl 1 rfl)) ?_
                            refine zz (fun _ _ => lv_dup hx hb dX9_solve_218 rfl) ?_
                            refine z_get (v := .int (v18 45)) C fd_X9_180 rm_0 rfl dX9_solve_219 ?_
                            refine zval (v' := .int (nI (nxt (cds (S.1 fr)) rw5 (sW S fr ps j5) j7 j10).length)) (congrArg Value.int ((congrFun (kp4_f (kp4_f (kp4_4 hI12) h15) h18).1 45).trans hI10.2.2.2.1)) ?_
                            refine zz (fun _ _ => lv_iload hx hb dX9_solve_222 (lv_at hl 0 rfl)) ?_
                            refine zb (fun _ _ => lv_if_eq (tgt := 231) hx hb dX9_solve_224 (by decide)) (fun c_20 => ?_) (fun c_20 => ?_)
                            · refine zz (fun _ _ => lv_iconst (v := 0) hx hb dX9_solve_231 (by decide)) ?_
                              refine zz (fun _ _ => lv_iadd hx hb dX9_solve_232) ?_
                              refine z_put C fp_X9_180 (fun h => by cases h) rm_0 (Nat.le_of_ble_eq_true rfl) rfl rfl dX9_solve_233 ?_
                              refine zeq wm_f45 ?_
                              refine zs (fun _ _ => lv_iinc (v := nI (j10) + 1) (lv' := [(5, .int (nI (j10) + 1)), (7, .int (0)), (0, .ref (r)), (1, .int (nI i)), (2, .int (nI ((sN S fr ps j5) + (j7 + 1) * (cds (S.1 fr)).length))), (3, .int (nI (4 * i + j5))), (4, .int (nI (j7))), (6, .int (nI t10))]) hx hb dX9_solve_236 hl (k := 6) rfl rfl (by decide) rfl) (fun ls hl => ?_)
                              refine zz (fun _ _ => lv_goto (tgt := 91) hx hb dX9_solve_239 (by decide)) ?_
                              have hl := lv_sub hl [2, 3, 4, 5, 6, 0] rfl
                              try simp only [nI_1] at hl
                              exact ih10 ((upd v18 45 ((nI (nxt (cds (S.1 fr)) rw5 (sW S fr ps j5) j7 j10).length) + (0))), A18) _ _ (sl3_no hj10 esg7 hI10 (kp4_f (kp4_f (kp4_4 hI12) h15) h18) (mtc_2 ex2 (ft_no h18 c_19))) hl
                            · exact absurd (by decide) c_20
                          · obtain ⟨sx3, ex3, hx3⟩ := ft_ok h18 c_19
                            refine zz (fun _ _ => lv_aload_n hx hb dX9_solve_190 rfl (lv_at hl 0 rfl)) ?_
                            refine zz (fun _ _ => lv_aload_n hx hb dX9_solve_191 rfl (lv_at hl 0 rfl)) ?_
                            refine z_get (v := .ref (r + 13)) C fd_X9_47 rm_0 rfl dX9_solve_192 ?_
                            refine zz (fun _ _ => lv_iload_n hx hb dX9_solve_195 rfl (lv_at hl 3 rfl)) ?_
                            refine z_iald (f := A18 13) C rm_13 (by first | assumption | (apply vp_in_nI <;> omega)) dX9_solve_196 ?_
                            refine zval (v' := .int (rw5.2.2)) (congrArg Value.int (rdI ((congrFun ((kp4_f (kp4_f (kp4_4 hI12) h15) h18).2.1 13 (by decide)) _).trans hprow10.2.2) (by omega))) ?_
                            refine zz (fun _ _ => lv_aload_n hx hb dX9_solve_197 rfl (lv_at hl 0 rfl)) ?_
                            refine z_get (v := .ref (r + 22)) C fd_X9_74 rm_0 rfl dX9_solve_198 ?_
                            refine zz (fun _ _ => lv_iload hx hb dX9_solve_201 (lv_at hl 6 rfl)) ?_
                            refine z_iald (f := A18 22) C rm_22 (by first | assumption | (apply vp_in_nI <;> omega)) dX9_solve_203 ?_
                            refine zval (v' := .int (nI (pt ((cds (S.1 fr)).getD j10 0) 2))) (congrArg Value.int (rdI ((congrFun ((kp4_f (kp4_f (kp4_4 hI12) h15) h18).2.1 22 (by decide)) _).trans hord10.2.2.2) (by omega))) ?_
                            refine zqVI (As := [.int (rw5.2.2), .int (nI (pt ((cds (S.1 fr)).getD j10 0) 2))]) (rest := []) C hl.1 lk_X9_193 (hX9_fits ((congrFun (kp4_f (kp4_f (kp4_4 hI12) h15) h18).1 45).trans hI10.2.2.2.1) hM10 (by have := pt_lt hokc9 2; omega) hokr5.2.2 hx3) rm_0 rfl rfl rfl (Nat.le_of_ble_eq_true rfl) ⟨by decide, by decide, by decide, by decide⟩ dX9_solve_204 (fun w21 v21 A21 sz h21 => ?_)
                            refine zeq (M' := (mm aC r v21 A21 R)) rfl ?_
                            refine zb (fun _ _ => lv_if_eq (tgt := 214) hx hb dX9_solve_207 (by decide)) (fun c_22 => ?_) (fun c_22 => ?_)
                            · refine zz (fun _ _ => lv_iconst (v := 0) hx hb dX9_solve_214 (by decide)) ?_
                              refine zs (fun _ _ => lv_istore (lv' := [(7, .int (0)), (0, .ref (r)), (1, .int (nI i)), (2, .int (nI ((sN S fr ps j5) + (j7 + 1) * (cds (S.1 fr)).length))), (3, .int (nI (4 * i + j5))), (4, .int (nI (j7))), (5, .int (nI (j10))), (6, .int (nI t10))]) hx hb dX9_solve_215 hl (by decide) rfl) (fun ls hl => ?_)
                              refine zz (fun _ _ => lv_aload_n hx hb dX9_solve_217 rfl (lv_at hl 1 rfl)) ?_
                              refine zz (fun _ _ => lv_dup hx hb dX9_solve_218 rfl) ?_
                              refine z_get (v := .int (v21 45)) C fd_X9_180 rm_0 rfl dX9_solve_219 ?_
                              refine zval (v' := .int (nI (nxt (cds (S.1 fr)) rw5 (sW S fr ps j5) j7 j10).length)) (congrArg Value.int ((congrFun (kp4_f (kp4_f (kp4_f (kp4_4 hI12) h15) h18) h21).1 45).trans hI10.2.2.2.1)) ?_
                              refine zz (fun _ _ => lv_iload hx hb dX9_solve_222 (lv_at hl 0 rfl)) ?_
                              refine zb (fun _ _ => lv_if_eq (tgt := 231) hx hb dX9_solve_224 (by decide)) (fun c_23 => ?_) (fun c_23 => ?_)
                              · refine zz (fun _ _ => lv_iconst (v := 0) hx hb dX9_solve_231 (by decide)) ?_
                                refine zz (fun _ _ => lv_iadd hx hb dX9_solve_232) ?_
                                refine z_put C fp_X9_180 (fun h => by cases h) rm_0 (Nat.le_of_ble_eq_true rfl) rfl rfl dX9_solve_233 ?_
                                refine zeq wm_f45 ?_
                                refine zs (fun _ _ => lv_iinc (v := nI (j10) + 1) (lv' := [(5, .int (nI (j10) + 1)), (7, .int (0)), (0, .ref (r)), (1, .int (nI i)), (2, .int (nI ((sN S fr ps j5) + (j7 + 1) * (cds (S.1 fr)).length))), (3, .int (nI (4 * i + j5))), (4, .int (nI (j7))), (6, .int (nI t10))]) hx hb dX9_solve_236 hl (k := 6) rfl rfl (by decide) rfl) (fun ls hl => ?_)
                                refine zz (fun _ _ => lv_goto (tgt := 91) hx hb dX9_solve_239 (by decide)) ?_
                                have hl := lv_sub hl [2, 3, 4, 5, 6, 0] rfl
                                try simp only [nI_1] at hl
                                exact ih10 ((upd v21 45 ((nI (nxt (cds (S.1 fr)) rw5 (sW S fr ps j5) j7 j10).length) + (0))), A21) _ _ (sl3_no hj10 esg7 hI10 (kp4_f (kp4_f (kp4_f (kp4_4 hI12) h15) h18) h21) ((mtc_3 ex2 ex3).trans (ft_no h21 c_22))) hl
                              · exact absurd (by decide) c_23
                            · refine zz (fun _ _ => lv_iconst (v := 1) hx hb dX9_solve_210 (by decide)) ?_
                              refine zz (fun _ _ => lv_goto (tgt := 215) hx hb dX9_solve_211 (by decide)) ?_
                              refine zs (fun _ _ => lv_istore (lv' := [(7, .int (1)), (0, .ref (r)), (1, .int (nI i)), (2, .int (nI ((sN S fr ps j5) + (j7 + 1) * (cds (S.1 fr)).length))), (3, .int (nI (4 * i + j5))), (4, .int (nI (j7))), (5, .int (nI (j10))), (6, .int (nI t10))]) hx hb dX9_solve_215 hl (by decide) rfl) (fun ls hl => ?_)
                              refine zz (fun _ _ => lv_aload_n hx hb dX9_solve_217 rfl (lv_at hl 1 rfl)) ?_
                              refine zz (fun _ _ => lv_dup hx hb dX9_solve_218 rfl) ?_
                              refine z_get (v := .int (v21 45)) C fd_X9_180 rm_0 rfl dX9_solve_219 ?_
                              refine zval (v' := .int (nI (nxt (cds (S.1 fr)) rw5 (sW S fr ps j5) j7 j10).length)) (congrArg Value.int ((congrFun (kp4_f (kp4_f (kp4_f (kp4_4 hI12) h15) h18) h21).1 45).trans hI10.2.2.2.1)) ?_
                              refine zz (fun _ _ => lv_iload hx hb dX9_solve_222 (lv_at hl 0 rfl)) ?_
                              refine zb (fun _ _ => lv_if_eq (tgt := 231) hx hb dX9_solve_224 (by decide)) (fun c_24 => ?_) (fun c_24 => ?_)
                              · exact absurd c_24 (by decide)
                              · refine zz (fun _ _ => lv_iconst (v := 1) hx hb dX9_solve_227 (by decide)) ?_
                                refine zz (fun _ _ => lv_goto (tgt := 232) hx hb dX9_solve_228 (by decide)) ?_
                                refine zz (fun _ _ => lv_iadd hx hb dX9_solve_232) ?_
                                refine z_put C fp_X9_180 (fun h => by cases h) rm_0 (Nat.le_of_ble_eq_true rfl) rfl rfl dX9_solve_233 ?_
                                refine zeq wm_f45 ?_
                                refine zs (fun _ _ => lv_iinc (v := nI (j10) + 1) (lv' := [(5, .int (nI (j10) + 1)), (7, .int (1)), (0, .ref (r)), (1, .int (nI i)), (2, .int (nI ((sN S fr ps j5) + (j7 + 1) * (cds (S.1 fr)).length))), (3, .int (nI (4 * i + j5))), (4, .int (nI (j7))), (6, .int (nI t10))]) hx hb dX9_solve_236 hl (k := 6) rfl rfl (by decide) rfl) (fun ls hl => ?_)
                                refine zz (fun _ _ => lv_goto (tgt := 91) hx hb dX9_solve_239 (by decide)) ?_
                                have hl := lv_sub hl [2, 3, 4, 5, 6, 0] rfl
                                try simp only [nI_1] at hl
                                obtain ⟨sx4, ex4, hx4⟩ := ft_ok h21 c_22
                                exact ih10 ((upd v21 45 ((nI (nxt (cds (S.1 fr)) rw5 (sW S fr ps j5) j7 j10).length) + (1))), A21) _ _ (sl3_yes hj10 esg7 hI10 (kp4_f (kp4_f (kp4_f (kp4_4 hI12) h15) h18) h21) ((mtc_3 ex2 ex3).trans ex4) hx4) hl
                      · exact absurd (nI_le (Nat.le_refl _) (by omega)) c_14
                · intro a10 sz ls hI10 hl
                  obtain ⟨v10, A10⟩ := a10
                  dsimp only at hI10 hl
                  refine zeq (M' := (mm aC r v10 A10 R)) rfl ?_
                  refine zz (fun _ _ => lv_iload hx hb dX9_solve_91 (lv_at hl 5 rfl)) ?_
                  refine zz (fun _ _ => lv_aload_n hx hb dX9_solve_93 rfl (lv_at hl 0 rfl)) ?_
                  refine z_get (v := .int (v10 47)) C fd_X9_174 rm_0 rfl dX9_solve_94 ?_
                  refine zval (v' := .int (nI (cds (S.1 fr)).length)) (congrArg Value.int hI10.1.2.2.1) ?_
                  refine zb (fun _ _ => lv_icmp_ge (tgt := 242) hx hb dX9_solve_97 (by decide)) (fun c_25 => ?_) (fun c_25 => ?_)
                  · refine zs (fun _ _ => lv_iinc (v := nI (j7) + 1) (lv' := [(4, .int (nI (j7) + 1)), (0, .ref (r)), (1, .int (nI i)), (2, .int (nI ((sN S fr ps j5) + (j7 + 1) * (cds (S.1 fr)).length))), (3, .int (nI (4 * i + j5))), (5, .int (nI (((cds (S.1 fr)).length))))]) hx hb dX9_solve_242 hl (k := 4) rfl rfl (by decide) rfl) (fun ls hl => ?_)
                    refine zz (fun _ _ => lv_goto (tgt := 63) hx hb dX9_solve_245 (by decide)) ?_
                    have hl := lv_sub hl [1, 2, 3, 4, 0] rfl
                    try simp only [nI_1] at hl
                    exact ih7 (v10, A10, nI ((sN S fr ps j5) + (j7 + 1) * (cds (S.1 fr)).length)) _ _ (sl2_next hj7 hs5 hI10) hl
                  · exact absurd (nI_le (Nat.le_refl _) (by omega)) c_25
              · refine zz (fun _ _ => lv_iconst (v := 5) hx hb dX9_solve_86 (by decide)) ?_
                exact z_iret C hr hlk dX9_solve_87 (zpI_mk (a := v7) (b := A7) (sl_no erw5 hj7 hI7.1 hI7.2.2.1 hlen c_9))
          · intro a7 sz ls hI7 hl
            obtain ⟨v7, A7, t7_2⟩ := a7
            dsimp only at hI7 hl
            refine zeq (M' := (mm aC r v7 A7 R)) rfl ?_
            have hX5 : (nxt (cds (S.1 fr)) rw5 (sW S fr ps j5) ((sW S fr ps j5).length) 0).length ≤ 5000 := nxt_5e hI7.2.2.1
            refine zz (fun _ _ => lv_iload hx hb dX9_solve_63 (lv_at hl 4 rfl)) ?_
            refine zz (fun _ _ => lv_aload_n hx hb dX9_solve_65 rfl (lv_at hl 0 rfl)) ?_
            refine z_get (v := .int (v7 43)) C fd_X9_190 rm_0 rfl dX9_solve_66 ?_
            refine zval (v' := .int (nI (sW S fr ps j5).length)) (congrArg Value.int hI7.2.2.2.1) ?_
            refine zb (fun _ _ => lv_icmp_ge (tgt := 248) hx hb dX9_solve_69 (by decide)) (fun c_26 => ?_) (fun c_26 => ?_)
            · refine zz (fun _ _ => lv_aload_n hx hb dX9_solve_248 rfl (lv_at hl 0 rfl)) ?_
              refine zz (fun _ _ => lv_aload_n hx hb dX9_solve_249 rfl (lv_at hl 0 rfl)) ?_
              refine z_get (v := .int (v7 45)) C fd_X9_180 rm_0 rfl dX9_solve_250 ?_
              refine zval (v' := .int (nI (nxt (cds (S.1 fr)) rw5 (sW S fr ps j5) ((sW S fr ps j5).length) 0).length)) (congrArg Value.int hI7.2.2.2.2.2.1) ?_
              refine z_put C fp_X9_190 (fun h => by cases h) rm_0 (Nat.le_of_ble_eq_true rfl) rfl rfl dX9_solve_253 ?_
              refine zeq wm_f43 ?_
              refine zz (fun _ _ => lv_iconst (v := 0) hx hb dX9_solve_256 (by decide)) ?_
              refine zs (fun _ _ => lv_istore (lv' := [(4, .int (0)), (0, .ref (r)), (1, .int (nI i)), (2, .int (t7_2)), (3, .int (nI (4 * i + j5)))]) hx hb dX9_solve_257 hl (by decide) rfl) (fun ls hl => ?_)
              have hl0 := lv_sub hl [1, 2, 3, 4, 0] rfl
              refine z_loop (γ := (Nat → Int32) × (Nat → Nat → Int32)) (G := fun a => mm aC r a.1 a.2 R) (I := fun j a => sl5 (upd v7 43 (nI (nxt (cds (S.1 fr)) rw5 (sW S fr ps j5) ((sW S fr ps j5).length) 0).length)) A7 j a.1 a.2) (lv := fun j a => [(0, .ref (r)), (1, .int (nI i)), (2, .int (t7_2)), (3, .int (nI (4 * i + j5))), (4, .int (nI (j)))]) (4 * (nxt (cds (S.1 fr)) rw5 (sW S fr ps j5) ((sW S fr ps j5).length) 0).length) ?_ ?_ ((upd v7 43 (nI (nxt (cds (S.1 fr)) rw5 (sW S fr ps j5) ((sW S fr ps j5).length) 0).length)), A7) _ _ ⟨rfl, fun _ _ => rfl, fun _ hx => absurd hx (Nat.not_lt_zero _)⟩ hl0
              · intro j27 a27 sz ls hj27 hI27 hl ih27
                obtain ⟨v27, A27⟩ := a27
                dsimp only at hI27 hl ih27
                refine zeq (M' := (mm aC r v27 A27 R)) rfl ?_
                refine zz (fun _ _ => lv_iload hx hb dX9_solve_259 (lv_at hl 4 rfl)) ?_
                refine zz (fun _ _ => lv_iconst (v := 4) hx hb dX9_solve_261 (by decide)) ?_
                refine zz (fun _ _ => lv_aload_n hx hb dX9_solve_262 rfl (lv_at hl 0 rfl)) ?_
                refine z_get (v := .int (v27 43)) C fd_X9_190 rm_0 rfl dX9_solve_263 ?_
                refine zval (v' := .int (nI (nxt (cds (S.1 fr)) rw5 (sW S fr ps j5) ((sW S fr ps j5).length) 0).length)) (congrArg Value.int (by rw [hI27.1]; simp [upd])) ?_
                refine zz (fun _ _ => lv_imul hx hb dX9_solve_266) ?_
                refine zval (v' := .int (nI (4 * (nxt (cds (S.1 fr)) rw5 (sW S fr ps j5) ((sW S fr ps j5).length) 0).length))) (congrArg Value.int (pk_mul 4 _)) ?_
                refine zb (fun _ _ => lv_icmp_ge (tgt := 290) hx hb dX9_solve_267 (by decide)) (fun c_28 => ?_) (fun c_28 => ?_)
                · exact absurd c_28 (nI_ge (by omega) (by omega))
                · refine zz (fun _ _ => lv_aload_n hx hb dX9_solve_270 rfl (lv_at hl 0 rfl)) ?_
                  refine z_get (v := .ref (r + 35)) C fd_X9_117 rm_0 rfl dX9_solve_271 ?_
                  refine zz (fun _ _ => lv_iload hx hb dX9_solve_274 (lv_at hl 4 rfl)) ?_
                  refine zz (fun _ _ => lv_aload_n hx hb dX9_solve_276 rfl (lv_at hl 0 rfl)) ?_
                  refine z_get (v := .ref (r + 36)) C fd_X9_120 rm_0 rfl dX9_solve_277 ?_
                  refine zz (fun _ _ => lv_iload hx hb dX9_solve_280 (lv_at hl 4 rfl)) ?_
                  refine z_iald (f := A27 36) C rm_36 (by first | assumption | (apply vp_in_nI <;> omega)) dX9_solve_282 ?_
                  refine z_iast (f := A27 35) C rm_35 (by first | assumption | (apply vp_in_nI <;> omega)) dX9_solve_283 ?_
                  refine zeq wm_35 ?_
                  refine zs (fun _ _ => lv_iinc (v := nI (j27) + 1) (lv' := [(4, .int (nI (j27) + 1)), (0, .ref (r)), (1, .int (nI i)), (2, .int (t7_2)), (3, .int (nI (4 * i + j5)))]) hx hb dX9_solve_284 hl (k := 4) rfl rfl (by decide) rfl) (fun ls hl => ?_)
                  refine zz (fun _ _ => lv_goto (tgt := 259) hx hb dX9_solve_287 (by decide)) ?_
                  have hl := lv_sub hl [1, 2, 3, 4, 0] rfl
                  try simp only [nI_1] at hl
                  exact ih27 (v27, (u1 A27 35 (upd (A27 35) (Int32.toNatClampNeg (nI (j27))) (A27 36 (Int32.toNatClampNeg (nI (j27))))))) _ _ (by dsimp only; rw [nI_clamp (n := j27) (by omega)]; exact sl5_next hI27) hl
              · intro a27 sz ls hI27 hl
                obtain ⟨v27, A27⟩ := a27
                dsimp only at hI27 hl
                refine zeq (M' := (mm aC r v27 A27 R)) rfl ?_
                refine zz (fun _ _ => lv_iload hx hb dX9_solve_259 (lv_at hl 4 rfl)) ?_
                refine zz (fun _ _ => lv_iconst (v := 4) hx hb dX9_solve_261 (by decide)) ?_
                refine zz (fun _ _ => lv_aload_n hx hb dX9_solve_262 rfl (lv_at hl 0 rfl)) ?_
                refine z_get (v := .int (v27 43)) C fd_X9_190 rm_0 rfl dX9_solve_263 ?_
                refine zval (v' := .int (nI (nxt (cds (S.1 fr)) rw5 (sW S fr ps j5) ((sW S fr ps j5).length) 0).length)) (congrArg Value.int (by rw [hI27.1]; simp [upd])) ?_
                refine zz (fun _ _ => lv_imul hx hb dX9_solve_266) ?_
                refine zval (v' := .int (nI (4 * (nxt (cds (S.1 fr)) rw5 (sW S fr ps j5) ((sW S fr ps j5).length) 0).length))) (congrArg Value.int (pk_mul 4 _)) ?_
                refine zb (fun _ _ => lv_icmp_ge (tgt := 290) hx hb dX9_solve_267 (by decide)) (fun c_29 => ?_) (fun c_29 => ?_)
                · refine zs (fun _ _ => lv_iinc (v := nI (4 * i + j5) + 1) (lv' := [(3, .int (nI (4 * i + j5) + 1)), (0, .ref (r)), (1, .int (nI i)), (2, .int (t7_2)), (4, .int (nI ((4 * (nxt (cds (S.1 fr)) rw5 (sW S fr ps j5) ((sW S fr ps j5).length) 0).length))))]) hx hb dX9_solve_290 hl (k := 3) rfl rfl (by decide) rfl) (fun ls hl => ?_)
                  refine zz (fun _ _ => lv_goto (tgt := 41) hx hb dX9_solve_293 (by decide)) ?_
                  have hl := lv_sub hl [1, 2, 3, 0] rfl
                  try simp only [nI_1] at hl
                  exact ih5 (v27, A27, t7_2) _ _ (sl1_next erw5 hI7 hI27) hl
                · exact absurd (nI_le (Nat.le_refl _) (by omega)) c_29
            · exact absurd (nI_le (Nat.le_refl _) (by omega)) c_26
      · intro a5 sz ls hI5 hl
        obtain ⟨v5, A5, t5_2⟩ := a5
        dsimp only at hI5 hl
        refine zeq (M' := (mm aC r v5 A5 R)) rfl ?_
        have hP5 : PRr A5 i ps := hP.kept hI5.1.1.low
        refine zz (fun _ _ => lv_iload_n hx hb dX9_solve_41 rfl (lv_at hl 3 rfl)) ?_
        refine zz (fun _ _ => lv_iconst (v := 4) hx hb dX9_solve_42 (by decide)) ?_
        refine zz (fun _ _ => lv_iload_n hx hb dX9_solve_43 rfl (lv_at hl 1 rfl)) ?_
        refine zz (fun _ _ => lv_imul hx hb dX9_solve_44) ?_
        refine zval (v' := .int (nI (4 * i))) (congrArg Value.int (pk_mul 4 i)) ?_
        refine zz (fun _ _ => lv_aload_n hx hb dX9_solve_45 rfl (lv_at hl 0 rfl)) ?_
        refine z_get (v := .ref (r + 10)) C fd_X9_38 rm_0 rfl dX9_solve_46 ?_
        refine zz (fun _ _ => lv_iload_n hx hb dX9_solve_49 rfl (lv_at hl 1 rfl)) ?_
        refine z_iald (f := A5 10) C rm_10 (by first | assumption | (apply vp_in_nI <;> omega)) dX9_solve_50 ?_
        refine zval (v' := .int (nI ps.length)) (congrArg Value.int (rdI hP5.1 (by omega))) ?_
        refine zz (fun _ _ => lv_iadd hx hb dX9_solve_51) ?_
        refine zval (v' := .int (nI (4 * i + ps.length))) (congrArg Value.int (nI_add _ _)) ?_
        refine zb (fun _ _ => lv_icmp_ge (tgt := 296) hx hb dX9_solve_52 (by decide)) (fun c_30 => ?_) (fun c_30 => ?_)
        · refine zz (fun _ _ => lv_aload_n hx hb dX9_solve_296 rfl (lv_at hl 0 rfl)) ?_
          refine zz (fun _ _ => lv_dup hx hb dX9_solve_297 rfl) ?_
          refine z_get (v := .int (v5 41)) C fd_X9_196 rm_0 rfl dX9_solve_298 ?_
          refine zz (fun _ _ => lv_iload_n hx hb dX9_solve_301 rfl (lv_at hl 2 rfl)) ?_
          refine zz (fun _ _ => lv_iadd hx hb dX9_solve_302) ?_
          refine z_put C fp_X9_196 (fun h => by cases h) rm_0 (Nat.le_of_ble_eq_true rfl) rfl rfl dX9_solve_303 ?_
          refine zeq wm_f41 ?_
          refine zz (fun _ _ => lv_aload_n hx hb dX9_solve_306 rfl (lv_at hl 0 rfl)) ?_
          refine z_get (v := .int (v5 43)) C fd_X9_190 rm_0 rfl dX9_solve_307 ?_
          refine zval (v' := .int (nI (sW S fr ps ps.length).length)) (congrArg Value.int hI5.2.2.2.1) ?_
          refine zz (fun _ _ => lv_bipush (v := 100) hx hb dX9_solve_310 (by decide)) ?_
          refine zval (v' := .int (nI 100)) (congrArg Value.int rfl) ?_
          refine zb (fun _ _ => lv_icmp_le (tgt := 319) hx hb dX9_solve_312 (by decide)) (fun c_31 => ?_) (fun c_31 => ?_)
          · refine zz (fun _ _ => lv_iconst (v := 0) hx hb dX9_solve_319 (by decide)) ?_
            exact z_iret C hr hlk dX9_solve_320 (zpI_mk (a := (upd v5 41 ((v5 41) + (t5_2)))) (b := A5) ((sl_end hI5).1 c_31))
          · refine zz (fun _ _ => lv_iconst (v := 5) hx hb dX9_solve_315 (by decide)) ?_
            refine zz (fun _ _ => lv_goto (tgt := 320) hx hb dX9_solve_316 (by decide)) ?_
            exact z_iret C hr hlk dX9_solve_320 (zpI_mk (a := (upd v5 41 ((v5 41) + (t5_2)))) (b := A5) ((sl_end hI5).2 c_31))
        · exact absurd (nI_le (Nat.le_refl _) (by omega)) c_30
    · exact absurd (nI_le (Nat.le_refl _) (by omega)) c_4
