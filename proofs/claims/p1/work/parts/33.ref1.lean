theorem sw_out {x : Int32} {lo hi : Int} (h : ∀ n : Int, lo ≤ n → n ≤ hi → ¬ x = Int32.ofInt n) : x.toInt < lo ∨ hi < x.toInt := by
  by_cases q : x.toInt < lo
  · exact Or.inl q
  · by_cases q2 : hi < x.toInt
    · exact Or.inr q2
    · exact absurd (by simp) (h x.toInt (by omega) (by omega))
theorem vin_lt {a : Int32} {N : Nat} (h : vp_in a N) : a.toNatClampNeg < N := Nat.not_le.mp fun q => h (Or.inr q)
theorem ne_lt {a : Int32} {n m : Nat} (hs : a = nI n) (hn : n ≤ m) (h : ¬ a = nI m) : n < m := by
  rcases Nat.lt_or_ge n m with q | q
  · exact q
  · exact absurd (by rw [hs, show n = m by omega]) h
theorem isStep_in {v : Nat → Int32} {a : Int32} {n N : Nat} (h : ¬ fX9_isStep v a = 0) (hs : v 1 = nI n) (hn : n ≤ N) (hN : N < 2 ^ 31) : vp_in a N := by
  unfold fX9_isStep at h
  split at h
  · exact absurd rfl h
  · split at h
    · exact absurd rfl h
    · rename_i h1 h2
      rw [hs] at h2
      refine vp_in_iff.mpr ⟨?_, ?_⟩
      · simpa [Int32.lt_iff_toInt_lt] using h1
      · rw [Int32.le_iff_toInt_le, nI_toInt (by omega)] at h2
        omega
theorem ixm {a : Int32} {g : Nat → Int32} (w : Nat) {N M : Nat} (ha : vp_in a N) (hT : ∀ j, j < N → ∃ t, t ≤ w ∧ g j = nI t) (h : ¬ g a.toNatClampNeg = nI w) (hM : w * N = M) (hb : M < 2 ^ 31) (hN : N < 2 ^ 31) : vp_in (nI w * a + g a.toNatClampNeg) M := by
  obtain ⟨j, hj, rfl⟩ := vp_in_of ha hN
  rw [nI_clamp (by omega)] at h ⊢
  obtain ⟨t, ht, e⟩ := hT j hj
  have hlt := ne_lt e ht h
  rw [e, pk_mul, nI_add]
  refine vp_in_nI ?_ hb
  have : w * j + w ≤ w * N := by
    rw [← Nat.mul_succ]
    exact Nat.mul_le_mul_left w hj
  omega
theorem ix_lt {a b : Int32} {n N : Nat} (h1 : ¬ a < 0) (h2 : ¬ b ≤ a) (hb : b = nI n) (hn : n ≤ N) (hN : N < 2 ^ 31) : vp_in a N := by
  rw [hb] at h2
  refine vp_in_iff.mpr ⟨?_, ?_⟩
  · simpa [Int32.lt_iff_toInt_lt] using h1
  · rw [Int32.le_iff_toInt_le, nI_toInt (by omega)] at h2
    omega
theorem ix_lt2 {a b : Int32} {n N : Nat} (h1 : ¬ a < 0) (h2 : a < b) (hb : b = nI n) (hn : n ≤ N) (hN : N < 2 ^ 31) : vp_in a N :=
  ix_lt h1 (by simpa using h2) hb hn hN
def fX9_step (v : Nat → Int32) (A : Nat → Nat → Int32) (a_ : Int32) (b_ : Int32) (c_ : Int32) : Int32 × (Nat → Int32) × (Nat → Nat → Int32) := if a_ = 2 then if (fX9_isIn a_ 0 9) = 0 then (0, (upd v 0 1), A) else if a_ = 9 then if (fX9_isIn b_ 0 3) = 0 then (0, (upd v 0 1), A) else if (fX9_isTo a_ c_) = 0 then (0, (upd v 0 1), A) else if v 1 = 12 then (0, (upd v 0 2), A) else (((v 1) + (1)) - (1), (upd (upd v 0 0) 1 ((v 1) + (1))), (u1 (u1 (u1 (u1 (u1 (u1 A 1 (upd (A 1) (Int32.toNatClampNeg (v 1)) (a_))) 2 (upd (A 2) (Int32.toNatClampNeg (v 1)) (b_))) 3 (upd (A 3) (Int32.toNatClampNeg (v 1)) (c_))) 4 (upd (A 4) (Int32.toNatClampNeg (v 1)) (0))) 5 (upd (A 5) (Int32.toNatClampNeg (v 1)) (0))) 10 (upd (A 10) (Int32.toNatClampNeg (v 1)) (0)))) else if (fX9_isIn b_ 0 6) = 0 then (0, (upd v 0 1), A) else if (fX9_isTo a_ c_) = 0 then (0, (upd v 0 1), A) else if v 1 = 12 then (0, (upd v 0 2), A) else (((v 1) + (1)) - (1), (upd (upd v 0 0) 1 ((v 1) + (1))), (u1 (u1 (u1 (u1 (u1 (u1 A 1 (upd (A 1) (Int32.toNatClampNeg (v 1)) (a_))) 2 (upd (A 2) (Int32.toNatClampNeg (v 1)) (b_))) 3 (upd (A 3) (Int32.toNatClampNeg (v 1)) (c_))) 4 (upd (A 4) (Int32.toNatClampNeg (v 1)) (0))) 5 (upd (A 5) (Int32.toNatClampNeg (v 1)) (0))) 10 (upd (A 10) (Int32.toNatClampNeg (v 1)) (0)))) else if a_ < 6 then if (fX9_isIn a_ 0 9) = 0 then (0, (upd v 0 1), A) else if (fX9_isTo a_ c_) = 0 then (0, (upd v 0 1), A) else if v 1 = 12 then (0, (upd v 0 2), A) else (((v 1) + (1)) - (1), (upd (upd v 0 0) 1 ((v 1) + (1))), (u1 (u1 (u1 (u1 (u1 (u1 A 1 (upd (A 1) (Int32.toNatClampNeg (v 1)) (a_))) 2 (upd (A 2) (Int32.toNatClampNeg (v 1)) (b_))) 3 (upd (A 3) (Int32.toNatClampNeg (v 1)) (c_))) 4 (upd (A 4) (Int32.toNatClampNeg (v 1)) (0))) 5 (upd (A 5) (Int32.toNatClampNeg (v 1)) (0))) 10 (upd (A 10) (Int32.toNatClampNeg (v 1)) (0)))) else if (fX9_isIn a_ 0 9) = 0 then (0, (upd v 0 1), A) else if a_ = 9 then if (fX9_isIn b_ 0 3) = 0 then (0, (upd v 0 1), A) else if (fX9_isTo a_ c_) = 0 then (0, (upd v 0 1), A) else if v 1 = 12 then (0, (upd v 0 2), A) else (((v 1) + (1)) - (1), (upd (upd v 0 0) 1 ((v 1) + (1))), (u1 (u1 (u1 (u1 (u1 (u1 A 1 (upd (A 1) (Int32.toNatClampNeg (v 1)) (a_))) 2 (upd (A 2) (Int32.toNatClampNeg (v 1)) (b_))) 3 (upd (A 3) (Int32.toNatClampNeg (v 1)) (c_))) 4 (upd (A 4) (Int32.toNatClampNeg (v 1)) (0))) 5 (upd (A 5) (Int32.toNatClampNeg (v 1)) (0))) 10 (upd (A 10) (Int32.toNatClampNeg (v 1)) (0)))) else if (fX9_isIn b_ 0 6) = 0 then (0, (upd v 0 1), A) else if (fX9_isTo a_ c_) = 0 then (0, (upd v 0 1), A) else if v 1 = 12 then (0, (upd v 0 2), A) else (((v 1) + (1)) - (1), (upd (upd v 0 0) 1 ((v 1) + (1))), (u1 (u1 (u1 (u1 (u1 (u1 A 1 (upd (A 1) (Int32.toNatClampNeg (v 1)) (a_))) 2 (upd (A 2) (Int32.toNatClampNeg (v 1)) (b_))) 3 (upd (A 3) (Int32.toNatClampNeg (v 1)) (c_))) 4 (upd (A 4) (Int32.toNatClampNeg (v 1)) (0))) 5 (upd (A 5) (Int32.toNatClampNeg (v 1)) (0))) 10 (upd (A 10) (Int32.toNatClampNeg (v 1)) (0))))
set_option maxHeartbeats 1000000 in
set_option maxRecDepth 10000 in
theorem ctX9_step {l : Launch} {D : va_G} {aC : Nat → ClassId} {b0 sz : Nat} {r : Nat} {v : Nat → Int32} {A : Nat → Nat → Int32} {R : ZM} {a_ : Int32} {b_ : Int32} {c_ : Int32} {n_ : Nat} (hs : v 1 = nI n_) (hn : n_ ≤ 12) : Ct l D aC b0 yX9_step cX9_step 6 (some .int) 2 0 0 [.ref (r), .int (a_), .int (b_), .int (c_)] (mm aC r v A R) sz (zd (some (.int (fX9_step v A a_ b_ c_).1)) (mm aC r (fX9_step v A a_ b_ c_).2.1 (fX9_step v A a_ b_ c_).2.2 R)) := by
  refine Ct.of (by decide) (Nat.le_of_ble_eq_true rfl) ?_
  intro p e s m below meth c ls C hr hlk hnm hl
  have hl : lv_has ls 6 [(0, .ref (r)), (1, .int (a_)), (2, .int (b_)), (3, .int (c_))] := hl
  obtain ⟨hx, hb, -, -, -⟩ := id C
  refine zz (fun _ _ => lv_iload_n hx hb dX9_step_0 rfl (lv_at hl 1 rfl)) ?_
  refine zz (fun _ _ => lv_iconst (v := 2) hx hb dX9_step_1 (by decide)) ?_
  refine zb (fun _ _ => lv_icmp_eq (tgt := 11) hx hb dX9_step_2 (by decide)) (fun c_1 => ?_) (fun c_1 => ?_)
  · refine zz (fun _ _ => lv_iconst (v := 1) hx hb dX9_step_11 (by decide)) ?_
    refine zz (fun _ _ => lv_goto (tgt := 16) hx hb dX9_step_12 (by decide)) ?_
    refine zs (fun _ _ => lv_istore (lv' := [(4, .int (1)), (0, .ref (r)), (1, .int (a_)), (2, .int (b_)), (3, .int (c_))]) hx hb dX9_step_16 hl (by decide) rfl) (fun ls hl => ?_)
    refine zz (fun _ _ => lv_iload_n hx hb dX9_step_18 rfl (lv_at hl 2 rfl)) ?_
    refine zz (fun _ _ => lv_iconst (v := 0) hx hb dX9_step_19 (by decide)) ?_
    refine zz (fun _ _ => lv_bipush (v := 9) hx hb dX9_step_20 (by decide)) ?_
    refine zdS (As := [.int (a_), .int (0), .int (9)]) (rest := []) (st' := [.int ((fX9_isIn a_ 0 9))]) C hl.1 lk_X9_135 (ctX9_isIn) rfl rfl (Nat.le_of_ble_eq_true rfl) ⟨by decide, by decide, by decide, by decide⟩ dX9_step_22 rfl (fun sz => ?_)
    refine zb (fun _ _ => lv_if_eq (tgt := 65) hx hb dX9_step_25 (by decide)) (fun c_2 => ?_) (fun c_2 => ?_)
    · refine zz (fun _ _ => lv_iconst (v := 0) hx hb dX9_step_65 (by decide)) ?_
      refine zs (fun _ _ => lv_istore (lv' := [(5, .int (0)), (4, .int (1)), (0, .ref (r)), (1, .int (a_)), (2, .int (b_)), (3, .int (c_))]) hx hb dX9_step_66 hl (by decide) rfl) (fun ls hl => ?_)
      refine zz (fun _ _ => lv_aload_n hx hb dX9_step_68 rfl (lv_at hl 2 rfl)) ?_
      refine zz (fun _ _ => lv_iload hx hb dX9_step_69 (lv_at hl 0 rfl)) ?_
      refine zbn (fun _ _ => lv_if_ne (tgt := 78) hx hb dX9_step_71 (by decide)) (fun c_3 => ?_) (fun c_3 => ?_)
      · exact absurd (by decide) c_3
      · refine zz (fun _ _ => lv_iconst (v := 1) hx hb dX9_step_74 (by decide)) ?_
        refine zz (fun _ _ => lv_goto (tgt := 92) hx hb dX9_step_75 (by decide)) ?_
        refine z_put C fp_X9_129 (fun h => by cases h) rm_0 (Nat.le_of_ble_eq_true rfl) rfl rfl dX9_step_92 ?_
        refine zeq wm_f0 ?_
        refine zz (fun _ _ => lv_aload_n hx hb dX9_step_95 rfl (lv_at hl 2 rfl)) ?_
        refine z_get (v := .int (1)) C fd_X9_129 rm_0 rfl dX9_step_96 ?_
        refine zb (fun _ _ => lv_if_le (tgt := 104) hx hb dX9_step_99 (by decide)) (fun c_4 => ?_) (fun c_4 => ?_)
        · exact absurd c_4 (by decide)
        · refine zz (fun _ _ => lv_iconst (v := 0) hx hb dX9_step_102 (by decide)) ?_
          exact z_iret C hr hlk dX9_step_103 (by simp only [zd, fX9_step, if_pos c_1, if_pos c_2, and_self])
    · refine zz (fun _ _ => lv_iload hx hb dX9_step_28 (lv_at hl 0 rfl)) ?_
      refine zb (fun _ _ => lv_if_eq (tgt := 53) hx hb dX9_step_30 (by decide)) (fun c_5 => ?_) (fun c_5 => ?_)
      · exact absurd c_5 (by decide)
      · refine zz (fun _ _ => lv_iload_n hx hb dX9_step_33 rfl (lv_at hl 3 rfl)) ?_
        refine zz (fun _ _ => lv_iconst (v := 0) hx hb dX9_step_34 (by decide)) ?_
        refine zz (fun _ _ => lv_iload_n hx hb dX9_step_35 rfl (lv_at hl 2 rfl)) ?_
        refine zz (fun _ _ => lv_bipush (v := 9) hx hb dX9_step_36 (by decide)) ?_
        refine zbn (fun _ _ => lv_icmp_ne (tgt := 45) hx hb dX9_step_38 (by decide)) (fun c_6 => ?_) (fun c_6 => ?_)
        · refine zz (fun _ _ => lv_bipush (v := 6) hx hb dX9_step_45 (by decide)) ?_
          refine zdS (As := [.int (b_), .int (0), .int (6)]) (rest := []) (st' := [.int ((fX9_isIn b_ 0 6))]) C hl.1 lk_X9_135 (ctX9_isIn) rfl rfl (Nat.le_of_ble_eq_true rfl) ⟨by decide, by decide, by decide, by decide⟩ dX9_step_47 rfl (fun sz => ?_)
          refine zb (fun _ _ => lv_if_eq (tgt := 65) hx hb dX9_step_50 (by decide)) (fun c_7 => ?_) (fun c_7 => ?_)
          · refine zz (fun _ _ => lv_iconst (v := 0) hx hb dX9_step_65 (by decide)) ?_
            refine zs (fun _ _ => lv_istore (lv' := [(5, .int (0)), (4, .int (1)), (0, .ref (r)), (1, .int (a_)), (2, .int (b_)), (3, .int (c_))]) hx hb dX9_step_66 hl (by decide) rfl) (fun ls hl => ?_)
            refine zz (fun _ _ => lv_aload_n hx hb dX9_step_68 rfl (lv_at hl 2 rfl)) ?_
            refine zz (fun _ _ => lv_iload hx hb dX9_step_69 (lv_at hl 0 rfl)) ?_
            refine zbn (fun _ _ => lv_if_ne (tgt := 78) hx hb dX9_step_71 (by decide)) (fun c_8 => ?_) (fun c_8 => ?_)
            · exact absurd (by decide) c_8
            · refine zz (fun _ _ => lv_iconst (v := 1) hx hb dX9_step_74 (by decide)) ?_
              refine zz (fun _ _ => lv_goto (tgt := 92) hx hb dX9_step_75 (by decide)) ?_
              refine z_put C fp_X9_129 (fun h => by cases h) rm_0 (Nat.le_of_ble_eq_true rfl) rfl rfl dX9_step_92 ?_
              refine zeq wm_f0 ?_
              refine zz (fun _ _ => lv_aload_n hx hb dX9_step_95 rfl (lv_at hl 2 rfl)) ?_
              refine z_get (v := .int (1)) C fd_X9_129 rm_0 rfl dX9_step_96 ?_
              refine zb (fun _ _ => lv_if_le (tgt := 104) hx hb dX9_step_99 (by decide)) (fun c_9 => ?_) (fun c_9 => ?_)
              · exact absurd c_9 (by decide)
              · refine zz (fun _ _ => lv_iconst (v := 0) hx hb dX9_step_102 (by decide)) ?_
                exact z_iret C hr hlk dX9_step_103 (by simp only [zd, fX9_step, if_pos c_1, if_neg c_2, if_neg c_6, if_pos c_7, and_self])
          · refine zz (fun _ _ => lv_iload_n hx hb dX9_step_53 rfl (lv_at hl 2 rfl)) ?_
            refine zz (fun _ _ => lv_iload_n hx hb dX9_step_54 rfl (lv_at hl 4 rfl)) ?_
            refine zdS (As := [.int (a_), .int (c_)]) (rest := []) (st' := [.int ((fX9_isTo a_ c_))]) C hl.1 lk_X9_139 (ctX9_isTo) rfl rfl (Nat.le_of_ble_eq_true rfl) ⟨by decide, by decide, by decide, by decide⟩ dX9_step_55 rfl (fun sz => ?_)
            refine zb (fun _ _ => lv_if_eq (tgt := 65) hx hb dX9_step_58 (by decide)) (fun c_10 => ?_) (fun c_10 => ?_)
            · refine zz (fun _ _ => lv_iconst (v := 0) hx hb dX9_step_65 (by decide)) ?_
              refine zs (fun _ _ => lv_istore (lv' := [(5, .int (0)), (4, .int (1)), (0, .ref (r)), (1, .int (a_)), (2, .int (b_)), (3, .int (c_))]) hx hb dX9_step_66 hl (by decide) rfl) (fun ls hl => ?_)
              refine zz (fun _ _ => lv_aload_n hx hb dX9_step_68 rfl (lv_at hl 2 rfl)) ?_
              refine zz (fun _ _ => lv_iload hx hb dX9_step_69 (lv_at hl 0 rfl)) ?_
              refine zbn (fun _ _ => lv_if_ne (tgt := 78) hx hb dX9_step_71 (by decide)) (fun c_11 => ?_) (fun c_11 => ?_)
              · exact absurd (by decide) c_11
              · refine zz (fun _ _ => lv_iconst (v := 1) hx hb dX9_step_74 (by decide)) ?_
                refine zz (fun _ _ => lv_goto (tgt := 92) hx hb dX9_step_75 (by decide)) ?_
                refine z_put C fp_X9_129 (fun h => by cases h) rm_0 (Nat.le_of_ble_eq_true rfl) rfl rfl dX9_step_92 ?_
                refine zeq wm_f0 ?_
                refine zz (fun _ _ => lv_aload_n hx hb dX9_step_95 rfl (lv_at hl 2 rfl)) ?_
                refine z_get (v := .int (1)) C fd_X9_129 rm_0 rfl dX9_step_96 ?_
                refine zb (fun _ _ => lv_if_le (tgt := 104) hx hb dX9_step_99 (by decide)) (fun c_12 => ?_) (fun c_12 => ?_)
                · exact absurd c_12 (by decide)
                · refine zz (fun _ _ => lv_iconst (v := 0) hx hb dX9_step_102 (by decide)) ?_
                  exact z_iret C hr hlk dX9_step_103 (by simp only [zd, fX9_step, if_pos c_1, if_neg c_2, if_neg c_6, if_neg c_7, if_pos c_10, and_self])
            · refine zz (fun _ _ => lv_iconst (v := 1) hx hb dX9_step_61 (by decide)) ?_
              refine zz (fun _ _ => lv_goto (tgt := 66) hx hb dX9_step_62 (by decide)) ?_
              refine zs (fun _ _ => lv_istore (lv' := [(5, .int (1)), (4, .int (1)), (0, .ref (r)), (1, .int (a_)), (2, .int (b_)), (3, .int (c_))]) hx hb dX9_step_66 hl (by decide) rfl) (fun ls hl => ?_)
              refine zz (fun _ _ => lv_aload_n hx hb dX9_step_68 rfl (lv_at hl 2 rfl)) ?_
              refine zz (fun _ _ => lv_iload hx hb dX9_step_69 (lv_at hl 0 rfl)) ?_
              refine zbn (fun _ _ => lv_if_ne (tgt := 78) hx hb dX9_step_71 (by decide)) (fun c_13 => ?_) (fun c_13 => ?_)
              · refine zz (fun _ _ => lv_aload_n hx hb dX9_step_78 rfl (lv_at hl 2 rfl)) ?_
                refine z_get (v := .int (v 1)) C fd_X9_132 rm_0 rfl dX9_step_79 ?_
                refine zz (fun _ _ => lv_bipush (v := 12) hx hb dX9_step_82 (by decide)) ?_
                refine zbn (fun _ _ => lv_icmp_ne (tgt := 91) hx hb dX9_step_84 (by decide)) (fun c_14 => ?_) (fun c_14 => ?_)
                · refine zz (fun _ _ => lv_iconst (v := 0) hx hb dX9_step_91 (by decide)) ?_
                  refine z_put C fp_X9_129 (fun h => by cases h) rm_0 (Nat.le_of_ble_eq_true rfl) rfl rfl dX9_step_92 ?_
                  refine zeq wm_f0 ?_
                  refine zz (fun _ _ => lv_aload_n hx hb dX9_step_95 rfl (lv_at hl 2 rfl)) ?_
                  refine z_get (v := .int (0)) C fd_X9_129 rm_0 rfl dX9_step_96 ?_
                  refine zb (fun _ _ => lv_if_le (tgt := 104) hx hb dX9_step_99 (by decide)) (fun c_15 => ?_) (fun c_15 => ?_)
                  · refine zz (fun _ _ => lv_aload_n hx hb dX9_step_104 rfl (lv_at hl 2 rfl)) ?_
                    refine z_get (v := .ref (r + 1)) C fd_X9_7 rm_0 rfl dX9_step_105 ?_
                    refine zz (fun _ _ => lv_aload_n hx hb dX9_step_108 rfl (lv_at hl 2 rfl)) ?_
                    refine z_get (v := .int (v 1)) C fd_X9_132 rm_0 rfl dX9_step_109 ?_
                    refine zz (fun _ _ => lv_iload_n hx hb dX9_step_112 rfl (lv_at hl 3 rfl)) ?_
                    refine z_iast (f := A 1) C rm_1 (in_nI hs (ne_lt (m := 12) hs hn c_14) (by decide)) dX9_step_113 ?_
                    refine zeq wm_1 ?_
                    refine zz (fun _ _ => lv_aload_n hx hb dX9_step_114 rfl (lv_at hl 2 rfl)) ?_
                    refine z_get (v := .ref (r + 2)) C fd_X9_13 rm_0 rfl dX9_step_115 ?_
                    refine zz (fun _ _ => lv_aload_n hx hb dX9_step_118 rfl (lv_at hl 2 rfl)) ?_
                    refine z_get (v := .int (v 1)) C fd_X9_132 rm_0 rfl dX9_step_119 ?_
                    refine zz (fun _ _ => lv_iload_n hx hb dX9_step_122 rfl (lv_at hl 4 rfl)) ?_
                    refine z_iast (f := A 2) C rm_2 (in_nI hs (ne_lt (m := 12) hs hn c_14) (by decide)) dX9_step_123 ?_
                    refine zeq wm_2 ?_
                    refine zz (fun _ _ => lv_aload_n hx hb dX9_step_124 rfl (lv_at hl 2 rfl)) ?_
                    refine z_get (v := .ref (r + 3)) C fd_X9_16 rm_0 rfl dX9_step_125 ?_
                    refine zz (fun _ _ => lv_aload_n hx hb dX9_step_128 rfl (lv_at hl 2 rfl)) ?_
                    refine z_get (v := .int (v 1)) C fd_X9_132 rm_0 rfl dX9_step_129 ?_
                    refine zz (fun _ _ => lv_iload_n hx hb dX9_step_132 rfl (lv_at hl 5 rfl)) ?_
                    refine z_iast (f := A 3) C rm_3 (in_nI hs (ne_lt (m := 12) hs hn c_14) (by decide)) dX9_step_133 ?_
                    refine zeq wm_3 ?_
                    refine zz (fun _ _ => lv_aload_n hx hb dX9_step_134 rfl (lv_at hl 2 rfl)) ?_
                    refine z_get (v := .ref (r + 4)) C fd_X9_19 rm_0 rfl dX9_step_135 ?_
                    refine zz (fun _ _ => lv_aload_n hx hb dX9_step_138 rfl (lv_at hl 2 rfl)) ?_
                    refine z_get (v := .int (v 1)) C fd_X9_132 rm_0 rfl dX9_step_139 ?_
                    refine zz (fun _ _ => lv_iconst (v := 0) hx hb dX9_step_142 (by decide)) ?_
                    refine z_zast (f := A 4) C rm_4 (in_nI hs (ne_lt (m := 12) hs hn c_14) (by decide)) rfl dX9_step_143 ?_
                    refine zeq wm_4 ?_
                    refine zz (fun _ _ => lv_aload_n hx hb dX9_step_144 rfl (lv_at hl 2 rfl)) ?_
                    refine z_get (v := .ref (r + 5)) C fd_X9_23 rm_0 rfl dX9_step_145 ?_
                    refine zz (fun _ _ => lv_aload_n hx hb dX9_step_148 rfl (lv_at hl 2 rfl)) ?_
                    refine z_get (v := .int (v 1)) C fd_X9_132 rm_0 rfl dX9_step_149 ?_
                    refine zz (fun _ _ => lv_iconst (v := 0) hx hb dX9_step_152 (by decide)) ?_
                    refine z_iast (f := A 5) C rm_5 (in_nI hs (ne_lt (m := 12) hs hn c_14) (by decide)) dX9_step_153 ?_
                    refine zeq wm_5 ?_
                    refine zz (fun _ _ => lv_aload_n hx hb dX9_step_154 rfl (lv_at hl 2 rfl)) ?_
                    refine z_get (v := .ref (r + 10)) C fd_X9_38 rm_0 rfl dX9_step_155 ?_
                    refine zz (fun _ _ => lv_aload_n hx hb dX9_step_158 rfl (lv_at hl 2 rfl)) ?_
                    refine z_get (v := .int (v 1)) C fd_X9_132 rm_0 rfl dX9_step_159 ?_
                    refine zz (fun _ _ => lv_iconst (v := 0) hx hb dX9_step_162 (by decide)) ?_
                    refine z_iast (f := A 10) C rm_10 (in_nI hs (ne_lt (m := 12) hs hn c_14) (by decide)) dX9_step_163 ?_
                    refine zeq wm_10 ?_
                    refine zz (fun _ _ => lv_aload_n hx hb dX9_step_164 rfl (lv_at hl 2 rfl)) ?_
                    refine zz (fun _ _ => lv_dup hx hb dX9_step_165 rfl) ?_
                    refine z_get (v := .int (v 1)) C fd_X9_132 rm_0 rfl dX9_step_166 ?_
                    refine zz (fun _ _ => lv_iconst (v := 1) hx hb dX9_step_169 (by decide)) ?_
                    refine zz (fun _ _ => lv_iadd hx hb dX9_step_170) ?_
                    refine z_put C fp_X9_132 (fun h => by cases h) rm_0 (Nat.le_of_ble_eq_true rfl) rfl rfl dX9_step_171 ?_
                    refine zeq wm_f1 ?_
                    refine zz (fun _ _ => lv_aload_n hx hb dX9_step_174 rfl (lv_at hl 2 rfl)) ?_
                    refine z_get (v := .int ((v 1) + (1))) C fd_X9_132 rm_0 rfl dX9_step_175 ?_
                    refine zz (fun _ _ => lv_iconst (v := 1) hx hb dX9_step_178 (by decide)) ?_
                    refine zz (fun _ _ => lv_isub hx hb dX9_step_179) ?_
                    exact z_iret C hr hlk dX9_step_180 (by simp only [zd, fX9_step, if_pos c_1, if_neg c_2, if_neg c_6, if_neg c_7, if_neg c_10, if_neg c_14, and_self])
                  · exact absurd (by decide) c_15
                · refine zz (fun _ _ => lv_iconst (v := 2) hx hb dX9_step_87 (by decide)) ?_
                  refine zz (fun _ _ => lv_goto (tgt := 92) hx hb dX9_step_88 (by decide)) ?_
                  refine z_put C fp_X9_129 (fun h => by cases h) rm_0 (Nat.le_of_ble_eq_true rfl) rfl rfl dX9_step_92 ?_
                  refine zeq wm_f0 ?_
                  refine zz (fun _ _ => lv_aload_n hx hb dX9_step_95 rfl (lv_at hl 2 rfl)) ?_
                  refine z_get (v := .int (2)) C fd_X9_129 rm_0 rfl dX9_step_96 ?_
                  refine zb (fun _ _ => lv_if_le (tgt := 104) hx hb dX9_step_99 (by decide)) (fun c_16 => ?_) (fun c_16 => ?_)
                  · exact absurd c_16 (by decide)
                  · refine zz (fun _ _ => lv_iconst (v := 0) hx hb dX9_step_102 (by decide)) ?_
                    exact z_iret C hr hlk dX9_step_103 (by simp only [zd, fX9_step, if_pos c_1, if_neg c_2, if_neg c_6, if_neg c_7, if_neg c_10, if_pos c_14, and_self])
              · exact absurd c_13 (by decide)
        · refine zz (fun _ _ => lv_iconst (v := 3) hx hb dX9_step_41 (by decide)) ?_
          refine zz (fun _ _ => lv_goto (tgt := 47) hx hb dX9_step_42 (by decide)) ?_
          refine zdS (As := [.int (b_), .int (0), .int (3)]) (rest := []) (st' := [.int ((fX9_isIn b_ 0 3))]) C hl.1 lk_X9_135 (ctX9_isIn) rfl rfl (Nat.le_of_ble_eq_true rfl) ⟨by decide, by decide, by decide, by decide⟩ dX9_step_47 rfl (fun sz => ?_)
          refine zb (fun _ _ => lv_if_eq (tgt := 65) hx hb dX9_step_50 (by decide)) (fun c_17 => ?_) (fun c_17 => ?_)
          · refine zz (fun _ _ => lv_iconst (v := 0) hx hb dX9_step_65 (by decide)) ?_
            refine zs (fun _ _ => lv_istore (lv' := [(5, .int (0)), (4, .int (1)), (0, .ref (r)), (1, .int (a_)), (2, .int (b_)), (3, .int (c_))]) hx hb dX9_step_66 hl (by decide) rfl) (fun ls hl => ?_)
            refine zz (fun _ _ => lv_aload_n hx hb dX9_step_68 rfl (lv_at hl 2 rfl)) ?_
            refine zz (fun _ _ => lv_iload hx hb dX9_step_69 (lv_at hl 0 rfl)) ?_
            refine zbn (fun _ _ => lv_if_ne (tgt := 78) hx hb dX9_step_71 (by decide)) (fun c_18 => ?_) (fun c_18 => ?_)
            · exact absurd (by decide) c_18
            · refine zz (fun _ _ => lv_iconst (v := 1) hx hb dX9_step_74 (by decide)) ?_
              refine zz (fun _ _ => lv_goto (tgt := 92) hx hb dX9_step_75 (by decide)) ?_
              refine z_put C fp_X9_129 (fun h => by cases h) rm_0 (Nat.le_of_ble_eq_true rfl) rfl rfl dX9_step_92 ?_
              refine zeq wm_f0 ?_
              refine zz (fun _ _ => lv_aload_n hx hb dX9_step_95 rfl (lv_at hl 2 rfl)) ?_
              refine z_get (v := .int (1)) C fd_X9_129 rm_0 rfl dX9_step_96 ?_
              refine zb (fun _ _ => lv_if_le (tgt := 104) hx hb dX9_step_99 (by decide)) (fun c_19 => ?_) (fun c_19 => ?_)
              · exact absurd c_19 (by decide)
              · refine zz (fun _ _ => lv_iconst (v := 0) hx hb dX9_step_102 (by decide)) ?_
                exact z_iret C hr hlk dX9_step_103 (by simp only [zd, fX9_step, if_pos c_1, if_neg c_2, if_pos c_6, if_pos c_17, and_self])
          · refine zz (fun _ _ => lv_iload_n hx hb dX9_step_53 rfl (lv_at hl 2 rfl)) ?_
            refine zz (fun _ _ => lv_iload_n hx hb dX9_step_54 rfl (lv_at hl 4 rfl)) ?_
            refine zdS (As := [.int (a_), .int (c_)]) (rest := []) (st' := [.int ((fX9_isTo a_ c_))]) C hl.1 lk_X9_139 (ctX9_isTo) rfl rfl (Nat.le_of_ble_eq_true rfl) ⟨by decide, by decide, by decide, by decide⟩ dX9_step_55 rfl (fun sz => ?_)
            refine zb (fun _ _ => lv_if_eq (tgt := 65) hx hb dX9_step_58 (by decide)) (fun c_20 => ?_) (fun c_20 => ?_)
            · refine zz (fun _ _ => lv_iconst (v := 0) hx hb dX9_step_65 (by decide)) ?_
              refine zs (fun _ _ => lv_istore (lv' := [(5, .int (0)), (4, .int (1)), (0, .ref (r)), (1, .int (a_)), (2, .int (b_)), (3, .int (c_))]) hx hb dX9_step_66 hl (by decide) rfl) (fun ls hl => ?_)
              refine zz (fun _ _ => lv_aload_n hx hb dX9_step_68 rfl (lv_at hl 2 rfl)) ?_
              refine zz (fun _ _ => lv_iload hx hb dX9_step_69 (lv_at hl 0 rfl)) ?_
              refine zbn (fun _ _ => lv_if_ne (tgt := 78) hx hb dX9_step_71 (by decide)) (fun c_21 => ?_) (fun c_21 => ?_)
              · exact absurd (by decide) c_21
              · refine zz (fun _ _ => lv_iconst (v := 1) hx hb dX9_step_74 (by decide)) ?_
                refine zz (fun _ _ => lv_goto (tgt := 92) hx hb dX9_step_75 (by decide)) ?_
                refine z_put C fp_X9_129 (fun h => by cases h) rm_0 (Nat.le_of_ble_eq_true rfl) rfl rfl dX9_step_92 ?_
                refine zeq wm_f0 ?_
                refine zz (fun _ _ => lv_aload_n hx hb dX9_step_95 rfl (lv_at hl 2 rfl)) ?_
                refine z_get (v := .int (1)) C fd_X9_129 rm_0 rfl dX9_step_96 ?_
                refine zb (fun _ _ => lv_if_le (tgt := 104) hx hb dX9_step_99 (by decide)) (fun c_22 => ?_) (fun c_22 => ?_)
                · exact absurd c_22 (by decide)
                · refine zz (fun _ _ => lv_iconst (v := 0) hx hb dX9_step_102 (by decide)) ?_
                  exact z_iret C hr hlk dX9_step_103 (by simp only [zd, fX9_step, if_pos c_1, if_neg c_2, if_pos c_6, if_neg c_17, if_pos c_20, and_self])
            · refine zz (fun _ _ => lv_iconst (v := 1) hx hb dX9_step_61 (by decide)) ?_
              refine zz (fun _ _ => lv_goto (tgt := 66) hx hb dX9_step_62 (by decide)) ?_
              refine zs (fun _ _ => lv_istore (lv' := [(5, .int (1)), (4, .int (1)), (0, .ref (r)), (1, .int (a_)), (2, .int (b_)), (3, .int (c_))]) hx hb dX9_step_66 hl (by decide) rfl) (fun ls hl => ?_)
              refine zz (fun _ _ => lv_aload_n hx hb dX9_step_68 rfl (lv_at hl 2 rfl)) ?_
              refine zz (fun _ _ => lv_iload hx hb dX9_step_69 (lv_at hl 0 rfl)) ?_
              refine zbn (fun _ _ => lv_if_ne (tgt := 78) hx hb dX9_step_71 (by decide)) (fun c_23 => ?_) (fun c_23 => ?_)
              · refine zz (fun _ _ => lv_aload_n hx hb dX9_step_78 rfl (lv_at hl 2 rfl)) ?_
                refine z_get (v := .int (v 1)) C fd_X9_132 rm_0 rfl dX9_step_79 ?_
                refine zz (fun _ _ => lv_bipush (v := 12) hx hb dX9_step_82 (by decide)) ?_
                refine zbn (fun _ _ => lv_icmp_ne (tgt := 91) hx hb dX9_step_84 (by decide)) (fun c_24 => ?_) (fun c_24 => ?_)
                · refine zz (fun _ _ => lv_iconst (v := 0) hx hb dX9_step_91 (by decide)) ?_
                  refine z_put C fp_X9_129 (fun h => by cases h) rm_0 (Nat.le_of_ble_eq_true rfl) rfl rfl dX9_step_92 ?_
                  refine zeq wm_f0 ?_
                  refine zz (fun _ _ => lv_aload_n hx hb dX9_step_95 rfl (lv_at hl 2 rfl)) ?_
                  refine z_get (v := .int (0)) C fd_X9_129 rm_0 rfl dX9_step_96 ?_
                  refine zb (fun _ _ => lv_if_le (tgt := 104) hx hb dX9_step_99 (by decide)) (fun c_25 => ?_) (fun c_25 => ?_)
                  · refine zz (fun _ _ => lv_aload_n hx hb dX9_step_104 rfl (lv_at hl 2 rfl)) ?_
                    refine z_get (v := .ref (r + 1)) C fd_X9_7 rm_0 rfl dX9_step_105 ?_
                    refine zz (fun _ _ => lv_aload_n hx hb dX9_step_108 rfl (lv_at hl 2 rfl)) ?_
                    refine z_get (v := .int (v 1)) C fd_X9_132 rm_0 rfl dX9_step_109 ?_
                    refine zz (fun _ _ => lv_iload_n hx hb dX9_step_112 rfl (lv_at hl 3 rfl)) ?_
                    refine z_iast (f := A 1) C rm_1 (in_nI hs (ne_lt (m := 12) hs hn c_24) (by decide)) dX9_step_113 ?_
                    refine zeq wm_1 ?_
                    refine zz (fun _ _ => lv_aload_n hx hb dX9_step_114 rfl (lv_at hl 2 rfl)) ?_
                    refine z_get (v := .ref (r + 2)) C fd_X9_13 rm_0 rfl dX9_step_115 ?_
                    refine zz (fun _ _ => lv_aload_n hx hb dX9_step_118 rfl (lv_at hl 2 rfl)) ?_
                    refine z_get (v := .int (v 1)) C fd_X9_132 rm_0 rfl dX9_step_119 ?_
                    refine zz (fun _ _ => lv_iload_n hx hb dX9_step_122 rfl (lv_at hl 4 rfl)) ?_
                    refine z_iast (f := A 2) C rm_2 (in_nI hs (ne_lt (m := 12) hs hn c_24) (by decide)) dX9_step_123 ?_
                    refine zeq wm_2 ?_
                    refine zz (fun _ _ => lv_aload_n hx hb dX9_step_124 rfl (lv_at hl 2 rfl)) ?_
                    refine z_get (v := .ref (r + 3)) C fd_X9_16 rm_0 rfl dX9_step_125 ?_
                    refine zz (fun _ _ => lv_aload_n hx hb dX9_step_128 rfl (lv_at hl 2 rfl)) ?_
                    refine z_get (v := .int (v 1)) C fd_X9_132 rm_0 rfl dX9_step_129 ?_
                    refine zz (fun _ _ => lv_iload_n hx hb dX9_step_132 rfl (lv_at hl 5 rfl)) ?_
                    refine z_iast (f := A 3) C rm_3 (in_nI hs (ne_lt (m := 12) hs hn c_24) (by decide)) dX9_step_133 ?_
                    refine zeq wm_3 ?_
                    refine zz (fun _ _ => lv_aload_n hx hb dX9_step_134 rfl (lv_at hl 2 rfl)) ?_
                    refine z_get (v := .ref (r + 4)) C fd_X9_19 rm_0 rfl dX9_step_135 ?_
                    refine zz (fun _ _ => lv_aload_n hx hb dX9_step_138 rfl (lv_at hl 2 rfl)) ?_
                    refine z_get (v := .int (v 1)) C fd_X9_132 rm_0 rfl dX9_step_139 ?_
                    refine zz (fun _ _ => lv_iconst (v := 0) hx hb dX9_step_142 (by decide)) ?_
                    refine z_zast (f := A 4) C rm_4 (in_nI hs (ne_lt (m := 12) hs hn c_24) (by decide)) rfl dX9_step_143 ?_
                    refine zeq wm_4 ?_
                    refine zz (fun _ _ => lv_aload_n hx hb dX9_step_144 rfl (lv_at hl 2 rfl)) ?_
                    refine z_get (v := .ref (r + 5)) C fd_X9_23 rm_0 rfl dX9_step_145 ?_
                    refine zz (fun _ _ => lv_aload_n hx hb dX9_step_148 rfl (lv_at hl 2 rfl)) ?_
                    refine z_get (v := .int (v 1)) C fd_X9_132 rm_0 rfl dX9_step_149 ?_
                    refine zz (fun _ _ => lv_iconst (v := 0) hx hb dX9_step_152 (by decide)) ?_
                    refine z_iast (f := A 5) C rm_5 (in_nI hs (ne_lt (m := 12) hs hn c_24) (by decide)) dX9_step_153 ?_
                    refine zeq wm_5 ?_
                    refine zz (fun _ _ => lv_aload_n hx hb dX9_step_154 rfl (lv_at hl 2 rfl)) ?_
                    refine z_get (v := .ref (r + 10)) C fd_X9_38 rm_0 rfl dX9_step_155 ?_
                    refine zz (fun _ _ => lv_aload_n hx hb dX9_step_158 rfl (lv_at hl 2 rfl)) ?_
                    refine z_get (v := .int (v 1)) C fd_X9_132 rm_0 rfl dX9_step_159 ?_
                    refine zz (fun _ _ => lv_iconst (v := 0) hx hb dX9_step_162 (by decide)) ?_
                    refine z_iast (f := A 10) C rm_10 (in_nI hs (ne_lt (m := 12) hs hn c_24) (by decide)) dX9_step_163 ?_
                    refine zeq wm_10 ?_
                    refine zz (fun _ _ => lv_aload_n hx hb dX9_step_164 rfl (lv_at hl 2 rfl)) ?_
                    refine zz (fun _ _ => lv_dup hx hb dX9_step_165 rfl) ?_
                    refine z_get (v := .int (v 1)) C fd_X9_132 rm_0 rfl dX9_step_166 ?_
                    refine zz (fun _ _ => lv_iconst (v := 1) hx hb dX9_step_169 (by decide)) ?_
                    refine zz (fun _ _ => lv_iadd hx hb dX9_step_170) ?_
                    refine z_put C fp_X9_132 (fun h => by cases h) rm_0 (Nat.le_of_ble_eq_true rfl) rfl rfl dX9_step_171 ?_
                    refine zeq wm_f1 ?_
                    refine zz (fun _ _ => lv_aload_n hx hb dX9_step_174 rfl (lv_at hl 2 rfl)) ?_
                    refine z_get (v := .int ((v 1) + (1))) C fd_X9_132 rm_0 rfl dX9_step_175 ?_
                    refine zz (fun _ _ => lv_iconst (v := 1) hx hb dX9_step_178 (by decide)) ?_
                    refine zz (fun _ _ => lv_isub hx hb dX9_step_179) ?_
                    exact z_iret C hr hlk dX9_step_180 (by simp only [zd, fX9_step, if_pos c_1, if_neg c_2, if_pos c_6, if_neg c_17, if_neg c_20, if_neg c_24, and_self])
                  · exact absurd (by decide) c_25
                · refine zz (fun _ _ => lv_iconst (v := 2) hx hb dX9_step_87 (by decide)) ?_
                  refine zz (fun _ _ => lv_goto (tgt := 92) hx hb dX9_step_88 (by decide)) ?_
                  refine z_put C fp_X9_129 (fun h => by cases h) rm_0 (Nat.le_of_ble_eq_true rfl) rfl rfl dX9_step_92 ?_
                  refine zeq wm_f0 ?_
                  refine zz (fun _ _ => lv_aload_n hx hb dX9_step_95 rfl (lv_at hl 2 rfl)) ?_
                  refine z_get (v := .int (2)) C fd_X9_129 rm_0 rfl dX9_step_96 ?_
                  refine zb (fun _ _ => lv_if_le (tgt := 104) hx hb dX9_step_99 (by decide)) (fun c_26 => ?_) (fun c_26 => ?_)
                  · exact absurd c_26 (by decide)
                  · refine zz (fun _ _ => lv_iconst (v := 0) hx hb dX9_step_102 (by decide)) ?_
                    exact z_iret C hr hlk dX9_step_103 (by simp only [zd, fX9_step, if_pos c_1, if_neg c_2, if_pos c_6, if_neg c_17, if_neg c_20, if_pos c_24, and_self])
              · exact absurd c_23 (by decide)
  · refine zz (fun _ _ => lv_iload_n hx hb dX9_step_5 rfl (lv_at hl 1 rfl)) ?_
    refine zz (fun _ _ => lv_bipush (v := 6) hx hb dX9_step_6 (by decide)) ?_
    refine zb (fun _ _ => lv_icmp_lt (tgt := 15) hx hb dX9_step_8 (by decide)) (fun c_27 => ?_) (fun c_27 => ?_)
    · refine zz (fun _ _ => lv_iconst (v := 0) hx hb dX9_step_15 (by decide)) ?_
      refine zs (fun _ _ => lv_istore (lv' := [(4, .int (0)), (0, .ref (r)), (1, .int (a_)), (2, .int (b_)), (3, .int (c_))]) hx hb dX9_step_16 hl (by decide) rfl) (fun ls hl => ?_)
      refine zz (fun _ _ => lv_iload_n hx hb dX9_step_18 rfl (lv_at hl 2 rfl)) ?_
      refine zz (fun _ _ => lv_iconst (v := 0) hx hb dX9_step_19 (by decide)) ?_
      refine zz (fun _ _ => lv_bipush (v := 9) hx hb dX9_step_20 (by decide)) ?_
      refine zdS (As := [.int (a_), .int (0), .int (9)]) (rest := []) (st' := [.int ((fX9_isIn a_ 0 9))]) C hl.1 lk_X9_135 (ctX9_isIn) rfl rfl (Nat.le_of_ble_eq_true rfl) ⟨by decide, by decide, by decide, by decide⟩ dX9_step_22 rfl (fun sz => ?_)
      refine zb (fun _ _ => lv_if_eq (tgt := 65) hx hb dX9_step_25 (by decide)) (fun c_28 => ?_) (fun c_28 => ?_)
      · refine zz (fun _ _ => lv_iconst (v := 0) hx hb dX9_step_65 (by decide)) ?_
        refine zs (fun _ _ => lv_istore (lv' := [(5, .int (0)), (4, .int (0)), (0, .ref (r)), (1, .int (a_)), (2, .int (b_)), (3, .int (c_))]) hx hb dX9_step_66 hl (by decide) rfl) (fun ls hl => ?_)
        refine zz (fun _ _ => lv_aload_n hx hb dX9_step_68 rfl (lv_at hl 2 rfl)) ?_
        refine zz (fun _ _ => lv_iload hx hb dX9_step_69 (lv_at hl 0 rfl)) ?_
        refine zbn (fun _ _ => lv_if_ne (tgt := 78) hx hb dX9_step_71 (by decide)) (fun c_29 => ?_) (fun c_29 => ?_)
        · exact absurd (by decide) c_29
        · refine zz (fun _ _ => lv_iconst (v := 1) hx hb dX9_step_74 (by decide)) ?_
          refine zz (fun _ _ => lv_goto (tgt := 92) hx hb dX9_step_75 (by decide)) ?_
          refine z_put C fp_X9_129 (fun h => by cases h) rm_0 (Nat.le_of_ble_eq_true rfl) rfl rfl dX9_step_92 ?_
          refine zeq wm_f0 ?_
          refine zz (fun _ _ => lv_aload_n hx hb dX9_step_95 rfl (lv_at hl 2 rfl)) ?_
          refine z_get (v := .int (1)) C fd_X9_129 rm_0 rfl dX9_step_96 ?_
          refine zb (fun _ _ => lv_if_le (tgt := 104) hx hb dX9_step_99 (by decide)) (fun c_30 => ?_) (fun c_30 => ?_)
          · exact absurd c_30 (by decide)
          · refine zz (fun _ _ => lv_iconst (v := 0) hx hb dX9_step_102 (by decide)) ?_
            exact z_iret C hr hlk dX9_step_103 (by simp only [zd, fX9_step, if_neg c_1, if_pos c_27, if_pos c_28, and_self])
      · refine zz (fun _ _ => lv_iload hx hb dX9_step_28 (lv_at hl 0 rfl)) ?_
        refine zb (fun _ _ => lv_if_eq (tgt := 53) hx hb dX9_step_30 (by decide)) (fun c_31 => ?_) (fun c_31 => ?_)
        · refine zz (fun _ _ => lv_iload_n hx hb dX9_step_53 rfl (lv_at hl 2 rfl)) ?_
          refine zz (fun _ _ => lv_iload_n hx hb dX9_step_54 rfl (lv_at hl 4 rfl)) ?_
          refine zdS (As := [.int (a_), .int (c_)]) (rest := []) (st' := [.int ((fX9_isTo a_ c_))]) C hl.1 lk_X9_139 (ctX9_isTo) rfl rfl (Nat.le_of_ble_eq_true rfl) ⟨by decide, by decide, by decide, by decide⟩ dX9_step_55 rfl (fun sz => ?_)
          refine zb (fun _ _ => lv_if_eq (tgt := 65) hx hb dX9_step_58 (by decide)) (fun c_32 => ?_) (fun c_32 => ?_)
          · refine zz (fun _ _ => lv_iconst (v := 0) hx hb dX9_step_65 (by decide)) ?_
            refine zs (fun _ _ => lv_istore (lv' := [(5, .int (0)), (4, .int (0)), (0, .ref (r)), (1, .int (a_)), (2, .int (b_)), (3, .int (c_))]) hx hb dX9_step_66 hl (by decide) rfl) (fun ls hl => ?_)
            refine zz (fun _ _ => lv_aload_n hx hb dX9_step_68 rfl (lv_at hl 2 rfl)) ?_
            refine zz (fun _ _ => lv_iload hx hb dX9_step_69 (lv_at hl 0 rfl)) ?_
            refine zbn (fun _ _ => lv_if_ne (tgt := 78) hx hb dX9_step_71 (by decide)) (fun c_33 => ?_) (fun c_33 => ?_)
            · exact absurd (by decide) c_33
            · refine zz (fun _ _ => lv_iconst (v := 1) hx hb dX9_step_74 (by decide)) ?_
              refine zz (fun _ _ => lv_goto (tgt := 92) hx hb dX9_step_75 (by decide)) ?_
              refine z_put C fp_X9_129 (fun h => by cases h) rm_0 (Nat.le_of_ble_eq_true rfl) rfl rfl dX9_step_92 ?_
              refine zeq wm_f0 ?_
              refine zz (fun _ _ => lv_aload_n hx hb dX9_step_95 rfl (lv_at hl 2 rfl)) ?_
              refine z_get (v := .int (1)) C fd_X9_129 rm_0 rfl dX9_step_96 ?_
              refine zb (fun _ _ => lv_if_le (tgt := 104) hx hb dX9_step_99 (by decide)) (fun c_34 => ?_) (fun c_34 => ?_)
              · exact absurd c_34 (by decide)
              · refine zz (fun _ _ => lv_iconst (v := 0) hx hb dX9_step_102 (by decide)) ?_
                exact z_iret C hr hlk dX9_step_103 (by simp only [zd, fX9_step, if_neg c_1, if_pos c_27, if_neg c_28, if_pos c_32, and_self])
          · refine zz (fun _ _ => lv_iconst (v := 1) hx hb dX9_step_61 (by decide)) ?_
            refine zz (fun _ _ => lv_goto (tgt := 66) hx hb dX9_step_62 (by decide)) ?_
            refine zs (fun _ _ => lv_istore (lv' := [(5, .int (1)), (4, .int (0)), (0, .ref (r)), (1, .int (a_)), (2, .int (b_)), (3, .int (c_))]) hx hb dX9_step_66 hl (by decide) rfl) (fun ls hl => ?_)
            refine zz (fun _ _ => lv_aload_n hx hb dX9_step_68 rfl (lv_at hl 2 rfl)) ?_
            refine zz (fun _ _ => lv_iload hx hb dX9_step_69 (lv_at hl 0 rfl)) ?_
            refine zbn (fun _ _ => lv_if_ne (tgt := 78) hx hb dX9_step_71 (by decide)) (fun c_35 => ?_) (fun c_35 => ?_)
            · refine zz (fun _ _ => lv_aload_n hx hb dX9_step_78 rfl (lv_at hl 2 rfl)) ?_
              refine z_get (v := .int (v 1)) C fd_X9_132 rm_0 rfl dX9_step_79 ?_
              refine zz (fun _ _ => lv_bipush (v := 12) hx hb dX9_step_82 (by decide)) ?_
              refine zbn (fun _ _ => lv_icmp_ne (tgt := 91) hx hb dX9_step_84 (by decide)) (fun c_36 => ?_) (fun c_36 => ?_)
              · refine zz (fun _ _ => lv_iconst (v := 0) hx hb dX9_step_91 (by decide)) ?_
                refine z_put C fp_X9_129 (fun h => by cases h) rm_0 (Nat.le_of_ble_eq_true rfl) rfl rfl dX9_step_92 ?_
                refine zeq wm_f0 ?_
                refine zz (fun _ _ => lv_aload_n hx hb dX9_step_95 rfl (lv_at hl 2 rfl)) ?_
                refine z_get (v := .int (0)) C fd_X9_129 rm_0 rfl dX9_step_96 ?_
                refine zb (fun _ _ => lv_if_le (tgt := 104) hx hb dX9_step_99 (by decide)) (fun c_37 => ?_) (fun c_37 => ?_)
                · refine zz (fun _ _ => lv_aload_n hx hb dX9_step_104 rfl (lv_at hl 2 rfl)) ?_
                  refine z_get (v := .ref (r + 1)) C fd_X9_7 rm_0 rfl dX9_step_105 ?_
                  refine zz (fun _ _ => lv_aload_n hx hb dX9_step_108 rfl (lv_at hl 2 rfl)) ?_
                  refine z_get (v := .int (v 1)) C fd_X9_132 rm_0 rfl dX9_step_109 ?_
                  refine zz (fun _ _ => lv_iload_n hx hb dX9_step_112 rfl (lv_at hl 3 rfl)) ?_
                  refine z_iast (f := A 1) C rm_1 (in_nI hs (ne_lt (m := 12) hs hn c_36) (by decide)) dX9_step_113 ?_
                  refine zeq wm_1 ?_
                  refine zz (fun _ _ => lv_aload_n hx hb dX9_step_114 rfl (lv_at hl 2 rfl)) ?_
                  refine z_get (v := .ref (r + 2)) C fd_X9_13 rm_0 rfl dX9_step_115 ?_
                  refine zz (fun _ _ => lv_aload_n hx hb dX9_step_118 rfl (lv_at hl 2 rfl)) ?_
                  refine z_get (v := .int (v 1)) C fd_X9_132 rm_0 rfl dX9_step_119 ?_
                  refine zz (fun _ _ => lv_iload_n hx hb dX9_step_122 rfl (lv_at hl 4 rfl)) ?_
                  refine z_iast (f := A 2) C rm_2 (in_nI hs (ne_lt (m := 12) hs hn c_36) (by decide)) dX9_step_123 ?_
                  refine zeq wm_2 ?_
                  refine zz (fun _ _ => lv_aload_n hx hb dX9_step_124 rfl (lv_at hl 2 rfl)) ?_
                  refine z_get (v := .ref (r + 3)) C fd_X9_16 rm_0 rfl dX9_step_125 ?_
                  refine zz (fun _ _ => lv_aload_n hx hb dX9_step_128 rfl (lv_at hl 2 rfl)) ?_
                  refine z_get (v := .int (v 1)) C fd_X9_132 rm_0 rfl dX9_step_129 ?_
                  refine zz (fun _ _ => lv_iload_n hx hb dX9_step_132 rfl (lv_at hl 5 rfl)) ?_
                  refine z_iast (f := A 3) C rm_3 (in_nI hs (ne_lt (m := 12) hs hn c_36) (by decide)) dX9_step_133 ?_
                  refine zeq wm_3 ?_
                  refine zz (fun _ _ => lv_aload_n hx hb dX9_step_134 rfl (lv_at hl 2 rfl)) ?_
                  refine z_get (v := .ref (r + 4)) C fd_X9_19 rm_0 rfl dX9_step_135 ?_
                  refine zz (fun _ _ => lv_aload_n hx hb dX9_step_138 rfl (lv_at hl 2 rfl)) ?_
                  refine z_get (v := .int (v 1)) C fd_X9_132 rm_0 rfl dX9_step_139 ?_
                  refine zz (fun _ _ => lv_iconst (v := 0) hx hb dX9_step_142 (by decide)) ?_
                  refine z_zast (f := A 4) C rm_4 (in_nI hs (ne_lt (m := 12) hs hn c_36) (by decide)) rfl dX9_step_143 ?_
                  refine zeq wm_4 ?_
                  refine zz (fun _ _ => lv_aload_n hx hb dX9_step_144 rfl (lv_at hl 2 rfl)) ?_
                  refine z_get (v := .ref (r + 5)) C fd_X9_23 rm_0 rfl dX9_step_145 ?_
                  refine zz (fun _ _ => lv_aload_n hx hb dX9_step_148 rfl (lv_at hl 2 rfl)) ?_
                  refine z_get (v := .int (v 1)) C fd_X9_132 rm_0 rfl dX9_step_149 ?_
                  refine zz (fun _ _ => lv_iconst (v := 0) hx hb dX9_step_152 (by decide)) ?_
                  refine z_iast (f := A 5) C rm_5 (in_nI hs (ne_lt (m := 12) hs hn c_36) (by decide)) dX9_step_153 ?_
                  refine zeq wm_5 ?_
                  refine zz (fun _ _ => lv_aload_n hx hb dX9_step_154 rfl (lv_at hl 2 rfl)) ?_
                  refine z_get (v := .ref (r + 10)) C fd_X9_38 rm_0 rfl dX9_step_155 ?_
                  refine zz (fun _ _ => lv_aload_n hx hb dX9_step_158 rfl (lv_at hl 2 rfl)) ?_
                  refine z_get (v := .int (v 1)) C fd_X9_132 rm_0 rfl dX9_step_159 ?_
                  refine zz (fun _ _ => lv_iconst (v := 0) hx hb dX9_step_162 (by decide)) ?_
                  refine z_iast (f := A 10) C rm_10 (in_nI hs (ne_lt (m := 12) hs hn c_36) (by decide)) dX9_step_163 ?_
                  refine zeq wm_10 ?_
                  refine zz (fun _ _ => lv_aload_n hx hb dX9_step_164 rfl (lv_at hl 2 rfl)) ?_
                  refine zz (fun _ _ => lv_dup hx hb dX9_step_165 rfl) ?_
                  refine z_get (v := .int (v 1)) C fd_X9_132 rm_0 rfl dX9_step_166 ?_
                  refine zz (fun _ _ => lv_iconst (v := 1) hx hb dX9_step_169 (by decide)) ?_
                  refine zz (fun _ _ => lv_iadd hx hb dX9_step_170) ?_
                  refine z_put C fp_X9_132 (fun h => by cases h) rm_0 (Nat.le_of_ble_eq_true rfl) rfl rfl dX9_step_171 ?_
                  refine zeq wm_f1 ?_
                  refine zz (fun _ _ => lv_aload_n hx hb dX9_step_174 rfl (lv_at hl 2 rfl)) ?_
                  refine z_get (v := .int ((v 1) + (1))) C fd_X9_132 rm_0 rfl dX9_step_175 ?_
                  refine zz (fun _ _ => lv_iconst (v := 1) hx hb dX9_step_178 (by decide)) ?_
                  refine zz (fun _ _ => lv_isub hx hb dX9_step_179) ?_
                  exact z_iret C hr hlk dX9_step_180 (by simp only [zd, fX9_step, if_neg c_1, if_pos c_27, if_neg c_28, if_neg c_32, if_neg c_36, and_self])
                · exact absurd (by decide) c_37
              · refine zz (fun _ _ => lv_iconst (v := 2) hx hb dX9_step_87 (by decide)) ?_
                refine zz (fun _ _ => lv_goto (tgt := 92) hx hb dX9_step_88 (by decide)) ?_
                refine z_put C fp_X9_129 (fun h => by cases h) rm_0 (Nat.le_of_ble_eq_true rfl) rfl rfl dX9_step_92 ?_
                refine zeq wm_f0 ?_
                refine zz (fun _ _ => lv_aload_n hx hb dX9_step_95 rfl (lv_at hl 2 rfl)) ?_
                refine z_get (v := .int (2)) C fd_X9_129 rm_0 rfl dX9_step_96 ?_
                refine zb (fun _ _ => lv_if_le (tgt := 104) hx hb dX9_step_99 (by decide)) (fun c_38 => ?_) (fun c_38 => ?_)
                · exact absurd c_38 (by decide)
                · refine zz (fun _ _ => lv_iconst (v := 0) hx hb dX9_step_102 (by decide)) ?_
                  exact z_iret C hr hlk dX9_step_103 (by simp only [zd, fX9_step, if_neg c_1, if_pos c_27, if_neg c_28, if_neg c_32, if_pos c_36, and_self])
            · exact absurd c_35 (by decide)
        · exact absurd (by decide) c_31
    · refine zz (fun _ _ => lv_iconst (v := 1) hx hb dX9_step_11 (by decide)) ?_
      refine zz (fun _ _ => lv_goto (tgt := 16) hx hb dX9_step_12 (by decide)) ?_
      refine zs (fun _ _ => lv_istore (lv' := [(4, .int (1)), (0, .ref (r)), (1, .int (a_)), (2, .int (b_)), (3, .int (c_))]) hx hb dX9_step_16 hl (by decide) rfl) (fun ls hl => ?_)
      refine zz (fun _ _ => lv_iload_n hx hb dX9_step_18 rfl (lv_at hl 2 rfl)) ?_
      refine zz (fun _ _ => lv_iconst (v := 0) hx hb dX9_step_19 (by decide)) ?_
      refine zz (fun _ _ => lv_bipush (v := 9) hx hb dX9_step_20 (by decide)) ?_
      refine zdS (As := [.int (a_), .int (0), .int (9)]) (rest := []) (st' := [.int ((fX9_isIn a_ 0 9))]) C hl.1 lk_X9_135 (ctX9_isIn) rfl rfl (Nat.le_of_ble_eq_true rfl) ⟨by decide, by decide, by decide, by decide⟩ dX9_step_22 rfl (fun sz => ?_)
      refine zb (fun _ _ => lv_if_eq (tgt := 65) hx hb dX9_step_25 (by decide)) (fun c_39 => ?_) (fun c_39 => ?_)
      · refine zz (fun _ _ => lv_iconst (v := 0) hx hb dX9_step_65 (by decide)) ?_
        refine zs (fun _ _ => lv_istore (lv' := [(5, .int (0)), (4, .int (1)), (0, .ref (r)), (1, .int (a_)), (2, .int (b_)), (3, .int (c_))]) hx hb dX9_step_66 hl (by decide) rfl) (fun ls hl => ?_)
        refine zz (fun _ _ => lv_aload_n hx hb dX9_step_68 rfl (lv_at hl 2 rfl)) ?_
        refine zz (fun _ _ => lv_iload hx hb dX9_step_69 (lv_at hl 0 rfl)) ?_
        refine zbn (fun _ _ => lv_if_ne (tgt := 78) hx hb dX9_step_71 (by decide)) (fun c_40 => ?_) (fun c_40 => ?_)
        · exact absurd (by decide) c_40
        · refine zz (fun _ _ => lv_iconst (v := 1) hx hb dX9_step_74 (by decide)) ?_
          refine zz (fun _ _ => lv_goto (tgt := 92) hx hb dX9_step_75 (by decide)) ?_
          refine z_put C fp_X9_129 (fun h => by cases h) rm_0 (Nat.le_of_ble_eq_true rfl) rfl rfl dX9_step_92 ?_
          refine zeq wm_f0 ?_
          refine zz (fun _ _ => lv_aload_n hx hb dX9_step_95 rfl (lv_at hl 2 rfl)) ?_
          refine z_get (v := .int (1)) C fd_X9_129 rm_0 rfl dX9_step_96 ?_
          refine zb (fun _ _ => lv_if_le (tgt := 104) hx hb dX9_step_99 (by decide)) (fun c_41 => ?_) (fun c_41 => ?_)
          · exact absurd c_41 (by decide)
          · refine zz (fun _ _ => lv_iconst (v := 0) hx hb dX9_step_102 (by decide)) ?_
            exact z_iret C hr hlk dX9_step_103 (by simp only [zd, fX9_step, if_neg c_1, if_neg c_27, if_pos c_39, and_self])
      · refine zz (fun _ _ => lv_iload hx hb dX9_step_28 (lv_at hl 0 rfl)) ?_
        refine zb (fun _ _ => lv_if_eq (tgt := 53) hx hb dX9_step_30 (by decide)) (fun c_42 => ?_) (fun c_42 => ?_)
        · exact absurd c_42 (by decide)
        · refine zz (fun _ _ => lv_iload_n hx hb dX9_step_33 rfl (lv_at hl 3 rfl)) ?_
          refine zz (fun _ _ => lv_iconst (v := 0) hx hb dX9_step_34 (by decide)) ?_
          refine zz (fun _ _ => lv_iload_n hx hb dX9_step_35 rfl (lv_at hl 2 rfl)) ?_
          refine zz (fun _ _ => lv_bipush (v := 9) hx hb dX9_step_36 (by decide)) ?_
          refine zbn (fun _ _ => lv_icmp_ne (tgt := 45) hx hb dX9_step_38 (by decide)) (fun c_43 => ?_) (fun c_43 => ?_)
          · refine zz (fun _ _ => lv_bipush (v := 6) hx hb dX9_step_45 (by decide)) ?_
            refine zdS (As := [.int (b_), .int (0), .int (6)]) (rest := []) (st' := [.int ((fX9_isIn b_ 0 6))]) C hl.1 lk_X9_135 (ctX9_isIn) rfl rfl (Nat.le_of_ble_eq_true rfl) ⟨by decide, by decide, by decide, by decide⟩ dX9_step_47 rfl (fun sz => ?_)
            refine zb (fun _ _ => lv_if_eq (tgt := 65) hx hb dX9_step_50 (by decide)) (fun c_44 => ?_) (fun c_44 => ?_)
            · refine zz (fun _ _ => lv_iconst (v := 0) hx hb dX9_step_65 (by decide)) ?_
              refine zs (fun _ _ => lv_istore (lv' := [(5, .int (0)), (4, .int (1)), (0, .ref (r)), (1, .int (a_)), (2, .int (b_)), (3, .int (c_))]) hx hb dX9_step_66 hl (by decide) rfl) (fun ls hl => ?_)
              refine zz (fun _ _ => lv_aload_n hx hb dX9_step_68 rfl (lv_at hl 2 rfl)) ?_
              refine zz (fun _ _ => lv_iload hx hb dX9_step_69 (lv_at hl 0 rfl)) ?_
              refine zbn (fun _ _ => lv_if_ne (tgt := 78) hx hb dX9_step_71 (by decide)) (fun c_45 => ?_) (fun c_45 => ?_)
              · exact absurd (by decide) c_45
              · refine zz (fun _ _ => lv_iconst (v := 1) hx hb dX9_step_74 (by decide)) ?_
                refine zz (fun _ _ => lv_goto (tgt := 92) hx hb dX9_step_75 (by decide)) ?_
                refine z_put C fp_X9_129 (fun h => by cases h) rm_0 (Nat.le_of_ble_eq_true rfl) rfl rfl dX9_step_92 ?_
                refine zeq wm_f0 ?_
                refine zz (fun _ _ => lv_aload_n hx hb dX9_step_95 rfl (lv_at hl 2 rfl)) ?_
                refine z_get (v := .int (1)) C fd_X9_129 rm_0 rfl dX9_step_96 ?_
                refine zb (fun _ _ => lv_if_le (tgt := 104) hx hb dX9_step_99 (by decide)) (fun c_46 => ?_) (fun c_46 => ?_)
                · exact absurd c_46 (by decide)
                · refine zz (fun _ _ => lv_iconst (v := 0) hx hb dX9_step_102 (by decide)) ?_
                  exact z_iret C hr hlk dX9_step_103 (by simp only [zd, fX9_step, if_neg c_1, if_neg c_27, if_neg c_39, if_neg c_43, if_pos c_44, and_self])
            · refine zz (fun _ _ => lv_iload_n hx hb dX9_step_53 rfl (lv_at hl 2 rfl)) ?_
              refine zz (fun _ _ => lv_iload_n hx hb dX9_step_54 rfl (lv_at hl 4 rfl)) ?_
              refine zdS (As := [.int (a_), .int (c_)]) (rest := []) (st' := [.int ((fX9_isTo a_ c_))]) C hl.1 lk_X9_139 (ctX9_isTo) rfl rfl (Nat.le_of_ble_eq_true rfl) ⟨by decide, by decide, by decide, by decide⟩ dX9_step_55 rfl (fun sz => ?_)
              refine zb (fun _ _ => lv_if_eq (tgt := 65) hx hb dX9_step_58 (by decide)) (fun c_47 => ?_) (fun c_47 => ?_)
              · refine zz (fun _ _ => lv_iconst (v := 0) hx hb dX9_step_65 (by decide)) ?_
                refine zs (fun _ _ => lv_istore (lv' := [(5, .int (0)), (4, .int (1)), (0, .ref (r)), (1, .int (a_)), (2, .int (b_)), (3, .int (c_))]) hx hb dX9_step_66 hl (by decide) rfl) (fun ls hl => ?_)
                refine zz (fun _ _ => lv_aload_n hx hb dX9_step_68 rfl (lv_at hl 2 rfl)) ?_
                refine zz (fun _ _ => lv_iload hx hb dX9_step_69 (lv_at hl 0 rfl)) ?_
                refine zbn (fun _ _ => lv_if_ne (tgt := 78) hx hb dX9_step_71 (by decide)) (fun c_48 => ?_) (fun c_48 => ?_)
                · exact absurd (by decide) c_48
                · refine zz (fun _ _ => lv_iconst (v := 1) hx hb dX9_step_74 (by decide)) ?_
                  refine zz (fun _ _ => lv_goto (tgt := 92) hx hb dX9_step_75 (by decide)) ?_
                  refine z_put C fp_X9_129 (fun h => by cases h) rm_0 (Nat.le_of_ble_eq_true rfl) rfl rfl dX9_step_92 ?_
                  refine zeq wm_f0 ?_
                  refine zz (fun _ _ => lv_aload_n hx hb dX9_step_95 rfl (lv_at hl 2 rfl)) ?_
                  refine z_get (v := .int (1)) C fd_X9_129 rm_0 rfl dX9_step_96 ?_
                  refine zb (fun _ _ => lv_if_le (tgt := 104) hx hb dX9_step_99 (by decide)) (fun c_49 => ?_) (fun c_49 => ?_)
                  · exact absurd c_49 (by decide)
                  · refine zz (fun _ _ => lv_iconst (v := 0) hx hb dX9_step_102 (by decide)) ?_
                    exact z_iret C hr hlk dX9_step_103 (by simp only [zd, fX9_step, if_neg c_1, if_neg c_27, if_neg c_39, if_neg c_43, if_neg c_44, if_pos c_47, and_self])
              · refine zz (fun _ _ => lv_iconst (v := 1) hx hb dX9_step_61 (by decide)) ?_
                refine zz (fun _ _ => lv_goto (tgt := 66) hx hb dX9_step_62 (by decide)) ?_
                refine zs (fun _ _ => lv_istore (lv' := [(5, .int (1)), (4, .int (1)), (0, .ref (r)), (1, .int (a_)), (2, .int (b_)), (3, .int (c_))]) hx hb dX9_step_66 hl (by decide) rfl) (fun ls hl => ?_)
                refine zz (fun _ _ => lv_aload_n hx hb dX9_step_68 rfl (lv_at hl 2 rfl)) ?_
                refine zz (fun _ _ => lv_iload hx hb dX9_step_69 (lv_at hl 0 rfl)) ?_
                refine zbn (fun _ _ => lv_if_ne (tgt := 78) hx hb dX9_step_71 (by decide)) (fun c_50 => ?_) (fun c_50 => ?_)
                · refine zz (fun _ _ => lv_aload_n hx hb dX9_step_78 rfl (lv_at hl 2 rfl)) ?_
                  refine z_get (v := .int (v 1)) C fd_X9_132 rm_0 rfl dX9_step_79 ?_
                  refine zz (fun _ _ => lv_bipush (v := 12) hx hb dX9_step_82 (by decide)) ?_
                  refine zbn (fun _ _ => lv_icmp_ne (tgt := 91) hx hb dX9_step_84 (by decide)) (fun c_51 => ?_) (fun c_51 => ?_)
                  · refine zz (fun _ _ => lv_iconst (v := 0) hx hb dX9_step_91 (by decide)) ?_
                    refine z_put C fp_X9_129 (fun h => by cases h) rm_0 (Nat.le_of_ble_eq_true rfl) rfl rfl dX9_step_92 ?_
                    refine zeq wm_f0 ?_
                    refine zz (fun _ _ => lv_aload_n hx hb dX9_step_95 rfl (lv_at hl 2 rfl)) ?_
                    refine z_get (v := .int (0)) C fd_X9_129 rm_0 rfl dX9_step_96 ?_
                    refine zb (fun _ _ => lv_if_le (tgt := 104) hx hb dX9_step_99 (by decide)) (fun c_52 => ?_) (fun c_52 => ?_)
                    · refine zz (fun _ _ => lv_aload_n hx hb dX9_step_104 rfl (lv_at hl 2 rfl)) ?_
                      refine z_get (v := .ref (r + 1)) C fd_X9_7 rm_0 rfl dX9_step_105 ?_
                      refine zz (fun _ _ => lv_aload_n hx hb dX9_step_108 rfl (lv_at hl 2 rfl)) ?_
                      refine z_get (v := .int (v 1)) C fd_X9_132 rm_0 rfl dX9_step_109 ?_
                      refine zz (fun _ _ => lv_iload_n hx hb dX9_step_112 rfl (lv_at hl 3 rfl)) ?_
                      refine z_iast (f := A 1) C rm_1 (in_nI hs (ne_lt (m := 12) hs hn c_51) (by decide)) dX9_step_113 ?_
                      refine zeq wm_1 ?_
                      refine zz (fun _ _ => lv_aload_n hx hb dX9_step_114 rfl (lv_at hl 2 rfl)) ?_
                      refine z_get (v := .ref (r + 2)) C fd_X9_13 rm_0 rfl dX9_step_115 ?_
                      refine zz (fun _ _ => lv_aload_n hx hb dX9_step_118 rfl (lv_at hl 2 rfl)) ?_
                      refine z_get (v := .int (v 1)) C fd_X9_132 rm_0 rfl dX9_step_119 ?_
                      refine zz (fun _ _ => lv_iload_n hx hb dX9_step_122 rfl (lv_at hl 4 rfl)) ?_
                      refine z_iast (f := A 2) C rm_2 (in_nI hs (ne_lt (m := 12) hs hn c_51) (by decide)) dX9_step_123 ?_
                      refine zeq wm_2 ?_
                      refine zz (fun _ _ => lv_aload_n hx hb dX9_step_124 rfl (lv_at hl 2 rfl)) ?_
                      refine z_get (v := .ref (r + 3)) C fd_X9_16 rm_0 rfl dX9_step_125 ?_
                      refine zz (fun _ _ => lv_aload_n hx hb dX9_step_128 rfl (lv_at hl 2 rfl)) ?_
                      refine z_get (v := .int (v 1)) C fd_X9_132 rm_0 rfl dX9_step_129 ?_
                      refine zz (fun _ _ => lv_iload_n hx hb dX9_step_132 rfl (lv_at hl 5 rfl)) ?_
                      refine z_iast (f := A 3) C rm_3 (in_nI hs (ne_lt (m := 12) hs hn c_51) (by decide)) dX9_step_133 ?_
                      refine zeq wm_3 ?_
                      refine zz (fun _ _ => lv_aload_n hx hb dX9_step_134 rfl (lv_at hl 2 rfl)) ?_
                      refine z_get (v := .ref (r + 4)) C fd_X9_19 rm_0 rfl dX9_step_135 ?_
                      refine zz (fun _ _ => lv_aload_n hx hb dX9_step_138 rfl (lv_at hl 2 rfl)) ?_
                      refine z_get (v := .int (v 1)) C fd_X9_132 rm_0 rfl dX9_step_139 ?_
                      refine zz (fun _ _ => lv_iconst (v := 0) hx hb dX9_step_142 (by decide)) ?_
                      refine z_zast (f := A 4) C rm_4 (in_nI hs (ne_lt (m := 12) hs hn c_51) (by decide)) rfl dX9_step_143 ?_
                      refine zeq wm_4 ?_
                      refine zz (fun _ _ => lv_aload_n hx hb dX9_step_144 rfl (lv_at hl 2 rfl)) ?_
                      refine z_get (v := .ref (r + 5)) C fd_X9_23 rm_0 rfl dX9_step_145 ?_
                      refine zz (fun _ _ => lv_aload_n hx hb dX9_step_148 rfl (lv_at hl 2 rfl)) ?_
                      refine z_get (v := .int (v 1)) C fd_X9_132 rm_0 rfl dX9_step_149 ?_
                      refine zz (fun _ _ => lv_iconst (v := 0) hx hb dX9_step_152 (by decide)) ?_
                      refine z_iast (f := A 5) C rm_5 (in_nI hs (ne_lt (m := 12) hs hn c_51) (by decide)) dX9_step_153 ?_
                      refine zeq wm_5 ?_
                      refine zz (fun _ _ => lv_aload_n hx hb dX9_step_154 rfl (lv_at hl 2 rfl)) ?_
                      refine z_get (v := .ref (r + 10)) C fd_X9_38 rm_0 rfl dX9_step_155 ?_
                      refine zz (fun _ _ => lv_aload_n hx hb dX9_step_158 rfl (lv_at hl 2 rfl)) ?_
                      refine z_get (v := .int (v 1)) C fd_X9_132 rm_0 rfl dX9_step_159 ?_
                      refine zz (fun _ _ => lv_iconst (v := 0) hx hb dX9_step_162 (by decide)) ?_
                      refine z_iast (f := A 10) C rm_10 (in_nI hs (ne_lt (m := 12) hs hn c_51) (by decide)) dX9_step_163 ?_
                      refine zeq wm_10 ?_
                      refine zz (fun _ _ => lv_aload_n hx hb dX9_step_164 rfl (lv_at hl 2 rfl)) ?_
                      refine zz (fun _ _ => lv_dup hx hb dX9_step_165 rfl) ?_
                      refine z_get (v := .int (v 1)) C fd_X9_132 rm_0 rfl dX9_step_166 ?_
                      refine zz (fun _ _ => lv_iconst (v := 1) hx hb dX9_step_169 (by decide)) ?_
                      refine zz (fun _ _ => lv_iadd hx hb dX9_step_170) ?_
                      refine z_put C fp_X9_132 (fun h => by cases h) rm_0 (Nat.le_of_ble_eq_true rfl) rfl rfl dX9_step_171 ?_
                      refine zeq wm_f1 ?_
                      refine zz (fun _ _ => lv_aload_n hx hb dX9_step_174 rfl (lv_at hl 2 rfl)) ?_
                      refine z_get (v := .int ((v 1) + (1))) C fd_X9_132 rm_0 rfl dX9_step_175 ?_
                      refine zz (fun _ _ => lv_iconst (v := 1) hx hb dX9_step_178 (by decide)) ?_
                      refine zz (fun _ _ => lv_isub hx hb dX9_step_179) ?_
                      exact z_iret C hr hlk dX9_step_180 (by simp only [zd, fX9_step, if_neg c_1, if_neg c_27, if_neg c_39, if_neg c_43, if_neg c_44, if_neg c_47, if_neg c_51, and_self])
                    · exact absurd (by decide) c_52
                  · refine zz (fun _ _ => lv_iconst (v := 2) hx hb dX9_step_87 (by decide)) ?_
                    refine zz (fun _ _ => lv_goto (tgt := 92) hx hb dX9_step_88 (by decide)) ?_
                    refine z_put C fp_X9_129 (fun h => by cases h) rm_0 (Nat.le_of_ble_eq_true rfl) rfl rfl dX9_step_92 ?_
                    refine zeq wm_f0 ?_
                    refine zz (fun _ _ => lv_aload_n hx hb dX9_step_95 rfl (lv_at hl 2 rfl)) ?_
                    refine z_get (v := .int (2)) C fd_X9_129 rm_0 rfl dX9_step_96 ?_
                    refine zb (fun _ _ => lv_if_le (tgt := 104) hx hb dX9_step_99 (by decide)) (fun c_53 => ?_) (fun c_53 => ?_)
                    · exact absurd c_53 (by decide)
                    · refine zz (fun _ _ => lv_iconst (v := 0) hx hb dX9_step_102 (by decide)) ?_
                      exact z_iret C hr hlk dX9_step_103 (by simp only [zd, fX9_step, if_neg c_1, if_neg c_27, if_neg c_39, if_neg c_43, if_neg c_44, if_neg c_47, if_pos c_51, and_self])
                · exact absurd c_50 (by decide)
          · refine zz (fun _ _ => lv_iconst (v := 3) hx hb dX9_step_41 (by decide)) ?_
            refine zz (fun _ _ => lv_goto (tgt := 47) hx hb dX9_step_42 (by decide)) ?_
            refine zdS (As := [.int (b_), .int (0), .int (3)]) (rest := []) (st' := [.int ((fX9_isIn b_ 0 3))]) C hl.1 lk_X9_135 (ctX9_isIn) rfl rfl (Nat.le_of_ble_eq_true rfl) ⟨by decide, by decide, by decide, by decide⟩ dX9_step_47 rfl (fun sz => ?_)
            refine zb (fun _ _ => lv_if_eq (tgt := 65) hx hb dX9_step_50 (by decide)) (fun c_54 => ?_) (fun c_54 => ?_)
            · refine zz (fun _ _ => lv_iconst (v := 0) hx hb dX9_step_65 (by decide)) ?_
              refine zs (fun _ _ => lv_istore (lv' := [(5, .int (0)), (4, .int (1)), (0, .ref (r)), (1, .int (a_)), (2, .int (b_)), (3, .int (c_))]) hx hb dX9_step_66 hl (by decide) rfl) (fun ls hl => ?_)
              refine zz (fun _ _ => lv_aload_n hx hb dX9_step_68 rfl (lv_at hl 2 rfl)) ?_
              refine zz (fun _ _ => lv_iload hx hb dX9_step_69 (lv_at hl 0 rfl)) ?_
              refine zbn (fun _ _ => lv_if_ne (tgt := 78) hx hb dX9_step_71 (by decide)) (fun c_55 => ?_) (fun c_55 => ?_)
              · exact absurd (by decide) c_55
              · refine zz (fun _ _ => lv_iconst (v := 1) hx hb dX9_step_74 (by decide)) ?_
                refine zz (fun _ _ => lv_goto (tgt := 92) hx hb dX9_step_75 (by decide)) ?_
                refine z_put C fp_X9_129 (fun h => by cases h) rm_0 (Nat.le_of_ble_eq_true rfl) rfl rfl dX9_step_92 ?_
                refine zeq wm_f0 ?_
                refine zz (fun _ _ => lv_aload_n hx hb dX9_step_95 rfl (lv_at hl 2 rfl)) ?_
                refine z_get (v := .int (1)) C fd_X9_129 rm_0 rfl dX9_step_96 ?_
                refine zb (fun _ _ => lv_if_le (tgt := 104) hx hb dX9_step_99 (by decide)) (fun c_56 => ?_) (fun c_56 => ?_)
                · exact absurd c_56 (by decide)
                · refine zz (fun _ _ => lv_iconst (v := 0) hx hb dX9_step_102 (by decide)) ?_
                  exact z_iret C hr hlk dX9_step_103 (by simp only [zd, fX9_step, if_neg c_1, if_neg c_27, if_neg c_39, if_pos c_43, if_pos c_54, and_self])
            · refine zz (fun _ _ => lv_iload_n hx hb dX9_step_53 rfl (lv_at hl 2 rfl)) ?_
              refine zz (fun _ _ => lv_iload_n hx hb dX9_step_54 rfl (lv_at hl 4 rfl)) ?_
              refine zdS (As := [.int (a_), .int (c_)]) (rest := []) (st' := [.int ((fX9_isTo a_ c_))]) C hl.1 lk_X9_139 (ctX9_isTo) rfl rfl (Nat.le_of_ble_eq_true rfl) ⟨by decide, by decide, by decide, by decide⟩ dX9_step_55 rfl (fun sz => ?_)
              refine zb (fun _ _ => lv_if_eq (tgt := 65) hx hb dX9_step_58 (by decide)) (fun c_57 => ?_) (fun c_57 => ?_)
              · refine zz (fun _ _ => lv_iconst (v := 0) hx hb dX9_step_65 (by decide)) ?_
                refine zs (fun _ _ => lv_istore (lv' := [(5, .int (0)), (4, .int (1)), (0, .ref (r)), (1, .int (a_)), (2, .int (b_)), (3, .int (c_))]) hx hb dX9_step_66 hl (by decide) rfl) (fun ls hl => ?_)
                refine zz (fun _ _ => lv_aload_n hx hb dX9_step_68 rfl (lv_at hl 2 rfl)) ?_
                refine zz (fun _ _ => lv_iload hx hb dX9_step_69 (lv_at hl 0 rfl)) ?_
                refine zbn (fun _ _ => lv_if_ne (tgt := 78) hx hb dX9_step_71 (by decide)) (fun c_58 => ?_) (fun c_58 => ?_)
                · exact absurd (by decide) c_58
                · refine zz (fun _ _ => lv_iconst (v := 1) hx hb dX9_step_74 (by decide)) ?_
                  refine zz (fun _ _ => lv_goto (tgt := 92) hx hb dX9_step_75 (by decide)) ?_
                  refine z_put C fp_X9_129 (fun h => by cases h) rm_0 (Nat.le_of_ble_eq_true rfl) rfl rfl dX9_step_92 ?_
                  refine zeq wm_f0 ?_
                  refine zz (fun _ _ => lv_aload_n hx hb dX9_step_95 rfl (lv_at hl 2 rfl)) ?_
                  refine z_get (v := .int (1)) C fd_X9_129 rm_0 rfl dX9_step_96 ?_
                  refine zb (fun _ _ => lv_if_le (tgt := 104) hx hb dX9_step_99 (by decide)) (fun c_59 => ?_) (fun c_59 => ?_)
                  · exact absurd c_59 (by decide)
                  · refine zz (fun _ _ => lv_iconst (v := 0) hx hb dX9_step_102 (by decide)) ?_
                    exact z_iret C hr hlk dX9_step_103 (by simp only [zd, fX9_step, if_neg c_1, if_neg c_27, if_neg c_39, if_pos c_43, if_neg c_54, if_pos c_57, and_self])
              · refine zz (fun _ _ => lv_iconst (v := 1) hx hb dX9_step_61 (by decide)) ?_
                refine zz (fun _ _ => lv_goto (tgt := 66) hx hb dX9_step_62 (by decide)) ?_
                refine zs (fun _ _ => lv_istore (lv' := [(5, .int (1)), (4, .int (1)), (0, .ref (r)), (1, .int (a_)), (2, .int (b_)), (3, .int (c_))]) hx hb dX9_step_66 hl (by decide) rfl) (fun ls hl => ?_)
                refine zz (fun _ _ => lv_aload_n hx hb dX9_step_68 rfl (lv_at hl 2 rfl)) ?_
                refine zz (fun _ _ => lv_iload hx hb dX9_step_69 (lv_at hl 0 rfl)) ?_
                refine zbn (fun _ _ => lv_if_ne (tgt := 78) hx hb dX9_step_71 (by decide)) (fun c_60 => ?_) (fun c_60 => ?_)
                · refine zz (fun _ _ => lv_aload_n hx hb dX9_step_78 rfl (lv_at hl 2 rfl)) ?_
                  refine z_get (v := .int (v 1)) C fd_X9_132 rm_0 rfl dX9_step_79 ?_
                  refine zz (fun _ _ => lv_bipush (v := 12) hx hb dX9_step_82 (by decide)) ?_
                  refine zbn (fun _ _ => lv_icmp_ne (tgt := 91) hx hb dX9_step_84 (by decide)) (fun c_61 => ?_) (fun c_61 => ?_)
                  · refine zz (fun _ _ => lv_iconst (v := 0) hx hb dX9_step_91 (by decide)) ?_
                    refine z_put C fp_X9_129 (fun h => by cases h) rm_0 (Nat.le_of_ble_eq_true rfl) rfl rfl dX9_step_92 ?_
                    refine zeq wm_f0 ?_
                    refine zz (fun _ _ => lv_aload_n hx hb dX9_step_95 rfl (lv_at hl 2 rfl)) ?_
                    refine z_get (v := .int (0)) C fd_X9_129 rm_0 rfl dX9_step_96 ?_
                    refine zb (fun _ _ => lv_if_le (tgt := 104) hx hb dX9_step_99 (by decide)) (fun c_62 => ?_) (fun c_62 => ?_)
                    · refine zz (fun _ _ => lv_aload_n hx hb dX9_step_104 rfl (lv_at hl 2 rfl)) ?_
                      refine z_get (v := .ref (r + 1)) C fd_X9_7 rm_0 rfl dX9_step_105 ?_
                      refine zz (fun _ _ => lv_aload_n hx hb dX9_step_108 rfl (lv_at hl 2 rfl)) ?_
                      refine z_get (v := .int (v 1)) C fd_X9_132 rm_0 rfl dX9_step_109 ?_
                      refine zz (fun _ _ => lv_iload_n hx hb dX9_step_112 rfl (lv_at hl 3 rfl)) ?_
                      refine z_iast (f := A 1) C rm_1 (in_nI hs (ne_lt (m := 12) hs hn c_61) (by decide)) dX9_step_113 ?_
                      refine zeq wm_1 ?_
                      refine zz (fun _ _ => lv_aload_n hx hb dX9_step_114 rfl (lv_at hl 2 rfl)) ?_
                      refine z_get (v := .ref (r + 2)) C fd_X9_13 rm_0 rfl dX9_step_115 ?_
                      refine zz (fun _ _ => lv_aload_n hx hb dX9_step_118 rfl (lv_at hl 2 rfl)) ?_
                      refine z_get (v := .int (v 1)) C fd_X9_132 rm_0 rfl dX9_step_119 ?_
                      refine zz (fun _ _ => lv_iload_n hx hb dX9_step_122 rfl (lv_at hl 4 rfl)) ?_
                      refine z_iast (f := A 2) C rm_2 (in_nI hs (ne_lt (m := 12) hs hn c_61) (by decide)) dX9_step_123 ?_
                      refine zeq wm_2 ?_
                      refine zz (fun _ _ => lv_aload_n hx hb dX9_step_124 rfl (lv_at hl 2 rfl)) ?_
                      refine z_get (v := .ref (r + 3)) C fd_X9_16 rm_0 rfl dX9_step_125 ?_
                      refine zz (fun _ _ => lv_aload_n hx hb dX9_step_128 rfl (lv_at hl 2 rfl)) ?_
                      refine z_get (v := .int (v 1)) C fd_X9_132 rm_0 rfl dX9_step_129 ?_
                      refine zz (fun _ _ => lv_iload_n hx hb dX9_step_132 rfl (lv_at hl 5 rfl)) ?_
                      refine z_iast (f := A 3) C rm_3 (in_nI hs (ne_lt (m := 12) hs hn c_61) (by decide)) dX9_step_133 ?_
                      refine zeq wm_3 ?_
                      refine zz (fun _ _ => lv_aload_n hx hb dX9_step_134 rfl (lv_at hl 2 rfl)) ?_
                      refine z_get (v := .ref (r + 4)) C fd_X9_19 rm_0 rfl dX9_step_135 ?_
                      refine zz (fun _ _ => lv_aload_n hx hb dX9_step_138 rfl (lv_at hl 2 rfl)) ?_
                      refine z_get (v := .int (v 1)) C fd_X9_132 rm_0 rfl dX9_step_139 ?_
                      refine zz (fun _ _ => lv_iconst (v := 0) hx hb dX9_step_142 (by decide)) ?_
                      refine z_zast (f := A 4) C rm_4 (in_nI hs (ne_lt (m := 12) hs hn c_61) (by decide)) rfl dX9_step_143 ?_
                      refine zeq wm_4 ?_
                      refine zz (fun _ _ => lv_aload_n hx hb dX9_step_144 rfl (lv_at hl 2 rfl)) ?_
                      refine z_get (v := .ref (r + 5)) C fd_X9_23 rm_0 rfl dX9_step_145 ?_
                      refine zz (fun _ _ => lv_aload_n hx hb dX9_step_148 rfl (lv_at hl 2 rfl)) ?_
                      refine z_get (v := .int (v 1)) C fd_X9_132 rm_0 rfl dX9_step_149 ?_
                      refine zz (fun _ _ => lv_iconst (v := 0) hx hb dX9_step_152 (by decide)) ?_
                      refine z_iast (f := A 5) C rm_5 (in_nI hs (ne_lt (m := 12) hs hn c_61) (by decide)) dX9_step_153 ?_
                      refine zeq wm_5 ?_
                      refine zz (fun _ _ => lv_aload_n hx hb dX9_step_154 rfl (lv_at hl 2 rfl)) ?_
                      refine z_get (v := .ref (r + 10)) C fd_X9_38 rm_0 rfl dX9_step_155 ?_
                      refine zz (fun _ _ => lv_aload_n hx hb dX9_step_158 rfl (lv_at hl 2 rfl)) ?_
                      refine z_get (v := .int (v 1)) C fd_X9_132 rm_0 rfl dX9_step_159 ?_
                      refine zz (fun _ _ => lv_iconst (v := 0) hx hb dX9_step_162 (by decide)) ?_
                      refine z_iast (f := A 10) C rm_10 (in_nI hs (ne_lt (m := 12) hs hn c_61) (by decide)) dX9_step_163 ?_
                      refine zeq wm_10 ?_
                      refine zz (fun _ _ => lv_aload_n hx hb dX9_step_164 rfl (lv_at hl 2 rfl)) ?_
                      refine zz (fun _ _ => lv_dup hx hb dX9_step_165 rfl) ?_
                      refine z_get (v := .int (v 1)) C fd_X9_132 rm_0 rfl dX9_step_166 ?_
                      refine zz (fun _ _ => lv_iconst (v := 1) hx hb dX9_step_169 (by decide)) ?_
                      refine zz (fun _ _ => lv_iadd hx hb dX9_step_170) ?_
                      refine z_put C fp_X9_132 (fun h => by cases h) rm_0 (Nat.le_of_ble_eq_true rfl) rfl rfl dX9_step_171 ?_
                      refine zeq wm_f1 ?_
                      refine zz (fun _ _ => lv_aload_n hx hb dX9_step_174 rfl (lv_at hl 2 rfl)) ?_
                      refine z_get (v := .int ((v 1) + (1))) C fd_X9_132 rm_0 rfl dX9_step_175 ?_
                      refine zz (fun _ _ => lv_iconst (v := 1) hx hb dX9_step_178 (by decide)) ?_
                      refine zz (fun _ _ => lv_isub hx hb dX9_step_179) ?_
                      exact z_iret C hr hlk dX9_step_180 (by simp only [zd, fX9_step, if_neg c_1, if_neg c_27, if_neg c_39, if_pos c_43, if_neg c_54, if_neg c_57, if_neg c_61, and_self])
                    · exact absurd (by decide) c_62
                  · refine zz (fun _ _ => lv_iconst (v := 2) hx hb dX9_step_87 (by decide)) ?_
                    refine zz (fun _ _ => lv_goto (tgt := 92) hx hb dX9_step_88 (by decide)) ?_
                    refine z_put C fp_X9_129 (fun h => by cases h) rm_0 (Nat.le_of_ble_eq_true rfl) rfl rfl dX9_step_92 ?_
                    refine zeq wm_f0 ?_
                    refine zz (fun _ _ => lv_aload_n hx hb dX9_step_95 rfl (lv_at hl 2 rfl)) ?_
                    refine z_get (v := .int (2)) C fd_X9_129 rm_0 rfl dX9_step_96 ?_
                    refine zb (fun _ _ => lv_if_le (tgt := 104) hx hb dX9_step_99 (by decide)) (fun c_63 => ?_) (fun c_63 => ?_)
                    · exact absurd c_63 (by decide)
                    · refine zz (fun _ _ => lv_iconst (v := 0) hx hb dX9_step_102 (by decide)) ?_
                      exact z_iret C hr hlk dX9_step_103 (by simp only [zd, fX9_step, if_neg c_1, if_neg c_27, if_neg c_39, if_pos c_43, if_neg c_54, if_neg c_57, if_pos c_61, and_self])
                · exact absurd c_60 (by decide)
def fX9_silent (v : Nat → Int32) (A : Nat → Nat → Int32) (a_ : Int32) (b_ : Int32) : Int32 × (Nat → Int32) × (Nat → Nat → Int32) := if (fX9_isStep v a_) = 0 then (0, (upd v 0 1), A) else (A 4 (Int32.toNatClampNeg (a_)), (upd v 0 0), (u1 A 4 (upd (A 4) (Int32.toNatClampNeg (a_)) (b_))))
set_option maxHeartbeats 1000000 in
set_option maxRecDepth 10000 in
theorem ctX9_silent {l : Launch} {D : va_G} {aC : Nat → ClassId} {b0 sz : Nat} {r : Nat} {v : Nat → Int32} {A : Nat → Nat → Int32} {R : ZM} {a_ : Int32} {b_ : Int32} {n_ : Nat} (hs : v 1 = nI n_) (hn : n_ ≤ 12) (hbb : b_ = 0 ∨ b_ = 1) (hz : ∀ j, j < 12 → A 4 j = 0 ∨ A 4 j = 1) : Ct l D aC b0 yX9_silent cX9_silent 4 (some .boolean) 1 0 0 [.ref (r), .int (a_), .int (b_)] (mm aC r v A R) sz (zd (some (.int (fX9_silent v A a_ b_).1)) (mm aC r (fX9_silent v A a_ b_).2.1 (fX9_silent v A a_ b_).2.2 R)) := by
  refine Ct.of (by decide) (Nat.le_of_ble_eq_true rfl) ?_
  intro p e s m below meth c ls C hr hlk hnm hl
  have hl : lv_has ls 4 [(0, .ref (r)), (1, .int (a_)), (2, .int (b_))] := hl
  obtain ⟨hx, hb, -, -, -⟩ := id C
  refine zz (fun _ _ => lv_aload_n hx hb dX9_silent_0 rfl (lv_at hl 0 rfl)) ?_
  refine zz (fun _ _ => lv_aload_n hx hb dX9_silent_1 rfl (lv_at hl 0 rfl)) ?_
  refine zz (fun _ _ => lv_iload_n hx hb dX9_silent_2 rfl (lv_at hl 1 rfl)) ?_
  refine zdV (As := [.int (a_)]) (rest := [.ref (r)]) (st' := [.int ((fX9_isStep v a_)), .ref (r)]) C hl.1 lk_X9_143 (ctX9_isStep) rm_0 rfl rfl rfl (Nat.le_of_ble_eq_true rfl) ⟨by decide, by decide, by decide, by decide⟩ dX9_silent_3 rfl (fun sz => ?_)
  refine zb (fun _ _ => lv_if_eq (tgt := 13) hx hb dX9_silent_6 (by decide)) (fun c_1 => ?_) (fun c_1 => ?_)
  · refine zz (fun _ _ => lv_iconst (v := 1) hx hb dX9_silent_13 (by decide)) ?_
    refine z_put C fp_X9_129 (fun h => by cases h) rm_0 (Nat.le_of_ble_eq_true rfl) rfl rfl dX9_silent_14 ?_
    refine zeq wm_f0 ?_
    refine zz (fun _ _ => lv_aload_n hx hb dX9_silent_17 rfl (lv_at hl 0 rfl)) ?_
    refine z_get (v := .int (1)) C fd_X9_129 rm_0 rfl dX9_silent_18 ?_
    refine zb (fun _ _ => lv_if_le (tgt := 26) hx hb dX9_silent_21 (by decide)) (fun c_2 => ?_) (fun c_2 => ?_)
    · exact absurd c_2 (by decide)
    · refine zz (fun _ _ => lv_iconst (v := 0) hx hb dX9_silent_24 (by decide)) ?_
      exact z_zret C hr rfl hlk dX9_silent_25 (by simp only [zd, fX9_silent, if_pos c_1, and_self])
  · refine zz (fun _ _ => lv_iconst (v := 0) hx hb dX9_silent_9 (by decide)) ?_
    refine zz (fun _ _ => lv_goto (tgt := 14) hx hb dX9_silent_10 (by decide)) ?_
    refine z_put C fp_X9_129 (fun h => by cases h) rm_0 (Nat.le_of_ble_eq_true rfl) rfl rfl dX9_silent_14 ?_
    refine zeq wm_f0 ?_
    refine zz (fun _ _ => lv_aload_n hx hb dX9_silent_17 rfl (lv_at hl 0 rfl)) ?_
    refine z_get (v := .int (0)) C fd_X9_129 rm_0 rfl dX9_silent_18 ?_
    refine zb (fun _ _ => lv_if_le (tgt := 26) hx hb dX9_silent_21 (by decide)) (fun c_3 => ?_) (fun c_3 => ?_)
    · refine zz (fun _ _ => lv_aload_n hx hb dX9_silent_26 rfl (lv_at hl 0 rfl)) ?_
      refine z_get (v := .ref (r + 4)) C fd_X9_19 rm_0 rfl dX9_silent_27 ?_
      refine zz (fun _ _ => lv_iload_n hx hb dX9_silent_30 rfl (lv_at hl 1 rfl)) ?_
      refine z_zald (f := A 4) C rm_4 (isStep_in c_1 hs hn (by decide)) dX9_silent_31 ?_
      refine zs (fun _ _ => lv_istore_n (lv' := [(3, .int (A 4 (Int32.toNatClampNeg (a_)))), (0, .ref (r)), (1, .int (a_)), (2, .int (b_))]) hx hb dX9_silent_32 rfl hl (by decide) rfl) (fun ls hl => ?_)
      refine zz (fun _ _ => lv_aload_n hx hb dX9_silent_33 rfl (lv_at hl 1 rfl)) ?_
      refine z_get (v := .ref (r + 4)) C fd_X9_19 rm_0 rfl dX9_silent_34 ?_
      refine zz (fun _ _ => lv_iload_n hx hb dX9_silent_37 rfl (lv_at hl 2 rfl)) ?_
      refine zz (fun _ _ => lv_iload_n hx hb dX9_silent_38 rfl (lv_at hl 3 rfl)) ?_
      refine z_zast (f := A 4) C rm_4 (isStep_in c_1 hs hn (by decide)) (bz hbb) dX9_silent_39 ?_
      refine zeq wm_4 ?_
      refine zz (fun _ _ => lv_iload_n hx hb dX9_silent_40 rfl (lv_at hl 0 rfl)) ?_
      exact z_zret C hr (bz (hz _ (vin_lt (isStep_in c_1 hs hn (by decide))))) hlk dX9_silent_41 (by simp only [zd, fX9_silent, if_neg c_1, and_self])
    · exact absurd (by decide) c_3
