section
theorem sw_out {x : Int32} {lo hi : Int} (h : ∀ n : Int, lo ≤ n → n ≤ hi → ¬ x = Int32.ofInt n) : x.toInt < lo ∨ hi < x.toInt := by
  by_cases q : x.toInt < lo
  · exact Or.inl q
  · by_cases q2 : hi < x.toInt
    · exact Or.inr q2
    · exact absurd (by simp) (h x.toInt (by omega) (by omega))
theorem vin_lt {a : Int32} {N : Nat} (h : vp_in a N) : a.toNatClampNeg < N := Nat.not_le.mp fun q => h (Or.inr q)
theorem ne_lt {a : Int32} {n m : Nat} (hs : a = nI n) (hn : n ≤ m) (h : ¬ a = nI m) : n < m := by
  rcases Nat.lt_or_ge n m with q | q
  · exact q
  · exact absurd (by rw [hs, show n = m by omega]) h
theorem isStep_in {v : Nat → Int32} {a : Int32} {n N : Nat} (h : ¬ fX9_isStep v a = 0) (hs : v 1 = nI n) (hn : n ≤ N) (hN : N < 2 ^ 31) : vp_in a N := by
  unfold fX9_isStep at h
  split at h
  · exact absurd rfl h
  · split at h
    · exact absurd rfl h
    · rename_i h1 h2
      rw [hs] at h2
      refine vp_in_iff.mpr ⟨?_, ?_⟩
      · simpa [Int32.lt_iff_toInt_lt] using h1
      · rw [Int32.le_iff_toInt_le, nI_toInt (by omega)] at h2
        omega
theorem ixm {a : Int32} {g : Nat → Int32} (w : Nat) {N M : Nat} (ha : vp_in a N) (hT : ∀ j, j < N → ∃ t, t ≤ w ∧ g j = nI t) (h : ¬ g a.toNatClampNeg = nI w) (hM : w * N = M) (hb : M < 2 ^ 31) (hN : N < 2 ^ 31) : vp_in (nI w * a + g a.toNatClampNeg) M := by
  obtain ⟨j, hj, rfl⟩ := vp_in_of ha hN
  rw [nI_clamp (by omega)] at h ⊢
  obtain ⟨t, ht, e⟩ := hT j hj
  have hlt := ne_lt e ht h
  rw [e, pk_mul, nI_add]
  refine vp_in_nI ?_ hb
  have : w * j + w ≤ w * N := by
    rw [← Nat.mul_succ]
    exact Nat.mul_le_mul_left w hj
  omega
theorem ix_lt {a b : Int32} {n N : Nat} (h1 : ¬ a < 0) (h2 : ¬ b ≤ a) (hb : b = nI n) (hn : n ≤ N) (hN : N < 2 ^ 31) : vp_in a N := by
  rw [hb] at h2
  refine vp_in_iff.mpr ⟨?_, ?_⟩
  · simpa [Int32.lt_iff_toInt_lt] using h1
  · rw [Int32.le_iff_toInt_le, nI_toInt (by omega)] at h2
    omega
theorem ix_lt2 {a b : Int32} {n N : Nat} (h1 : ¬ a < 0) (h2 : a < b) (hb : b = nI n) (hn : n ≤ N) (hN : N < 2 ^ 31) : vp_in a N :=
  ix_lt h1 (by simpa using h2) hb hn hN
def fX9_step (v : Nat → Int32) (A : Nat → Nat → Int32) (a_ : Int32) (b_ : Int32) (c_ : Int32) : Int32 × (Nat → Int32) × (Nat → Nat → Int32) := if a_ = 2 then if (fX9_isIn a_ 0 9) = 0 then (0, (upd v 0 1), A) else if a_ = 9 then if (fX9_isIn b_ 0 3) = 0 then (0, (upd v 0 1), A) else if (fX9_isTo a_ c_) = 0 then (0, (upd v 0 1), A) else if v 1 = 12 then (0, (upd v 0 2), A) else (((v 1) + (1)) - (1), (upd (upd v 0 0) 1 ((v 1) + (1))), (u1 (u1 (u1 (u1 (u1 (u1 A 1 (upd (A 1) (Int32.toNatClampNeg (v 1)) (a_))) 2 (upd (A 2) (Int32.toNatClampNeg (v 1)) (b_))) 3 (upd (A 3) (Int32.toNatClampNeg (v 1)) (c_))) 4 (upd (A 4) (Int32.toNatClampNeg (v 1)) (0))) 5 (upd (A 5) (Int32.toNatClampNeg (v 1)) (0))) 10 (upd (A 10) (Int32.toNatClampNeg (v 1)) (0)))) else if (fX9_isIn b_ 0 6) = 0 then (0, (upd v 0 1), A) else if (fX9_isTo a_ c_) = 0 then (0, (upd v 0 1), A) else if v 1 = 12 then (0, (upd v 0 2), A) else (((v 1) + (1)) - (1), (upd (upd v 0 0) 1 ((v 1) + (1))), (u1 (u1 (u1 (u1 (u1 (u1 A 1 (upd (A 1) (Int32.toNatClampNeg (v 1)) (a_))) 2 (upd (A 2) (Int32.toNatClampNeg (v 1)) (b_))) 3 (upd (A 3) (Int32.toNatClampNeg (v 1)) (c_))) 4 (upd (A 4) (Int32.toNatClampNeg (v 1)) (0))) 5 (upd (A 5) (Int32.toNatClampNeg (v 1)) (0))) 10 (upd (A 10) (Int32.toNatClampNeg (v 1)) (0)))) else if a_ < 6 then if (fX9_isIn a_ 0 9) = 0 then (0, (upd v 0 1), A) else if (fX9_isTo a_ c_) = 0 then (0, (upd v 0 1), A) else if v 1 = 12 then (0, (upd v 0 2), A) else (((v 1) + (1)) - (1), (upd (upd v 0 0) 1 ((v 1) + (1))), (u1 (u1 (u1 (u1 (u1 (u1 A 1 (upd (A 1) (Int32.toNatClampNeg (v 1)) (a_))) 2 (upd (A 2) (Int32.toNatClampNeg (v 1)) (b_))) 3 (upd (A 3) (Int32.toNatClampNeg (v 1)) (c_))) 4 (upd (A 4) (Int32.toNatClampNeg (v 1)) (0))) 5 (upd (A 5) (Int32.toNatClampNeg (v 1)) (0))) 10 (upd (A 10) (Int32.toNatClampNeg (v 1)) (0)))) else if (fX9_isIn a_ 0 9) = 0 then (0, (upd v 0 1), A) else if a_ = 9 then if (fX9_isIn b_ 0 3) = 0 then (0, (upd v 0 1), A) else if (fX9_isTo a_ c_) = 0 then (0, (upd v 0 1), A) else if v 1 = 12 then (0, (upd v 0 2), A) else (((v 1) + (1)) - (1), (upd (upd v 0 0) 1 ((v 1) + (1))), (u1 (u1 (u1 (u1 (u1 (u1 A 1 (upd (A 1) (Int32.toNatClampNeg (v 1)) (a_))) 2 (upd (A 2) (Int32.toNatClampNeg (v 1)) (b_))) 3 (upd (A 3) (Int32.toNatClampNeg (v 1)) (c_))) 4 (upd (A 4) (Int32.toNatClampNeg (v 1)) (0))) 5 (upd (A 5) (Int32.toNatClampNeg (v 1)) (0))) 10 (upd (A 10) (Int32.toNatClampNeg (v 1)) (0)))) else if (fX9_isIn b_ 0 6) = 0 then (0, (upd v 0 1), A) else if (fX9_isTo a_ c_) = 0 then (0, (upd v 0 1), A) else if v 1 = 12 then (0, (upd v 0 2), A) else (((v 1) + (1)) - (1), (upd (upd v 0 0) 1 ((v 1) + (1))), (u1 (u1 (u1 (u1 (u1 (u1 A 1 (upd (A 1) (Int32.toNatClampNeg (v 1)) (a_))) 2 (upd (A 2) (Int32.toNatClampNeg (v 1)) (b_))) 3 (upd (A 3) (Int32.toNatClampNeg (v 1)) (c_))) 4 (upd (A 4) (Int32.toNatClampNeg (v 1)) (0))) 5 (upd (A 5) (Int32.toNatClampNeg (v 1)) (0))) 10 (upd (A 10) (Int32.toNatClampNeg (v 1)) (0))))
set_option maxHeartbeats 1000000 in
set_option maxRecDepth 10000 in
theorem ctX9_step {l : Launch} {D : va_G} {aC : Nat → ClassId} {b0 sz : Nat} {r : Nat} {v : Nat → Int32} {A : Nat → Nat → Int32} {R : ZM} {a_ : Int32} {b_ : Int32} {c_ : Int32} {n_ : Nat} (hs : v 1 = nI n_) (hn : n_ ≤ 12) : Ct l D aC b0 yX9_step cX9_step 6 (some .int) 2 0 0 [.ref (r), .int (a_), .int (b_), .int (c_)] (mm aC r v A R) sz (zd (some (.int (fX9_step v A a_ b_ c_).1)) (mm aC r (fX9_step v A a_ b_ c_).2.1 (fX9_step v A a_ b_ c_).2.2 R)) := by
  refine Ct.of (by decide) (Nat.le_of_ble_eq_true rfl) ?_
  intro p e s m below meth c ls C hr hlk hnm hl
  have hl : lv_has ls 6 [(0, .ref (r)), (1, .int (a_)), (2, .int (b_)), (3, .int (c_))] := hl
  obtain ⟨hx, hb, -, -, -⟩ := id C
  refine zz (fun _ _ => lv_iload_n hx hb dX9_step_0 rfl (lv_at hl 1 rfl)) ?_
  refine zz (fun _ _ => lv_iconst (v := 2) hx hb dX9_step_1 (by decide)) ?_
  refine zb (fun _ _ => lv_icmp_eq (tgt := 11) hx hb dX9_step_2 (by decide)) (fun c_1 => ?_) (fun c_1 => ?_)
  · refine zz (fun _ _ => lv_iconst (v := 1) hx hb dX9_step_11 (by decide)) ?_
    refine zz (fun _ _ => lv_goto (tgt := 16) hx hb dX9_step_12 (by decide)) ?_
    refine zs (fun _ _ => lv_istore (lv' := [(4, .int (1)), (0, .ref (r)), (1, .int (a_)), (2, .int (b_)), (3, .int (c_))]) hx hb dX9_step_16 hl (by decide) rfl) (fun ls hl => ?_)
    refine zz (fun _ _ => lv_iload_n hx hb dX9_step_18 rfl (lv_at hl 2 rfl)) ?_
    refine zz (fun _ _ => lv_iconst (v := 0) hx hb dX9_step_19 (by decide)) ?_
    refine zz (fun _ _ => lv_bipush (v := 9) hx hb dX9_step_20 (by decide)) ?_
    refine zdS (As := [.int (a_), .int (0), .int (9)]) (rest := []) (st' := [.int ((fX9_isIn a_ 0 9))]) C hl.1 lk_X9_135 (ctX9_isIn) rfl rfl (Nat.le_of_ble_eq_true rfl) ⟨by decide, by decide, by decide, by decide⟩ dX9_step_22 rfl (fun sz => ?_)
    refine zb (fun _ _ => lv_if_eq (tgt := 65) hx hb dX9_step_25 (by decide)) (fun c_2 => ?_) (fun c_2 => ?_)
    · refine zz (fun _ _ => lv_iconst (v := 0) hx hb dX9_step_65 (by decide)) ?_
      refine zs (fun _ _ => lv_istore (lv' := [(5, .int (0)), (4, .int (1)), (0, .ref (r)), (1, .int (a_)), (2, .int (b_)), (3, .int (c_))]) hx hb dX9_step_66 hl (by decide) rfl) (fun ls hl => ?_)
      refine zz (fun _ _ => lv_aload_n hx hb dX9_step_68 rfl (lv_at hl 2 rfl)) ?_
      refine zz (fun _ _ => lv_iload hx hb dX9_step_69 (lv_at hl 0 rfl)) ?_
      refine zbn (fun _ _ => lv_if_ne (tgt := 78) hx hb dX9_step_71 (by decide)) (fun c_3 => ?_) (fun c_3 => ?_)
      · exact absurd (by decide) c_3
      · refine zz (fun _ _ => lv_iconst (v := 1) hx hb dX9_step_74 (by decide)) ?_
        refine zz (fun _ _ => lv_goto (tgt := 92) hx hb dX9_step_75 (by decide)) ?_
        refine z_put C fp_X9_129 (fun h => by cases h) rm_0 (Nat.le_of_ble_eq_true rfl) rfl rfl dX9_step_92 ?_
        refine zeq wm_f0 ?_
        refine zz (fun _ _ => lv_aload_n hx hb dX9_step_95 rfl (lv_at hl 2 rfl)) ?_
        refine z_get (v := .int (1)) C fd_X9_129 rm_0 rfl dX9_step_96 ?_
        refine zb (fun _ _ => lv_if_le (tgt := 104) hx hb dX9_step_99 (by decide)) (fun c_4 => ?_) (fun c_4 => ?_)
        · exact absurd c_4 (by decide)
        · refine zz (fun _ _ => lv_iconst (v := 0) hx hb dX9_step_102 (by decide)) ?_
          exact z_iret C hr hlk dX9_step_103 (by simp only [zd, fX9_step, if_pos c_1, if_pos c_2, and_self])
    · refine zz (fun _ _ => lv_iload hx hb dX9_step_28 (lv_at hl 0 rfl)) ?_
      refine zb (fun _ _ => lv_if_eq (tgt := 53) hx hb dX9_step_30 (by decide)) (fun c_5 => ?_) (fun c_5 => ?_)
      · exact absurd c_5 (by decide)
      · refine zz (fun _ _ => lv_iload_n hx hb dX9_step_33 rfl (lv_at hl 3 rfl)) ?_
        refine zz (fun _ _ => lv_iconst (v := 0) hx hb dX9_step_34 (by decide)) ?_
        refine zz (fun _ _ => lv_iload_n hx hb dX9_step_35 rfl (lv_at hl 2 rfl)) ?_
        refine zz (fun _ _ => lv_bipush (v := 9) hx hb dX9_step_36 (by decide)) ?_
        refine zbn (fun _ _ => lv_icmp_ne (tgt := 45) hx hb dX9_step_38 (by decide)) (fun c_6 => ?_) (fun c_6 => ?_)
        · refine zz (fun _ _ => lv_bipush (v := 6) hx hb dX9_step_45 (by decide)) ?_
          refine zdS (As := [.int (b_), .int (0), .int (6)]) (rest := []) (st' := [.int ((fX9_isIn b_ 0 6))]) C hl.1 lk_X9_135 (ctX9_isIn) rfl rfl (Nat.le_of_ble_eq_true rfl) ⟨by decide, by decide, by decide, by decide⟩ dX9_step_47 rfl (fun sz => ?_)
          refine zb (fun _ _ => lv_if_eq (tgt := 65) hx hb dX9_step_50 (by decide)) (fun c_7 => ?_) (fun c_7 => ?_)
          · refine zz (fun _ _ => lv_iconst (v := 0) hx hb dX9_step_65 (by decide)) ?_
            refine zs (fun _ _ => lv_istore (lv' := [(5, .int (0)), (4, .int (1)), (0, .ref (r)), (1, .int (a_)), (2, .int (b_)), (3, .int (c_))]) hx hb dX9_step_66 hl (by decide) rfl) (fun ls hl => ?_)
            refine zz (fun _ _ => lv_aload_n hx hb dX9_step_68 rfl (lv_at hl 2 rfl)) ?_
            refine zz (fun _ _ => lv_iload hx hb dX9_step_69 (lv_at hl 0 rfl)) ?_
            refine zbn (fun _ _ => lv_if_ne (tgt := 78) hx hb dX9_step_71 (by decide)) (fun c_8 => ?_) (fun c_8 => ?_)
            · exact absurd (by decide) c_8
            · refine zz (fun _ _ => lv_iconst (v := 1) hx hb dX9_step_74 (by decide)) ?_
              refine zz (fun _ _ => lv_goto (tgt := 92) hx hb dX9_step_75 (by decide)) ?_
              refine z_put C fp_X9_129 (fun h => by cases h) rm_0 (Nat.le_of_ble_eq_true rfl) rfl rfl dX9_step_92 ?_
              refine zeq wm_f0 ?_
              refine zz (fun _ _ => lv_aload_n hx hb dX9_step_95 rfl (lv_at hl 2 rfl)) ?_
              refine z_get (v := .int (1)) C fd_X9_129 rm_0 rfl dX9_step_96 ?_
              refine zb (fun _ _ => lv_if_le (tgt := 104) hx hb dX9_step_99 (by decide)) (fun c_9 => ?_) (fun c_9 => ?_)
              · exact absurd c_9 (by decide)
              · refine zz (fun _ _ => lv_iconst (v := 0) hx hb dX9_step_102 (by decide)) ?_
                exact z_iret C hr hlk dX9_step_103 (by simp only [zd, fX9_step, if_pos c_1, if_neg c_2, if_neg c_6, if_pos c_7, and_self])
          · refine zz (fun _ _ => lv_iload_n hx hb dX9_step_53 rfl (lv_at hl 2 rfl)) ?_
            refine zz (fun _ _ => lv_iload_n hx hb dX9_step_54 rfl (lv_at hl 4 rfl)) ?_
            refine zdS (As := [.int (a_), .int (c_)]) (rest := []) (st' := [.int ((fX9_isTo a_ c_))]) C hl.1 lk_X9_139 (ctX9_isTo) rfl rfl (Nat.le_of_ble_eq_true rfl) ⟨by decide, by decide, by decide, by decide⟩ dX9_step_55 rfl (fun sz => ?_)
            refine zb (fun _ _ => lv_if_eq (tgt := 65) hx hb dX9_step_58 (by decide)) (fun c_10 => ?_) (fun c_10 => ?_)
            · refine zz (fun _ _ => lv_iconst (v := 0) hx hb dX9_step_65 (by decide)) ?_
              refine zs (fun _ _ => lv_istore (lv' := [(5, .int (0)), (4, .int (1)), (0, .ref (r)), (1, .int (a_)), (2, .int (b_)), (3, .int (c_))]) hx hb dX9_step_66 hl (by decide) rfl) (fun ls hl => ?_)
              refine zz (fun _ _ => lv_aload_n hx hb dX9_step_68 rfl (lv_at hl 2 rfl)) ?_
              refine zz (fun _ _ => lv_iload hx hb dX9_step_69 (lv_at hl 0 rfl)) ?_
              refine zbn (fun _ _ => lv_if_ne (tgt := 78) hx hb dX9_step_71 (by decide)) (fun c_11 => ?_) (fun c_11 => ?_)
              · exact absurd (by decide) c_11
              · refine zz (fun _ _ => lv_iconst (v := 1) hx hb dX9_step_74 (by decide)) ?_
                refine zz (fun _ _ => lv_goto (tgt := 92) hx hb dX9_step_75 (by decide)) ?_
                refine z_put C fp_X9_129 (fun h => by cases h) rm_0 (Nat.le_of_ble_eq_true rfl) rfl rfl dX9_step_92 ?_
                refine zeq wm_f0 ?_
                refine zz (fun _ _ => lv_aload_n hx hb dX9_step_95 rfl (lv_at hl 2 rfl)) ?_
                refine z_get (v := .int (1)) C fd_X9_129 rm_0 rfl dX9_step_96 ?_
                refine zb (fun _ _ => lv_if_le (tgt := 104) hx hb dX9_step_99 (by decide)) (fun c_12 => ?_) (fun c_12 => ?_)
                · exact absurd c_12 (by decide)
                · refine zz (fun _ _ => lv_iconst (v := 0) hx hb dX9_step_102 (by decide)) ?_
                  exact z_iret C hr hlk dX9_step_103 (by simp only [zd, fX9_step, if_pos c_1, if_neg c_2, if_neg c_6, if_neg c_7, if_pos c_10, and_self])
            · refine zz (fun _ _ => lv_iconst (v := 1) hx hb dX9_step_61 (by decide)) ?_
              refine zz (fun _ _ => lv_goto (tgt := 66) hx hb dX9_step_62 (by decide)) ?_
              refine zs (fun _ _ => lv_istore (lv' := [(5, .int (1)), (4, .int (1)), (0, .ref (r)), (1, .int (a_)), (2, .int (b_)), (3, .int (c_))]) hx hb dX9_step_66 hl (by decide) rfl) (fun ls hl => ?_)
              refine zz (fun _ _ => lv_aload_n hx hb dX9_step_68 rfl (lv_at hl 2 rfl)) ?_
              refine zz (fun _ _ => lv_iload hx hb dX9_step_69 (lv_at hl 0 rfl)) ?_
              refine zbn (fun _ _ => lv_if_ne (tgt := 78) hx hb dX9_step_71 (by decide)) (fun c_13 => ?_) (fun c_13 => ?_)
              · refine zz (fun _ _ => lv_aload_n hx hb dX9_step_78 rfl (lv_at hl 2 rfl)) ?_
                refine z_get (v := .int (v 1)) C fd_X9_132 rm_0 rfl dX9_step_79 ?_
                refine zz (fun _ _ => lv_bipush (v := 12) hx hb dX9_step_82 (by decide)) ?_
                refine zbn (fun _ _ => lv_icmp_ne (tgt := 91) hx hb dX9_step_84 (by decide)) (fun c_14 => ?_) (fun c_14 => ?_)
                · refine zz (fun _ _ => lv_iconst (v := 0) hx hb dX9_step_91 (by decide)) ?_
                  refine z_put C fp_X9_129 (fun h => by cases h) rm_0 (Nat.le_of_ble_eq_true rfl) rfl rfl dX9_step_92 ?_
                  refine zeq wm_f0 ?_
                  refine zz (fun _ _ => lv_aload_n hx hb dX9_step_95 rfl (lv_at hl 2 rfl)) ?_
                  refine z_get (v := .int (0)) C fd_X9_129 rm_0 rfl dX9_step_96 ?_
                  refine zb (fun _ _ => lv_if_le (tgt := 104) hx hb dX9_step_99 (by decide)) (fun c_15 => ?_) (fun c_15 => ?_)
                  · refine zz (fun _ _ => lv_aload_n hx hb dX9_step_104 rfl (lv_at hl 2 rfl)) ?_
                    refine z_get (v := .ref (r + 1)) C fd_X9_7 rm_0 rfl dX9_step_105 ?_
                    refine zz (fun _ _ => lv_aload_n hx hb dX9_step_108 rfl (lv_at hl 2 rfl)) ?_
                    refine z_get (v := .int (v 1)) C fd_X9_132 rm_0 rfl dX9_step_109 ?_
                    refine zz (fun _ _ => lv_iload_n hx hb dX9_step_112 rfl (lv_at hl 3 rfl)) ?_
                    refine z_iast (f := A 1) C rm_1 (in_nI hs (ne_lt (m := 12) hs hn c_14) (by decide)) dX9_step_113 ?_
                    refine zeq wm_1 ?_
                    refine zz (fun _ _ => lv_aload_n hx hb dX9_step_114 rfl (lv_at hl 2 rfl)) ?_
                    refine z_get (v := .ref (r + 2)) C fd_X9_13 rm_0 rfl dX9_step_115 ?_
                    refine zz (fun _ _ => lv_aload_n hx hb dX9_step_118 rfl (lv_at hl 2 rfl)) ?_
                    refine z_get (v := .int (v 1)) C fd_X9_132 rm_0 rfl dX9_step_119 ?_
                    refine zz (fun _ _ => lv_iload_n hx hb dX9_step_122 rfl (lv_at hl 4 rfl)) ?_
                    refine z_iast (f := A 2) C rm_2 (in_nI hs (ne_lt (m := 12) hs hn c_14) (by decide)) dX9_step_123 ?_
                    refine zeq wm_2 ?_
                    refine zz (fun _ _ => lv_aload_n hx hb dX9_step_124 rfl (lv_at hl 2 rfl)) ?_
                    refine z_get (v := .ref (r + 3)) C fd_X9_16 rm_0 rfl dX9_step_125 ?_
                    refine zz (fun _ _ => lv_aload_n hx hb dX9_step_128 rfl (lv_at hl 2 rfl)) ?_
                    refine z_get (v := .int (v 1)) C fd_X9_132 rm_0 rfl dX9_step_129 ?_
                    refine zz (fun _ _ => lv_iload_n hx hb dX9_step_132 rfl (lv_at hl 5 rfl)) ?_
                    refine z_iast (f := A 3) C rm_3 (in_nI hs (ne_lt (m := 12) hs hn c_14) (by decide)) dX9_step_133 ?_
                    refine zeq wm_3 ?_
                    refine zz (fun _ _ => lv_aload_n hx hb dX9_step_134 rfl (lv_at hl 2 rfl)) ?_
                    refine z_get (v := .ref (r + 4)) C fd_X9_19 rm_0 rfl dX9_step_135 ?_
                    refine zz (fun _ _ => lv_aload_n hx hb dX9_step_138 rfl (lv_at hl 2 rfl)) ?_
                    refine z_get (v := .int (v 1)) C fd_X9_132 rm_0 rfl dX9_step_139 ?_
                    refine zz (fun _ _ => lv_iconst (v := 0) hx hb dX9_step_142 (by decide)) ?_
                    refine z_zast (f := A 4) C rm_4 (in_nI hs (ne_lt (m := 12) hs hn c_14) (by decide)) rfl dX9_step_143 ?_
                    refine zeq wm_4 ?_
                    refine zz (fun _ _ => lv_aload_n hx hb dX9_step_144 rfl (lv_at hl 2 rfl)) ?_
                    refine z_get (v := .ref (r + 5)) C fd_X9_23 rm_0 rfl dX9_step_145 ?_
                    refine zz (fun _ _ => lv_aload_n hx hb dX9_step_148 rfl (lv_at hl 2 rfl)) ?_
                    refine z_get (v := .int (v 1)) C fd_X9_132 rm_0 rfl dX9_step_149 ?_
                    refine zz (fun _ _ => lv_iconst (v := 0) hx hb dX9_step_152 (by decide)) ?_
                    refine z_iast (f := A 5) C rm_5 (in_nI hs (ne_lt (m := 12) hs hn c_14) (by decide)) dX9_step_153 ?_
                    refine zeq wm_5 ?_
                    refine zz (fun _ _ => lv_aload_n hx hb dX9_step_154 rfl (lv_at hl 2 rfl)) ?_
                    refine z_get (v := .ref (r + 10)) C fd_X9_38 rm_0 rfl dX9_step_155 ?_
                    refine zz (fun _ _ => lv_aload_n hx hb dX9_step_158 rfl (lv_at hl 2 rfl)) ?_
                    refine z_get (v := .int (v 1)) C fd_X9_132 rm_0 rfl dX9_step_159 ?_
                    refine zz (fun _ _ => lv_iconst (v := 0) hx hb dX9_step_162 (by decide)) ?_
                    refine z_iast (f := A 10) C rm_10 (in_nI hs (ne_lt (m := 12) hs hn c_14) (by decide)) dX9_step_163 ?_
                    refine zeq wm_10 ?_
                    refine zz (fun _ _ => lv_aload_n hx hb dX9_step_164 rfl (lv_at hl 2 rfl)) ?_
                    refine zz (fun _ _ => lv_dup hx hb dX9_step_165 rfl) ?_
                    refine z_get (v := .int (v 1)) C fd_X9_132 rm_0 rfl dX9_step_166 ?_
                    refine zz (fun _ _ => lv_iconst (v := 1) hx hb dX9_step_169 (by decide)) ?_
                    refine zz (fun _ _ => lv_iadd hx hb dX9_step_170) ?_
                    refine z_put C fp_X9_132 (fun h => by cases h) rm_0 (Nat.le_of_ble_eq_true rfl) rfl rfl dX9_step_171 ?_
                    refine zeq wm_f1 ?_
                    refine zz (fun _ _ => lv_aload_n hx hb dX9_step_174 rfl (lv_at hl 2 rfl)) ?_
                    refine z_get (v := .int ((v 1) + (1))) C fd_X9_132 rm_0 rfl dX9_step_175 ?_
                    refine zz (fun _ _ => lv_iconst (v := 1) hx hb dX9_step_178 (by decide)) ?_
                    refine zz (fun _ _ => lv_isub hx hb dX9_step_179) ?_
                    exact z_iret C hr hlk dX9_step_180 (by simp only [zd, fX9_step, if_pos c_1, if_neg c_2, if_neg c_6, if_neg c_7, if_neg c_10, if_neg c_14, and_self])
                  · exact absurd (by decide) c_15
                · refine zz (fun _ _ => lv_iconst (v := 2) hx hb dX9_step_87 (by decide)) ?_
                  refine zz (fun _ _ => lv_goto (tgt := 92) hx hb dX9_step_88 (by decide)) ?_
                  refine z_put C fp_X9_129 (fun h => by cases h) rm_0 (Nat.le_of_ble_eq_true rfl) rfl rfl dX9_step_92 ?_
                  refine zeq wm_f0 ?_
                  refine zz (fun _ _ => lv_aload_n hx hb dX9_step_95 rfl (lv_at hl 2 rfl)) ?_
                  refine z_get (v := .int (2)) C fd_X9_129 rm_0 rfl dX9_step_96 ?_
                  refine zb (fun _ _ => lv_if_le (tgt := 104) hx hb dX9_step_99 (by decide)) (fun c_16 => ?_) (fun c_16 => ?_)
                  · exact absurd c_16 (by decide)
                  · refine zz (fun _ _ => lv_iconst (v := 0) hx hb dX9_step_102 (by decide)) ?_
                    exact z_iret C hr hlk dX9_step_103 (by simp only [zd, fX9_step, if_pos c_1, if_neg c_2, if_neg c_6, if_neg c_7, if_neg c_10, if_pos c_14, and_self])
              · exact absurd c_13 (by decide)
        · refine zz (fun _ _ => lv_iconst (v := 3) hx hb dX9_step_41 (by decide)) ?_
          refine zz (fun _ _ => lv_goto (tgt := 47) hx hb dX9_step_42 (by decide)) ?_
          refine zdS (As := [.int (b_), .int (0), .int (3)]) (rest := []) (st' := [.int ((fX9_isIn b_ 0 3))]) C hl.1 lk_X9_135 (ctX9_isIn) rfl rfl (Nat.le_of_ble_eq_true rfl) ⟨by decide, by decide, by decide, by decide⟩ dX9_step_47 rfl (fun sz => ?_)
          refine zb (fun _ _ => lv_if_eq (tgt := 65) hx hb dX9_step_50 (by decide)) (fun c_17 => ?_) (fun c_17 => ?_)
          · refine zz (fun _ _ => lv_iconst (v := 0) hx hb dX9_step_65 (by decide)) ?_
            refine zs (fun _ _ => lv_istore (lv' := [(5, .int (0)), (4, .int (1)), (0, .ref (r)), (1, .int (a_)), (2, .int (b_)), (3, .int (c_))]) hx hb dX9_step_66 hl (by decide) rfl) (fun ls hl => ?_)
            refine zz (fun _ _ => lv_aload_n hx hb dX9_step_68 rfl (lv_at hl 2 rfl)) ?_
            refine zz (fun _ _ => lv_iload hx hb dX9_step_69 (lv_at hl 0 rfl)) ?_
            refine zbn (fun _ _ => lv_if_ne (tgt := 78) hx hb dX9_step_71 (by decide)) (fun c_18 => ?_) (fun c_18 => ?_)
            · exact absurd (by decide) c_18
            · refine zz (fun _ _ => lv_iconst (v := 1) hx hb dX9_step_74 (by decide)) ?_
              refine zz (fun _ _ => lv_goto (tgt := 92) hx hb dX9_step_75 (by decide)) ?_
              refine z_put C fp_X9_129 (fun h => by cases h) rm_0 (Nat.le_of_ble_eq_true rfl) rfl rfl dX9_step_92 ?_
              refine zeq wm_f0 ?_
              refine zz (fun _ _ => lv_aload_n hx hb dX9_step_95 rfl (lv_at hl 2 rfl)) ?_
              refine z_get (v := .int (1)) C fd_X9_129 rm_0 rfl dX9_step_96 ?_
              refine zb (fun _ _ => lv_if_le (tgt := 104) hx hb dX9_step_99 (by decide)) (fun c_19 => ?_) (fun c_19 => ?_)
              · exact absurd c_19 (by decide)
              · refine zz (fun _ _ => lv_iconst (v := 0) hx hb dX9_step_102 (by decide)) ?_
                exact z_iret C hr hlk dX9_step_103 (by simp only [zd, fX9_step, if_pos c_1, if_neg c_2, if_pos c_6, if_pos c_17, and_self])
          · refine zz (fun _ _ => lv_iload_n hx hb dX9_step_53 rfl (lv_at hl 2 rfl)) ?_
            refine zz (fun _ _ => lv_iload_n hx hb dX9_step_54 rfl (lv_at hl 4 rfl)) ?_
            refine zdS (As := [.int (a_), .int (c_)]) (rest := []) (st' := [.int ((fX9_isTo a_ c_))]) C hl.1 lk_X9_139 (ctX9_isTo) rfl rfl (Nat.le_of_ble_eq_true rfl) ⟨by decide, by decide, by decide, by decide⟩ dX9_step_55 rfl (fun sz => ?_)
            refine zb (fun _ _ => lv_if_eq (tgt := 65) hx hb dX9_step_58 (by decide)) (fun c_20 => ?_) (fun c_20 => ?_)
            · refine zz (fun _ _ => lv_iconst (v := 0) hx hb dX9_step_65 (by decide)) ?_
              refine zs (fun _ _ => lv_istore (lv' := [(5, .int (0)), (4, .int (1)), (0, .ref (r)), (1, .int (a_)), (2, .int (b_)), (3, .int (c_))]) hx hb dX9_step_66 hl (by decide) rfl) (fun ls hl => ?_)
              refine zz (fun _ _ => lv_aload_n hx hb dX9_step_68 rfl (lv_at hl 2 rfl)) ?_
              refine zz (fun _ _ => lv_iload hx hb dX9_step_69 (lv_at hl 0 rfl)) ?_
              refine zbn (fun _ _ => lv_if_ne (tgt := 78) hx hb dX9_step_71 (by decide)) (fun c_21 => ?_) (fun c_21 => ?_)
              · exact absurd (by decide) c_21
              · refine zz (fun _ _ => lv_iconst (v := 1) hx hb dX9_step_74 (by decide)) ?_
                refine zz (fun _ _ => lv_goto (tgt := 92) hx hb dX9_step_75 (by decide)) ?_
                refine z_put C fp_X9_129 (fun h => by cases h) rm_0 (Nat.le_of_ble_eq_true rfl) rfl rfl dX9_step_92 ?_
                refine zeq wm_f0 ?_
                refine zz (fun _ _ => lv_aload_n hx hb dX9_step_95 rfl (lv_at hl 2 rfl)) ?_
                refine z_get (v := .int (1)) C fd_X9_129 rm_0 rfl dX9_step_96 ?_
                refine zb (fun _ _ => lv_if_le (tgt := 104) hx hb dX9_step_99 (by decide)) (fun c_22 => ?_) (fun c_22 => ?_)
                · exact absurd c_22 (by decide)
                · refine zz (fun _ _ => lv_iconst (v := 0) hx hb dX9_step_102 (by decide)) ?_
                  exact z_iret C hr hlk dX9_step_103 (by simp only [zd, fX9_step, if_pos c_1, if_neg c_2, if_pos c_6, if_neg c_17, if_pos c_20, and_self])
            · refine zz (fun _ _ => lv_iconst (v := 1) hx hb dX9_step_61 (by decide)) ?_
              refine zz (fun _ _ => lv_goto (tgt := 66) hx hb dX9_step_62 (by decide)) ?_
              refine zs (fun _ _ => lv_istore (lv' := [(5, .int (1)), (4, .int (1)), (0, .ref (r)), (1, .int (a_)), (2, .int (b_)), (3, .int (c_))]) hx hb dX9_step_66 hl (by decide) rfl) (fun ls hl => ?_)
              refine zz (fun _ _ => lv_aload_n hx hb dX9_step_68 rfl (lv_at hl 2 rfl)) ?_
              refine zz (fun _ _ => lv_iload hx hb dX9_step_69 (lv_at hl 0 rfl)) ?_
              refine zbn (fun _ _ => lv_if_ne (tgt := 78) hx hb dX9_step_71 (by decide)) (fun c_23 => ?_) (fun c_23 => ?_)
              · refine zz (fun _ _ => lv_aload_n hx hb dX9_step_78 rfl (lv_at hl 2 rfl)) ?_
                refine z_get (v := .int (v 1)) C fd_X9_132 rm_0 rfl dX9_step_79 ?_
                refine zz (fun _ _ => lv_bipush (v := 12) hx hb dX9_step_82 (by decide)) ?_
                refine zbn (fun _ _ => lv_icmp_ne (tgt := 91) hx hb dX9_step_84 (by decide)) (fun c_24 => ?_) (fun c_24 => ?_)
                · refine zz (fun _ _ => lv_iconst (v := 0) hx hb dX9_step_91 (by decide)) ?_
                  refine z_put C fp_X9_129 (fun h => by cases h) rm_0 (Nat.le_of_ble_eq_true rfl) rfl rfl dX9_step_92 ?_
                  refine zeq wm_f0 ?_
                  refine zz (fun _ _ => lv_aload_n hx hb dX9_step_95 rfl (lv_at hl 2 rfl)) ?_
                  refine z_get (v := .int (0)) C fd_X9_129 rm_0 rfl dX9_step_96 ?_
                  refine zb (fun _ _ => lv_if_le (tgt := 104) hx hb dX9_step_99 (by decide)) (fun c_25 => ?_) (fun c_25 => ?_)
                  · refine zz (fun _ _ => lv_aload_n hx hb dX9_step_104 rfl (lv_at hl 2 rfl)) ?_
                    refine z_get (v := .ref (r + 1)) C fd_X9_7 rm_0 rfl dX9_step_105 ?_
                    refine zz (fun _ _ => lv_aload_n hx hb dX9_step_108 rfl (lv_at hl 2 rfl)) ?_
                    refine z_get (v := .int (v 1)) C fd_X9_132 rm_0 rfl dX9_step_109 ?_
                    refine zz (fun _ _ => lv_iload_n hx hb dX9_step_112 rfl (lv_at hl 3 rfl)) ?_
                    refine z_iast (f := A 1) C rm_1 (in_nI hs (ne_lt (m := 12) hs hn c_24) (by decide)) dX9_step_113 ?_
                    refine zeq wm_1 ?_
                    refine zz (fun _ _ => lv_aload_n hx hb dX9_step_114 rfl (lv_at hl 2 rfl)) ?_
                    refine z_get (v := .ref (r + 2)) C fd_X9_13 rm_0 rfl dX9_step_115 ?_
                    refine zz (fun _ _ => lv_aload_n hx hb dX9_step_118 rfl (lv_at hl 2 rfl)) ?_
                    refine z_get (v := .int (v 1)) C fd_X9_132 rm_0 rfl dX9_step_119 ?_
                    refine zz (fun _ _ => lv_iload_n hx hb dX9_step_122 rfl (lv_at hl 4 rfl)) ?_
                    refine z_iast (f := A 2) C rm_2 (in_nI hs (ne_lt (m := 12) hs hn c_24) (by decide)) dX9_step_123 ?_
                    refine zeq wm_2 ?_
                    refine zz (fun _ _ => lv_aload_n hx hb dX9_step_124 rfl (lv_at hl 2 rfl)) ?_
                    refine z_get (v := .ref (r + 3)) C fd_X9_16 rm_0 rfl dX9_step_125 ?_
                    refine zz (fun _ _ => lv_aload_n hx hb dX9_step_128 rfl (lv_at hl 2 rfl)) ?_
                    refine z_get (v := .int (v 1)) C fd_X9_132 rm_0 rfl dX9_step_129 ?_
                    refine zz (fun _ _ => lv_iload_n hx hb dX9_step_132 rfl (lv_at hl 5 rfl)) ?_
                    refine z_iast (f := A 3) C rm_3 (in_nI hs (ne_lt (m := 12) hs hn c_24) (by decide)) dX9_step_133 ?_
                    refine zeq wm_3 ?_
                    refine zz (fun _ _ => lv_aload_n hx hb dX9_step_134 rfl (lv_at hl 2 rfl)) ?_
                    refine z_get (v := .ref (r + 4)) C fd_X9_19 rm_0 rfl dX9_step_135 ?_
                    refine zz (fun _ _ => lv_aload_n hx hb dX9_step_138 rfl (lv_at hl 2 rfl)) ?_
                    refine z_get (v := .int (v 1)) C fd_X9_132 rm_0 rfl dX9_step_139 ?_
                    refine zz (fun _ _ => lv_iconst (v := 0) hx hb dX9_step_142 (by decide)) ?_
                    refine z_zast (f := A 4) C rm_4 (in_nI hs (ne_lt (m := 12) hs hn c_24) (by decide)) rfl dX9_step_143 ?_
                    refine zeq wm_4 ?_
                    refine zz (fun _ _ => lv_aload_n hx hb dX9_step_144 rfl (lv_at hl 2 rfl)) ?_
                    refine z_get (v := .ref (r + 5)) C fd_X9_23 rm_0 rfl dX9_step_145 ?_
                    refine zz (fun _ _ => lv_aload_n hx hb dX9_step_148 rfl (lv_at hl 2 rfl)) ?_
                    refine z_get (v := .int (v 1)) C fd_X9_132 rm_0 rfl dX9_step_149 ?_
                    refine zz (fun _ _ => lv_iconst (v := 0) hx hb dX9_step_152 (by decide)) ?_
                    refine z_iast (f := A 5) C rm_5 (in_nI hs (ne_lt (m := 12) hs hn c_24) (by decide)) dX9_step_153 ?_
                    refine zeq wm_5 ?_
                    refine zz (fun _ _ => lv_aload_n hx hb dX9_step_154 rfl (lv_at hl 2 rfl)) ?_
                    refine z_get (v := .ref (r + 10)) C fd_X9_38 rm_0 rfl dX9_step_155 ?_
                    refine zz (fun _ _ => lv_aload_n hx hb dX9_step_158 rfl (lv_at hl 2 rfl)) ?_
                    refine z_get (v := .int (v 1)) C fd_X9_132 rm_0 rfl dX9_step_159 ?_
                    refine zz (fun _ _ => lv_iconst (v := 0) hx hb dX9_step_162 (by decide)) ?_
                    refine z_iast (f := A 10) C rm_10 (in_nI hs (ne_lt (m := 12) hs hn c_24) (by decide)) dX9_step_163 ?_
                    refine zeq wm_10 ?_
                    refine zz (fun _ _ => lv_aload_n hx hb dX9_step_164 rfl (lv_at hl 2 rfl)) ?_
                    refine zz (fun _ _ => lv_dup hx hb dX9_step_165 rfl) ?_
                    refine z_get (v := .int (v 1)) C fd_X9_132 rm_0 rfl dX9_step_166 ?_
                    refine zz (fun _ _ => lv_iconst (v := 1) hx hb dX9_step_169 (by decide)) ?_
                    refine zz (fun _ _ => lv_iadd hx hb dX9_step_170) ?_
                    refine z_put C fp_X9_132 (fun h => by cases h) rm_0 (Nat.le_of_ble_eq_true rfl) rfl rfl dX9_step_171 ?_
                    refine zeq wm_f1 ?_
                    refine zz (fun _ _ => lv_aload_n hx hb dX9_step_174 rfl (lv_at hl 2 rfl)) ?_
                    refine z_get (v := .int ((v 1) + (1))) C fd_X9_132 rm_0 rfl dX9_step_175 ?_
                    refine zz (fun _ _ => lv_iconst (v := 1) hx hb dX9_step_178 (by decide)) ?_
                    refine zz (fun _ _ => lv_isub hx hb dX9_step_179) ?_
                    exact z_iret C hr hlk dX9_step_180 (by simp only [zd, fX9_step, if_pos c_1, if_neg c_2, if_pos c_6, if_neg c_17, if_neg c_20, if_neg c_24, and_self])
                  · exact absurd (by decide) c_25
                · refine zz (fun _ _ => lv_iconst (v := 2) hx hb dX9_step_87 (by decide)) ?_
                  refine zz (fun _ _ => lv_goto (tgt := 92) hx hb dX9_step_88 (by decide)) ?_
                  refine z_put C fp_X9_129 (fun h => by cases h) rm_0 (Nat.le_of_ble_eq_true rfl) rfl rfl dX9_step_92 ?_
                  refine zeq wm_f0 ?_
                  refine zz (fun _ _ => lv_aload_n hx hb dX9_step_95 rfl (lv_at hl 2 rfl)) ?_
                  refine z_get (v := .int (2)) C fd_X9_129 rm_0 rfl dX9_step_96 ?_
                  refine zb (fun _ _ => lv_if_le (tgt := 104) hx hb dX9_step_99 (by decide)) (fun c_26 => ?_) (fun c_26 => ?_)
                  · exact absurd c_26 (by decide)
                  · refine zz (fun _ _ => lv_iconst (v := 0) hx hb dX9_step_102 (by decide)) ?_
                    exact z_iret C hr hlk dX9_step_103 (by simp only [zd, fX9_step, if_pos c_1, if_neg c_2, if_pos c_6, if_neg c_17, if_neg c_20, if_pos c_24, and_self])
              · exact absurd c_23 (by decide)
  · refine zz (fun _ _ => lv_iload_n hx hb dX9_step_5 rfl (lv_at hl 1 rfl)) ?_
    refine zz (fun _ _ => lv_bipush (v := 6) hx hb dX9_step_6 (by decide)) ?_
    refine zb (fun _ _ => lv_icmp_lt (tgt := 15) hx hb dX9_step_8 (by decide)) (fun c_27 => ?_) (fun c_27 => ?_)
    · refine zz (fun _ _ => lv_iconst (v := 0) hx hb dX9_step_15 (by decide)) ?_
      refine zs (fun _ _ => lv_istore (lv' := [(4, .int (0)), (0, .ref (r)), (1, .int (a_)), (2, .int (b_)), (3, .int (c_))]) hx hb dX9_step_16 hl (by decide) rfl) (fun ls hl => ?_)
      refine zz (fun _ _ => lv_iload_n hx hb dX9_step_18 rfl (lv_at hl 2 rfl)) ?_
      refine zz (fun _ _ => lv_iconst (v := 0) hx hb dX9_step_19 (by decide)) ?_
      refine zz (fun _ _ => lv_bipush (v := 9) hx hb dX9_step_20 (by decide)) ?_
      refine zdS (As := [.int (a_), .int (0), .int (9)]) (rest := []) (st' := [.int ((fX9_isIn a_ 0 9))]) C hl.1 lk_X9_135 (ctX9_isIn) rfl rfl (Nat.le_of_ble_eq_true rfl) ⟨by decide, by decide, by decide, by decide⟩ dX9_step_22 rfl (fun sz => ?_)
      refine zb (fun _ _ => lv_if_eq (tgt := 65) hx hb dX9_step_25 (by decide)) (fun c_28 => ?_) (fun c_28 => ?_)
      · refine zz (fun _ _ => lv_iconst (v := 0) hx hb dX9_step_65 (by decide)) ?_
        refine zs (fun _ _ => lv_istore (lv' := [(5, .int (0)), (4, .int (0)), (0, .ref (r)), (1, .int (a_)), (2, .int (b_)), (3, .int (c_))]) hx hb dX9_step_66 hl (by decide) rfl) (fun ls hl => ?_)
        refine zz (fun _ _ => lv_aload_n hx hb dX9_step_68 rfl (lv_at hl 2 rfl)) ?_
        refine zz (fun _ _ => lv_iload hx hb dX9_step_69 (lv_at hl 0 rfl)) ?_
        refine zbn (fun _ _ => lv_if_ne (tgt := 78) hx hb dX9_step_71 (by decide)) (fun c_29 => ?_) (fun c_29 => ?_)
        · exact absurd (by decide) c_29
        · refine zz (fun _ _ => lv_iconst (v := 1) hx hb dX9_step_74 (by decide)) ?_
          refine zz (fun _ _ => lv_goto (tgt := 92) hx hb dX9_step_75 (by decide)) ?_
          refine z_put C fp_X9_129 (fun h => by cases h) rm_0 (Nat.le_of_ble_eq_true rfl) rfl rfl dX9_step_92 ?_
          refine zeq wm_f0 ?_
          refine zz (fun _ _ => lv_aload_n hx hb dX9_step_95 rfl (lv_at hl 2 rfl)) ?_
          refine z_get (v := .int (1)) C fd_X9_129 rm_0 rfl dX9_step_96 ?_
          refine zb (fun _ _ => lv_if_le (tgt := 104) hx hb dX9_step_99 (by decide)) (fun c_30 => ?_) (fun c_30 => ?_)
          · exact absurd c_30 (by decide)
          · refine zz (fun _ _ => lv_iconst (v := 0) hx hb dX9_step_102 (by decide)) ?_
            exact z_iret C hr hlk dX9_step_103 (by simp only [zd, fX9_step, if_neg c_1, if_pos c_27, if_pos c_28, and_self])
      · refine zz (fun _ _ => lv_iload hx hb dX9_step_28 (lv_at hl 0 rfl)) ?_
        refine zb (fun _ _ => lv_if_eq (tgt := 53) hx hb dX9_step_30 (by decide)) (fun c_31 => ?_) (fun c_31 => ?_)
        · refine zz (fun _ _ => lv_iload_n hx hb dX9_step_53 rfl (lv_at hl 2 rfl)) ?_
          refine zz (fun _ _ => lv_iload_n hx hb dX9_step_54 rfl (lv_at hl 4 rfl)) ?_
          refine zdS (As := [.int (a_), .int (c_)]) (rest := []) (st' := [.int ((fX9_isTo a_ c_))]) C hl.1 lk_X9_139 (ctX9_isTo) rfl rfl (Nat.le_of_ble_eq_true rfl) ⟨by decide, by decide, by decide, by decide⟩ dX9_step_55 rfl (fun sz => ?_)
          refine zb (fun _ _ => lv_if_eq (tgt := 65) hx hb dX9_step_58 (by decide)) (fun c_32 => ?_) (fun c_32 => ?_)
          · refine zz (fun _ _ => lv_iconst (v := 0) hx hb dX9_step_65 (by decide)) ?_
            refine zs (fun _ _ => lv_istore (lv' := [(5, .int (0)), (4, .int (0)), (0, .ref (r)), (1, .int (a_)), (2, .int (b_)), (3, .int (c_))]) hx hb dX9_step_66 hl (by decide) rfl) (fun ls hl => ?_)
            refine zz (fun _ _ => lv_aload_n hx hb dX9_step_68 rfl (lv_at hl 2 rfl)) ?_
            refine zz (fun _ _ => lv_iload hx hb dX9_step_69 (lv_at hl 0 rfl)) ?_
            refine zbn (fun _ _ => lv_if_ne (tgt := 78) hx hb dX9_step_71 (by decide)) (fun c_33 => ?_) (fun c_33 => ?_)
            · exact absurd (by decide) c_33
            · refine zz (fun _ _ => lv_iconst (v := 1) hx hb dX9_step_74 (by decide)) ?_
              refine zz (fun _ _ => lv_goto (tgt := 92) hx hb dX9_step_75 (by decide)) ?_
              refine z_put C fp_X9_129 (fun h => by cases h) rm_0 (Nat.le_of_ble_eq_true rfl) rfl rfl dX9_step_92 ?_
              refine zeq wm_f0 ?_
              refine zz (fun _ _ => lv_aload_n hx hb dX9_step_95 rfl (lv_at hl 2 rfl)) ?_
              refine z_get (v := .int (1)) C fd_X9_129 rm_0 rfl dX9_step_96 ?_
              refine zb (fun _ _ => lv_if_le (tgt := 104) hx hb dX9_step_99 (by decide)) (fun c_34 => ?_) (fun c_34 => ?_)
              · exact absurd c_34 (by decide)
              · refine zz (fun _ _ => lv_iconst (v := 0) hx hb dX9_step_102 (by decide)) ?_
                exact z_iret C hr hlk dX9_step_103 (by simp only [zd, fX9_step, if_neg c_1, if_pos c_27, if_neg c_28, if_pos c_32, and_self])
          · refine zz (fun _ _ => lv_iconst (v := 1) hx hb dX9_step_61 (by decide)) ?_
            refine zz (fun _ _ => lv_goto (tgt := 66) hx hb dX9_step_62 (by decide)) ?_
            refine zs (fun _ _ => lv_istore (lv' := [(5, .int (1)), (4, .int (0)), (0, .ref (r)), (1, .int (a_)), (2, .int (b_)), (3, .int (c_))]) hx hb dX9_step_66 hl (by decide) rfl) (fun ls hl => ?_)
            refine zz (fun _ _ => lv_aload_n hx hb dX9_step_68 rfl (lv_at hl 2 rfl)) ?_
            refine zz (fun _ _ => lv_iload hx hb dX9_step_69 (lv_at hl 0 rfl)) ?_
            refine zbn (fun _ _ => lv_if_ne (tgt := 78) hx hb dX9_step_71 (by decide)) (fun c_35 => ?_) (fun c_35 => ?_)
            · refine zz (fun _ _ => lv_aload_n hx hb dX9_step_78 rfl (lv_at hl 2 rfl)) ?_
              refine z_get (v := .int (v 1)) C fd_X9_132 rm_0 rfl dX9_step_79 ?_
              refine zz (fun _ _ => lv_bipush (v := 12) hx hb dX9_step_82 (by decide)) ?_
              refine zbn (fun _ _ => lv_icmp_ne (tgt := 91) hx hb dX9_step_84 (by decide)) (fun c_36 => ?_) (fun c_36 => ?_)
              · refine zz (fun _ _ => lv_iconst (v := 0) hx hb dX9_step_91 (by decide)) ?_
                refine z_put C fp_X9_129 (fun h => by cases h) rm_0 (Nat.le_of_ble_eq_true rfl) rfl rfl dX9_step_92 ?_
                refine zeq wm_f0 ?_
                refine zz (fun _ _ => lv_aload_n hx hb dX9_step_95 rfl (lv_at hl 2 rfl)) ?_
                refine z_get (v := .int (0)) C fd_X9_129 rm_0 rfl dX9_step_96 ?_
                refine zb (fun _ _ => lv_if_le (tgt := 104) hx hb dX9_step_99 (by decide)) (fun c_37 => ?_) (fun c_37 => ?_)
                · refine zz (fun _ _ => lv_aload_n hx hb dX9_step_104 rfl (lv_at hl 2 rfl)) ?_
                  refine z_get (v := .ref (r + 1)) C fd_X9_7 rm_0 rfl dX9_step_105 ?_
                  refine zz (fun _ _ => lv_aload_n hx hb dX9_step_108 rfl (lv_at hl 2 rfl)) ?_
                  refine z_get (v := .int (v 1)) C fd_X9_132 rm_0 rfl dX9_step_109 ?_
                  refine zz (fun _ _ => lv_iload_n hx hb dX9_step_112 rfl (lv_at hl 3 rfl)) ?_
                  refine z_iast (f := A 1) C rm_1 (in_nI hs (ne_lt (m := 12) hs hn c_36) (by decide)) dX9_step_113 ?_
                  refine zeq wm_1 ?_
                  refine zz (fun _ _ => lv_aload_n hx hb dX9_step_114 rfl (lv_at hl 2 rfl)) ?_
                  refine z_get (v := .ref (r + 2)) C fd_X9_13 rm_0 rfl dX9_step_115 ?_
                  refine zz (fun _ _ => lv_aload_n hx hb dX9_step_118 rfl (lv_at hl 2 rfl)) ?_
                  refine z_get (v := .int (v 1)) C fd_X9_132 rm_0 rfl dX9_step_119 ?_
                  refine zz (fun _ _ => lv_iload_n hx hb dX9_step_122 rfl (lv_at hl 4 rfl)) ?_
                  refine z_iast (f := A 2) C rm_2 (in_nI hs (ne_lt (m := 12) hs hn c_36) (by decide)) dX9_step_123 ?_
                  refine zeq wm_2 ?_
                  refine zz (fun _ _ => lv_aload_n hx hb dX9_step_124 rfl (lv_at hl 2 rfl)) ?_
                  refine z_get (v := .ref (r + 3)) C fd_X9_16 rm_0 rfl dX9_step_125 ?_
                  refine zz (fun _ _ => lv_aload_n hx hb dX9_step_128 rfl (lv_at hl 2 rfl)) ?_
                  refine z_get (v := .int (v 1)) C fd_X9_132 rm_0 rfl dX9_step_129 ?_
                  refine zz (fun _ _ => lv_iload_n hx hb dX9_step_132 rfl (lv_at hl 5 rfl)) ?_
                  refine z_iast (f := A 3) C rm_3 (in_nI hs (ne_lt (m := 12) hs hn c_36) (by decide)) dX9_step_133 ?_
                  refine zeq wm_3 ?_
                  refine zz (fun _ _ => lv_aload_n hx hb dX9_step_134 rfl (lv_at hl 2 rfl)) ?_
                  refine z_get (v := .ref (r + 4)) C fd_X9_19 rm_0 rfl dX9_step_135 ?_
                  refine zz (fun _ _ => lv_aload_n hx hb dX9_step_138 rfl (lv_at hl 2 rfl)) ?_
                  refine z_get (v := .int (v 1)) C fd_X9_132 rm_0 rfl dX9_step_139 ?_
                  refine zz (fun _ _ => lv_iconst (v := 0) hx hb dX9_step_142 (by decide)) ?_
                  refine z_zast (f := A 4) C rm_4 (in_nI hs (ne_lt (m := 12) hs hn c_36) (by decide)) rfl dX9_step_143 ?_
                  refine zeq wm_4 ?_
                  refine zz (fun _ _ => lv_aload_n hx hb dX9_step_144 rfl (lv_at hl 2 rfl)) ?_
                  refine z_get (v := .ref (r + 5)) C fd_X9_23 rm_0 rfl dX9_step_145 ?_
                  refine zz (fun _ _ => lv_aload_n hx hb dX9_step_148 rfl (lv_at hl 2 rfl)) ?_
                  refine z_get (v := .int (v 1)) C fd_X9_132 rm_0 rfl dX9_step_149 ?_
                  refine zz (fun _ _ => lv_iconst (v := 0) hx hb dX9_step_152 (by decide)) ?_
                  refine z_iast (f := A 5) C rm_5 (in_nI hs (ne_lt (m := 12) hs hn c_36) (by decide)) dX9_step_153 ?_
                  refine zeq wm_5 ?_
                  refine zz (fun _ _ => lv_aload_n hx hb dX9_step_154 rfl (lv_at hl 2 rfl)) ?_
                  refine z_get (v := .ref (r + 10)) C fd_X9_38 rm_0 rfl dX9_step_155 ?_
                  refine zz (fun _ _ => lv_aload_n hx hb dX9_step_158 rfl (lv_at hl 2 rfl)) ?_
                  refine z_get (v := .int (v 1)) C fd_X9_132 rm_0 rfl dX9_step_159 ?_
                  refine zz (fun _ _ => lv_iconst (v := 0) hx hb dX9_step_162 (by decide)) ?_
                  refine z_iast (f := A 10) C rm_10 (in_nI hs (ne_lt (m := 12) hs hn c_36) (by decide)) dX9_step_163 ?_
                  refine zeq wm_10 ?_
                  refine zz (fun _ _ => lv_aload_n hx hb dX9_step_164 rfl (lv_at hl 2 rfl)) ?_
                  refine zz (fun _ _ => lv_dup hx hb dX9_step_165 rfl) ?_
                  refine z_get (v := .int (v 1)) C fd_X9_132 rm_0 rfl dX9_step_166 ?_
                  refine zz (fun _ _ => lv_iconst (v := 1) hx hb dX9_step_169 (by decide)) ?_
                  refine zz (fun _ _ => lv_iadd hx hb dX9_step_170) ?_
                  refine z_put C fp_X9_132 (fun h => by cases h) rm_0 (Nat.le_of_ble_eq_true rfl) rfl rfl dX9_step_171 ?_
                  refine zeq wm_f1 ?_
                  refine zz (fun _ _ => lv_aload_n hx hb dX9_step_174 rfl (lv_at hl 2 rfl)) ?_
                  refine z_get (v := .int ((v 1) + (1))) C fd_X9_132 rm_0 rfl dX9_step_175 ?_
                  refine zz (fun _ _ => lv_iconst (v := 1) hx hb dX9_step_178 (by decide)) ?_
                  refine zz (fun _ _ => lv_isub hx hb dX9_step_179) ?_
                  exact z_iret C hr hlk dX9_step_180 (by simp only [zd, fX9_step, if_neg c_1, if_pos c_27, if_neg c_28, if_neg c_32, if_neg c_36, and_self])
                · exact absurd (by decide) c_37
              · refine zz (fun _ _ => lv_iconst (v := 2) hx hb dX9_step_87 (by decide)) ?_
                refine zz (fun _ _ => lv_goto (tgt := 92) hx hb dX9_step_88 (by decide)) ?_
                refine z_put C fp_X9_129 (fun h => by cases h) rm_0 (Nat.le_of_ble_eq_true rfl) rfl rfl dX9_step_92 ?_
                refine zeq wm_f0 ?_
                refine zz (fun _ _ => lv_aload_n hx hb dX9_step_95 rfl (lv_at hl 2 rfl)) ?_
                refine z_get (v := .int (2)) C fd_X9_129 rm_0 rfl dX9_step_96 ?_
                refine zb (fun _ _ => lv_if_le (tgt := 104) hx hb dX9_step_99 (by decide)) (fun c_38 => ?_) (fun c_38 => ?_)
                · exact absurd c_38 (by decide)
                · refine zz (fun _ _ => lv_iconst (v := 0) hx hb dX9_step_102 (by decide)) ?_
                  exact z_iret C hr hlk dX9_step_103 (by simp only [zd, fX9_step, if_neg c_1, if_pos c_27, if_neg c_28, if_neg c_32, if_pos c_36, and_self])
            · exact absurd c_35 (by decide)
        · exact absurd (by decide) c_31
    · refine zz (fun _ _ => lv_iconst (v := 1) hx hb dX9_step_11 (by decide)) ?_
      refine zz (fun _ _ => lv_goto (tgt := 16) hx hb dX9_step_12 (by decide)) ?_
      refine zs (fun _ _ => lv_istore (lv' := [(4, .int (1)), (0, .ref (r)), (1, .int (a_)), (2, .int (b_)), (3, .int (c_))]) hx hb dX9_step_16 hl (by decide) rfl) (fun ls hl => ?_)
      refine zz (fun _ _ => lv_iload_n hx hb dX9_step_18 rfl (lv_at hl 2 rfl)) ?_
      refine zz (fun _ _ => lv_iconst (v := 0) hx hb dX9_step_19 (by decide)) ?_
      refine zz (fun _ _ => lv_bipush (v := 9) hx hb dX9_step_20 (by decide)) ?_
      refine zdS (As := [.int (a_), .int (0), .int (9)]) (rest := []) (st' := [.int ((fX9_isIn a_ 0 9))]) C hl.1 lk_X9_135 (ctX9_isIn) rfl rfl (Nat.le_of_ble_eq_true rfl) ⟨by decide, by decide, by decide, by decide⟩ dX9_step_22 rfl (fun sz => ?_)
      refine zb (fun _ _ => lv_if_eq (tgt := 65) hx hb dX9_step_25 (by decide)) (fun c_39 => ?_) (fun c_39 => ?_)
      · refine zz (fun _ _ => lv_iconst (v := 0) hx hb dX9_step_65 (by decide)) ?_
        refine zs (fun _ _ => lv_istore (lv' := [(5, .int (0)), (4, .int (1)), (0, .ref (r)), (1, .int (a_)), (2, .int (b_)), (3, .int (c_))]) hx hb dX9_step_66 hl (by decide) rfl) (fun ls hl => ?_)
        refine zz (fun _ _ => lv_aload_n hx hb dX9_step_68 rfl (lv_at hl 2 rfl)) ?_
        refine zz (fun _ _ => lv_iload hx hb dX9_step_69 (lv_at hl 0 rfl)) ?_
        refine zbn (fun _ _ => lv_if_ne (tgt := 78) hx hb dX9_step_71 (by decide)) (fun c_40 => ?_) (fun c_40 => ?_)
        · exact absurd (by decide) c_40
        · refine zz (fun _ _ => lv_iconst (v := 1) hx hb dX9_step_74 (by decide)) ?_
          refine zz (fun _ _ => lv_goto (tgt := 92) hx hb dX9_step_75 (by decide)) ?_
          refine z_put C fp_X9_129 (fun h => by cases h) rm_0 (Nat.le_of_ble_eq_true rfl) rfl rfl dX9_step_92 ?_
          refine zeq wm_f0 ?_
          refine zz (fun _ _ => lv_aload_n hx hb dX9_step_95 rfl (lv_at hl 2 rfl)) ?_
          refine z_get (v := .int (1)) C fd_X9_129 rm_0 rfl dX9_step_96 ?_
          refine zb (fun _ _ => lv_if_le (tgt := 104) hx hb dX9_step_99 (by decide)) (fun c_41 => ?_) (fun c_41 => ?_)
          · exact absurd c_41 (by decide)
          · refine zz (fun _ _ => lv_iconst (v := 0) hx hb dX9_step_102 (by decide)) ?_
            exact z_iret C hr hlk dX9_step_103 (by simp only [zd, fX9_step, if_neg c_1, if_neg c_27, if_pos c_39, and_self])
      · refine zz (fun _ _ => lv_iload hx hb dX9_step_28 (lv_at hl 0 rfl)) ?_
        refine zb (fun _ _ => lv_if_eq (tgt := 53) hx hb dX9_step_30 (by decide)) (fun c_42 => ?_) (fun c_42 => ?_)
        · exact absurd c_42 (by decide)
        · refine zz (fun _ _ => lv_iload_n hx hb dX9_step_33 rfl (lv_at hl 3 rfl)) ?_
          refine zz (fun _ _ => lv_iconst (v := 0) hx hb dX9_step_34 (by decide)) ?_
          refine zz (fun _ _ => lv_iload_n hx hb dX9_step_35 rfl (lv_at hl 2 rfl)) ?_
          refine zz (fun _ _ => lv_bipush (v := 9) hx hb dX9_step_36 (by decide)) ?_
          refine zbn (fun _ _ => lv_icmp_ne (tgt := 45) hx hb dX9_step_38 (by decide)) (fun c_43 => ?_) (fun c_43 => ?_)
          · refine zz (fun _ _ => lv_bipush (v := 6) hx hb dX9_step_45 (by decide)) ?_
            refine zdS (As := [.int (b_), .int (0), .int (6)]) (rest := []) (st' := [.int ((fX9_isIn b_ 0 6))]) C hl.1 lk_X9_135 (ctX9_isIn) rfl rfl (Nat.le_of_ble_eq_true rfl) ⟨by decide, by decide, by decide, by decide⟩ dX9_step_47 rfl (fun sz => ?_)
            refine zb (fun _ _ => lv_if_eq (tgt := 65) hx hb dX9_step_50 (by decide)) (fun c_44 => ?_) (fun c_44 => ?_)
            · refine zz (fun _ _ => lv_iconst (v := 0) hx hb dX9_step_65 (by decide)) ?_
              refine zs (fun _ _ => lv_istore (lv' := [(5, .int (0)), (4, .int (1)), (0, .ref (r)), (1, .int (a_)), (2, .int (b_)), (3, .int (c_))]) hx hb dX9_step_66 hl (by decide) rfl) (fun ls hl => ?_)
              refine zz (fun _ _ => lv_aload_n hx hb dX9_step_68 rfl (lv_at hl 2 rfl)) ?_
              refine zz (fun _ _ => lv_iload hx hb dX9_step_69 (lv_at hl 0 rfl)) ?_
              refine zbn (fun _ _ => lv_if_ne (tgt := 78) hx hb dX9_step_71 (by decide)) (fun c_45 => ?_) (fun c_45 => ?_)
              · exact absurd (by decide) c_45
              · refine zz (fun _ _ => lv_iconst (v := 1) hx hb dX9_step_74 (by decide)) ?_
                refine zz (fun _ _ => lv_goto (tgt := 92) hx hb dX9_step_75 (by decide)) ?_
                refine z_put C fp_X9_129 (fun h => by cases h) rm_0 (Nat.le_of_ble_eq_true rfl) rfl rfl dX9_step_92 ?_
                refine zeq wm_f0 ?_
                refine zz (fun _ _ => lv_aload_n hx hb dX9_step_95 rfl (lv_at hl 2 rfl)) ?_
                refine z_get (v := .int (1)) C fd_X9_129 rm_0 rfl dX9_step_96 ?_
                refine zb (fun _ _ => lv_if_le (tgt := 104) hx hb dX9_step_99 (by decide)) (fun c_46 => ?_) (fun c_46 => ?_)
                · exact absurd c_46 (by decide)
                · refine zz (fun _ _ => lv_iconst (v := 0) hx hb dX9_step_102 (by decide)) ?_
                  exact z_iret C hr hlk dX9_step_103 (by simp only [zd, fX9_step, if_neg c_1, if_neg c_27, if_neg c_39, if_neg c_43, if_pos c_44, and_self])
            · refine zz (fun _ _ => lv_iload_n hx hb dX9_step_53 rfl (lv_at hl 2 rfl)) ?_
              refine zz (fun _ _ => lv_iload_n hx hb dX9_step_54 rfl (lv_at hl 4 rfl)) ?_
              refine zdS (As := [.int (a_), .int (c_)]) (rest := []) (st' := [.int ((fX9_isTo a_ c_))]) C hl.1 lk_X9_139 (ctX9_isTo) rfl rfl (Nat.le_of_ble_eq_true rfl) ⟨by decide, by decide, by decide, by decide⟩ dX9_step_55 rfl (fun sz => ?_)
              refine zb (fun _ _ => lv_if_eq (tgt := 65) hx hb dX9_step_58 (by decide)) (fun c_47 => ?_) (fun c_47 => ?_)
              · refine zz (fun _ _ => lv_iconst (v := 0) hx hb dX9_step_65 (by decide)) ?_
                refine zs (fun _ _ => lv_istore (lv' := [(5, .int (0)), (4, .int (1)), (0, .ref (r)), (1, .int (a_)), (2, .int (b_)), (3, .int (c_))]) hx hb dX9_step_66 hl (by decide) rfl) (fun ls hl => ?_)
                refine zz (fun _ _ => lv_aload_n hx hb dX9_step_68 rfl (lv_at hl 2 rfl)) ?_
                refine zz (fun _ _ => lv_iload hx hb dX9_step_69 (lv_at hl 0 rfl)) ?_
                refine zbn (fun _ _ => lv_if_ne (tgt := 78) hx hb dX9_step_71 (by decide)) (fun c_48 => ?_) (fun c_48 => ?_)
                · exact absurd (by decide) c_48
                · refine zz (fun _ _ => lv_iconst (v := 1) hx hb dX9_step_74 (by decide)) ?_
                  refine zz (fun _ _ => lv_goto (tgt := 92) hx hb dX9_step_75 (by decide)) ?_
                  refine z_put C fp_X9_129 (fun h => by cases h) rm_0 (Nat.le_of_ble_eq_true rfl) rfl rfl dX9_step_92 ?_
                  refine zeq wm_f0 ?_
                  refine zz (fun _ _ => lv_aload_n hx hb dX9_step_95 rfl (lv_at hl 2 rfl)) ?_
                  refine z_get (v := .int (1)) C fd_X9_129 rm_0 rfl dX9_step_96 ?_
                  refine zb (fun _ _ => lv_if_le (tgt := 104) hx hb dX9_step_99 (by decide)) (fun c_49 => ?_) (fun c_49 => ?_)
                  · exact absurd c_49 (by decide)
                  · refine zz (fun _ _ => lv_iconst (v := 0) hx hb dX9_step_102 (by decide)) ?_
                    exact z_iret C hr hlk dX9_step_103 (by simp only [zd, fX9_step, if_neg c_1, if_neg c_27, if_neg c_39, if_neg c_43, if_neg c_44, if_pos c_47, and_self])
              · refine zz (fun _ _ => lv_iconst (v := 1) hx hb dX9_step_61 (by decide)) ?_
                refine zz (fun _ _ => lv_goto (tgt := 66) hx hb dX9_step_62 (by decide)) ?_
                refine zs (fun _ _ => lv_istore (lv' := [(5, .int (1)), (4, .int (1)), (0, .ref (r)), (1, .int (a_)), (2, .int (b_)), (3, .int (c_))]) hx hb dX9_step_66 hl (by decide) rfl) (fun ls hl => ?_)
                refine zz (fun _ _ => lv_aload_n hx hb dX9_step_68 rfl (lv_at hl 2 rfl)) ?_
                refine zz (fun _ _ => lv_iload hx hb dX9_step_69 (lv_at hl 0 rfl)) ?_
                refine zbn (fun _ _ => lv_if_ne (tgt := 78) hx hb dX9_step_71 (by decide)) (fun c_50 => ?_) (fun c_50 => ?_)
                · refine zz (fun _ _ => lv_aload_n hx hb dX9_step_78 rfl (lv_at hl 2 rfl)) ?_
                  refine z_get (v := .int (v 1)) C fd_X9_132 rm_0 rfl dX9_step_79 ?_
                  refine zz (fun _ _ => lv_bipush (v := 12) hx hb dX9_step_82 (by decide)) ?_
                  refine zbn (fun _ _ => lv_icmp_ne (tgt := 91) hx hb dX9_step_84 (by decide)) (fun c_51 => ?_) (fun c_51 => ?_)
                  · refine zz (fun _ _ => lv_iconst (v := 0) hx hb dX9_step_91 (by decide)) ?_
                    refine z_put C fp_X9_129 (fun h => by cases h) rm_0 (Nat.le_of_ble_eq_true rfl) rfl rfl dX9_step_92 ?_
                    refine zeq wm_f0 ?_
                    refine zz (fun _ _ => lv_aload_n hx hb dX9_step_95 rfl (lv_at hl 2 rfl)) ?_
                    refine z_get (v := .int (0)) C fd_X9_129 rm_0 rfl dX9_step_96 ?_
                    refine zb (fun _ _ => lv_if_le (tgt := 104) hx hb dX9_step_99 (by decide)) (fun c_52 => ?_) (fun c_52 => ?_)
                    · refine zz (fun _ _ => lv_aload_n hx hb dX9_step_104 rfl (lv_at hl 2 rfl)) ?_
                      refine z_get (v := .ref (r + 1)) C fd_X9_7 rm_0 rfl dX9_step_105 ?_
                      refine zz (fun _ _ => lv_aload_n hx hb dX9_step_108 rfl (lv_at hl 2 rfl)) ?_
                      refine z_get (v := .int (v 1)) C fd_X9_132 rm_0 rfl dX9_step_109 ?_
                      refine zz (fun _ _ => lv_iload_n hx hb dX9_step_112 rfl (lv_at hl 3 rfl)) ?_
                      refine z_iast (f := A 1) C rm_1 (in_nI hs (ne_lt (m := 12) hs hn c_51) (by decide)) dX9_step_113 ?_
                      refine zeq wm_1 ?_
                      refine zz (fun _ _ => lv_aload_n hx hb dX9_step_114 rfl (lv_at hl 2 rfl)) ?_
                      refine z_get (v := .ref (r + 2)) C fd_X9_13 rm_0 rfl dX9_step_115 ?_
                      refine zz (fun _ _ => lv_aload_n hx hb dX9_step_118 rfl (lv_at hl 2 rfl)) ?_
                      refine z_get (v := .int (v 1)) C fd_X9_132 rm_0 rfl dX9_step_119 ?_
                      refine zz (fun _ _ => lv_iload_n hx hb dX9_step_122 rfl (lv_at hl 4 rfl)) ?_
                      refine z_iast (f := A 2) C rm_2 (in_nI hs (ne_lt (m := 12) hs hn c_51) (by decide)) dX9_step_123 ?_
                      refine zeq wm_2 ?_
                      refine zz (fun _ _ => lv_aload_n hx hb dX9_step_124 rfl (lv_at hl 2 rfl)) ?_
                      refine z_get (v := .ref (r + 3)) C fd_X9_16 rm_0 rfl dX9_step_125 ?_
                      refine zz (fun _ _ => lv_aload_n hx hb dX9_step_128 rfl (lv_at hl 2 rfl)) ?_
                      refine z_get (v := .int (v 1)) C fd_X9_132 rm_0 rfl dX9_step_129 ?_
                      refine zz (fun _ _ => lv_iload_n hx hb dX9_step_132 rfl (lv_at hl 5 rfl)) ?_
                      refine z_iast (f := A 3) C rm_3 (in_nI hs (ne_lt (m := 12) hs hn c_51) (by decide)) dX9_step_133 ?_
                      refine zeq wm_3 ?_
                      refine zz (fun _ _ => lv_aload_n hx hb dX9_step_134 rfl (lv_at hl 2 rfl)) ?_
                      refine z_get (v := .ref (r + 4)) C fd_X9_19 rm_0 rfl dX9_step_135 ?_
                      refine zz (fun _ _ => lv_aload_n hx hb dX9_step_138 rfl (lv_at hl 2 rfl)) ?_
                      refine z_get (v := .int (v 1)) C fd_X9_132 rm_0 rfl dX9_step_139 ?_
                      refine zz (fun _ _ => lv_iconst (v := 0) hx hb dX9_step_142 (by decide)) ?_
                      refine z_zast (f := A 4) C rm_4 (in_nI hs (ne_lt (m := 12) hs hn c_51) (by decide)) rfl dX9_step_143 ?_
                      refine zeq wm_4 ?_
                      refine zz (fun _ _ => lv_aload_n hx hb dX9_step_144 rfl (lv_at hl 2 rfl)) ?_
                      refine z_get (v := .ref (r + 5)) C fd_X9_23 rm_0 rfl dX9_step_145 ?_
                      refine zz (fun _ _ => lv_aload_n hx hb dX9_step_148 rfl (lv_at hl 2 rfl)) ?_
                      refine z_get (v := .int (v 1)) C fd_X9_132 rm_0 rfl dX9_step_149 ?_
                      refine zz (fun _ _ => lv_iconst (v := 0) hx hb dX9_step_152 (by decide)) ?_
                      refine z_iast (f := A 5) C rm_5 (in_nI hs (ne_lt (m := 12) hs hn c_51) (by decide)) dX9_step_153 ?_
                      refine zeq wm_5 ?_
                      refine zz (fun _ _ => lv_aload_n hx hb dX9_step_154 rfl (lv_at hl 2 rfl)) ?_
                      refine z_get (v := .ref (r + 10)) C fd_X9_38 rm_0 rfl dX9_step_155 ?_
                      refine zz (fun _ _ => lv_aload_n hx hb dX9_step_158 rfl (lv_at hl 2 rfl)) ?_
                      refine z_get (v := .int (v 1)) C fd_X9_132 rm_0 rfl dX9_step_159 ?_
                      refine zz (fun _ _ => lv_iconst (v := 0) hx hb dX9_step_162 (by decide)) ?_
                      refine z_iast (f := A 10) C rm_10 (in_nI hs (ne_lt (m := 12) hs hn c_51) (by decide)) dX9_step_163 ?_
                      refine zeq wm_10 ?_
                      refine zz (fun _ _ => lv_aload_n hx hb dX9_step_164 rfl (lv_at hl 2 rfl)) ?_
                      refine zz (fun _ _ => lv_dup hx hb dX9_step_165 rfl) ?_
                      refine z_get (v := .int (v 1)) C fd_X9_132 rm_0 rfl dX9_step_166 ?_
                      refine zz (fun _ _ => lv_iconst (v := 1) hx hb dX9_step_169 (by decide)) ?_
                      refine zz (fun _ _ => lv_iadd hx hb dX9_step_170) ?_
                      refine z_put C fp_X9_132 (fun h => by cases h) rm_0 (Nat.le_of_ble_eq_true rfl) rfl rfl dX9_step_171 ?_
                      refine zeq wm_f1 ?_
                      refine zz (fun _ _ => lv_aload_n hx hb dX9_step_174 rfl (lv_at hl 2 rfl)) ?_
                      refine z_get (v := .int ((v 1) + (1))) C fd_X9_132 rm_0 rfl dX9_step_175 ?_
                      refine zz (fun _ _ => lv_iconst (v := 1) hx hb dX9_step_178 (by decide)) ?_
                      refine zz (fun _ _ => lv_isub hx hb dX9_step_179) ?_
                      exact z_iret C hr hlk dX9_step_180 (by simp only [zd, fX9_step, if_neg c_1, if_neg c_27, if_neg c_39, if_neg c_43, if_neg c_44, if_neg c_47, if_neg c_51, and_self])
                    · exact absurd (by decide) c_52
                  · refine zz (fun _ _ => lv_iconst (v := 2) hx hb dX9_step_87 (by decide)) ?_
                    refine zz (fun _ _ => lv_goto (tgt := 92) hx hb dX9_step_88 (by decide)) ?_
                    refine z_put C fp_X9_129 (fun h => by cases h) rm_0 (Nat.le_of_ble_eq_true rfl) rfl rfl dX9_step_92 ?_
                    refine zeq wm_f0 ?_
                    refine zz (fun _ _ => lv_aload_n hx hb dX9_step_95 rfl (lv_at hl 2 rfl)) ?_
                    refine z_get (v := .int (2)) C fd_X9_129 rm_0 rfl dX9_step_96 ?_
                    refine zb (fun _ _ => lv_if_le (tgt := 104) hx hb dX9_step_99 (by decide)) (fun c_53 => ?_) (fun c_53 => ?_)
                    · exact absurd c_53 (by decide)
                    · refine zz (fun _ _ => lv_iconst (v := 0) hx hb dX9_step_102 (by decide)) ?_
                      exact z_iret C hr hlk dX9_step_103 (by simp only [zd, fX9_step, if_neg c_1, if_neg c_27, if_neg c_39, if_neg c_43, if_neg c_44, if_neg c_47, if_pos c_51, and_self])
                · exact absurd c_50 (by decide)
          · refine zz (fun _ _ => lv_iconst (v := 3) hx hb dX9_step_41 (by decide)) ?_
            refine zz (fun _ _ => lv_goto (tgt := 47) hx hb dX9_step_42 (by decide)) ?_
            refine zdS (As := [.int (b_), .int (0), .int (3)]) (rest := []) (st' := [.int ((fX9_isIn b_ 0 3))]) C hl.1 lk_X9_135 (ctX9_isIn) rfl rfl (Nat.le_of_ble_eq_true rfl) ⟨by decide, by decide, by decide, by decide⟩ dX9_step_47 rfl (fun sz => ?_)
            refine zb (fun _ _ => lv_if_eq (tgt := 65) hx hb dX9_step_50 (by decide)) (fun c_54 => ?_) (fun c_54 => ?_)
            · refine zz (fun _ _ => lv_iconst (v := 0) hx hb dX9_step_65 (by decide)) ?_
              refine zs (fun _ _ => lv_istore (lv' := [(5, .int (0)), (4, .int (1)), (0, .ref (r)), (1, .int (a_)), (2, .int (b_)), (3, .int (c_))]) hx hb dX9_step_66 hl (by decide) rfl) (fun ls hl => ?_)
              refine zz (fun _ _ => lv_aload_n hx hb dX9_step_68 rfl (lv_at hl 2 rfl)) ?_
              refine zz (fun _ _ => lv_iload hx hb dX9_step_69 (lv_at hl 0 rfl)) ?_
              refine zbn (fun _ _ => lv_if_ne (tgt := 78) hx hb dX9_step_71 (by decide)) (fun c_55 => ?_) (fun c_55 => ?_)
              · exact absurd (by decide) c_55
              · refine zz (fun _ _ => lv_iconst (v := 1) hx hb dX9_step_74 (by decide)) ?_
                refine zz (fun _ _ => lv_goto (tgt := 92) hx hb dX9_step_75 (by decide)) ?_
                refine z_put C fp_X9_129 (fun h => by cases h) rm_0 (Nat.le_of_ble_eq_true rfl) rfl rfl dX9_step_92 ?_
                refine zeq wm_f0 ?_
                refine zz (fun _ _ => lv_aload_n hx hb dX9_step_95 rfl (lv_at hl 2 rfl)) ?_
                refine z_get (v := .int (1)) C fd_X9_129 rm_0 rfl dX9_step_96 ?_
                refine zb (fun _ _ => lv_if_le (tgt := 104) hx hb dX9_step_99 (by decide)) (fun c_56 => ?_) (fun c_56 => ?_)
                · exact absurd c_56 (by decide)
                · refine zz (fun _ _ => lv_iconst (v := 0) hx hb dX9_step_102 (by decide)) ?_
                  exact z_iret C hr hlk dX9_step_103 (by simp only [zd, fX9_step, if_neg c_1, if_neg c_27, if_neg c_39, if_pos c_43, if_pos c_54, and_self])
            · refine zz (fun _ _ => lv_iload_n hx hb dX9_step_53 rfl (lv_at hl 2 rfl)) ?_
              refine zz (fun _ _ => lv_iload_n hx hb dX9_step_54 rfl (lv_at hl 4 rfl)) ?_
              refine zdS (As := [.int (a_), .int (c_)]) (rest := []) (st' := [.int ((fX9_isTo a_ c_))]) C hl.1 lk_X9_139 (ctX9_isTo) rfl rfl (Nat.le_of_ble_eq_true rfl) ⟨by decide, by decide, by decide, by decide⟩ dX9_step_55 rfl (fun sz => ?_)
              refine zb (fun _ _ => lv_if_eq (tgt := 65) hx hb dX9_step_58 (by decide)) (fun c_57 => ?_) (fun c_57 => ?_)
              · refine zz (fun _ _ => lv_iconst (v := 0) hx hb dX9_step_65 (by decide)) ?_
                refine zs (fun _ _ => lv_istore (lv' := [(5, .int (0)), (4, .int (1)), (0, .ref (r)), (1, .int (a_)), (2, .int (b_)), (3, .int (c_))]) hx hb dX9_step_66 hl (by decide) rfl) (fun ls hl => ?_)
                refine zz (fun _ _ => lv_aload_n hx hb dX9_step_68 rfl (lv_at hl 2 rfl)) ?_
                refine zz (fun _ _ => lv_iload hx hb dX9_step_69 (lv_at hl 0 rfl)) ?_
                refine zbn (fun _ _ => lv_if_ne (tgt := 78) hx hb dX9_step_71 (by decide)) (fun c_58 => ?_) (fun c_58 => ?_)
                · exact absurd (by decide) c_58
                · refine zz (fun _ _ => lv_iconst (v := 1) hx hb dX9_step_74 (by decide)) ?_
                  refine zz (fun _ _ => lv_goto (tgt := 92) hx hb dX9_step_75 (by decide)) ?_
                  refine z_put C fp_X9_129 (fun h => by cases h) rm_0 (Nat.le_of_ble_eq_true rfl) rfl rfl dX9_step_92 ?_
                  refine zeq wm_f0 ?_
                  refine zz (fun _ _ => lv_aload_n hx hb dX9_step_95 rfl (lv_at hl 2 rfl)) ?_
                  refine z_get (v := .int (1)) C fd_X9_129 rm_0 rfl dX9_step_96 ?_
                  refine zb (fun _ _ => lv_if_le (tgt := 104) hx hb dX9_step_99 (by decide)) (fun c_59 => ?_) (fun c_59 => ?_)
                  · exact absurd c_59 (by decide)
                  · refine zz (fun _ _ => lv_iconst (v := 0) hx hb dX9_step_102 (by decide)) ?_
                    exact z_iret C hr hlk dX9_step_103 (by simp only [zd, fX9_step, if_neg c_1, if_neg c_27, if_neg c_39, if_pos c_43, if_neg c_54, if_pos c_57, and_self])
              · refine zz (fun _ _ => lv_iconst (v := 1) hx hb dX9_step_61 (by decide)) ?_
                refine zz (fun _ _ => lv_goto (tgt := 66) hx hb dX9_step_62 (by decide)) ?_
                refine zs (fun _ _ => lv_istore (lv' := [(5, .int (1)), (4, .int (1)), (0, .ref (r)), (1, .int (a_)), (2, .int (b_)), (3, .int (c_))]) hx hb dX9_step_66 hl (by decide) rfl) (fun ls hl => ?_)
                refine zz (fun _ _ => lv_aload_n hx hb dX9_step_68 rfl (lv_at hl 2 rfl)) ?_
                refine zz (fun _ _ => lv_iload hx hb dX9_step_69 (lv_at hl 0 rfl)) ?_
                refine zbn (fun _ _ => lv_if_ne (tgt := 78) hx hb dX9_step_71 (by decide)) (fun c_60 => ?_) (fun c_60 => ?_)
                · refine zz (fun _ _ => lv_aload_n hx hb dX9_step_78 rfl (lv_at hl 2 rfl)) ?_
                  refine z_get (v := .int (v 1)) C fd_X9_132 rm_0 rfl dX9_step_79 ?_
                  refine zz (fun _ _ => lv_bipush (v := 12) hx hb dX9_step_82 (by decide)) ?_
                  refine zbn (fun _ _ => lv_icmp_ne (tgt := 91) hx hb dX9_step_84 (by decide)) (fun c_61 => ?_) (fun c_61 => ?_)
                  · refine zz (fun _ _ => lv_iconst (v := 0) hx hb dX9_step_91 (by decide)) ?_
                    refine z_put C fp_X9_129 (fun h => by cases h) rm_0 (Nat.le_of_ble_eq_true rfl) rfl rfl dX9_step_92 ?_
                    refine zeq wm_f0 ?_
                    refine zz (fun _ _ => lv_aload_n hx hb dX9_step_95 rfl (lv_at hl 2 rfl)) ?_
                    refine z_get (v := .int (0)) C fd_X9_129 rm_0 rfl dX9_step_96 ?_
                    refine zb (fun _ _ => lv_if_le (tgt := 104) hx hb dX9_step_99 (by decide)) (fun c_62 => ?_) (fun c_62 => ?_)
                    · refine zz (fun _ _ => lv_aload_n hx hb dX9_step_104 rfl (lv_at hl 2 rfl)) ?_
                      refine z_get (v := .ref (r + 1)) C fd_X9_7 rm_0 rfl dX9_step_105 ?_
                      refine zz (fun _ _ => lv_aload_n hx hb dX9_step_108 rfl (lv_at hl 2 rfl)) ?_
                      refine z_get (v := .int (v 1)) C fd_X9_132 rm_0 rfl dX9_step_109 ?_
                      refine zz (fun _ _ => lv_iload_n hx hb dX9_step_112 rfl (lv_at hl 3 rfl)) ?_
                      refine z_iast (f := A 1) C rm_1 (in_nI hs (ne_lt (m := 12) hs hn c_61) (by decide)) dX9_step_113 ?_
                      refine zeq wm_1 ?_
                      refine zz (fun _ _ => lv_aload_n hx hb dX9_step_114 rfl (lv_at hl 2 rfl)) ?_
                      refine z_get (v := .ref (r + 2)) C fd_X9_13 rm_0 rfl dX9_step_115 ?_
                      refine zz (fun _ _ => lv_aload_n hx hb dX9_step_118 rfl (lv_at hl 2 rfl)) ?_
                      refine z_get (v := .int (v 1)) C fd_X9_132 rm_0 rfl dX9_step_119 ?_
                      refine zz (fun _ _ => lv_iload_n hx hb dX9_step_122 rfl (lv_at hl 4 rfl)) ?_
                      refine z_iast (f := A 2) C rm_2 (in_nI hs (ne_lt (m := 12) hs hn c_61) (by decide)) dX9_step_123 ?_
                      refine zeq wm_2 ?_
                      refine zz (fun _ _ => lv_aload_n hx hb dX9_step_124 rfl (lv_at hl 2 rfl)) ?_
                      refine z_get (v := .ref (r + 3)) C fd_X9_16 rm_0 rfl dX9_step_125 ?_
                      refine zz (fun _ _ => lv_aload_n hx hb dX9_step_128 rfl (lv_at hl 2 rfl)) ?_
                      refine z_get (v := .int (v 1)) C fd_X9_132 rm_0 rfl dX9_step_129 ?_
                      refine zz (fun _ _ => lv_iload_n hx hb dX9_step_132 rfl (lv_at hl 5 rfl)) ?_
                      refine z_iast (f := A 3) C rm_3 (in_nI hs (ne_lt (m := 12) hs hn c_61) (by decide)) dX9_step_133 ?_
                      refine zeq wm_3 ?_
                      refine zz (fun _ _ => lv_aload_n hx hb dX9_step_134 rfl (lv_at hl 2 rfl)) ?_
                      refine z_get (v := .ref (r + 4)) C fd_X9_19 rm_0 rfl dX9_step_135 ?_
                      refine zz (fun _ _ => lv_aload_n hx hb dX9_step_138 rfl (lv_at hl 2 rfl)) ?_
                      refine z_get (v := .int (v 1)) C fd_X9_132 rm_0 rfl dX9_step_139 ?_
                      refine zz (fun _ _ => lv_iconst (v := 0) hx hb dX9_step_142 (by decide)) ?_
                      refine z_zast (f := A 4) C rm_4 (in_nI hs (ne_lt (m := 12) hs hn c_61) (by decide)) rfl dX9_step_143 ?_
                      refine zeq wm_4 ?_
                      refine zz (fun _ _ => lv_aload_n hx hb dX9_step_144 rfl (lv_at hl 2 rfl)) ?_
                      refine z_get (v := .ref (r + 5)) C fd_X9_23 rm_0 rfl dX9_step_145 ?_
                      refine zz (fun _ _ => lv_aload_n hx hb dX9_step_148 rfl (lv_at hl 2 rfl)) ?_
                      refine z_get (v := .int (v 1)) C fd_X9_132 rm_0 rfl dX9_step_149 ?_
                      refine zz (fun _ _ => lv_iconst (v := 0) hx hb dX9_step_152 (by decide)) ?_
                      refine z_iast (f := A 5) C rm_5 (in_nI hs (ne_lt (m := 12) hs hn c_61) (by decide)) dX9_step_153 ?_
                      refine zeq wm_5 ?_
                      refine zz (fun _ _ => lv_aload_n hx hb dX9_step_154 rfl (lv_at hl 2 rfl)) ?_
                      refine z_get (v := .ref (r + 10)) C fd_X9_38 rm_0 rfl dX9_step_155 ?_
                      refine zz (fun _ _ => lv_aload_n hx hb dX9_step_158 rfl (lv_at hl 2 rfl)) ?_
                      refine z_get (v := .int (v 1)) C fd_X9_132 rm_0 rfl dX9_step_159 ?_
                      refine zz (fun _ _ => lv_iconst (v := 0) hx hb dX9_step_162 (by decide)) ?_
                      refine z_iast (f := A 10) C rm_10 (in_nI hs (ne_lt (m := 12) hs hn c_61) (by decide)) dX9_step_163 ?_
                      refine zeq wm_10 ?_
                      refine zz (fun _ _ => lv_aload_n hx hb dX9_step_164 rfl (lv_at hl 2 rfl)) ?_
                      refine zz (fun _ _ => lv_dup hx hb dX9_step_165 rfl) ?_
                      refine z_get (v := .int (v 1)) C fd_X9_132 rm_0 rfl dX9_step_166 ?_
                      refine zz (fun _ _ => lv_iconst (v := 1) hx hb dX9_step_169 (by decide)) ?_
                      refine zz (fun _ _ => lv_iadd hx hb dX9_step_170) ?_
                      refine z_put C fp_X9_132 (fun h => by cases h) rm_0 (Nat.le_of_ble_eq_true rfl) rfl rfl dX9_step_171 ?_
                      refine zeq wm_f1 ?_
                      refine zz (fun _ _ => lv_aload_n hx hb dX9_step_174 rfl (lv_at hl 2 rfl)) ?_
                      refine z_get (v := .int ((v 1) + (1))) C fd_X9_132 rm_0 rfl dX9_step_175 ?_
                      refine zz (fun _ _ => lv_iconst (v := 1) hx hb dX9_step_178 (by decide)) ?_
                      refine zz (fun _ _ => lv_isub hx hb dX9_step_179) ?_
                      exact z_iret C hr hlk dX9_step_180 (by simp only [zd, fX9_step, if_neg c_1, if_neg c_27, if_neg c_39, if_pos c_43, if_neg c_54, if_neg c_57, if_neg c_61, and_self])
                    · exact absurd (by decide) c_62
                  · refine zz (fun _ _ => lv_iconst (v := 2) hx hb dX9_step_87 (by decide)) ?_
                    refine zz (fun _ _ => lv_goto (tgt := 92) hx hb dX9_step_88 (by decide)) ?_
                    refine z_put C fp_X9_129 (fun h => by cases h) rm_0 (Nat.le_of_ble_eq_true rfl) rfl rfl dX9_step_92 ?_
                    refine zeq wm_f0 ?_
                    refine zz (fun _ _ => lv_aload_n hx hb dX9_step_95 rfl (lv_at hl 2 rfl)) ?_
                    refine z_get (v := .int (2)) C fd_X9_129 rm_0 rfl dX9_step_96 ?_
                    refine zb (fun _ _ => lv_if_le (tgt := 104) hx hb dX9_step_99 (by decide)) (fun c_63 => ?_) (fun c_63 => ?_)
                    · exact absurd c_63 (by decide)
                    · refine zz (fun _ _ => lv_iconst (v := 0) hx hb dX9_step_102 (by decide)) ?_
                      exact z_iret C hr hlk dX9_step_103 (by simp only [zd, fX9_step, if_neg c_1, if_neg c_27, if_neg c_39, if_pos c_43, if_neg c_54, if_neg c_57, if_pos c_61, and_self])
                · exact absurd c_60 (by decide)
def fX9_silent (v : Nat → Int32) (A : Nat → Nat → Int32) (a_ : Int32) (b_ : Int32) : Int32 × (Nat → Int32) × (Nat → Nat → Int32) := if (fX9_isStep v a_) = 0 then (0, (upd v 0 1), A) else (A 4 (Int32.toNatClampNeg (a_)), (upd v 0 0), (u1 A 4 (upd (A 4) (Int32.toNatClampNeg (a_)) (b_))))
set_option maxHeartbeats 1000000 in
set_option maxRecDepth 10000 in
theorem ctX9_silent {l : Launch} {D : va_G} {aC : Nat → ClassId} {b0 sz : Nat} {r : Nat} {v : Nat → Int32} {A : Nat → Nat → Int32} {R : ZM} {a_ : Int32} {b_ : Int32} {n_ : Nat} (hs : v 1 = nI n_) (hn : n_ ≤ 12) (hbb : b_ = 0 ∨ b_ = 1) (hz : ∀ j, j < 12 → A 4 j = 0 ∨ A 4 j = 1) : Ct l D aC b0 yX9_silent cX9_silent 4 (some .boolean) 1 0 0 [.ref (r), .int (a_), .int (b_)] (mm aC r v A R) sz (zd (some (.int (fX9_silent v A a_ b_).1)) (mm aC r (fX9_silent v A a_ b_).2.1 (fX9_silent v A a_ b_).2.2 R)) := by
  refine Ct.of (by decide) (Nat.le_of_ble_eq_true rfl) ?_
  intro p e s m below meth c ls C hr hlk hnm hl
  have hl : lv_has ls 4 [(0, .ref (r)), (1, .int (a_)), (2, .int (b_))] := hl
  obtain ⟨hx, hb, -, -, -⟩ := id C
  refine zz (fun _ _ => lv_aload_n hx hb dX9_silent_0 rfl (lv_at hl 0 rfl)) ?_
  refine zz (fun _ _ => lv_aload_n hx hb dX9_silent_1 rfl (lv_at hl 0 rfl)) ?_
  refine zz (fun _ _ => lv_iload_n hx hb dX9_silent_2 rfl (lv_at hl 1 rfl)) ?_
  refine zdV (As := [.int (a_)]) (rest := [.ref (r)]) (st' := [.int ((fX9_isStep v a_)), .ref (r)]) C hl.1 lk_X9_143 (ctX9_isStep) rm_0 rfl rfl rfl (Nat.le_of_ble_eq_true rfl) ⟨by decide, by decide, by decide, by decide⟩ dX9_silent_3 rfl (fun sz => ?_)
  refine zb (fun _ _ => lv_if_eq (tgt := 13) hx hb dX9_silent_6 (by decide)) (fun c_1 => ?_) (fun c_1 => ?_)
  · refine zz (fun _ _ => lv_iconst (v := 1) hx hb dX9_silent_13 (by decide)) ?_
    refine z_put C fp_X9_129 (fun h => by cases h) rm_0 (Nat.le_of_ble_eq_true rfl) rfl rfl dX9_silent_14 ?_
    refine zeq wm_f0 ?_
    refine zz (fun _ _ => lv_aload_n hx hb dX9_silent_17 rfl (lv_at hl 0 rfl)) ?_
    refine z_get (v := .int (1)) C fd_X9_129 rm_0 rfl dX9_silent_18 ?_
    refine zb (fun _ _ => lv_if_le (tgt := 26) hx hb dX9_silent_21 (by decide)) (fun c_2 => ?_) (fun c_2 => ?_)
    · exact absurd c_2 (by decide)
    · refine zz (fun _ _ => lv_iconst (v := 0) hx hb dX9_silent_24 (by decide)) ?_
      exact z_zret C hr rfl hlk dX9_silent_25 (by simp only [zd, fX9_silent, if_pos c_1, and_self])
  · refine zz (fun _ _ => lv_iconst (v := 0) hx hb dX9_silent_9 (by decide)) ?_
    refine zz (fun _ _ => lv_goto (tgt := 14) hx hb dX9_silent_10 (by decide)) ?_
    refine z_put C fp_X9_129 (fun h => by cases h) rm_0 (Nat.le_of_ble_eq_true rfl) rfl rfl dX9_silent_14 ?_
    refine zeq wm_f0 ?_
    refine zz (fun _ _ => lv_aload_n hx hb dX9_silent_17 rfl (lv_at hl 0 rfl)) ?_
    refine z_get (v := .int (0)) C fd_X9_129 rm_0 rfl dX9_silent_18 ?_
    refine zb (fun _ _ => lv_if_le (tgt := 26) hx hb dX9_silent_21 (by decide)) (fun c_3 => ?_) (fun c_3 => ?_)
    · refine zz (fun _ _ => lv_aload_n hx hb dX9_silent_26 rfl (lv_at hl 0 rfl)) ?_
      refine z_get (v := .ref (r + 4)) C fd_X9_19 rm_0 rfl dX9_silent_27 ?_
      refine zz (fun _ _ => lv_iload_n hx hb dX9_silent_30 rfl (lv_at hl 1 rfl)) ?_
      refine z_zald (f := A 4) C rm_4 (isStep_in c_1 hs hn (by decide)) dX9_silent_31 ?_
      refine zs (fun _ _ => lv_istore_n (lv' := [(3, .int (A 4 (Int32.toNatClampNeg (a_)))), (0, .ref (r)), (1, .int (a_)), (2, .int (b_))]) hx hb dX9_silent_32 rfl hl (by decide) rfl) (fun ls hl => ?_)
      refine zz (fun _ _ => lv_aload_n hx hb dX9_silent_33 rfl (lv_at hl 1 rfl)) ?_
      refine z_get (v := .ref (r + 4)) C fd_X9_19 rm_0 rfl dX9_silent_34 ?_
      refine zz (fun _ _ => lv_iload_n hx hb dX9_silent_37 rfl (lv_at hl 2 rfl)) ?_
      refine zz (fun _ _ => lv_iload_n hx hb dX9_silent_38 rfl (lv_at hl 3 rfl)) ?_
      refine z_zast (f := A 4) C rm_4 (isStep_in c_1 hs hn (by decide)) (bz hbb) dX9_silent_39 ?_
      refine zeq wm_4 ?_
      refine zz (fun _ _ => lv_iload_n hx hb dX9_silent_40 rfl (lv_at hl 0 rfl)) ?_
      exact z_zret C hr (bz (hz _ (vin_lt (isStep_in c_1 hs hn (by decide))))) hlk dX9_silent_41 (by simp only [zd, fX9_silent, if_neg c_1, and_self])
    · exact absurd (by decide) c_3
end
section
def fX9_template (v : Nat → Int32) (A : Nat → Nat → Int32) (a_ : Int32) (b_ : Int32) (c_ : Int32) (d_ : Int32) (e_ : Int32) : Int32 × (Nat → Int32) × (Nat → Nat → Int32) := if (fX9_isStep v a_) = 0 then (0, (upd v 0 1), A) else if 3 ≤ A 1 (Int32.toNatClampNeg (a_)) then (0, (upd v 0 2), A) else if A 1 (Int32.toNatClampNeg (a_)) = 0 then if e_ = 0 then (0, (upd v 0 2), A) else if A 1 (Int32.toNatClampNeg (a_)) = 1 then (0, (upd v 0 2), A) else if (fX9_mayStand b_ (A 1 (Int32.toNatClampNeg (a_))) e_) = 0 then (0, (upd v 0 2), A) else if (fX9_mayStand c_ (A 1 (Int32.toNatClampNeg (a_))) 0) = 0 then (0, (upd v 0 2), A) else if (fX9_mayStand d_ (A 1 (Int32.toNatClampNeg (a_))) e_) = 0 then (0, (upd v 0 2), A) else if A 5 (Int32.toNatClampNeg (a_)) = 6 then (0, (upd v 0 3), A) else ((upd (A 5) (Int32.toNatClampNeg (a_)) ((A 5 (Int32.toNatClampNeg (a_))) + (1))) (Int32.toNatClampNeg (a_)), (upd v 0 0), (u1 (u1 (u1 (u1 (u1 A 6 (upd (A 6) (Int32.toNatClampNeg (((6) * (a_)) + (A 5 (Int32.toNatClampNeg (a_))))) (b_))) 7 (upd (A 7) (Int32.toNatClampNeg (((6) * (a_)) + (A 5 (Int32.toNatClampNeg (a_))))) (c_))) 8 (upd (A 8) (Int32.toNatClampNeg (((6) * (a_)) + (A 5 (Int32.toNatClampNeg (a_))))) (d_))) 9 (upd (A 9) (Int32.toNatClampNeg (((6) * (a_)) + (A 5 (Int32.toNatClampNeg (a_))))) (e_))) 5 (upd (A 5) (Int32.toNatClampNeg (a_)) ((A 5 (Int32.toNatClampNeg (a_))) + (1))))) else if A 1 (Int32.toNatClampNeg (a_)) = 1 then if e_ = 0 then if (fX9_mayStand b_ (A 1 (Int32.toNatClampNeg (a_))) e_) = 0 then (0, (upd v 0 2), A) else if (fX9_mayStand c_ (A 1 (Int32.toNatClampNeg (a_))) 0) = 0 then (0, (upd v 0 2), A) else if (fX9_mayStand d_ (A 1 (Int32.toNatClampNeg (a_))) e_) = 0 then (0, (upd v 0 2), A) else if A 5 (Int32.toNatClampNeg (a_)) = 6 then (0, (upd v 0 3), A) else ((upd (A 5) (Int32.toNatClampNeg (a_)) ((A 5 (Int32.toNatClampNeg (a_))) + (1))) (Int32.toNatClampNeg (a_)), (upd v 0 0), (u1 (u1 (u1 (u1 (u1 A 6 (upd (A 6) (Int32.toNatClampNeg (((6) * (a_)) + (A 5 (Int32.toNatClampNeg (a_))))) (b_))) 7 (upd (A 7) (Int32.toNatClampNeg (((6) * (a_)) + (A 5 (Int32.toNatClampNeg (a_))))) (c_))) 8 (upd (A 8) (Int32.toNatClampNeg (((6) * (a_)) + (A 5 (Int32.toNatClampNeg (a_))))) (d_))) 9 (upd (A 9) (Int32.toNatClampNeg (((6) * (a_)) + (A 5 (Int32.toNatClampNeg (a_))))) (e_))) 5 (upd (A 5) (Int32.toNatClampNeg (a_)) ((A 5 (Int32.toNatClampNeg (a_))) + (1))))) else (0, (upd v 0 2), A) else if (fX9_mayStand b_ (A 1 (Int32.toNatClampNeg (a_))) e_) = 0 then (0, (upd v 0 2), A) else if (fX9_mayStand c_ (A 1 (Int32.toNatClampNeg (a_))) 0) = 0 then (0, (upd v 0 2), A) else if (fX9_mayStand d_ (A 1 (Int32.toNatClampNeg (a_))) e_) = 0 then (0, (upd v 0 2), A) else if A 5 (Int32.toNatClampNeg (a_)) = 6 then (0, (upd v 0 3), A) else ((upd (A 5) (Int32.toNatClampNeg (a_)) ((A 5 (Int32.toNatClampNeg (a_))) + (1))) (Int32.toNatClampNeg (a_)), (upd v 0 0), (u1 (u1 (u1 (u1 (u1 A 6 (upd (A 6) (Int32.toNatClampNeg (((6) * (a_)) + (A 5 (Int32.toNatClampNeg (a_))))) (b_))) 7 (upd (A 7) (Int32.toNatClampNeg (((6) * (a_)) + (A 5 (Int32.toNatClampNeg (a_))))) (c_))) 8 (upd (A 8) (Int32.toNatClampNeg (((6) * (a_)) + (A 5 (Int32.toNatClampNeg (a_))))) (d_))) 9 (upd (A 9) (Int32.toNatClampNeg (((6) * (a_)) + (A 5 (Int32.toNatClampNeg (a_))))) (e_))) 5 (upd (A 5) (Int32.toNatClampNeg (a_)) ((A 5 (Int32.toNatClampNeg (a_))) + (1)))))
set_option maxHeartbeats 1000000 in
set_option maxRecDepth 10000 in
theorem ctX9_template {l : Launch} {D : va_G} {aC : Nat → ClassId} {b0 sz : Nat} {r : Nat} {v : Nat → Int32} {A : Nat → Nat → Int32} {R : ZM} {a_ : Int32} {b_ : Int32} {c_ : Int32} {d_ : Int32} {e_ : Int32} {n_ : Nat} (hs : v 1 = nI n_) (hn : n_ ≤ 12) (hbb : e_ = 0 ∨ e_ = 1) (hT : ∀ j, j < 12 → ∃ t, t ≤ 6 ∧ A 5 j = nI t) : Ct l D aC b0 yX9_template cX9_template 9 (some .int) 3 0 0 [.ref (r), .int (a_), .int (b_), .int (c_), .int (d_), .int (e_)] (mm aC r v A R) sz (zd (some (.int (fX9_template v A a_ b_ c_ d_ e_).1)) (mm aC r (fX9_template v A a_ b_ c_ d_ e_).2.1 (fX9_template v A a_ b_ c_ d_ e_).2.2 R)) := by
  refine Ct.of (by decide) (Nat.le_of_ble_eq_true rfl) ?_
  intro p e s m below meth c ls C hr hlk hnm hl
  have hl : lv_has ls 9 [(0, .ref (r)), (1, .int (a_)), (2, .int (b_)), (3, .int (c_)), (4, .int (d_)), (5, .int (e_))] := hl
  obtain ⟨hx, hb, -, -, -⟩ := id C
  refine zz (fun _ _ => lv_aload_n hx hb dX9_template_0 rfl (lv_at hl 0 rfl)) ?_
  refine zz (fun _ _ => lv_aload_n hx hb dX9_template_1 rfl (lv_at hl 0 rfl)) ?_
  refine zz (fun _ _ => lv_iload_n hx hb dX9_template_2 rfl (lv_at hl 1 rfl)) ?_
  refine zdV (As := [.int (a_)]) (rest := [.ref (r)]) (st' := [.int ((fX9_isStep v a_)), .ref (r)]) C hl.1 lk_X9_143 (ctX9_isStep) rm_0 rfl rfl rfl (Nat.le_of_ble_eq_true rfl) ⟨by decide, by decide, by decide, by decide⟩ dX9_template_3 rfl (fun sz => ?_)
  refine zb (fun _ _ => lv_if_eq (tgt := 13) hx hb dX9_template_6 (by decide)) (fun c_1 => ?_) (fun c_1 => ?_)
  · refine zz (fun _ _ => lv_iconst (v := 1) hx hb dX9_template_13 (by decide)) ?_
    refine z_put C fp_X9_129 (fun h => by cases h) rm_0 (Nat.le_of_ble_eq_true rfl) rfl rfl dX9_template_14 ?_
    refine zeq wm_f0 ?_
    refine zz (fun _ _ => lv_aload_n hx hb dX9_template_17 rfl (lv_at hl 0 rfl)) ?_
    refine z_get (v := .int (1)) C fd_X9_129 rm_0 rfl dX9_template_18 ?_
    refine zb (fun _ _ => lv_if_le (tgt := 26) hx hb dX9_template_21 (by decide)) (fun c_2 => ?_) (fun c_2 => ?_)
    · exact absurd c_2 (by decide)
    · refine zz (fun _ _ => lv_iconst (v := 0) hx hb dX9_template_24 (by decide)) ?_
      exact z_iret C hr hlk dX9_template_25 (by simp only [zd, fX9_template, if_pos c_1, and_self])
  · refine zz (fun _ _ => lv_iconst (v := 0) hx hb dX9_template_9 (by decide)) ?_
    refine zz (fun _ _ => lv_goto (tgt := 14) hx hb dX9_template_10 (by decide)) ?_
    refine z_put C fp_X9_129 (fun h => by cases h) rm_0 (Nat.le_of_ble_eq_true rfl) rfl rfl dX9_template_14 ?_
    refine zeq wm_f0 ?_
    refine zz (fun _ _ => lv_aload_n hx hb dX9_template_17 rfl (lv_at hl 0 rfl)) ?_
    refine z_get (v := .int (0)) C fd_X9_129 rm_0 rfl dX9_template_18 ?_
    refine zb (fun _ _ => lv_if_le (tgt := 26) hx hb dX9_template_21 (by decide)) (fun c_3 => ?_) (fun c_3 => ?_)
    · refine zz (fun _ _ => lv_aload_n hx hb dX9_template_26 rfl (lv_at hl 0 rfl)) ?_
      refine z_get (v := .ref (r + 1)) C fd_X9_7 rm_0 rfl dX9_template_27 ?_
      refine zz (fun _ _ => lv_iload_n hx hb dX9_template_30 rfl (lv_at hl 1 rfl)) ?_
      refine z_iald (f := A 1) C rm_1 (isStep_in c_1 hs hn (by decide)) dX9_template_31 ?_
      refine zs (fun _ _ => lv_istore (lv' := [(6, .int (A 1 (Int32.toNatClampNeg (a_)))), (0, .ref (r)), (1, .int (a_)), (2, .int (b_)), (3, .int (c_)), (4, .int (d_)), (5, .int (e_))]) hx hb dX9_template_32 hl (by decide) rfl) (fun ls hl => ?_)
      refine zz (fun _ _ => lv_iload hx hb dX9_template_34 (lv_at hl 0 rfl)) ?_
      refine zz (fun _ _ => lv_iconst (v := 3) hx hb dX9_template_36 (by decide)) ?_
      refine zb (fun _ _ => lv_icmp_ge (tgt := 98) hx hb dX9_template_37 (by decide)) (fun c_4 => ?_) (fun c_4 => ?_)
      · refine zz (fun _ _ => lv_iconst (v := 0) hx hb dX9_template_98 (by decide)) ?_
        refine zs (fun _ _ => lv_istore (lv' := [(7, .int (0)), (6, .int (A 1 (Int32.toNatClampNeg (a_)))), (0, .ref (r)), (1, .int (a_)), (2, .int (b_)), (3, .int (c_)), (4, .int (d_)), (5, .int (e_))]) hx hb dX9_template_99 hl (by decide) rfl) (fun ls hl => ?_)
        refine zz (fun _ _ => lv_aload_n hx hb dX9_template_101 rfl (lv_at hl 2 rfl)) ?_
        refine zz (fun _ _ => lv_iload hx hb dX9_template_102 (lv_at hl 0 rfl)) ?_
        refine zbn (fun _ _ => lv_if_ne (tgt := 111) hx hb dX9_template_104 (by decide)) (fun c_5 => ?_) (fun c_5 => ?_)
        · exact absurd (by decide) c_5
        · refine zz (fun _ _ => lv_iconst (v := 2) hx hb dX9_template_107 (by decide)) ?_
          refine zz (fun _ _ => lv_goto (tgt := 127) hx hb dX9_template_108 (by decide)) ?_
          refine z_put C fp_X9_129 (fun h => by cases h) rm_0 (Nat.le_of_ble_eq_true rfl) rfl rfl dX9_template_127 ?_
          refine zeq wm_f0 ?_
          refine zeq (M' := (mm aC r (upd v 0 2) A R)) (by rw [upd_upd]) ?_
          refine zz (fun _ _ => lv_aload_n hx hb dX9_template_130 rfl (lv_at hl 2 rfl)) ?_
          refine z_get (v := .int (2)) C fd_X9_129 rm_0 rfl dX9_template_131 ?_
          refine zb (fun _ _ => lv_if_le (tgt := 139) hx hb dX9_template_134 (by decide)) (fun c_6 => ?_) (fun c_6 => ?_)
          · exact absurd c_6 (by decide)
          · refine zz (fun _ _ => lv_iconst (v := 0) hx hb dX9_template_137 (by decide)) ?_
            exact z_iret C hr hlk dX9_template_138 (by simp only [zd, fX9_template, if_neg c_1, if_pos c_4, and_self])
      · refine zz (fun _ _ => lv_iload hx hb dX9_template_40 (lv_at hl 0 rfl)) ?_
        refine zbn (fun _ _ => lv_if_ne (tgt := 50) hx hb dX9_template_42 (by decide)) (fun c_7 => ?_) (fun c_7 => ?_)
        · refine zz (fun _ _ => lv_iload hx hb dX9_template_50 (lv_at hl 0 rfl)) ?_
          refine zz (fun _ _ => lv_iconst (v := 1) hx hb dX9_template_52 (by decide)) ?_
          refine zbn (fun _ _ => lv_icmp_ne (tgt := 61) hx hb dX9_template_53 (by decide)) (fun c_8 => ?_) (fun c_8 => ?_)
          · refine zz (fun _ _ => lv_iload_n hx hb dX9_template_61 rfl (lv_at hl 3 rfl)) ?_
            refine zz (fun _ _ => lv_iload hx hb dX9_template_62 (lv_at hl 0 rfl)) ?_
            refine zz (fun _ _ => lv_iload hx hb dX9_template_64 (lv_at hl 6 rfl)) ?_
            refine zdS (As := [.int (b_), .int (A 1 (Int32.toNatClampNeg (a_))), .int (e_)]) (rest := []) (st' := [.int ((fX9_mayStand b_ (A 1 (Int32.toNatClampNeg (a_))) e_))]) C hl.1 lk_X9_156 (ctX9_mayStand) rfl rfl (Nat.le_of_ble_eq_true rfl) ⟨by decide, by decide, by decide, by decide⟩ dX9_template_66 rfl (fun sz => ?_)
            refine zb (fun _ _ => lv_if_eq (tgt := 98) hx hb dX9_template_69 (by decide)) (fun c_9 => ?_) (fun c_9 => ?_)
            · refine zz (fun _ _ => lv_iconst (v := 0) hx hb dX9_template_98 (by decide)) ?_
              refine zs (fun _ _ => lv_istore (lv' := [(7, .int (0)), (6, .int (A 1 (Int32.toNatClampNeg (a_)))), (0, .ref (r)), (1, .int (a_)), (2, .int (b_)), (3, .int (c_)), (4, .int (d_)), (5, .int (e_))]) hx hb dX9_template_99 hl (by decide) rfl) (fun ls hl => ?_)
              refine zz (fun _ _ => lv_aload_n hx hb dX9_template_101 rfl (lv_at hl 2 rfl)) ?_
              refine zz (fun _ _ => lv_iload hx hb dX9_template_102 (lv_at hl 0 rfl)) ?_
              refine zbn (fun _ _ => lv_if_ne (tgt := 111) hx hb dX9_template_104 (by decide)) (fun c_10 => ?_) (fun c_10 => ?_)
              · exact absurd (by decide) c_10
              · refine zz (fun _ _ => lv_iconst (v := 2) hx hb dX9_template_107 (by decide)) ?_
                refine zz (fun _ _ => lv_goto (tgt := 127) hx hb dX9_template_108 (by decide)) ?_
                refine z_put C fp_X9_129 (fun h => by cases h) rm_0 (Nat.le_of_ble_eq_true rfl) rfl rfl dX9_template_127 ?_
                refine zeq wm_f0 ?_
                refine zeq (M' := (mm aC r (upd v 0 2) A R)) (by rw [upd_upd]) ?_
                refine zz (fun _ _ => lv_aload_n hx hb dX9_template_130 rfl (lv_at hl 2 rfl)) ?_
                refine z_get (v := .int (2)) C fd_X9_129 rm_0 rfl dX9_template_131 ?_
                refine zb (fun _ _ => lv_if_le (tgt := 139) hx hb dX9_template_134 (by decide)) (fun c_11 => ?_) (fun c_11 => ?_)
                · exact absurd c_11 (by decide)
                · refine zz (fun _ _ => lv_iconst (v := 0) hx hb dX9_template_137 (by decide)) ?_
                  exact z_iret C hr hlk dX9_template_138 (by simp only [zd, fX9_template, if_neg c_1, if_neg c_4, if_neg c_7, if_neg c_8, if_pos c_9, and_self])
            · refine zz (fun _ _ => lv_iload_n hx hb dX9_template_72 rfl (lv_at hl 4 rfl)) ?_
              refine zz (fun _ _ => lv_iload hx hb dX9_template_73 (lv_at hl 0 rfl)) ?_
              refine zz (fun _ _ => lv_iconst (v := 0) hx hb dX9_template_75 (by decide)) ?_
              refine zdS (As := [.int (c_), .int (A 1 (Int32.toNatClampNeg (a_))), .int (0)]) (rest := []) (st' := [.int ((fX9_mayStand c_ (A 1 (Int32.toNatClampNeg (a_))) 0))]) C hl.1 lk_X9_156 (ctX9_mayStand) rfl rfl (Nat.le_of_ble_eq_true rfl) ⟨by decide, by decide, by decide, by decide⟩ dX9_template_76 rfl (fun sz => ?_)
              refine zb (fun _ _ => lv_if_eq (tgt := 98) hx hb dX9_template_79 (by decide)) (fun c_12 => ?_) (fun c_12 => ?_)
              · refine zz (fun _ _ => lv_iconst (v := 0) hx hb dX9_template_98 (by decide)) ?_
                refine zs (fun _ _ => lv_istore (lv' := [(7, .int (0)), (6, .int (A 1 (Int32.toNatClampNeg (a_)))), (0, .ref (r)), (1, .int (a_)), (2, .int (b_)), (3, .int (c_)), (4, .int (d_)), (5, .int (e_))]) hx hb dX9_template_99 hl (by decide) rfl) (fun ls hl => ?_)
                refine zz (fun _ _ => lv_aload_n hx hb dX9_template_101 rfl (lv_at hl 2 rfl)) ?_
                refine zz (fun _ _ => lv_iload hx hb dX9_template_102 (lv_at hl 0 rfl)) ?_
                refine zbn (fun _ _ => lv_if_ne (tgt := 111) hx hb dX9_template_104 (by decide)) (fun c_13 => ?_) (fun c_13 => ?_)
                · exact absurd (by decide) c_13
                · refine zz (fun _ _ => lv_iconst (v := 2) hx hb dX9_template_107 (by decide)) ?_
                  refine zz (fun _ _ => lv_goto (tgt := 127) hx hb dX9_template_108 (by decide)) ?_
                  refine z_put C fp_X9_129 (fun h => by cases h) rm_0 (Nat.le_of_ble_eq_true rfl) rfl rfl dX9_template_127 ?_
                  refine zeq wm_f0 ?_
                  refine zeq (M' := (mm aC r (upd v 0 2) A R)) (by rw [upd_upd]) ?_
                  refine zz (fun _ _ => lv_aload_n hx hb dX9_template_130 rfl (lv_at hl 2 rfl)) ?_
                  refine z_get (v := .int (2)) C fd_X9_129 rm_0 rfl dX9_template_131 ?_
                  refine zb (fun _ _ => lv_if_le (tgt := 139) hx hb dX9_template_134 (by decide)) (fun c_14 => ?_) (fun c_14 => ?_)
                  · exact absurd c_14 (by decide)
                  · refine zz (fun _ _ => lv_iconst (v := 0) hx hb dX9_template_137 (by decide)) ?_
                    exact z_iret C hr hlk dX9_template_138 (by simp only [zd, fX9_template, if_neg c_1, if_neg c_4, if_neg c_7, if_neg c_8, if_neg c_9, if_pos c_12, and_self])
              · refine zz (fun _ _ => lv_iload hx hb dX9_template_82 (lv_at hl 5 rfl)) ?_
                refine zz (fun _ _ => lv_iload hx hb dX9_template_84 (lv_at hl 0 rfl)) ?_
                refine zz (fun _ _ => lv_iload hx hb dX9_template_86 (lv_at hl 6 rfl)) ?_
                refine zdS (As := [.int (d_), .int (A 1 (Int32.toNatClampNeg (a_))), .int (e_)]) (rest := []) (st' := [.int ((fX9_mayStand d_ (A 1 (Int32.toNatClampNeg (a_))) e_))]) C hl.1 lk_X9_156 (ctX9_mayStand) rfl rfl (Nat.le_of_ble_eq_true rfl) ⟨by decide, by decide, by decide, by decide⟩ dX9_template_88 rfl (fun sz => ?_)
                refine zb (fun _ _ => lv_if_eq (tgt := 98) hx hb dX9_template_91 (by decide)) (fun c_15 => ?_) (fun c_15 => ?_)
                · refine zz (fun _ _ => lv_iconst (v := 0) hx hb dX9_template_98 (by decide)) ?_
                  refine zs (fun _ _ => lv_istore (lv' := [(7, .int (0)), (6, .int (A 1 (Int32.toNatClampNeg (a_)))), (0, .ref (r)), (1, .int (a_)), (2, .int (b_)), (3, .int (c_)), (4, .int (d_)), (5, .int (e_))]) hx hb dX9_template_99 hl (by decide) rfl) (fun ls hl => ?_)
                  refine zz (fun _ _ => lv_aload_n hx hb dX9_template_101 rfl (lv_at hl 2 rfl)) ?_
                  refine zz (fun _ _ => lv_iload hx hb dX9_template_102 (lv_at hl 0 rfl)) ?_
                  refine zbn (fun _ _ => lv_if_ne (tgt := 111) hx hb dX9_template_104 (by decide)) (fun c_16 => ?_) (fun c_16 => ?_)
                  · exact absurd (by decide) c_16
                  · refine zz (fun _ _ => lv_iconst (v := 2) hx hb dX9_template_107 (by decide)) ?_
                    refine zz (fun _ _ => lv_goto (tgt := 127) hx hb dX9_template_108 (by decide)) ?_
                    refine z_put C fp_X9_129 (fun h => by cases h) rm_0 (Nat.le_of_ble_eq_true rfl) rfl rfl dX9_template_127 ?_
                    refine zeq wm_f0 ?_
                    refine zeq (M' := (mm aC r (upd v 0 2) A R)) (by rw [upd_upd]) ?_
                    refine zz (fun _ _ => lv_aload_n hx hb dX9_template_130 rfl (lv_at hl 2 rfl)) ?_
                    refine z_get (v := .int (2)) C fd_X9_129 rm_0 rfl dX9_template_131 ?_
                    refine zb (fun _ _ => lv_if_le (tgt := 139) hx hb dX9_template_134 (by decide)) (fun c_17 => ?_) (fun c_17 => ?_)
                    · exact absurd c_17 (by decide)
                    · refine zz (fun _ _ => lv_iconst (v := 0) hx hb dX9_template_137 (by decide)) ?_
                      exact z_iret C hr hlk dX9_template_138 (by simp only [zd, fX9_template, if_neg c_1, if_neg c_4, if_neg c_7, if_neg c_8, if_neg c_9, if_neg c_12, if_pos c_15, and_self])
                · refine zz (fun _ _ => lv_iconst (v := 1) hx hb dX9_template_94 (by decide)) ?_
                  refine zz (fun _ _ => lv_goto (tgt := 99) hx hb dX9_template_95 (by decide)) ?_
                  refine zs (fun _ _ => lv_istore (lv' := [(7, .int (1)), (6, .int (A 1 (Int32.toNatClampNeg (a_)))), (0, .ref (r)), (1, .int (a_)), (2, .int (b_)), (3, .int (c_)), (4, .int (d_)), (5, .int (e_))]) hx hb dX9_template_99 hl (by decide) rfl) (fun ls hl => ?_)
                  refine zz (fun _ _ => lv_aload_n hx hb dX9_template_101 rfl (lv_at hl 2 rfl)) ?_
                  refine zz (fun _ _ => lv_iload hx hb dX9_template_102 (lv_at hl 0 rfl)) ?_
                  refine zbn (fun _ _ => lv_if_ne (tgt := 111) hx hb dX9_template_104 (by decide)) (fun c_18 => ?_) (fun c_18 => ?_)
                  · refine zz (fun _ _ => lv_aload_n hx hb dX9_template_111 rfl (lv_at hl 2 rfl)) ?_
                    refine z_get (v := .ref (r + 5)) C fd_X9_23 rm_0 rfl dX9_template_112 ?_
                    refine zz (fun _ _ => lv_iload_n hx hb dX9_template_115 rfl (lv_at hl 3 rfl)) ?_
                    refine z_iald (f := A 5) C rm_5 (isStep_in c_1 hs hn (by decide)) dX9_template_116 ?_
                    refine zz (fun _ _ => lv_bipush (v := 6) hx hb dX9_template_117 (by decide)) ?_
                    refine zbn (fun _ _ => lv_icmp_ne (tgt := 126) hx hb dX9_template_119 (by decide)) (fun c_19 => ?_) (fun c_19 => ?_)
                    · refine zz (fun _ _ => lv_iconst (v := 0) hx hb dX9_template_126 (by decide)) ?_
                      refine z_put C fp_X9_129 (fun h => by cases h) rm_0 (Nat.le_of_ble_eq_true rfl) rfl rfl dX9_template_127 ?_
                      refine zeq wm_f0 ?_
                      refine zeq (M' := (mm aC r (upd v 0 0) A R)) (by rw [upd_upd]) ?_
                      refine zz (fun _ _ => lv_aload_n hx hb dX9_template_130 rfl (lv_at hl 2 rfl)) ?_
                      refine z_get (v := .int (0)) C fd_X9_129 rm_0 rfl dX9_template_131 ?_
                      refine zb (fun _ _ => lv_if_le (tgt := 139) hx hb dX9_template_134 (by decide)) (fun c_20 => ?_) (fun c_20 => ?_)
                      · refine zz (fun _ _ => lv_bipush (v := 6) hx hb dX9_template_139 (by decide)) ?_
                        refine zz (fun _ _ => lv_iload_n hx hb dX9_template_141 rfl (lv_at hl 3 rfl)) ?_
                        refine zz (fun _ _ => lv_imul hx hb dX9_template_142) ?_
                        refine zz (fun _ _ => lv_aload_n hx hb dX9_template_143 rfl (lv_at hl 2 rfl)) ?_
                        refine z_get (v := .ref (r + 5)) C fd_X9_23 rm_0 rfl dX9_template_144 ?_
                        refine zz (fun _ _ => lv_iload_n hx hb dX9_template_147 rfl (lv_at hl 3 rfl)) ?_
                        refine z_iald (f := A 5) C rm_5 (isStep_in c_1 hs hn (by decide)) dX9_template_148 ?_
                        refine zz (fun _ _ => lv_iadd hx hb dX9_template_149) ?_
                        refine zs (fun _ _ => lv_istore (lv' := [(8, .int (((6) * (a_)) + (A 5 (Int32.toNatClampNeg (a_))))), (7, .int (1)), (6, .int (A 1 (Int32.toNatClampNeg (a_)))), (0, .ref (r)), (1, .int (a_)), (2, .int (b_)), (3, .int (c_)), (4, .int (d_)), (5, .int (e_))]) hx hb dX9_template_150 hl (by decide) rfl) (fun ls hl => ?_)
                        refine zz (fun _ _ => lv_aload_n hx hb dX9_template_152 rfl (lv_at hl 3 rfl)) ?_
                        refine z_get (v := .ref (r + 6)) C fd_X9_26 rm_0 rfl dX9_template_153 ?_
                        refine zz (fun _ _ => lv_iload hx hb dX9_template_156 (lv_at hl 0 rfl)) ?_
                        refine zz (fun _ _ => lv_iload_n hx hb dX9_template_158 rfl (lv_at hl 5 rfl)) ?_
                        refine z_iast (f := A 6) C rm_6 (ixm 6 (isStep_in c_1 hs hn (by decide)) hT c_19 rfl (by decide) (by decide)) dX9_template_159 ?_
                        refine zeq wm_6 ?_
                        refine zz (fun _ _ => lv_aload_n hx hb dX9_template_160 rfl (lv_at hl 3 rfl)) ?_
                        refine z_get (v := .ref (r + 7)) C fd_X9_29 rm_0 rfl dX9_template_161 ?_
                        refine zz (fun _ _ => lv_iload hx hb dX9_template_164 (lv_at hl 0 rfl)) ?_
                        refine zz (fun _ _ => lv_iload_n hx hb dX9_template_166 rfl (lv_at hl 6 rfl)) ?_
                        refine z_iast (f := A 7) C rm_7 (ixm 6 (isStep_in c_1 hs hn (by decide)) hT c_19 rfl (by decide) (by decide)) dX9_template_167 ?_
                        refine zeq wm_7 ?_
                        refine zz (fun _ _ => lv_aload_n hx hb dX9_template_168 rfl (lv_at hl 3 rfl)) ?_
                        refine z_get (v := .ref (r + 8)) C fd_X9_32 rm_0 rfl dX9_template_169 ?_
                        refine zz (fun _ _ => lv_iload hx hb dX9_template_172 (lv_at hl 0 rfl)) ?_
                        refine zz (fun _ _ => lv_iload hx hb dX9_template_174 (lv_at hl 7 rfl)) ?_
                        refine z_iast (f := A 8) C rm_8 (ixm 6 (isStep_in c_1 hs hn (by decide)) hT c_19 rfl (by decide) (by decide)) dX9_template_176 ?_
                        refine zeq wm_8 ?_
                        refine zz (fun _ _ => lv_aload_n hx hb dX9_template_177 rfl (lv_at hl 3 rfl)) ?_
                        refine z_get (v := .ref (r + 9)) C fd_X9_35 rm_0 rfl dX9_template_178 ?_
                        refine zz (fun _ _ => lv_iload hx hb dX9_template_181 (lv_at hl 0 rfl)) ?_
                        refine zz (fun _ _ => lv_iload hx hb dX9_template_183 (lv_at hl 8 rfl)) ?_
                        refine z_zast (f := A 9) C rm_9 (ixm 6 (isStep_in c_1 hs hn (by decide)) hT c_19 rfl (by decide) (by decide)) (bz hbb) dX9_template_185 ?_
                        refine zeq wm_9 ?_
                        refine zz (fun _ _ => lv_aload_n hx hb dX9_template_186 rfl (lv_at hl 3 rfl)) ?_
                        refine z_get (v := .ref (r + 5)) C fd_X9_23 rm_0 rfl dX9_template_187 ?_
                        refine zz (fun _ _ => lv_iload_n hx hb dX9_template_190 rfl (lv_at hl 4 rfl)) ?_
                        refine zz (fun _ _ => lv_dup2_11 hx hb dX9_template_191 rfl rfl) ?_
                        refine z_iald (f := A 5) C rm_5 (isStep_in c_1 hs hn (by decide)) dX9_template_192 ?_
                        refine zz (fun _ _ => lv_iconst (v := 1) hx hb dX9_template_193 (by decide)) ?_
                        refine zz (fun _ _ => lv_iadd hx hb dX9_template_194) ?_
                        refine z_iast (f := A 5) C rm_5 (isStep_in c_1 hs hn (by decide)) dX9_template_195 ?_
                        refine zeq wm_5 ?_
                        refine zz (fun _ _ => lv_aload_n hx hb dX9_template_196 rfl (lv_at hl 3 rfl)) ?_
                        refine z_get (v := .ref (r + 5)) C fd_X9_23 rm_0 rfl dX9_template_197 ?_
                        refine zz (fun _ _ => lv_iload_n hx hb dX9_template_200 rfl (lv_at hl 4 rfl)) ?_
                        refine z_iald (f := (upd (A 5) (Int32.toNatClampNeg (a_)) ((A 5 (Int32.toNatClampNeg (a_))) + (1)))) C rm_5 (isStep_in c_1 hs hn (by decide)) dX9_template_201 ?_
                        exact z_iret C hr hlk dX9_template_202 (by simp only [zd, fX9_template, if_neg c_1, if_neg c_4, if_neg c_7, if_neg c_8, if_neg c_9, if_neg c_12, if_neg c_15, if_neg c_19, and_self])
                      · exact absurd (by decide) c_20
                    · refine zz (fun _ _ => lv_iconst (v := 3) hx hb dX9_template_122 (by decide)) ?_
                      refine zz (fun _ _ => lv_goto (tgt := 127) hx hb dX9_template_123 (by decide)) ?_
                      refine z_put C fp_X9_129 (fun h => by cases h) rm_0 (Nat.le_of_ble_eq_true rfl) rfl rfl dX9_template_127 ?_
                      refine zeq wm_f0 ?_
                      refine zeq (M' := (mm aC r (upd v 0 3) A R)) (by rw [upd_upd]) ?_
                      refine zz (fun _ _ => lv_aload_n hx hb dX9_template_130 rfl (lv_at hl 2 rfl)) ?_
                      refine z_get (v := .int (3)) C fd_X9_129 rm_0 rfl dX9_template_131 ?_
                      refine zb (fun _ _ => lv_if_le (tgt := 139) hx hb dX9_template_134 (by decide)) (fun c_21 => ?_) (fun c_21 => ?_)
                      · exact absurd c_21 (by decide)
                      · refine zz (fun _ _ => lv_iconst (v := 0) hx hb dX9_template_137 (by decide)) ?_
                        exact z_iret C hr hlk dX9_template_138 (by simp only [zd, fX9_template, if_neg c_1, if_neg c_4, if_neg c_7, if_neg c_8, if_neg c_9, if_neg c_12, if_neg c_15, if_pos c_19, and_self])
                  · exact absurd c_18 (by decide)
          · refine zz (fun _ _ => lv_iload hx hb dX9_template_56 (lv_at hl 6 rfl)) ?_
            refine zbn (fun _ _ => lv_if_ne (tgt := 98) hx hb dX9_template_58 (by decide)) (fun c_22 => ?_) (fun c_22 => ?_)
            · refine zz (fun _ _ => lv_iconst (v := 0) hx hb dX9_template_98 (by decide)) ?_
              refine zs (fun _ _ => lv_istore (lv' := [(7, .int (0)), (6, .int (A 1 (Int32.toNatClampNeg (a_)))), (0, .ref (r)), (1, .int (a_)), (2, .int (b_)), (3, .int (c_)), (4, .int (d_)), (5, .int (e_))]) hx hb dX9_template_99 hl (by decide) rfl) (fun ls hl => ?_)
              refine zz (fun _ _ => lv_aload_n hx hb dX9_template_101 rfl (lv_at hl 2 rfl)) ?_
              refine zz (fun _ _ => lv_iload hx hb dX9_template_102 (lv_at hl 0 rfl)) ?_
              refine zbn (fun _ _ => lv_if_ne (tgt := 111) hx hb dX9_template_104 (by decide)) (fun c_23 => ?_) (fun c_23 => ?_)
              · exact absurd (by decide) c_23
              · refine zz (fun _ _ => lv_iconst (v := 2) hx hb dX9_template_107 (by decide)) ?_
                refine zz (fun _ _ => lv_goto (tgt := 127) hx hb dX9_template_108 (by decide)) ?_
                refine z_put C fp_X9_129 (fun h => by cases h) rm_0 (Nat.le_of_ble_eq_true rfl) rfl rfl dX9_template_127 ?_
                refine zeq wm_f0 ?_
                refine zeq (M' := (mm aC r (upd v 0 2) A R)) (by rw [upd_upd]) ?_
                refine zz (fun _ _ => lv_aload_n hx hb dX9_template_130 rfl (lv_at hl 2 rfl)) ?_
                refine z_get (v := .int (2)) C fd_X9_129 rm_0 rfl dX9_template_131 ?_
                refine zb (fun _ _ => lv_if_le (tgt := 139) hx hb dX9_template_134 (by decide)) (fun c_24 => ?_) (fun c_24 => ?_)
                · exact absurd c_24 (by decide)
                · refine zz (fun _ _ => lv_iconst (v := 0) hx hb dX9_template_137 (by decide)) ?_
                  exact z_iret C hr hlk dX9_template_138 (by simp only [zd, fX9_template, if_neg c_1, if_neg c_4, if_neg c_7, if_pos c_8, if_neg c_22, and_self])
            · refine zz (fun _ _ => lv_iload_n hx hb dX9_template_61 rfl (lv_at hl 3 rfl)) ?_
              refine zz (fun _ _ => lv_iload hx hb dX9_template_62 (lv_at hl 0 rfl)) ?_
              refine zz (fun _ _ => lv_iload hx hb dX9_template_64 (lv_at hl 6 rfl)) ?_
              refine zdS (As := [.int (b_), .int (A 1 (Int32.toNatClampNeg (a_))), .int (e_)]) (rest := []) (st' := [.int ((fX9_mayStand b_ (A 1 (Int32.toNatClampNeg (a_))) e_))]) C hl.1 lk_X9_156 (ctX9_mayStand) rfl rfl (Nat.le_of_ble_eq_true rfl) ⟨by decide, by decide, by decide, by decide⟩ dX9_template_66 rfl (fun sz => ?_)
              refine zb (fun _ _ => lv_if_eq (tgt := 98) hx hb dX9_template_69 (by decide)) (fun c_25 => ?_) (fun c_25 => ?_)
              · refine zz (fun _ _ => lv_iconst (v := 0) hx hb dX9_template_98 (by decide)) ?_
                refine zs (fun _ _ => lv_istore (lv' := [(7, .int (0)), (6, .int (A 1 (Int32.toNatClampNeg (a_)))), (0, .ref (r)), (1, .int (a_)), (2, .int (b_)), (3, .int (c_)), (4, .int (d_)), (5, .int (e_))]) hx hb dX9_template_99 hl (by decide) rfl) (fun ls hl => ?_)
                refine zz (fun _ _ => lv_aload_n hx hb dX9_template_101 rfl (lv_at hl 2 rfl)) ?_
                refine zz (fun _ _ => lv_iload hx hb dX9_template_102 (lv_at hl 0 rfl)) ?_
                refine zbn (fun _ _ => lv_if_ne (tgt := 111) hx hb dX9_template_104 (by decide)) (fun c_26 => ?_) (fun c_26 => ?_)
                · exact absurd (by decide) c_26
                · refine zz (fun _ _ => lv_iconst (v := 2) hx hb dX9_template_107 (by decide)) ?_
                  refine zz (fun _ _ => lv_goto (tgt := 127) hx hb dX9_template_108 (by decide)) ?_
                  refine z_put C fp_X9_129 (fun h => by cases h) rm_0 (Nat.le_of_ble_eq_true rfl) rfl rfl dX9_template_127 ?_
                  refine zeq wm_f0 ?_
                  refine zeq (M' := (mm aC r (upd v 0 2) A R)) (by rw [upd_upd]) ?_
                  refine zz (fun _ _ => lv_aload_n hx hb dX9_template_130 rfl (lv_at hl 2 rfl)) ?_
                  refine z_get (v := .int (2)) C fd_X9_129 rm_0 rfl dX9_template_131 ?_
                  refine zb (fun _ _ => lv_if_le (tgt := 139) hx hb dX9_template_134 (by decide)) (fun c_27 => ?_) (fun c_27 => ?_)
                  · exact absurd c_27 (by decide)
                  · refine zz (fun _ _ => lv_iconst (v := 0) hx hb dX9_template_137 (by decide)) ?_
                    exact z_iret C hr hlk dX9_template_138 (by simp only [zd, fX9_template, if_neg c_1, if_neg c_4, if_neg c_7, if_pos c_8, if_pos c_22, if_pos c_25, and_self])
              · refine zz (fun _ _ => lv_iload_n hx hb dX9_template_72 rfl (lv_at hl 4 rfl)) ?_
                refine zz (fun _ _ => lv_iload hx hb dX9_template_73 (lv_at hl 0 rfl)) ?_
                refine zz (fun _ _ => lv_iconst (v := 0) hx hb dX9_template_75 (by decide)) ?_
                refine zdS (As := [.int (c_), .int (A 1 (Int32.toNatClampNeg (a_))), .int (0)]) (rest := []) (st' := [.int ((fX9_mayStand c_ (A 1 (Int32.toNatClampNeg (a_))) 0))]) C hl.1 lk_X9_156 (ctX9_mayStand) rfl rfl (Nat.le_of_ble_eq_true rfl) ⟨by decide, by decide, by decide, by decide⟩ dX9_template_76 rfl (fun sz => ?_)
                refine zb (fun _ _ => lv_if_eq (tgt := 98) hx hb dX9_template_79 (by decide)) (fun c_28 => ?_) (fun c_28 => ?_)
                · refine zz (fun _ _ => lv_iconst (v := 0) hx hb dX9_template_98 (by decide)) ?_
                  refine zs (fun _ _ => lv_istore (lv' := [(7, .int (0)), (6, .int (A 1 (Int32.toNatClampNeg (a_)))), (0, .ref (r)), (1, .int (a_)), (2, .int (b_)), (3, .int (c_)), (4, .int (d_)), (5, .int (e_))]) hx hb dX9_template_99 hl (by decide) rfl) (fun ls hl => ?_)
                  refine zz (fun _ _ => lv_aload_n hx hb dX9_template_101 rfl (lv_at hl 2 rfl)) ?_
                  refine zz (fun _ _ => lv_iload hx hb dX9_template_102 (lv_at hl 0 rfl)) ?_
                  refine zbn (fun _ _ => lv_if_ne (tgt := 111) hx hb dX9_template_104 (by decide)) (fun c_29 => ?_) (fun c_29 => ?_)
                  · exact absurd (by decide) c_29
                  · refine zz (fun _ _ => lv_iconst (v := 2) hx hb dX9_template_107 (by decide)) ?_
                    refine zz (fun _ _ => lv_goto (tgt := 127) hx hb dX9_template_108 (by decide)) ?_
                    refine z_put C fp_X9_129 (fun h => by cases h) rm_0 (Nat.le_of_ble_eq_true rfl) rfl rfl dX9_template_127 ?_
                    refine zeq wm_f0 ?_
                    refine zeq (M' := (mm aC r (upd v 0 2) A R)) (by rw [upd_upd]) ?_
                    refine zz (fun _ _ => lv_aload_n hx hb dX9_template_130 rfl (lv_at hl 2 rfl)) ?_
                    refine z_get (v := .int (2)) C fd_X9_129 rm_0 rfl dX9_template_131 ?_
                    refine zb (fun _ _ => lv_if_le (tgt := 139) hx hb dX9_template_134 (by decide)) (fun c_30 => ?_) (fun c_30 => ?_)
                    · exact absurd c_30 (by decide)
                    · refine zz (fun _ _ => lv_iconst (v := 0) hx hb dX9_template_137 (by decide)) ?_
                      exact z_iret C hr hlk dX9_template_138 (by simp only [zd, fX9_template, if_neg c_1, if_neg c_4, if_neg c_7, if_pos c_8, if_pos c_22, if_neg c_25, if_pos c_28, and_self])
                · refine zz (fun _ _ => lv_iload hx hb dX9_template_82 (lv_at hl 5 rfl)) ?_
                  refine zz (fun _ _ => lv_iload hx hb dX9_template_84 (lv_at hl 0 rfl)) ?_
                  refine zz (fun _ _ => lv_iload hx hb dX9_template_86 (lv_at hl 6 rfl)) ?_
                  refine zdS (As := [.int (d_), .int (A 1 (Int32.toNatClampNeg (a_))), .int (e_)]) (rest := []) (st' := [.int ((fX9_mayStand d_ (A 1 (Int32.toNatClampNeg (a_))) e_))]) C hl.1 lk_X9_156 (ctX9_mayStand) rfl rfl (Nat.le_of_ble_eq_true rfl) ⟨by decide, by decide, by decide, by decide⟩ dX9_template_88 rfl (fun sz => ?_)
                  refine zb (fun _ _ => lv_if_eq (tgt := 98) hx hb dX9_template_91 (by decide)) (fun c_31 => ?_) (fun c_31 => ?_)
                  · refine zz (fun _ _ => lv_iconst (v := 0) hx hb dX9_template_98 (by decide)) ?_
                    refine zs (fun _ _ => lv_istore (lv' := [(7, .int (0)), (6, .int (A 1 (Int32.toNatClampNeg (a_)))), (0, .ref (r)), (1, .int (a_)), (2, .int (b_)), (3, .int (c_)), (4, .int (d_)), (5, .int (e_))]) hx hb dX9_template_99 hl (by decide) rfl) (fun ls hl => ?_)
                    refine zz (fun _ _ => lv_aload_n hx hb dX9_template_101 rfl (lv_at hl 2 rfl)) ?_
                    refine zz (fun _ _ => lv_iload hx hb dX9_template_102 (lv_at hl 0 rfl)) ?_
                    refine zbn (fun _ _ => lv_if_ne (tgt := 111) hx hb dX9_template_104 (by decide)) (fun c_32 => ?_) (fun c_32 => ?_)
                    · exact absurd (by decide) c_32
                    · refine zz (fun _ _ => lv_iconst (v := 2) hx hb dX9_template_107 (by decide)) ?_
                      refine zz (fun _ _ => lv_goto (tgt := 127) hx hb dX9_template_108 (by decide)) ?_
                      refine z_put C fp_X9_129 (fun h => by cases h) rm_0 (Nat.le_of_ble_eq_true rfl) rfl rfl dX9_template_127 ?_
                      refine zeq wm_f0 ?_
                      refine zeq (M' := (mm aC r (upd v 0 2) A R)) (by rw [upd_upd]) ?_
                      refine zz (fun _ _ => lv_aload_n hx hb dX9_template_130 rfl (lv_at hl 2 rfl)) ?_
                      refine z_get (v := .int (2)) C fd_X9_129 rm_0 rfl dX9_template_131 ?_
                      refine zb (fun _ _ => lv_if_le (tgt := 139) hx hb dX9_template_134 (by decide)) (fun c_33 => ?_) (fun c_33 => ?_)
                      · exact absurd c_33 (by decide)
                      · refine zz (fun _ _ => lv_iconst (v := 0) hx hb dX9_template_137 (by decide)) ?_
                        exact z_iret C hr hlk dX9_template_138 (by simp only [zd, fX9_template, if_neg c_1, if_neg c_4, if_neg c_7, if_pos c_8, if_pos c_22, if_neg c_25, if_neg c_28, if_pos c_31, and_self])
                  · refine zz (fun _ _ => lv_iconst (v := 1) hx hb dX9_template_94 (by decide)) ?_
                    refine zz (fun _ _ => lv_goto (tgt := 99) hx hb dX9_template_95 (by decide)) ?_
                    refine zs (fun _ _ => lv_istore (lv' := [(7, .int (1)), (6, .int (A 1 (Int32.toNatClampNeg (a_)))), (0, .ref (r)), (1, .int (a_)), (2, .int (b_)), (3, .int (c_)), (4, .int (d_)), (5, .int (e_))]) hx hb dX9_template_99 hl (by decide) rfl) (fun ls hl => ?_)
                    refine zz (fun _ _ => lv_aload_n hx hb dX9_template_101 rfl (lv_at hl 2 rfl)) ?_
                    refine zz (fun _ _ => lv_iload hx hb dX9_template_102 (lv_at hl 0 rfl)) ?_
                    refine zbn (fun _ _ => lv_if_ne (tgt := 111) hx hb dX9_template_104 (by decide)) (fun c_34 => ?_) (fun c_34 => ?_)
                    · refine zz (fun _ _ => lv_aload_n hx hb dX9_template_111 rfl (lv_at hl 2 rfl)) ?_
                      refine z_get (v := .ref (r + 5)) C fd_X9_23 rm_0 rfl dX9_template_112 ?_
                      refine zz (fun _ _ => lv_iload_n hx hb dX9_template_115 rfl (lv_at hl 3 rfl)) ?_
                      refine z_iald (f := A 5) C rm_5 (isStep_in c_1 hs hn (by decide)) dX9_template_116 ?_
                      refine zz (fun _ _ => lv_bipush (v := 6) hx hb dX9_template_117 (by decide)) ?_
                      refine zbn (fun _ _ => lv_icmp_ne (tgt := 126) hx hb dX9_template_119 (by decide)) (fun c_35 => ?_) (fun c_35 => ?_)
                      · refine zz (fun _ _ => lv_iconst (v := 0) hx hb dX9_template_126 (by decide)) ?_
                        refine z_put C fp_X9_129 (fun h => by cases h) rm_0 (Nat.le_of_ble_eq_true rfl) rfl rfl dX9_template_127 ?_
                        refine zeq wm_f0 ?_
                        refine zeq (M' := (mm aC r (upd v 0 0) A R)) (by rw [upd_upd]) ?_
                        refine zz (fun _ _ => lv_aload_n hx hb dX9_template_130 rfl (lv_at hl 2 rfl)) ?_
                        refine z_get (v := .int (0)) C fd_X9_129 rm_0 rfl dX9_template_131 ?_
                        refine zb (fun _ _ => lv_if_le (tgt := 139) hx hb dX9_template_134 (by decide)) (fun c_36 => ?_) (fun c_36 => ?_)
                        · refine zz (fun _ _ => lv_bipush (v := 6) hx hb dX9_template_139 (by decide)) ?_
                          refine zz (fun _ _ => lv_iload_n hx hb dX9_template_141 rfl (lv_at hl 3 rfl)) ?_
                          refine zz (fun _ _ => lv_imul hx hb dX9_template_142) ?_
                          refine zz (fun _ _ => lv_aload_n hx hb dX9_template_143 rfl (lv_at hl 2 rfl)) ?_
                          refine z_get (v := .ref (r + 5)) C fd_X9_23 rm_0 rfl dX9_template_144 ?_
                          refine zz (fun _ _ => lv_iload_n hx hb dX9_template_147 rfl (lv_at hl 3 rfl)) ?_
                          refine z_iald (f := A 5) C rm_5 (isStep_in c_1 hs hn (by decide)) dX9_template_148 ?_
                          refine zz (fun _ _ => lv_iadd hx hb dX9_template_149) ?_
                          refine zs (fun _ _ => lv_istore (lv' := [(8, .int (((6) * (a_)) + (A 5 (Int32.toNatClampNeg (a_))))), (7, .int (1)), (6, .int (A 1 (Int32.toNatClampNeg (a_)))), (0, .ref (r)), (1, .int (a_)), (2, .int (b_)), (3, .int (c_)), (4, .int (d_)), (5, .int (e_))]) hx hb dX9_template_150 hl (by decide) rfl) (fun ls hl => ?_)
                          refine zz (fun _ _ => lv_aload_n hx hb dX9_template_152 rfl (lv_at hl 3 rfl)) ?_
                          refine z_get (v := .ref (r + 6)) C fd_X9_26 rm_0 rfl dX9_template_153 ?_
                          refine zz (fun _ _ => lv_iload hx hb dX9_template_156 (lv_at hl 0 rfl)) ?_
                          refine zz (fun _ _ => lv_iload_n hx hb dX9_template_158 rfl (lv_at hl 5 rfl)) ?_
                          refine z_iast (f := A 6) C rm_6 (ixm 6 (isStep_in c_1 hs hn (by decide)) hT c_35 rfl (by decide) (by decide)) dX9_template_159 ?_
                          refine zeq wm_6 ?_
                          refine zz (fun _ _ => lv_aload_n hx hb dX9_template_160 rfl (lv_at hl 3 rfl)) ?_
                          refine z_get (v := .ref (r + 7)) C fd_X9_29 rm_0 rfl dX9_template_161 ?_
                          refine zz (fun _ _ => lv_iload hx hb dX9_template_164 (lv_at hl 0 rfl)) ?_
                          refine zz (fun _ _ => lv_iload_n hx hb dX9_template_166 rfl (lv_at hl 6 rfl)) ?_
                          refine z_iast (f := A 7) C rm_7 (ixm 6 (isStep_in c_1 hs hn (by decide)) hT c_35 rfl (by decide) (by decide)) dX9_template_167 ?_
                          refine zeq wm_7 ?_
                          refine zz (fun _ _ => lv_aload_n hx hb dX9_template_168 rfl (lv_at hl 3 rfl)) ?_
                          refine z_get (v := .ref (r + 8)) C fd_X9_32 rm_0 rfl dX9_template_169 ?_
                          refine zz (fun _ _ => lv_iload hx hb dX9_template_172 (lv_at hl 0 rfl)) ?_
                          refine zz (fun _ _ => lv_iload hx hb dX9_template_174 (lv_at hl 7 rfl)) ?_
                          refine z_iast (f := A 8) C rm_8 (ixm 6 (isStep_in c_1 hs hn (by decide)) hT c_35 rfl (by decide) (by decide)) dX9_template_176 ?_
                          refine zeq wm_8 ?_
                          refine zz (fun _ _ => lv_aload_n hx hb dX9_template_177 rfl (lv_at hl 3 rfl)) ?_
                          refine z_get (v := .ref (r + 9)) C fd_X9_35 rm_0 rfl dX9_template_178 ?_
                          refine zz (fun _ _ => lv_iload hx hb dX9_template_181 (lv_at hl 0 rfl)) ?_
                          refine zz (fun _ _ => lv_iload hx hb dX9_template_183 (lv_at hl 8 rfl)) ?_
                          refine z_zast (f := A 9) C rm_9 (ixm 6 (isStep_in c_1 hs hn (by decide)) hT c_35 rfl (by decide) (by decide)) (bz hbb) dX9_template_185 ?_
                          refine zeq wm_9 ?_
                          refine zz (fun _ _ => lv_aload_n hx hb dX9_template_186 rfl (lv_at hl 3 rfl)) ?_
                          refine z_get (v := .ref (r + 5)) C fd_X9_23 rm_0 rfl dX9_template_187 ?_
                          refine zz (fun _ _ => lv_iload_n hx hb dX9_template_190 rfl (lv_at hl 4 rfl)) ?_
                          refine zz (fun _ _ => lv_dup2_11 hx hb dX9_template_191 rfl rfl) ?_
                          refine z_iald (f := A 5) C rm_5 (isStep_in c_1 hs hn (by decide)) dX9_template_192 ?_
                          refine zz (fun _ _ => lv_iconst (v := 1) hx hb dX9_template_193 (by decide)) ?_
                          refine zz (fun _ _ => lv_iadd hx hb dX9_template_194) ?_
                          refine z_iast (f := A 5) C rm_5 (isStep_in c_1 hs hn (by decide)) dX9_template_195 ?_
                          refine zeq wm_5 ?_
                          refine zz (fun _ _ => lv_aload_n hx hb dX9_template_196 rfl (lv_at hl 3 rfl)) ?_
                          refine z_get (v := .ref (r + 5)) C fd_X9_23 rm_0 rfl dX9_template_197 ?_
                          refine zz (fun _ _ => lv_iload_n hx hb dX9_template_200 rfl (lv_at hl 4 rfl)) ?_
                          refine z_iald (f := (upd (A 5) (Int32.toNatClampNeg (a_)) ((A 5 (Int32.toNatClampNeg (a_))) + (1)))) C rm_5 (isStep_in c_1 hs hn (by decide)) dX9_template_201 ?_
                          exact z_iret C hr hlk dX9_template_202 (by simp only [zd, fX9_template, if_neg c_1, if_neg c_4, if_neg c_7, if_pos c_8, if_pos c_22, if_neg c_25, if_neg c_28, if_neg c_31, if_neg c_35, and_self])
                        · exact absurd (by decide) c_36
                      · refine zz (fun _ _ => lv_iconst (v := 3) hx hb dX9_template_122 (by decide)) ?_
                        refine zz (fun _ _ => lv_goto (tgt := 127) hx hb dX9_template_123 (by decide)) ?_
                        refine z_put C fp_X9_129 (fun h => by cases h) rm_0 (Nat.le_of_ble_eq_true rfl) rfl rfl dX9_template_127 ?_
                        refine zeq wm_f0 ?_
                        refine zeq (M' := (mm aC r (upd v 0 3) A R)) (by rw [upd_upd]) ?_
                        refine zz (fun _ _ => lv_aload_n hx hb dX9_template_130 rfl (lv_at hl 2 rfl)) ?_
                        refine z_get (v := .int (3)) C fd_X9_129 rm_0 rfl dX9_template_131 ?_
                        refine zb (fun _ _ => lv_if_le (tgt := 139) hx hb dX9_template_134 (by decide)) (fun c_37 => ?_) (fun c_37 => ?_)
                        · exact absurd c_37 (by decide)
                        · refine zz (fun _ _ => lv_iconst (v := 0) hx hb dX9_template_137 (by decide)) ?_
                          exact z_iret C hr hlk dX9_template_138 (by simp only [zd, fX9_template, if_neg c_1, if_neg c_4, if_neg c_7, if_pos c_8, if_pos c_22, if_neg c_25, if_neg c_28, if_neg c_31, if_pos c_35, and_self])
                    · exact absurd c_34 (by decide)
        · refine zz (fun _ _ => lv_iload hx hb dX9_template_45 (lv_at hl 6 rfl)) ?_
          refine zb (fun _ _ => lv_if_eq (tgt := 98) hx hb dX9_template_47 (by decide)) (fun c_38 => ?_) (fun c_38 => ?_)
          · refine zz (fun _ _ => lv_iconst (v := 0) hx hb dX9_template_98 (by decide)) ?_
            refine zs (fun _ _ => lv_istore (lv' := [(7, .int (0)), (6, .int (A 1 (Int32.toNatClampNeg (a_)))), (0, .ref (r)), (1, .int (a_)), (2, .int (b_)), (3, .int (c_)), (4, .int (d_)), (5, .int (e_))]) hx hb dX9_template_99 hl (by decide) rfl) (fun ls hl => ?_)
            refine zz (fun _ _ => lv_aload_n hx hb dX9_template_101 rfl (lv_at hl 2 rfl)) ?_
            refine zz (fun _ _ => lv_iload hx hb dX9_template_102 (lv_at hl 0 rfl)) ?_
            refine zbn (fun _ _ => lv_if_ne (tgt := 111) hx hb dX9_template_104 (by decide)) (fun c_39 => ?_) (fun c_39 => ?_)
            · exact absurd (by decide) c_39
            · refine zz (fun _ _ => lv_iconst (v := 2) hx hb dX9_template_107 (by decide)) ?_
              refine zz (fun _ _ => lv_goto (tgt := 127) hx hb dX9_template_108 (by decide)) ?_
              refine z_put C fp_X9_129 (fun h => by cases h) rm_0 (Nat.le_of_ble_eq_true rfl) rfl rfl dX9_template_127 ?_
              refine zeq wm_f0 ?_
              refine zeq (M' := (mm aC r (upd v 0 2) A R)) (by rw [upd_upd]) ?_
              refine zz (fun _ _ => lv_aload_n hx hb dX9_template_130 rfl (lv_at hl 2 rfl)) ?_
              refine z_get (v := .int (2)) C fd_X9_129 rm_0 rfl dX9_template_131 ?_
              refine zb (fun _ _ => lv_if_le (tgt := 139) hx hb dX9_template_134 (by decide)) (fun c_40 => ?_) (fun c_40 => ?_)
              · exact absurd c_40 (by decide)
              · refine zz (fun _ _ => lv_iconst (v := 0) hx hb dX9_template_137 (by decide)) ?_
                exact z_iret C hr hlk dX9_template_138 (by simp only [zd, fX9_template, if_neg c_1, if_neg c_4, if_pos c_7, if_pos c_38, and_self])
          · refine zz (fun _ _ => lv_iload hx hb dX9_template_50 (lv_at hl 0 rfl)) ?_
            refine zz (fun _ _ => lv_iconst (v := 1) hx hb dX9_template_52 (by decide)) ?_
            refine zbn (fun _ _ => lv_icmp_ne (tgt := 61) hx hb dX9_template_53 (by decide)) (fun c_41 => ?_) (fun c_41 => ?_)
            · refine zz (fun _ _ => lv_iload_n hx hb dX9_template_61 rfl (lv_at hl 3 rfl)) ?_
              refine zz (fun _ _ => lv_iload hx hb dX9_template_62 (lv_at hl 0 rfl)) ?_
              refine zz (fun _ _ => lv_iload hx hb dX9_template_64 (lv_at hl 6 rfl)) ?_
              refine zdS (As := [.int (b_), .int (A 1 (Int32.toNatClampNeg (a_))), .int (e_)]) (rest := []) (st' := [.int ((fX9_mayStand b_ (A 1 (Int32.toNatClampNeg (a_))) e_))]) C hl.1 lk_X9_156 (ctX9_mayStand) rfl rfl (Nat.le_of_ble_eq_true rfl) ⟨by decide, by decide, by decide, by decide⟩ dX9_template_66 rfl (fun sz => ?_)
              refine zb (fun _ _ => lv_if_eq (tgt := 98) hx hb dX9_template_69 (by decide)) (fun c_42 => ?_) (fun c_42 => ?_)
              · refine zz (fun _ _ => lv_iconst (v := 0) hx hb dX9_template_98 (by decide)) ?_
                refine zs (fun _ _ => lv_istore (lv' := [(7, .int (0)), (6, .int (A 1 (Int32.toNatClampNeg (a_)))), (0, .ref (r)), (1, .int (a_)), (2, .int (b_)), (3, .int (c_)), (4, .int (d_)), (5, .int (e_))]) hx hb dX9_template_99 hl (by decide) rfl) (fun ls hl => ?_)
                refine zz (fun _ _ => lv_aload_n hx hb dX9_template_101 rfl (lv_at hl 2 rfl)) ?_
                refine zz (fun _ _ => lv_iload hx hb dX9_template_102 (lv_at hl 0 rfl)) ?_
                refine zbn (fun _ _ => lv_if_ne (tgt := 111) hx hb dX9_template_104 (by decide)) (fun c_43 => ?_) (fun c_43 => ?_)
                · exact absurd (by decide) c_43
                · refine zz (fun _ _ => lv_iconst (v := 2) hx hb dX9_template_107 (by decide)) ?_
                  refine zz (fun _ _ => lv_goto (tgt := 127) hx hb dX9_template_108 (by decide)) ?_
                  refine z_put C fp_X9_129 (fun h => by cases h) rm_0 (Nat.le_of_ble_eq_true rfl) rfl rfl dX9_template_127 ?_
                  refine zeq wm_f0 ?_
                  refine zeq (M' := (mm aC r (upd v 0 2) A R)) (by rw [upd_upd]) ?_
                  refine zz (fun _ _ => lv_aload_n hx hb dX9_template_130 rfl (lv_at hl 2 rfl)) ?_
                  refine z_get (v := .int (2)) C fd_X9_129 rm_0 rfl dX9_template_131 ?_
                  refine zb (fun _ _ => lv_if_le (tgt := 139) hx hb dX9_template_134 (by decide)) (fun c_44 => ?_) (fun c_44 => ?_)
                  · exact absurd c_44 (by decide)
                  · refine zz (fun _ _ => lv_iconst (v := 0) hx hb dX9_template_137 (by decide)) ?_
                    exact z_iret C hr hlk dX9_template_138 (by simp only [zd, fX9_template, if_neg c_1, if_neg c_4, if_pos c_7, if_neg c_38, if_neg c_41, if_pos c_42, and_self])
              · refine zz (fun _ _ => lv_iload_n hx hb dX9_template_72 rfl (lv_at hl 4 rfl)) ?_
                refine zz (fun _ _ => lv_iload hx hb dX9_template_73 (lv_at hl 0 rfl)) ?_
                refine zz (fun _ _ => lv_iconst (v := 0) hx hb dX9_template_75 (by decide)) ?_
                refine zdS (As := [.int (c_), .int (A 1 (Int32.toNatClampNeg (a_))), .int (0)]) (rest := []) (st' := [.int ((fX9_mayStand c_ (A 1 (Int32.toNatClampNeg (a_))) 0))]) C hl.1 lk_X9_156 (ctX9_mayStand) rfl rfl (Nat.le_of_ble_eq_true rfl) ⟨by decide, by decide, by decide, by decide⟩ dX9_template_76 rfl (fun sz => ?_)
                refine zb (fun _ _ => lv_if_eq (tgt := 98) hx hb dX9_template_79 (by decide)) (fun c_45 => ?_) (fun c_45 => ?_)
                · refine zz (fun _ _ => lv_iconst (v := 0) hx hb dX9_template_98 (by decide)) ?_
                  refine zs (fun _ _ => lv_istore (lv' := [(7, .int (0)), (6, .int (A 1 (Int32.toNatClampNeg (a_)))), (0, .ref (r)), (1, .int (a_)), (2, .int (b_)), (3, .int (c_)), (4, .int (d_)), (5, .int (e_))]) hx hb dX9_template_99 hl (by decide) rfl) (fun ls hl => ?_)
                  refine zz (fun _ _ => lv_aload_n hx hb dX9_template_101 rfl (lv_at hl 2 rfl)) ?_
                  refine zz (fun _ _ => lv_iload hx hb dX9_template_102 (lv_at hl 0 rfl)) ?_
                  refine zbn (fun _ _ => lv_if_ne (tgt := 111) hx hb dX9_template_104 (by decide)) (fun c_46 => ?_) (fun c_46 => ?_)
                  · exact absurd (by decide) c_46
                  · refine zz (fun _ _ => lv_iconst (v := 2) hx hb dX9_template_107 (by decide)) ?_
                    refine zz (fun _ _ => lv_goto (tgt := 127) hx hb dX9_template_108 (by decide)) ?_
                    refine z_put C fp_X9_129 (fun h => by cases h) rm_0 (Nat.le_of_ble_eq_true rfl) rfl rfl dX9_template_127 ?_
                    refine zeq wm_f0 ?_
                    refine zeq (M' := (mm aC r (upd v 0 2) A R)) (by rw [upd_upd]) ?_
                    refine zz (fun _ _ => lv_aload_n hx hb dX9_template_130 rfl (lv_at hl 2 rfl)) ?_
                    refine z_get (v := .int (2)) C fd_X9_129 rm_0 rfl dX9_template_131 ?_
                    refine zb (fun _ _ => lv_if_le (tgt := 139) hx hb dX9_template_134 (by decide)) (fun c_47 => ?_) (fun c_47 => ?_)
                    · exact absurd c_47 (by decide)
                    · refine zz (fun _ _ => lv_iconst (v := 0) hx hb dX9_template_137 (by decide)) ?_
                      exact z_iret C hr hlk dX9_template_138 (by simp only [zd, fX9_template, if_neg c_1, if_neg c_4, if_pos c_7, if_neg c_38, if_neg c_41, if_neg c_42, if_pos c_45, and_self])
                · refine zz (fun _ _ => lv_iload hx hb dX9_template_82 (lv_at hl 5 rfl)) ?_
                  refine zz (fun _ _ => lv_iload hx hb dX9_template_84 (lv_at hl 0 rfl)) ?_
                  refine zz (fun _ _ => lv_iload hx hb dX9_template_86 (lv_at hl 6 rfl)) ?_
                  refine zdS (As := [.int (d_), .int (A 1 (Int32.toNatClampNeg (a_))), .int (e_)]) (rest := []) (st' := [.int ((fX9_mayStand d_ (A 1 (Int32.toNatClampNeg (a_))) e_))]) C hl.1 lk_X9_156 (ctX9_mayStand) rfl rfl (Nat.le_of_ble_eq_true rfl) ⟨by decide, by decide, by decide, by decide⟩ dX9_template_88 rfl (fun sz => ?_)
                  refine zb (fun _ _ => lv_if_eq (tgt := 98) hx hb dX9_template_91 (by decide)) (fun c_48 => ?_) (fun c_48 => ?_)
                  · refine zz (fun _ _ => lv_iconst (v := 0) hx hb dX9_template_98 (by decide)) ?_
                    refine zs (fun _ _ => lv_istore (lv' := [(7, .int (0)), (6, .int (A 1 (Int32.toNatClampNeg (a_)))), (0, .ref (r)), (1, .int (a_)), (2, .int (b_)), (3, .int (c_)), (4, .int (d_)), (5, .int (e_))]) hx hb dX9_template_99 hl (by decide) rfl) (fun ls hl => ?_)
                    refine zz (fun _ _ => lv_aload_n hx hb dX9_template_101 rfl (lv_at hl 2 rfl)) ?_
                    refine zz (fun _ _ => lv_iload hx hb dX9_template_102 (lv_at hl 0 rfl)) ?_
                    refine zbn (fun _ _ => lv_if_ne (tgt := 111) hx hb dX9_template_104 (by decide)) (fun c_49 => ?_) (fun c_49 => ?_)
                    · exact absurd (by decide) c_49
                    · refine zz (fun _ _ => lv_iconst (v := 2) hx hb dX9_template_107 (by decide)) ?_
                      refine zz (fun _ _ => lv_goto (tgt := 127) hx hb dX9_template_108 (by decide)) ?_
                      refine z_put C fp_X9_129 (fun h => by cases h) rm_0 (Nat.le_of_ble_eq_true rfl) rfl rfl dX9_template_127 ?_
                      refine zeq wm_f0 ?_
                      refine zeq (M' := (mm aC r (upd v 0 2) A R)) (by rw [upd_upd]) ?_
                      refine zz (fun _ _ => lv_aload_n hx hb dX9_template_130 rfl (lv_at hl 2 rfl)) ?_
                      refine z_get (v := .int (2)) C fd_X9_129 rm_0 rfl dX9_template_131 ?_
                      refine zb (fun _ _ => lv_if_le (tgt := 139) hx hb dX9_template_134 (by decide)) (fun c_50 => ?_) (fun c_50 => ?_)
                      · exact absurd c_50 (by decide)
                      · refine zz (fun _ _ => lv_iconst (v := 0) hx hb dX9_template_137 (by decide)) ?_
                        exact z_iret C hr hlk dX9_template_138 (by simp only [zd, fX9_template, if_neg c_1, if_neg c_4, if_pos c_7, if_neg c_38, if_neg c_41, if_neg c_42, if_neg c_45, if_pos c_48, and_self])
                  · refine zz (fun _ _ => lv_iconst (v := 1) hx hb dX9_template_94 (by decide)) ?_
                    refine zz (fun _ _ => lv_goto (tgt := 99) hx hb dX9_template_95 (by decide)) ?_
                    refine zs (fun _ _ => lv_istore (lv' := [(7, .int (1)), (6, .int (A 1 (Int32.toNatClampNeg (a_)))), (0, .ref (r)), (1, .int (a_)), (2, .int (b_)), (3, .int (c_)), (4, .int (d_)), (5, .int (e_))]) hx hb dX9_template_99 hl (by decide) rfl) (fun ls hl => ?_)
                    refine zz (fun _ _ => lv_aload_n hx hb dX9_template_101 rfl (lv_at hl 2 rfl)) ?_
                    refine zz (fun _ _ => lv_iload hx hb dX9_template_102 (lv_at hl 0 rfl)) ?_
                    refine zbn (fun _ _ => lv_if_ne (tgt := 111) hx hb dX9_template_104 (by decide)) (fun c_51 => ?_) (fun c_51 => ?_)
                    · refine zz (fun _ _ => lv_aload_n hx hb dX9_template_111 rfl (lv_at hl 2 rfl)) ?_
                      refine z_get (v := .ref (r + 5)) C fd_X9_23 rm_0 rfl dX9_template_112 ?_
                      refine zz (fun _ _ => lv_iload_n hx hb dX9_template_115 rfl (lv_at hl 3 rfl)) ?_
                      refine z_iald (f := A 5) C rm_5 (isStep_in c_1 hs hn (by decide)) dX9_template_116 ?_
                      refine zz (fun _ _ => lv_bipush (v := 6) hx hb dX9_template_117 (by decide)) ?_
                      refine zbn (fun _ _ => lv_icmp_ne (tgt := 126) hx hb dX9_template_119 (by decide)) (fun c_52 => ?_) (fun c_52 => ?_)
                      · refine zz (fun _ _ => lv_iconst (v := 0) hx hb dX9_template_126 (by decide)) ?_
                        refine z_put C fp_X9_129 (fun h => by cases h) rm_0 (Nat.le_of_ble_eq_true rfl) rfl rfl dX9_template_127 ?_
                        refine zeq wm_f0 ?_
                        refine zeq (M' := (mm aC r (upd v 0 0) A R)) (by rw [upd_upd]) ?_
                        refine zz (fun _ _ => lv_aload_n hx hb dX9_template_130 rfl (lv_at hl 2 rfl)) ?_
                        refine z_get (v := .int (0)) C fd_X9_129 rm_0 rfl dX9_template_131 ?_
                        refine zb (fun _ _ => lv_if_le (tgt := 139) hx hb dX9_template_134 (by decide)) (fun c_53 => ?_) (fun c_53 => ?_)
                        · refine zz (fun _ _ => lv_bipush (v := 6) hx hb dX9_template_139 (by decide)) ?_
                          refine zz (fun _ _ => lv_iload_n hx hb dX9_template_141 rfl (lv_at hl 3 rfl)) ?_
                          refine zz (fun _ _ => lv_imul hx hb dX9_template_142) ?_
                          refine zz (fun _ _ => lv_aload_n hx hb dX9_template_143 rfl (lv_at hl 2 rfl)) ?_
                          refine z_get (v := .ref (r + 5)) C fd_X9_23 rm_0 rfl dX9_template_144 ?_
                          refine zz (fun _ _ => lv_iload_n hx hb dX9_template_147 rfl (lv_at hl 3 rfl)) ?_
                          refine z_iald (f := A 5) C rm_5 (isStep_in c_1 hs hn (by decide)) dX9_template_148 ?_
                          refine zz (fun _ _ => lv_iadd hx hb dX9_template_149) ?_
                          refine zs (fun _ _ => lv_istore (lv' := [(8, .int (((6) * (a_)) + (A 5 (Int32.toNatClampNeg (a_))))), (7, .int (1)), (6, .int (A 1 (Int32.toNatClampNeg (a_)))), (0, .ref (r)), (1, .int (a_)), (2, .int (b_)), (3, .int (c_)), (4, .int (d_)), (5, .int (e_))]) hx hb dX9_template_150 hl (by decide) rfl) (fun ls hl => ?_)
                          refine zz (fun _ _ => lv_aload_n hx hb dX9_template_152 rfl (lv_at hl 3 rfl)) ?_
                          refine z_get (v := .ref (r + 6)) C fd_X9_26 rm_0 rfl dX9_template_153 ?_
                          refine zz (fun _ _ => lv_iload hx hb dX9_template_156 (lv_at hl 0 rfl)) ?_
                          refine zz (fun _ _ => lv_iload_n hx hb dX9_template_158 rfl (lv_at hl 5 rfl)) ?_
                          refine z_iast (f := A 6) C rm_6 (ixm 6 (isStep_in c_1 hs hn (by decide)) hT c_52 rfl (by decide) (by decide)) dX9_template_159 ?_
                          refine zeq wm_6 ?_
                          refine zz (fun _ _ => lv_aload_n hx hb dX9_template_160 rfl (lv_at hl 3 rfl)) ?_
                          refine z_get (v := .ref (r + 7)) C fd_X9_29 rm_0 rfl dX9_template_161 ?_
                          refine zz (fun _ _ => lv_iload hx hb dX9_template_164 (lv_at hl 0 rfl)) ?_
                          refine zz (fun _ _ => lv_iload_n hx hb dX9_template_166 rfl (lv_at hl 6 rfl)) ?_
                          refine z_iast (f := A 7) C rm_7 (ixm 6 (isStep_in c_1 hs hn (by decide)) hT c_52 rfl (by decide) (by decide)) dX9_template_167 ?_
                          refine zeq wm_7 ?_
                          refine zz (fun _ _ => lv_aload_n hx hb dX9_template_168 rfl (lv_at hl 3 rfl)) ?_
                          refine z_get (v := .ref (r + 8)) C fd_X9_32 rm_0 rfl dX9_template_169 ?_
                          refine zz (fun _ _ => lv_iload hx hb dX9_template_172 (lv_at hl 0 rfl)) ?_
                          refine zz (fun _ _ => lv_iload hx hb dX9_template_174 (lv_at hl 7 rfl)) ?_
                          refine z_iast (f := A 8) C rm_8 (ixm 6 (isStep_in c_1 hs hn (by decide)) hT c_52 rfl (by decide) (by decide)) dX9_template_176 ?_
                          refine zeq wm_8 ?_
                          refine zz (fun _ _ => lv_aload_n hx hb dX9_template_177 rfl (lv_at hl 3 rfl)) ?_
                          refine z_get (v := .ref (r + 9)) C fd_X9_35 rm_0 rfl dX9_template_178 ?_
                          refine zz (fun _ _ => lv_iload hx hb dX9_template_181 (lv_at hl 0 rfl)) ?_
                          refine zz (fun _ _ => lv_iload hx hb dX9_template_183 (lv_at hl 8 rfl)) ?_
                          refine z_zast (f := A 9) C rm_9 (ixm 6 (isStep_in c_1 hs hn (by decide)) hT c_52 rfl (by decide) (by decide)) (bz hbb) dX9_template_185 ?_
                          refine zeq wm_9 ?_
                          refine zz (fun _ _ => lv_aload_n hx hb dX9_template_186 rfl (lv_at hl 3 rfl)) ?_
                          refine z_get (v := .ref (r + 5)) C fd_X9_23 rm_0 rfl dX9_template_187 ?_
                          refine zz (fun _ _ => lv_iload_n hx hb dX9_template_190 rfl (lv_at hl 4 rfl)) ?_
                          refine zz (fun _ _ => lv_dup2_11 hx hb dX9_template_191 rfl rfl) ?_
                          refine z_iald (f := A 5) C rm_5 (isStep_in c_1 hs hn (by decide)) dX9_template_192 ?_
                          refine zz (fun _ _ => lv_iconst (v := 1) hx hb dX9_template_193 (by decide)) ?_
                          refine zz (fun _ _ => lv_iadd hx hb dX9_template_194) ?_
                          refine z_iast (f := A 5) C rm_5 (isStep_in c_1 hs hn (by decide)) dX9_template_195 ?_
                          refine zeq wm_5 ?_
                          refine zz (fun _ _ => lv_aload_n hx hb dX9_template_196 rfl (lv_at hl 3 rfl)) ?_
                          refine z_get (v := .ref (r + 5)) C fd_X9_23 rm_0 rfl dX9_template_197 ?_
                          refine zz (fun _ _ => lv_iload_n hx hb dX9_template_200 rfl (lv_at hl 4 rfl)) ?_
                          refine z_iald (f := (upd (A 5) (Int32.toNatClampNeg (a_)) ((A 5 (Int32.toNatClampNeg (a_))) + (1)))) C rm_5 (isStep_in c_1 hs hn (by decide)) dX9_template_201 ?_
                          exact z_iret C hr hlk dX9_template_202 (by simp only [zd, fX9_template, if_neg c_1, if_neg c_4, if_pos c_7, if_neg c_38, if_neg c_41, if_neg c_42, if_neg c_45, if_neg c_48, if_neg c_52, and_self])
                        · exact absurd (by decide) c_53
                      · refine zz (fun _ _ => lv_iconst (v := 3) hx hb dX9_template_122 (by decide)) ?_
                        refine zz (fun _ _ => lv_goto (tgt := 127) hx hb dX9_template_123 (by decide)) ?_
                        refine z_put C fp_X9_129 (fun h => by cases h) rm_0 (Nat.le_of_ble_eq_true rfl) rfl rfl dX9_template_127 ?_
                        refine zeq wm_f0 ?_
                        refine zeq (M' := (mm aC r (upd v 0 3) A R)) (by rw [upd_upd]) ?_
                        refine zz (fun _ _ => lv_aload_n hx hb dX9_template_130 rfl (lv_at hl 2 rfl)) ?_
                        refine z_get (v := .int (3)) C fd_X9_129 rm_0 rfl dX9_template_131 ?_
                        refine zb (fun _ _ => lv_if_le (tgt := 139) hx hb dX9_template_134 (by decide)) (fun c_54 => ?_) (fun c_54 => ?_)
                        · exact absurd c_54 (by decide)
                        · refine zz (fun _ _ => lv_iconst (v := 0) hx hb dX9_template_137 (by decide)) ?_
                          exact z_iret C hr hlk dX9_template_138 (by simp only [zd, fX9_template, if_neg c_1, if_neg c_4, if_pos c_7, if_neg c_38, if_neg c_41, if_neg c_42, if_neg c_45, if_neg c_48, if_pos c_52, and_self])
                    · exact absurd c_51 (by decide)
            · refine zz (fun _ _ => lv_iload hx hb dX9_template_56 (lv_at hl 6 rfl)) ?_
              refine zbn (fun _ _ => lv_if_ne (tgt := 98) hx hb dX9_template_58 (by decide)) (fun c_55 => ?_) (fun c_55 => ?_)
              · refine zz (fun _ _ => lv_iconst (v := 0) hx hb dX9_template_98 (by decide)) ?_
                refine zs (fun _ _ => lv_istore (lv' := [(7, .int (0)), (6, .int (A 1 (Int32.toNatClampNeg (a_)))), (0, .ref (r)), (1, .int (a_)), (2, .int (b_)), (3, .int (c_)), (4, .int (d_)), (5, .int (e_))]) hx hb dX9_template_99 hl (by decide) rfl) (fun ls hl => ?_)
                refine zz (fun _ _ => lv_aload_n hx hb dX9_template_101 rfl (lv_at hl 2 rfl)) ?_
                refine zz (fun _ _ => lv_iload hx hb dX9_template_102 (lv_at hl 0 rfl)) ?_
                refine zbn (fun _ _ => lv_if_ne (tgt := 111) hx hb dX9_template_104 (by decide)) (fun c_56 => ?_) (fun c_56 => ?_)
                · exact absurd (by decide) c_56
                · refine zz (fun _ _ => lv_iconst (v := 2) hx hb dX9_template_107 (by decide)) ?_
                  refine zz (fun _ _ => lv_goto (tgt := 127) hx hb dX9_template_108 (by decide)) ?_
                  refine z_put C fp_X9_129 (fun h => by cases h) rm_0 (Nat.le_of_ble_eq_true rfl) rfl rfl dX9_template_127 ?_
                  refine zeq wm_f0 ?_
                  refine zeq (M' := (mm aC r (upd v 0 2) A R)) (by rw [upd_upd]) ?_
                  refine zz (fun _ _ => lv_aload_n hx hb dX9_template_130 rfl (lv_at hl 2 rfl)) ?_
                  refine z_get (v := .int (2)) C fd_X9_129 rm_0 rfl dX9_template_131 ?_
                  refine zb (fun _ _ => lv_if_le (tgt := 139) hx hb dX9_template_134 (by decide)) (fun c_57 => ?_) (fun c_57 => ?_)
                  · exact absurd c_57 (by decide)
                  · refine zz (fun _ _ => lv_iconst (v := 0) hx hb dX9_template_137 (by decide)) ?_
                    exact z_iret C hr hlk dX9_template_138 (by simp only [zd, fX9_template, if_neg c_1, if_neg c_4, if_pos c_7, if_neg c_38, if_pos c_41, and_self])
              · exact absurd c_55 c_38
    · exact absurd (by decide) c_3
def fX9_pattern (v : Nat → Int32) (A : Nat → Nat → Int32) (a_ : Int32) (b_ : Int32) (c_ : Int32) (d_ : Int32) : Int32 × (Nat → Int32) × (Nat → Nat → Int32) := if (fX9_isStep v a_) = 0 then (0, (upd v 0 1), A) else if A 1 (Int32.toNatClampNeg (a_)) = 2 then if (fX9_mayStand b_ 2 0) = 0 then (0, (upd v 0 2), A) else if (fX9_mayStand c_ 2 0) = 0 then (0, (upd v 0 2), A) else if (fX9_mayStand d_ 2 0) = 0 then (0, (upd v 0 2), A) else if A 10 (Int32.toNatClampNeg (a_)) = 4 then (0, (upd v 0 3), A) else ((upd (A 10) (Int32.toNatClampNeg (a_)) ((A 10 (Int32.toNatClampNeg (a_))) + (1))) (Int32.toNatClampNeg (a_)), (upd v 0 0), (u1 (u1 (u1 (u1 A 11 (upd (A 11) (Int32.toNatClampNeg (((4) * (a_)) + (A 10 (Int32.toNatClampNeg (a_))))) (b_))) 12 (upd (A 12) (Int32.toNatClampNeg (((4) * (a_)) + (A 10 (Int32.toNatClampNeg (a_))))) (c_))) 13 (upd (A 13) (Int32.toNatClampNeg (((4) * (a_)) + (A 10 (Int32.toNatClampNeg (a_))))) (d_))) 10 (upd (A 10) (Int32.toNatClampNeg (a_)) ((A 10 (Int32.toNatClampNeg (a_))) + (1))))) else (0, (upd v 0 2), A)
set_option maxHeartbeats 1000000 in
set_option maxRecDepth 10000 in
theorem ctX9_pattern {l : Launch} {D : va_G} {aC : Nat → ClassId} {b0 sz : Nat} {r : Nat} {v : Nat → Int32} {A : Nat → Nat → Int32} {R : ZM} {a_ : Int32} {b_ : Int32} {c_ : Int32} {d_ : Int32} {n_ : Nat} (hs : v 1 = nI n_) (hn : n_ ≤ 12) (hT : ∀ j, j < 12 → ∃ t, t ≤ 4 ∧ A 10 j = nI t) : Ct l D aC b0 yX9_pattern cX9_pattern 7 (some .int) 3 0 0 [.ref (r), .int (a_), .int (b_), .int (c_), .int (d_)] (mm aC r v A R) sz (zd (some (.int (fX9_pattern v A a_ b_ c_ d_).1)) (mm aC r (fX9_pattern v A a_ b_ c_ d_).2.1 (fX9_pattern v A a_ b_ c_ d_).2.2 R)) := by
  refine Ct.of (by decide) (Nat.le_of_ble_eq_true rfl) ?_
  intro p e s m below meth c ls C hr hlk hnm hl
  have hl : lv_has ls 7 [(0, .ref (r)), (1, .int (a_)), (2, .int (b_)), (3, .int (c_)), (4, .int (d_))] := hl
  obtain ⟨hx, hb, -, -, -⟩ := id C
  refine zz (fun _ _ => lv_aload_n hx hb dX9_pattern_0 rfl (lv_at hl 0 rfl)) ?_
  refine zz (fun _ _ => lv_aload_n hx hb dX9_pattern_1 rfl (lv_at hl 0 rfl)) ?_
  refine zz (fun _ _ => lv_iload_n hx hb dX9_pattern_2 rfl (lv_at hl 1 rfl)) ?_
  refine zdV (As := [.int (a_)]) (rest := [.ref (r)]) (st' := [.int ((fX9_isStep v a_)), .ref (r)]) C hl.1 lk_X9_143 (ctX9_isStep) rm_0 rfl rfl rfl (Nat.le_of_ble_eq_true rfl) ⟨by decide, by decide, by decide, by decide⟩ dX9_pattern_3 rfl (fun sz => ?_)
  refine zb (fun _ _ => lv_if_eq (tgt := 13) hx hb dX9_pattern_6 (by decide)) (fun c_1 => ?_) (fun c_1 => ?_)
  · refine zz (fun _ _ => lv_iconst (v := 1) hx hb dX9_pattern_13 (by decide)) ?_
    refine z_put C fp_X9_129 (fun h => by cases h) rm_0 (Nat.le_of_ble_eq_true rfl) rfl rfl dX9_pattern_14 ?_
    refine zeq wm_f0 ?_
    refine zz (fun _ _ => lv_aload_n hx hb dX9_pattern_17 rfl (lv_at hl 0 rfl)) ?_
    refine z_get (v := .int (1)) C fd_X9_129 rm_0 rfl dX9_pattern_18 ?_
    refine zb (fun _ _ => lv_if_le (tgt := 26) hx hb dX9_pattern_21 (by decide)) (fun c_2 => ?_) (fun c_2 => ?_)
    · exact absurd c_2 (by decide)
    · refine zz (fun _ _ => lv_iconst (v := 0) hx hb dX9_pattern_24 (by decide)) ?_
      exact z_iret C hr hlk dX9_pattern_25 (by simp only [zd, fX9_pattern, if_pos c_1, and_self])
  · refine zz (fun _ _ => lv_iconst (v := 0) hx hb dX9_pattern_9 (by decide)) ?_
    refine zz (fun _ _ => lv_goto (tgt := 14) hx hb dX9_pattern_10 (by decide)) ?_
    refine z_put C fp_X9_129 (fun h => by cases h) rm_0 (Nat.le_of_ble_eq_true rfl) rfl rfl dX9_pattern_14 ?_
    refine zeq wm_f0 ?_
    refine zz (fun _ _ => lv_aload_n hx hb dX9_pattern_17 rfl (lv_at hl 0 rfl)) ?_
    refine z_get (v := .int (0)) C fd_X9_129 rm_0 rfl dX9_pattern_18 ?_
    refine zb (fun _ _ => lv_if_le (tgt := 26) hx hb dX9_pattern_21 (by decide)) (fun c_3 => ?_) (fun c_3 => ?_)
    · refine zz (fun _ _ => lv_aload_n hx hb dX9_pattern_26 rfl (lv_at hl 0 rfl)) ?_
      refine z_get (v := .ref (r + 1)) C fd_X9_7 rm_0 rfl dX9_pattern_27 ?_
      refine zz (fun _ _ => lv_iload_n hx hb dX9_pattern_30 rfl (lv_at hl 1 rfl)) ?_
      refine z_iald (f := A 1) C rm_1 (isStep_in c_1 hs hn (by decide)) dX9_pattern_31 ?_
      refine zz (fun _ _ => lv_iconst (v := 2) hx hb dX9_pattern_32 (by decide)) ?_
      refine zbn (fun _ _ => lv_icmp_ne (tgt := 68) hx hb dX9_pattern_33 (by decide)) (fun c_4 => ?_) (fun c_4 => ?_)
      · refine zz (fun _ _ => lv_iconst (v := 0) hx hb dX9_pattern_68 (by decide)) ?_
        refine zs (fun _ _ => lv_istore (lv' := [(5, .int (0)), (0, .ref (r)), (1, .int (a_)), (2, .int (b_)), (3, .int (c_)), (4, .int (d_))]) hx hb dX9_pattern_69 hl (by decide) rfl) (fun ls hl => ?_)
        refine zz (fun _ _ => lv_aload_n hx hb dX9_pattern_71 rfl (lv_at hl 1 rfl)) ?_
        refine zz (fun _ _ => lv_iload hx hb dX9_pattern_72 (lv_at hl 0 rfl)) ?_
        refine zbn (fun _ _ => lv_if_ne (tgt := 81) hx hb dX9_pattern_74 (by decide)) (fun c_5 => ?_) (fun c_5 => ?_)
        · exact absurd (by decide) c_5
        · refine zz (fun _ _ => lv_iconst (v := 2) hx hb dX9_pattern_77 (by decide)) ?_
          refine zz (fun _ _ => lv_goto (tgt := 96) hx hb dX9_pattern_78 (by decide)) ?_
          refine z_put C fp_X9_129 (fun h => by cases h) rm_0 (Nat.le_of_ble_eq_true rfl) rfl rfl dX9_pattern_96 ?_
          refine zeq wm_f0 ?_
          refine zeq (M' := (mm aC r (upd v 0 2) A R)) (by rw [upd_upd]) ?_
          refine zz (fun _ _ => lv_aload_n hx hb dX9_pattern_99 rfl (lv_at hl 1 rfl)) ?_
          refine z_get (v := .int (2)) C fd_X9_129 rm_0 rfl dX9_pattern_100 ?_
          refine zb (fun _ _ => lv_if_le (tgt := 108) hx hb dX9_pattern_103 (by decide)) (fun c_6 => ?_) (fun c_6 => ?_)
          · exact absurd c_6 (by decide)
          · refine zz (fun _ _ => lv_iconst (v := 0) hx hb dX9_pattern_106 (by decide)) ?_
            exact z_iret C hr hlk dX9_pattern_107 (by simp only [zd, fX9_pattern, if_neg c_1, if_neg c_4, and_self])
      · refine zz (fun _ _ => lv_iload_n hx hb dX9_pattern_36 rfl (lv_at hl 2 rfl)) ?_
        refine zz (fun _ _ => lv_iconst (v := 2) hx hb dX9_pattern_37 (by decide)) ?_
        refine zz (fun _ _ => lv_iconst (v := 0) hx hb dX9_pattern_38 (by decide)) ?_
        refine zdS (As := [.int (b_), .int (2), .int (0)]) (rest := []) (st' := [.int ((fX9_mayStand b_ 2 0))]) C hl.1 lk_X9_156 (ctX9_mayStand) rfl rfl (Nat.le_of_ble_eq_true rfl) ⟨by decide, by decide, by decide, by decide⟩ dX9_pattern_39 rfl (fun sz => ?_)
        refine zb (fun _ _ => lv_if_eq (tgt := 68) hx hb dX9_pattern_42 (by decide)) (fun c_7 => ?_) (fun c_7 => ?_)
        · refine zz (fun _ _ => lv_iconst (v := 0) hx hb dX9_pattern_68 (by decide)) ?_
          refine zs (fun _ _ => lv_istore (lv' := [(5, .int (0)), (0, .ref (r)), (1, .int (a_)), (2, .int (b_)), (3, .int (c_)), (4, .int (d_))]) hx hb dX9_pattern_69 hl (by decide) rfl) (fun ls hl => ?_)
          refine zz (fun _ _ => lv_aload_n hx hb dX9_pattern_71 rfl (lv_at hl 1 rfl)) ?_
          refine zz (fun _ _ => lv_iload hx hb dX9_pattern_72 (lv_at hl 0 rfl)) ?_
          refine zbn (fun _ _ => lv_if_ne (tgt := 81) hx hb dX9_pattern_74 (by decide)) (fun c_8 => ?_) (fun c_8 => ?_)
          · exact absurd (by decide) c_8
          · refine zz (fun _ _ => lv_iconst (v := 2) hx hb dX9_pattern_77 (by decide)) ?_
            refine zz (fun _ _ => lv_goto (tgt := 96) hx hb dX9_pattern_78 (by decide)) ?_
            refine z_put C fp_X9_129 (fun h => by cases h) rm_0 (Nat.le_of_ble_eq_true rfl) rfl rfl dX9_pattern_96 ?_
            refine zeq wm_f0 ?_
            refine zeq (M' := (mm aC r (upd v 0 2) A R)) (by rw [upd_upd]) ?_
            refine zz (fun _ _ => lv_aload_n hx hb dX9_pattern_99 rfl (lv_at hl 1 rfl)) ?_
            refine z_get (v := .int (2)) C fd_X9_129 rm_0 rfl dX9_pattern_100 ?_
            refine zb (fun _ _ => lv_if_le (tgt := 108) hx hb dX9_pattern_103 (by decide)) (fun c_9 => ?_) (fun c_9 => ?_)
            · exact absurd c_9 (by decide)
            · refine zz (fun _ _ => lv_iconst (v := 0) hx hb dX9_pattern_106 (by decide)) ?_
              exact z_iret C hr hlk dX9_pattern_107 (by simp only [zd, fX9_pattern, if_neg c_1, if_pos c_4, if_pos c_7, and_self])
        · refine zz (fun _ _ => lv_iload_n hx hb dX9_pattern_45 rfl (lv_at hl 3 rfl)) ?_
          refine zz (fun _ _ => lv_iconst (v := 2) hx hb dX9_pattern_46 (by decide)) ?_
          refine zz (fun _ _ => lv_iconst (v := 0) hx hb dX9_pattern_47 (by decide)) ?_
          refine zdS (As := [.int (c_), .int (2), .int (0)]) (rest := []) (st' := [.int ((fX9_mayStand c_ 2 0))]) C hl.1 lk_X9_156 (ctX9_mayStand) rfl rfl (Nat.le_of_ble_eq_true rfl) ⟨by decide, by decide, by decide, by decide⟩ dX9_pattern_48 rfl (fun sz => ?_)
          refine zb (fun _ _ => lv_if_eq (tgt := 68) hx hb dX9_pattern_51 (by decide)) (fun c_10 => ?_) (fun c_10 => ?_)
          · refine zz (fun _ _ => lv_iconst (v := 0) hx hb dX9_pattern_68 (by decide)) ?_
            refine zs (fun _ _ => lv_istore (lv' := [(5, .int (0)), (0, .ref (r)), (1, .int (a_)), (2, .int (b_)), (3, .int (c_)), (4, .int (d_))]) hx hb dX9_pattern_69 hl (by decide) rfl) (fun ls hl => ?_)
            refine zz (fun _ _ => lv_aload_n hx hb dX9_pattern_71 rfl (lv_at hl 1 rfl)) ?_
            refine zz (fun _ _ => lv_iload hx hb dX9_pattern_72 (lv_at hl 0 rfl)) ?_
            refine zbn (fun _ _ => lv_if_ne (tgt := 81) hx hb dX9_pattern_74 (by decide)) (fun c_11 => ?_) (fun c_11 => ?_)
            · exact absurd (by decide) c_11
            · refine zz (fun _ _ => lv_iconst (v := 2) hx hb dX9_pattern_77 (by decide)) ?_
              refine zz (fun _ _ => lv_goto (tgt := 96) hx hb dX9_pattern_78 (by decide)) ?_
              refine z_put C fp_X9_129 (fun h => by cases h) rm_0 (Nat.le_of_ble_eq_true rfl) rfl rfl dX9_pattern_96 ?_
              refine zeq wm_f0 ?_
              refine zeq (M' := (mm aC r (upd v 0 2) A R)) (by rw [upd_upd]) ?_
              refine zz (fun _ _ => lv_aload_n hx hb dX9_pattern_99 rfl (lv_at hl 1 rfl)) ?_
              refine z_get (v := .int (2)) C fd_X9_129 rm_0 rfl dX9_pattern_100 ?_
              refine zb (fun _ _ => lv_if_le (tgt := 108) hx hb dX9_pattern_103 (by decide)) (fun c_12 => ?_) (fun c_12 => ?_)
              · exact absurd c_12 (by decide)
              · refine zz (fun _ _ => lv_iconst (v := 0) hx hb dX9_pattern_106 (by decide)) ?_
                exact z_iret C hr hlk dX9_pattern_107 (by simp only [zd, fX9_pattern, if_neg c_1, if_pos c_4, if_neg c_7, if_pos c_10, and_self])
          · refine zz (fun _ _ => lv_iload hx hb dX9_pattern_54 (lv_at hl 4 rfl)) ?_
            refine zz (fun _ _ => lv_iconst (v := 2) hx hb dX9_pattern_56 (by decide)) ?_
            refine zz (fun _ _ => lv_iconst (v := 0) hx hb dX9_pattern_57 (by decide)) ?_
            refine zdS (As := [.int (d_), .int (2), .int (0)]) (rest := []) (st' := [.int ((fX9_mayStand d_ 2 0))]) C hl.1 lk_X9_156 (ctX9_mayStand) rfl rfl (Nat.le_of_ble_eq_true rfl) ⟨by decide, by decide, by decide, by decide⟩ dX9_pattern_58 rfl (fun sz => ?_)
            refine zb (fun _ _ => lv_if_eq (tgt := 68) hx hb dX9_pattern_61 (by decide)) (fun c_13 => ?_) (fun c_13 => ?_)
            · refine zz (fun _ _ => lv_iconst (v := 0) hx hb dX9_pattern_68 (by decide)) ?_
              refine zs (fun _ _ => lv_istore (lv' := [(5, .int (0)), (0, .ref (r)), (1, .int (a_)), (2, .int (b_)), (3, .int (c_)), (4, .int (d_))]) hx hb dX9_pattern_69 hl (by decide) rfl) (fun ls hl => ?_)
              refine zz (fun _ _ => lv_aload_n hx hb dX9_pattern_71 rfl (lv_at hl 1 rfl)) ?_
              refine zz (fun _ _ => lv_iload hx hb dX9_pattern_72 (lv_at hl 0 rfl)) ?_
              refine zbn (fun _ _ => lv_if_ne (tgt := 81) hx hb dX9_pattern_74 (by decide)) (fun c_14 => ?_) (fun c_14 => ?_)
              · exact absurd (by decide) c_14
              · refine zz (fun _ _ => lv_iconst (v := 2) hx hb dX9_pattern_77 (by decide)) ?_
                refine zz (fun _ _ => lv_goto (tgt := 96) hx hb dX9_pattern_78 (by decide)) ?_
                refine z_put C fp_X9_129 (fun h => by cases h) rm_0 (Nat.le_of_ble_eq_true rfl) rfl rfl dX9_pattern_96 ?_
                refine zeq wm_f0 ?_
                refine zeq (M' := (mm aC r (upd v 0 2) A R)) (by rw [upd_upd]) ?_
                refine zz (fun _ _ => lv_aload_n hx hb dX9_pattern_99 rfl (lv_at hl 1 rfl)) ?_
                refine z_get (v := .int (2)) C fd_X9_129 rm_0 rfl dX9_pattern_100 ?_
                refine zb (fun _ _ => lv_if_le (tgt := 108) hx hb dX9_pattern_103 (by decide)) (fun c_15 => ?_) (fun c_15 => ?_)
                · exact absurd c_15 (by decide)
                · refine zz (fun _ _ => lv_iconst (v := 0) hx hb dX9_pattern_106 (by decide)) ?_
                  exact z_iret C hr hlk dX9_pattern_107 (by simp only [zd, fX9_pattern, if_neg c_1, if_pos c_4, if_neg c_7, if_neg c_10, if_pos c_13, and_self])
            · refine zz (fun _ _ => lv_iconst (v := 1) hx hb dX9_pattern_64 (by decide)) ?_
              refine zz (fun _ _ => lv_goto (tgt := 69) hx hb dX9_pattern_65 (by decide)) ?_
              refine zs (fun _ _ => lv_istore (lv' := [(5, .int (1)), (0, .ref (r)), (1, .int (a_)), (2, .int (b_)), (3, .int (c_)), (4, .int (d_))]) hx hb dX9_pattern_69 hl (by decide) rfl) (fun ls hl => ?_)
              refine zz (fun _ _ => lv_aload_n hx hb dX9_pattern_71 rfl (lv_at hl 1 rfl)) ?_
              refine zz (fun _ _ => lv_iload hx hb dX9_pattern_72 (lv_at hl 0 rfl)) ?_
              refine zbn (fun _ _ => lv_if_ne (tgt := 81) hx hb dX9_pattern_74 (by decide)) (fun c_16 => ?_) (fun c_16 => ?_)
              · refine zz (fun _ _ => lv_aload_n hx hb dX9_pattern_81 rfl (lv_at hl 1 rfl)) ?_
                refine z_get (v := .ref (r + 10)) C fd_X9_38 rm_0 rfl dX9_pattern_82 ?_
                refine zz (fun _ _ => lv_iload_n hx hb dX9_pattern_85 rfl (lv_at hl 2 rfl)) ?_
                refine z_iald (f := A 10) C rm_10 (isStep_in c_1 hs hn (by decide)) dX9_pattern_86 ?_
                refine zz (fun _ _ => lv_iconst (v := 4) hx hb dX9_pattern_87 (by decide)) ?_
                refine zbn (fun _ _ => lv_icmp_ne (tgt := 95) hx hb dX9_pattern_88 (by decide)) (fun c_17 => ?_) (fun c_17 => ?_)
                · refine zz (fun _ _ => lv_iconst (v := 0) hx hb dX9_pattern_95 (by decide)) ?_
                  refine z_put C fp_X9_129 (fun h => by cases h) rm_0 (Nat.le_of_ble_eq_true rfl) rfl rfl dX9_pattern_96 ?_
                  refine zeq wm_f0 ?_
                  refine zeq (M' := (mm aC r (upd v 0 0) A R)) (by rw [upd_upd]) ?_
                  refine zz (fun _ _ => lv_aload_n hx hb dX9_pattern_99 rfl (lv_at hl 1 rfl)) ?_
                  refine z_get (v := .int (0)) C fd_X9_129 rm_0 rfl dX9_pattern_100 ?_
                  refine zb (fun _ _ => lv_if_le (tgt := 108) hx hb dX9_pattern_103 (by decide)) (fun c_18 => ?_) (fun c_18 => ?_)
                  · refine zz (fun _ _ => lv_iconst (v := 4) hx hb dX9_pattern_108 (by decide)) ?_
                    refine zz (fun _ _ => lv_iload_n hx hb dX9_pattern_109 rfl (lv_at hl 2 rfl)) ?_
                    refine zz (fun _ _ => lv_imul hx hb dX9_pattern_110) ?_
                    refine zz (fun _ _ => lv_aload_n hx hb dX9_pattern_111 rfl (lv_at hl 1 rfl)) ?_
                    refine z_get (v := .ref (r + 10)) C fd_X9_38 rm_0 rfl dX9_pattern_112 ?_
                    refine zz (fun _ _ => lv_iload_n hx hb dX9_pattern_115 rfl (lv_at hl 2 rfl)) ?_
                    refine z_iald (f := A 10) C rm_10 (isStep_in c_1 hs hn (by decide)) dX9_pattern_116 ?_
                    refine zz (fun _ _ => lv_iadd hx hb dX9_pattern_117) ?_
                    refine zs (fun _ _ => lv_istore (lv' := [(6, .int (((4) * (a_)) + (A 10 (Int32.toNatClampNeg (a_))))), (5, .int (1)), (0, .ref (r)), (1, .int (a_)), (2, .int (b_)), (3, .int (c_)), (4, .int (d_))]) hx hb dX9_pattern_118 hl (by decide) rfl) (fun ls hl => ?_)
                    refine zz (fun _ _ => lv_aload_n hx hb dX9_pattern_120 rfl (lv_at hl 2 rfl)) ?_
                    refine z_get (v := .ref (r + 11)) C fd_X9_41 rm_0 rfl dX9_pattern_121 ?_
                    refine zz (fun _ _ => lv_iload hx hb dX9_pattern_124 (lv_at hl 0 rfl)) ?_
                    refine zz (fun _ _ => lv_iload_n hx hb dX9_pattern_126 rfl (lv_at hl 4 rfl)) ?_
                    refine z_iast (f := A 11) C rm_11 (ixm 4 (isStep_in c_1 hs hn (by decide)) hT c_17 rfl (by decide) (by decide)) dX9_pattern_127 ?_
                    refine zeq wm_11 ?_
                    refine zz (fun _ _ => lv_aload_n hx hb dX9_pattern_128 rfl (lv_at hl 2 rfl)) ?_
                    refine z_get (v := .ref (r + 12)) C fd_X9_44 rm_0 rfl dX9_pattern_129 ?_
                    refine zz (fun _ _ => lv_iload hx hb dX9_pattern_132 (lv_at hl 0 rfl)) ?_
                    refine zz (fun _ _ => lv_iload_n hx hb dX9_pattern_134 rfl (lv_at hl 5 rfl)) ?_
                    refine z_iast (f := A 12) C rm_12 (ixm 4 (isStep_in c_1 hs hn (by decide)) hT c_17 rfl (by decide) (by decide)) dX9_pattern_135 ?_
                    refine zeq wm_12 ?_
                    refine zz (fun _ _ => lv_aload_n hx hb dX9_pattern_136 rfl (lv_at hl 2 rfl)) ?_
                    refine z_get (v := .ref (r + 13)) C fd_X9_47 rm_0 rfl dX9_pattern_137 ?_
                    refine zz (fun _ _ => lv_iload hx hb dX9_pattern_140 (lv_at hl 0 rfl)) ?_
                    refine zz (fun _ _ => lv_iload hx hb dX9_pattern_142 (lv_at hl 6 rfl)) ?_
                    refine z_iast (f := A 13) C rm_13 (ixm 4 (isStep_in c_1 hs hn (by decide)) hT c_17 rfl (by decide) (by decide)) dX9_pattern_144 ?_
                    refine zeq wm_13 ?_
                    refine zz (fun _ _ => lv_aload_n hx hb dX9_pattern_145 rfl (lv_at hl 2 rfl)) ?_
                    refine z_get (v := .ref (r + 10)) C fd_X9_38 rm_0 rfl dX9_pattern_146 ?_
                    refine zz (fun _ _ => lv_iload_n hx hb dX9_pattern_149 rfl (lv_at hl 3 rfl)) ?_
                    refine zz (fun _ _ => lv_dup2_11 hx hb dX9_pattern_150 rfl rfl) ?_
                    refine z_iald (f := A 10) C rm_10 (isStep_in c_1 hs hn (by decide)) dX9_pattern_151 ?_
                    refine zz (fun _ _ => lv_iconst (v := 1) hx hb dX9_pattern_152 (by decide)) ?_
                    refine zz (fun _ _ => lv_iadd hx hb dX9_pattern_153) ?_
                    refine z_iast (f := A 10) C rm_10 (isStep_in c_1 hs hn (by decide)) dX9_pattern_154 ?_
                    refine zeq wm_10 ?_
                    refine zz (fun _ _ => lv_aload_n hx hb dX9_pattern_155 rfl (lv_at hl 2 rfl)) ?_
                    refine z_get (v := .ref (r + 10)) C fd_X9_38 rm_0 rfl dX9_pattern_156 ?_
                    refine zz (fun _ _ => lv_iload_n hx hb dX9_pattern_159 rfl (lv_at hl 3 rfl)) ?_
                    refine z_iald (f := (upd (A 10) (Int32.toNatClampNeg (a_)) ((A 10 (Int32.toNatClampNeg (a_))) + (1)))) C rm_10 (isStep_in c_1 hs hn (by decide)) dX9_pattern_160 ?_
                    exact z_iret C hr hlk dX9_pattern_161 (by simp only [zd, fX9_pattern, if_neg c_1, if_pos c_4, if_neg c_7, if_neg c_10, if_neg c_13, if_neg c_17, and_self])
                  · exact absurd (by decide) c_18
                · refine zz (fun _ _ => lv_iconst (v := 3) hx hb dX9_pattern_91 (by decide)) ?_
                  refine zz (fun _ _ => lv_goto (tgt := 96) hx hb dX9_pattern_92 (by decide)) ?_
                  refine z_put C fp_X9_129 (fun h => by cases h) rm_0 (Nat.le_of_ble_eq_true rfl) rfl rfl dX9_pattern_96 ?_
                  refine zeq wm_f0 ?_
                  refine zeq (M' := (mm aC r (upd v 0 3) A R)) (by rw [upd_upd]) ?_
                  refine zz (fun _ _ => lv_aload_n hx hb dX9_pattern_99 rfl (lv_at hl 1 rfl)) ?_
                  refine z_get (v := .int (3)) C fd_X9_129 rm_0 rfl dX9_pattern_100 ?_
                  refine zb (fun _ _ => lv_if_le (tgt := 108) hx hb dX9_pattern_103 (by decide)) (fun c_19 => ?_) (fun c_19 => ?_)
                  · exact absurd c_19 (by decide)
                  · refine zz (fun _ _ => lv_iconst (v := 0) hx hb dX9_pattern_106 (by decide)) ?_
                    exact z_iret C hr hlk dX9_pattern_107 (by simp only [zd, fX9_pattern, if_neg c_1, if_pos c_4, if_neg c_7, if_neg c_10, if_neg c_13, if_pos c_17, and_self])
              · exact absurd c_16 (by decide)
    · exact absurd (by decide) c_3
def fX9_file (v : Nat → Int32) (A : Nat → Nat → Int32) (a_ : Int32) (b_ : Int32) (c_ : Int32) (d_ : Int32) : Int32 × (Nat → Int32) × (Nat → Nat → Int32) := if (fX9_isIn a_ 0 3) = 0 then (0, (upd v 0 1), A) else if (fX9_isName b_) = 0 then (0, (upd v 0 2), A) else if (fX9_isName c_) = 0 then (0, (upd v 0 2), A) else if (fX9_isName d_) = 0 then (0, (upd v 0 2), A) else if A 14 (Int32.toNatClampNeg (a_)) = 10 then (0, (upd v 0 3), A) else ((upd (A 14) (Int32.toNatClampNeg (a_)) ((A 14 (Int32.toNatClampNeg (a_))) + (1))) (Int32.toNatClampNeg (a_)), (upd v 0 0), (u1 (u1 (u1 (u1 A 15 (upd (A 15) (Int32.toNatClampNeg (((10) * (a_)) + (A 14 (Int32.toNatClampNeg (a_))))) (b_))) 16 (upd (A 16) (Int32.toNatClampNeg (((10) * (a_)) + (A 14 (Int32.toNatClampNeg (a_))))) (c_))) 17 (upd (A 17) (Int32.toNatClampNeg (((10) * (a_)) + (A 14 (Int32.toNatClampNeg (a_))))) (d_))) 14 (upd (A 14) (Int32.toNatClampNeg (a_)) ((A 14 (Int32.toNatClampNeg (a_))) + (1)))))
set_option maxHeartbeats 1000000 in
set_option maxRecDepth 10000 in
theorem ctX9_file {l : Launch} {D : va_G} {aC : Nat → ClassId} {b0 sz : Nat} {r : Nat} {v : Nat → Int32} {A : Nat → Nat → Int32} {R : ZM} {a_ : Int32} {b_ : Int32} {c_ : Int32} {d_ : Int32} (hT : ∀ j, j < 4 → ∃ t, t ≤ 10 ∧ A 14 j = nI t) : Ct l D aC b0 yX9_file cX9_file 6 (some .int) 2 0 0 [.ref (r), .int (a_), .int (b_), .int (c_), .int (d_)] (mm aC r v A R) sz (zd (some (.int (fX9_file v A a_ b_ c_ d_).1)) (mm aC r (fX9_file v A a_ b_ c_ d_).2.1 (fX9_file v A a_ b_ c_ d_).2.2 R)) := by
  refine Ct.of (by decide) (Nat.le_of_ble_eq_true rfl) ?_
  intro p e s m below meth c ls C hr hlk hnm hl
  have hl : lv_has ls 6 [(0, .ref (r)), (1, .int (a_)), (2, .int (b_)), (3, .int (c_)), (4, .int (d_))] := hl
  obtain ⟨hx, hb, -, -, -⟩ := id C
  refine zz (fun _ _ => lv_aload_n hx hb dX9_file_0 rfl (lv_at hl 0 rfl)) ?_
  refine zz (fun _ _ => lv_iload_n hx hb dX9_file_1 rfl (lv_at hl 1 rfl)) ?_
  refine zz (fun _ _ => lv_iconst (v := 0) hx hb dX9_file_2 (by decide)) ?_
  refine zz (fun _ _ => lv_iconst (v := 3) hx hb dX9_file_3 (by decide)) ?_
  refine zdS (As := [.int (a_), .int (0), .int (3)]) (rest := [.ref (r)]) (st' := [.int ((fX9_isIn a_ 0 3)), .ref (r)]) C hl.1 lk_X9_135 (ctX9_isIn) rfl rfl (Nat.le_of_ble_eq_true rfl) ⟨by decide, by decide, by decide, by decide⟩ dX9_file_4 rfl (fun sz => ?_)
  refine zbn (fun _ _ => lv_if_ne (tgt := 14) hx hb dX9_file_7 (by decide)) (fun c_1 => ?_) (fun c_1 => ?_)
  · refine zz (fun _ _ => lv_iload_n hx hb dX9_file_14 rfl (lv_at hl 2 rfl)) ?_
    refine zdS (As := [.int (b_)]) (rest := [.ref (r)]) (st' := [.int ((fX9_isName b_)), .ref (r)]) C hl.1 lk_X9_147 (ctX9_isName) rfl rfl (Nat.le_of_ble_eq_true rfl) ⟨by decide, by decide, by decide, by decide⟩ dX9_file_15 rfl (fun sz => ?_)
    refine zb (fun _ _ => lv_if_eq (tgt := 36) hx hb dX9_file_18 (by decide)) (fun c_2 => ?_) (fun c_2 => ?_)
    · refine zz (fun _ _ => lv_iconst (v := 2) hx hb dX9_file_36 (by decide)) ?_
      refine zz (fun _ _ => lv_goto (tgt := 56) hx hb dX9_file_37 (by decide)) ?_
      refine z_put C fp_X9_129 (fun h => by cases h) rm_0 (Nat.le_of_ble_eq_true rfl) rfl rfl dX9_file_56 ?_
      refine zeq wm_f0 ?_
      refine zz (fun _ _ => lv_aload_n hx hb dX9_file_59 rfl (lv_at hl 0 rfl)) ?_
      refine z_get (v := .int (2)) C fd_X9_129 rm_0 rfl dX9_file_60 ?_
      refine zb (fun _ _ => lv_if_le (tgt := 68) hx hb dX9_file_63 (by decide)) (fun c_3 => ?_) (fun c_3 => ?_)
      · exact absurd c_3 (by decide)
      · refine zz (fun _ _ => lv_iconst (v := 0) hx hb dX9_file_66 (by decide)) ?_
        exact z_iret C hr hlk dX9_file_67 (by simp only [zd, fX9_file, if_neg c_1, if_pos c_2, and_self])
    · refine zz (fun _ _ => lv_iload_n hx hb dX9_file_21 rfl (lv_at hl 3 rfl)) ?_
      refine zdS (As := [.int (c_)]) (rest := [.ref (r)]) (st' := [.int ((fX9_isName c_)), .ref (r)]) C hl.1 lk_X9_147 (ctX9_isName) rfl rfl (Nat.le_of_ble_eq_true rfl) ⟨by decide, by decide, by decide, by decide⟩ dX9_file_22 rfl (fun sz => ?_)
      refine zb (fun _ _ => lv_if_eq (tgt := 36) hx hb dX9_file_25 (by decide)) (fun c_4 => ?_) (fun c_4 => ?_)
      · refine zz (fun _ _ => lv_iconst (v := 2) hx hb dX9_file_36 (by decide)) ?_
        refine zz (fun _ _ => lv_goto (tgt := 56) hx hb dX9_file_37 (by decide)) ?_
        refine z_put C fp_X9_129 (fun h => by cases h) rm_0 (Nat.le_of_ble_eq_true rfl) rfl rfl dX9_file_56 ?_
        refine zeq wm_f0 ?_
        refine zz (fun _ _ => lv_aload_n hx hb dX9_file_59 rfl (lv_at hl 0 rfl)) ?_
        refine z_get (v := .int (2)) C fd_X9_129 rm_0 rfl dX9_file_60 ?_
        refine zb (fun _ _ => lv_if_le (tgt := 68) hx hb dX9_file_63 (by decide)) (fun c_5 => ?_) (fun c_5 => ?_)
        · exact absurd c_5 (by decide)
        · refine zz (fun _ _ => lv_iconst (v := 0) hx hb dX9_file_66 (by decide)) ?_
          exact z_iret C hr hlk dX9_file_67 (by simp only [zd, fX9_file, if_neg c_1, if_neg c_2, if_pos c_4, and_self])
      · refine zz (fun _ _ => lv_iload hx hb dX9_file_28 (lv_at hl 4 rfl)) ?_
        refine zdS (As := [.int (d_)]) (rest := [.ref (r)]) (st' := [.int ((fX9_isName d_)), .ref (r)]) C hl.1 lk_X9_147 (ctX9_isName) rfl rfl (Nat.le_of_ble_eq_true rfl) ⟨by decide, by decide, by decide, by decide⟩ dX9_file_30 rfl (fun sz => ?_)
        refine zbn (fun _ _ => lv_if_ne (tgt := 40) hx hb dX9_file_33 (by decide)) (fun c_6 => ?_) (fun c_6 => ?_)
        · refine zz (fun _ _ => lv_aload_n hx hb dX9_file_40 rfl (lv_at hl 0 rfl)) ?_
          refine z_get (v := .ref (r + 14)) C fd_X9_50 rm_0 rfl dX9_file_41 ?_
          refine zz (fun _ _ => lv_iload_n hx hb dX9_file_44 rfl (lv_at hl 1 rfl)) ?_
          refine z_iald (f := A 14) C rm_14 (in_isIn c_1 (by decide)) dX9_file_45 ?_
          refine zz (fun _ _ => lv_bipush (v := 10) hx hb dX9_file_46 (by decide)) ?_
          refine zbn (fun _ _ => lv_icmp_ne (tgt := 55) hx hb dX9_file_48 (by decide)) (fun c_7 => ?_) (fun c_7 => ?_)
          · refine zz (fun _ _ => lv_iconst (v := 0) hx hb dX9_file_55 (by decide)) ?_
            refine z_put C fp_X9_129 (fun h => by cases h) rm_0 (Nat.le_of_ble_eq_true rfl) rfl rfl dX9_file_56 ?_
            refine zeq wm_f0 ?_
            refine zz (fun _ _ => lv_aload_n hx hb dX9_file_59 rfl (lv_at hl 0 rfl)) ?_
            refine z_get (v := .int (0)) C fd_X9_129 rm_0 rfl dX9_file_60 ?_
            refine zb (fun _ _ => lv_if_le (tgt := 68) hx hb dX9_file_63 (by decide)) (fun c_8 => ?_) (fun c_8 => ?_)
            · refine zz (fun _ _ => lv_bipush (v := 10) hx hb dX9_file_68 (by decide)) ?_
              refine zz (fun _ _ => lv_iload_n hx hb dX9_file_70 rfl (lv_at hl 1 rfl)) ?_
              refine zz (fun _ _ => lv_imul hx hb dX9_file_71) ?_
              refine zz (fun _ _ => lv_aload_n hx hb dX9_file_72 rfl (lv_at hl 0 rfl)) ?_
              refine z_get (v := .ref (r + 14)) C fd_X9_50 rm_0 rfl dX9_file_73 ?_
              refine zz (fun _ _ => lv_iload_n hx hb dX9_file_76 rfl (lv_at hl 1 rfl)) ?_
              refine z_iald (f := A 14) C rm_14 (in_isIn c_1 (by decide)) dX9_file_77 ?_
              refine zz (fun _ _ => lv_iadd hx hb dX9_file_78) ?_
              refine zs (fun _ _ => lv_istore (lv' := [(5, .int (((10) * (a_)) + (A 14 (Int32.toNatClampNeg (a_))))), (0, .ref (r)), (1, .int (a_)), (2, .int (b_)), (3, .int (c_)), (4, .int (d_))]) hx hb dX9_file_79 hl (by decide) rfl) (fun ls hl => ?_)
              refine zz (fun _ _ => lv_aload_n hx hb dX9_file_81 rfl (lv_at hl 1 rfl)) ?_
              refine z_get (v := .ref (r + 15)) C fd_X9_53 rm_0 rfl dX9_file_82 ?_
              refine zz (fun _ _ => lv_iload hx hb dX9_file_85 (lv_at hl 0 rfl)) ?_
              refine zz (fun _ _ => lv_iload_n hx hb dX9_file_87 rfl (lv_at hl 3 rfl)) ?_
              refine z_iast (f := A 15) C rm_15 (ixm 10 (in_isIn c_1 (by decide)) hT c_7 rfl (by decide) (by decide)) dX9_file_88 ?_
              refine zeq wm_15 ?_
              refine zz (fun _ _ => lv_aload_n hx hb dX9_file_89 rfl (lv_at hl 1 rfl)) ?_
              refine z_get (v := .ref (r + 16)) C fd_X9_56 rm_0 rfl dX9_file_90 ?_
              refine zz (fun _ _ => lv_iload hx hb dX9_file_93 (lv_at hl 0 rfl)) ?_
              refine zz (fun _ _ => lv_iload_n hx hb dX9_file_95 rfl (lv_at hl 4 rfl)) ?_
              refine z_iast (f := A 16) C rm_16 (ixm 10 (in_isIn c_1 (by decide)) hT c_7 rfl (by decide) (by decide)) dX9_file_96 ?_
              refine zeq wm_16 ?_
              refine zz (fun _ _ => lv_aload_n hx hb dX9_file_97 rfl (lv_at hl 1 rfl)) ?_
              refine z_get (v := .ref (r + 17)) C fd_X9_59 rm_0 rfl dX9_file_98 ?_
              refine zz (fun _ _ => lv_iload hx hb dX9_file_101 (lv_at hl 0 rfl)) ?_
              refine zz (fun _ _ => lv_iload hx hb dX9_file_103 (lv_at hl 5 rfl)) ?_
              refine z_iast (f := A 17) C rm_17 (ixm 10 (in_isIn c_1 (by decide)) hT c_7 rfl (by decide) (by decide)) dX9_file_105 ?_
              refine zeq wm_17 ?_
              refine zz (fun _ _ => lv_aload_n hx hb dX9_file_106 rfl (lv_at hl 1 rfl)) ?_
              refine z_get (v := .ref (r + 14)) C fd_X9_50 rm_0 rfl dX9_file_107 ?_
              refine zz (fun _ _ => lv_iload_n hx hb dX9_file_110 rfl (lv_at hl 2 rfl)) ?_
              refine zz (fun _ _ => lv_dup2_11 hx hb dX9_file_111 rfl rfl) ?_
              refine z_iald (f := A 14) C rm_14 (in_isIn c_1 (by decide)) dX9_file_112 ?_
              refine zz (fun _ _ => lv_iconst (v := 1) hx hb dX9_file_113 (by decide)) ?_
              refine zz (fun _ _ => lv_iadd hx hb dX9_file_114) ?_
              refine z_iast (f := A 14) C rm_14 (in_isIn c_1 (by decide)) dX9_file_115 ?_
              refine zeq wm_14 ?_
              refine zz (fun _ _ => lv_aload_n hx hb dX9_file_116 rfl (lv_at hl 1 rfl)) ?_
              refine z_get (v := .ref (r + 14)) C fd_X9_50 rm_0 rfl dX9_file_117 ?_
              refine zz (fun _ _ => lv_iload_n hx hb dX9_file_120 rfl (lv_at hl 2 rfl)) ?_
              refine z_iald (f := (upd (A 14) (Int32.toNatClampNeg (a_)) ((A 14 (Int32.toNatClampNeg (a_))) + (1)))) C rm_14 (in_isIn c_1 (by decide)) dX9_file_121 ?_
              exact z_iret C hr hlk dX9_file_122 (by simp only [zd, fX9_file, if_neg c_1, if_neg c_2, if_neg c_4, if_neg c_6, if_neg c_7, and_self])
            · exact absurd (by decide) c_8
          · refine zz (fun _ _ => lv_iconst (v := 3) hx hb dX9_file_51 (by decide)) ?_
            refine zz (fun _ _ => lv_goto (tgt := 56) hx hb dX9_file_52 (by decide)) ?_
            refine z_put C fp_X9_129 (fun h => by cases h) rm_0 (Nat.le_of_ble_eq_true rfl) rfl rfl dX9_file_56 ?_
            refine zeq wm_f0 ?_
            refine zz (fun _ _ => lv_aload_n hx hb dX9_file_59 rfl (lv_at hl 0 rfl)) ?_
            refine z_get (v := .int (3)) C fd_X9_129 rm_0 rfl dX9_file_60 ?_
            refine zb (fun _ _ => lv_if_le (tgt := 68) hx hb dX9_file_63 (by decide)) (fun c_9 => ?_) (fun c_9 => ?_)
            · exact absurd c_9 (by decide)
            · refine zz (fun _ _ => lv_iconst (v := 0) hx hb dX9_file_66 (by decide)) ?_
              exact z_iret C hr hlk dX9_file_67 (by simp only [zd, fX9_file, if_neg c_1, if_neg c_2, if_neg c_4, if_neg c_6, if_pos c_7, and_self])
        · refine zz (fun _ _ => lv_iconst (v := 2) hx hb dX9_file_36 (by decide)) ?_
          refine zz (fun _ _ => lv_goto (tgt := 56) hx hb dX9_file_37 (by decide)) ?_
          refine z_put C fp_X9_129 (fun h => by cases h) rm_0 (Nat.le_of_ble_eq_true rfl) rfl rfl dX9_file_56 ?_
          refine zeq wm_f0 ?_
          refine zz (fun _ _ => lv_aload_n hx hb dX9_file_59 rfl (lv_at hl 0 rfl)) ?_
          refine z_get (v := .int (2)) C fd_X9_129 rm_0 rfl dX9_file_60 ?_
          refine zb (fun _ _ => lv_if_le (tgt := 68) hx hb dX9_file_63 (by decide)) (fun c_10 => ?_) (fun c_10 => ?_)
          · exact absurd c_10 (by decide)
          · refine zz (fun _ _ => lv_iconst (v := 0) hx hb dX9_file_66 (by decide)) ?_
            exact z_iret C hr hlk dX9_file_67 (by simp only [zd, fX9_file, if_neg c_1, if_neg c_2, if_neg c_4, if_pos c_6, and_self])
  · refine zz (fun _ _ => lv_iconst (v := 1) hx hb dX9_file_10 (by decide)) ?_
    refine zz (fun _ _ => lv_goto (tgt := 56) hx hb dX9_file_11 (by decide)) ?_
    refine z_put C fp_X9_129 (fun h => by cases h) rm_0 (Nat.le_of_ble_eq_true rfl) rfl rfl dX9_file_56 ?_
    refine zeq wm_f0 ?_
    refine zz (fun _ _ => lv_aload_n hx hb dX9_file_59 rfl (lv_at hl 0 rfl)) ?_
    refine z_get (v := .int (1)) C fd_X9_129 rm_0 rfl dX9_file_60 ?_
    refine zb (fun _ _ => lv_if_le (tgt := 68) hx hb dX9_file_63 (by decide)) (fun c_11 => ?_) (fun c_11 => ?_)
    · exact absurd c_11 (by decide)
    · refine zz (fun _ _ => lv_iconst (v := 0) hx hb dX9_file_66 (by decide)) ?_
      exact z_iret C hr hlk dX9_file_67 (by simp only [zd, fX9_file, if_pos c_1, and_self])
def fX9_torn (v : Nat → Int32) (A : Nat → Nat → Int32) (a_ : Int32) (b_ : Int32) : Int32 × (Nat → Int32) × (Nat → Nat → Int32) := if (fX9_isIn a_ 0 3) = 0 then (0, (upd v 0 1), A) else (A 18 (Int32.toNatClampNeg (a_)), (upd v 0 0), (u1 A 18 (upd (A 18) (Int32.toNatClampNeg (a_)) (b_))))
set_option maxHeartbeats 1000000 in
set_option maxRecDepth 10000 in
theorem ctX9_torn {l : Launch} {D : va_G} {aC : Nat → ClassId} {b0 sz : Nat} {r : Nat} {v : Nat → Int32} {A : Nat → Nat → Int32} {R : ZM} {a_ : Int32} {b_ : Int32} (hbb : b_ = 0 ∨ b_ = 1) (hz : ∀ j, j < 4 → A 18 j = 0 ∨ A 18 j = 1) : Ct l D aC b0 yX9_torn cX9_torn 4 (some .boolean) 1 0 0 [.ref (r), .int (a_), .int (b_)] (mm aC r v A R) sz (zd (some (.int (fX9_torn v A a_ b_).1)) (mm aC r (fX9_torn v A a_ b_).2.1 (fX9_torn v A a_ b_).2.2 R)) := by
  refine Ct.of (by decide) (Nat.le_of_ble_eq_true rfl) ?_
  intro p e s m below meth c ls C hr hlk hnm hl
  have hl : lv_has ls 4 [(0, .ref (r)), (1, .int (a_)), (2, .int (b_))] := hl
  obtain ⟨hx, hb, -, -, -⟩ := id C
  refine zz (fun _ _ => lv_aload_n hx hb dX9_torn_0 rfl (lv_at hl 0 rfl)) ?_
  refine zz (fun _ _ => lv_iload_n hx hb dX9_torn_1 rfl (lv_at hl 1 rfl)) ?_
  refine zz (fun _ _ => lv_iconst (v := 0) hx hb dX9_torn_2 (by decide)) ?_
  refine zz (fun _ _ => lv_iconst (v := 3) hx hb dX9_torn_3 (by decide)) ?_
  refine zdS (As := [.int (a_), .int (0), .int (3)]) (rest := [.ref (r)]) (st' := [.int ((fX9_isIn a_ 0 3)), .ref (r)]) C hl.1 lk_X9_135 (ctX9_isIn) rfl rfl (Nat.le_of_ble_eq_true rfl) ⟨by decide, by decide, by decide, by decide⟩ dX9_torn_4 rfl (fun sz => ?_)
  refine zb (fun _ _ => lv_if_eq (tgt := 14) hx hb dX9_torn_7 (by decide)) (fun c_1 => ?_) (fun c_1 => ?_)
  · refine zz (fun _ _ => lv_iconst (v := 1) hx hb dX9_torn_14 (by decide)) ?_
    refine z_put C fp_X9_129 (fun h => by cases h) rm_0 (Nat.le_of_ble_eq_true rfl) rfl rfl dX9_torn_15 ?_
    refine zeq wm_f0 ?_
    refine zz (fun _ _ => lv_aload_n hx hb dX9_torn_18 rfl (lv_at hl 0 rfl)) ?_
    refine z_get (v := .int (1)) C fd_X9_129 rm_0 rfl dX9_torn_19 ?_
    refine zb (fun _ _ => lv_if_le (tgt := 27) hx hb dX9_torn_22 (by decide)) (fun c_2 => ?_) (fun c_2 => ?_)
    · exact absurd c_2 (by decide)
    · refine zz (fun _ _ => lv_iconst (v := 0) hx hb dX9_torn_25 (by decide)) ?_
      exact z_zret C hr rfl hlk dX9_torn_26 (by simp only [zd, fX9_torn, if_pos c_1, and_self])
  · refine zz (fun _ _ => lv_iconst (v := 0) hx hb dX9_torn_10 (by decide)) ?_
    refine zz (fun _ _ => lv_goto (tgt := 15) hx hb dX9_torn_11 (by decide)) ?_
    refine z_put C fp_X9_129 (fun h => by cases h) rm_0 (Nat.le_of_ble_eq_true rfl) rfl rfl dX9_torn_15 ?_
    refine zeq wm_f0 ?_
    refine zz (fun _ _ => lv_aload_n hx hb dX9_torn_18 rfl (lv_at hl 0 rfl)) ?_
    refine z_get (v := .int (0)) C fd_X9_129 rm_0 rfl dX9_torn_19 ?_
    refine zb (fun _ _ => lv_if_le (tgt := 27) hx hb dX9_torn_22 (by decide)) (fun c_3 => ?_) (fun c_3 => ?_)
    · refine zz (fun _ _ => lv_aload_n hx hb dX9_torn_27 rfl (lv_at hl 0 rfl)) ?_
      refine z_get (v := .ref (r + 18)) C fd_X9_62 rm_0 rfl dX9_torn_28 ?_
      refine zz (fun _ _ => lv_iload_n hx hb dX9_torn_31 rfl (lv_at hl 1 rfl)) ?_
      refine z_zald (f := A 18) C rm_18 (in_isIn c_1 (by decide)) dX9_torn_32 ?_
      refine zs (fun _ _ => lv_istore_n (lv' := [(3, .int (A 18 (Int32.toNatClampNeg (a_)))), (0, .ref (r)), (1, .int (a_)), (2, .int (b_))]) hx hb dX9_torn_33 rfl hl (by decide) rfl) (fun ls hl => ?_)
      refine zz (fun _ _ => lv_aload_n hx hb dX9_torn_34 rfl (lv_at hl 1 rfl)) ?_
      refine z_get (v := .ref (r + 18)) C fd_X9_62 rm_0 rfl dX9_torn_35 ?_
      refine zz (fun _ _ => lv_iload_n hx hb dX9_torn_38 rfl (lv_at hl 2 rfl)) ?_
      refine zz (fun _ _ => lv_iload_n hx hb dX9_torn_39 rfl (lv_at hl 3 rfl)) ?_
      refine z_zast (f := A 18) C rm_18 (in_isIn c_1 (by decide)) (bz hbb) dX9_torn_40 ?_
      refine zeq wm_18 ?_
      refine zz (fun _ _ => lv_iload_n hx hb dX9_torn_41 rfl (lv_at hl 0 rfl)) ?_
      exact z_zret C hr (bz (hz _ (vin_lt (in_isIn c_1 (by decide))))) hlk dX9_torn_42 (by simp only [zd, fX9_torn, if_neg c_1, and_self])
    · exact absurd (by decide) c_3
def fX9_changed (v : Nat → Int32) (A : Nat → Nat → Int32) (a_ : Int32) (b_ : Int32) : Int32 × (Nat → Int32) × (Nat → Nat → Int32) := if a_ < 0 then (0, (upd v 0 1), A) else if a_ < v 34 then if (fX9_isIn b_ 0 4) = 0 then (0, (upd v 0 2), A) else if b_ = 0 then (A 29 (Int32.toNatClampNeg (a_)), (upd v 0 0), A) else if b_ = 1 then (A 30 (Int32.toNatClampNeg (a_)), (upd v 0 0), A) else if b_ = 2 then (A 31 (Int32.toNatClampNeg (a_)), (upd v 0 0), A) else if b_ = 3 then (A 32 (Int32.toNatClampNeg (a_)), (upd v 0 0), A) else if A 33 (Int32.toNatClampNeg (a_)) = 0 then (0, (upd v 0 0), A) else (1, (upd v 0 0), A) else (0, (upd v 0 1), A)
set_option maxHeartbeats 1000000 in
set_option maxRecDepth 10000 in
theorem ctX9_changed {l : Launch} {D : va_G} {aC : Nat → ClassId} {b0 sz : Nat} {r : Nat} {v : Nat → Int32} {A : Nat → Nat → Int32} {R : ZM} {a_ : Int32} {b_ : Int32} {n_ : Nat} (hs : v 34 = nI n_) (hn : n_ ≤ 240) : Ct l D aC b0 yX9_changed cX9_changed 3 (some .int) 1 0 0 [.ref (r), .int (a_), .int (b_)] (mm aC r v A R) sz (zd (some (.int (fX9_changed v A a_ b_).1)) (mm aC r (fX9_changed v A a_ b_).2.1 (fX9_changed v A a_ b_).2.2 R)) := by
  refine Ct.of (by decide) (Nat.le_of_ble_eq_true rfl) ?_
  intro p e s m below meth c ls C hr hlk hnm hl
  have hl : lv_has ls 3 [(0, .ref (r)), (1, .int (a_)), (2, .int (b_))] := hl
  obtain ⟨hx, hb, -, -, -⟩ := id C
  refine zz (fun _ _ => lv_aload_n hx hb dX9_changed_0 rfl (lv_at hl 0 rfl)) ?_
  refine zz (fun _ _ => lv_iload_n hx hb dX9_changed_1 rfl (lv_at hl 1 rfl)) ?_
  refine zb (fun _ _ => lv_if_lt (tgt := 13) hx hb dX9_changed_2 (by decide)) (fun c_1 => ?_) (fun c_1 => ?_)
  · refine zz (fun _ _ => lv_iconst (v := 1) hx hb dX9_changed_13 (by decide)) ?_
    refine zz (fun _ _ => lv_goto (tgt := 31) hx hb dX9_changed_14 (by decide)) ?_
    refine z_put C fp_X9_129 (fun h => by cases h) rm_0 (Nat.le_of_ble_eq_true rfl) rfl rfl dX9_changed_31 ?_
    refine zeq wm_f0 ?_
    refine zz (fun _ _ => lv_aload_n hx hb dX9_changed_34 rfl (lv_at hl 0 rfl)) ?_
    refine z_get (v := .int (1)) C fd_X9_129 rm_0 rfl dX9_changed_35 ?_
    refine zb (fun _ _ => lv_if_le (tgt := 43) hx hb dX9_changed_38 (by decide)) (fun c_2 => ?_) (fun c_2 => ?_)
    · exact absurd c_2 (by decide)
    · refine zz (fun _ _ => lv_iconst (v := 0) hx hb dX9_changed_41 (by decide)) ?_
      exact z_iret C hr hlk dX9_changed_42 (by simp only [zd, fX9_changed, if_pos c_1, and_self])
  · refine zz (fun _ _ => lv_iload_n hx hb dX9_changed_5 rfl (lv_at hl 1 rfl)) ?_
    refine zz (fun _ _ => lv_aload_n hx hb dX9_changed_6 rfl (lv_at hl 0 rfl)) ?_
    refine z_get (v := .int (v 34)) C fd_X9_250 rm_0 rfl dX9_changed_7 ?_
    refine zb (fun _ _ => lv_icmp_lt (tgt := 17) hx hb dX9_changed_10 (by decide)) (fun c_3 => ?_) (fun c_3 => ?_)
    · refine zz (fun _ _ => lv_iload_n hx hb dX9_changed_17 rfl (lv_at hl 2 rfl)) ?_
      refine zz (fun _ _ => lv_iconst (v := 0) hx hb dX9_changed_18 (by decide)) ?_
      refine zz (fun _ _ => lv_iconst (v := 4) hx hb dX9_changed_19 (by decide)) ?_
      refine zdS (As := [.int (b_), .int (0), .int (4)]) (rest := [.ref (r)]) (st' := [.int ((fX9_isIn b_ 0 4)), .ref (r)]) C hl.1 lk_X9_135 (ctX9_isIn) rfl rfl (Nat.le_of_ble_eq_true rfl) ⟨by decide, by decide, by decide, by decide⟩ dX9_changed_20 rfl (fun sz => ?_)
      refine zbn (fun _ _ => lv_if_ne (tgt := 30) hx hb dX9_changed_23 (by decide)) (fun c_4 => ?_) (fun c_4 => ?_)
      · refine zz (fun _ _ => lv_iconst (v := 0) hx hb dX9_changed_30 (by decide)) ?_
        refine z_put C fp_X9_129 (fun h => by cases h) rm_0 (Nat.le_of_ble_eq_true rfl) rfl rfl dX9_changed_31 ?_
        refine zeq wm_f0 ?_
        refine zz (fun _ _ => lv_aload_n hx hb dX9_changed_34 rfl (lv_at hl 0 rfl)) ?_
        refine z_get (v := .int (0)) C fd_X9_129 rm_0 rfl dX9_changed_35 ?_
        refine zb (fun _ _ => lv_if_le (tgt := 43) hx hb dX9_changed_38 (by decide)) (fun c_5 => ?_) (fun c_5 => ?_)
        · refine zz (fun _ _ => lv_iload_n hx hb dX9_changed_43 rfl (lv_at hl 2 rfl)) ?_
          by_cases c_6 : b_ = 0
          · refine zz (fun _ _ => lv_tableIn (tgt := 76) (off := (32)) hx hb dX9_changed_44 (by rw [c_6]; decide) (by rw [c_6]; decide) (by rw [c_6]; rfl) (by decide)) ?_
            refine zz (fun _ _ => lv_aload_n hx hb dX9_changed_76 rfl (lv_at hl 0 rfl)) ?_
            refine z_get (v := .ref (r + 29)) C fd_X9_95 rm_0 rfl dX9_changed_77 ?_
            refine zz (fun _ _ => lv_iload_n hx hb dX9_changed_80 rfl (lv_at hl 1 rfl)) ?_
            refine z_iald (f := A 29) C rm_29 (ix_lt2 c_1 c_3 hs hn (by decide)) dX9_changed_81 ?_
            exact z_iret C hr hlk dX9_changed_82 (by simp only [zd, fX9_changed, if_neg c_1, if_pos c_3, if_neg c_4, if_pos c_6, and_self])
          · skip
            by_cases c_7 : b_ = 1
            · refine zz (fun _ _ => lv_tableIn (tgt := 83) (off := (39)) hx hb dX9_changed_44 (by rw [c_7]; decide) (by rw [c_7]; decide) (by rw [c_7]; rfl) (by decide)) ?_
              refine zz (fun _ _ => lv_aload_n hx hb dX9_changed_83 rfl (lv_at hl 0 rfl)) ?_
              refine z_get (v := .ref (r + 30)) C fd_X9_98 rm_0 rfl dX9_changed_84 ?_
              refine zz (fun _ _ => lv_iload_n hx hb dX9_changed_87 rfl (lv_at hl 1 rfl)) ?_
              refine z_iald (f := A 30) C rm_30 (ix_lt2 c_1 c_3 hs hn (by decide)) dX9_changed_88 ?_
              exact z_iret C hr hlk dX9_changed_89 (by simp only [zd, fX9_changed, if_neg c_1, if_pos c_3, if_neg c_4, if_neg c_6, if_pos c_7, and_self])
            · skip
              by_cases c_8 : b_ = 2
              · refine zz (fun _ _ => lv_tableIn (tgt := 90) (off := (46)) hx hb dX9_changed_44 (by rw [c_8]; decide) (by rw [c_8]; decide) (by rw [c_8]; rfl) (by decide)) ?_
                refine zz (fun _ _ => lv_aload_n hx hb dX9_changed_90 rfl (lv_at hl 0 rfl)) ?_
                refine z_get (v := .ref (r + 31)) C fd_X9_101 rm_0 rfl dX9_changed_91 ?_
                refine zz (fun _ _ => lv_iload_n hx hb dX9_changed_94 rfl (lv_at hl 1 rfl)) ?_
                refine z_iald (f := A 31) C rm_31 (ix_lt2 c_1 c_3 hs hn (by decide)) dX9_changed_95 ?_
                exact z_iret C hr hlk dX9_changed_96 (by simp only [zd, fX9_changed, if_neg c_1, if_pos c_3, if_neg c_4, if_neg c_6, if_neg c_7, if_pos c_8, and_self])
              · skip
                by_cases c_9 : b_ = 3
                · refine zz (fun _ _ => lv_tableIn (tgt := 97) (off := (53)) hx hb dX9_changed_44 (by rw [c_9]; decide) (by rw [c_9]; decide) (by rw [c_9]; rfl) (by decide)) ?_
                  refine zz (fun _ _ => lv_aload_n hx hb dX9_changed_97 rfl (lv_at hl 0 rfl)) ?_
                  refine z_get (v := .ref (r + 32)) C fd_X9_104 rm_0 rfl dX9_changed_98 ?_
                  refine zz (fun _ _ => lv_iload_n hx hb dX9_changed_101 rfl (lv_at hl 1 rfl)) ?_
                  refine z_iald (f := A 32) C rm_32 (ix_lt2 c_1 c_3 hs hn (by decide)) dX9_changed_102 ?_
                  exact z_iret C hr hlk dX9_changed_103 (by simp only [zd, fX9_changed, if_neg c_1, if_pos c_3, if_neg c_4, if_neg c_6, if_neg c_7, if_neg c_8, if_pos c_9, and_self])
                · skip
                  refine zz (fun _ _ => lv_tableOut (tgt := 104) hx hb dX9_changed_44 (sw_out (fun n h1 h2 => by rcases (show n = 0 ∨ n = 1 ∨ n = 2 ∨ n = 3 by omega) with rfl | rfl | rfl | rfl <;> assumption)) (by decide)) ?_
                  refine zz (fun _ _ => lv_aload_n hx hb dX9_changed_104 rfl (lv_at hl 0 rfl)) ?_
                  refine z_get (v := .ref (r + 33)) C fd_X9_107 rm_0 rfl dX9_changed_105 ?_
                  refine zz (fun _ _ => lv_iload_n hx hb dX9_changed_108 rfl (lv_at hl 1 rfl)) ?_
                  refine z_zald (f := A 33) C rm_33 (ix_lt2 c_1 c_3 hs hn (by decide)) dX9_changed_109 ?_
                  refine zb (fun _ _ => lv_if_eq (tgt := 117) hx hb dX9_changed_110 (by decide)) (fun c_10 => ?_) (fun c_10 => ?_)
                  · refine zz (fun _ _ => lv_iconst (v := 0) hx hb dX9_changed_117 (by decide)) ?_
                    exact z_iret C hr hlk dX9_changed_118 (by simp only [zd, fX9_changed, if_neg c_1, if_pos c_3, if_neg c_4, if_neg c_6, if_neg c_7, if_neg c_8, if_neg c_9, if_pos c_10, and_self])
                  · refine zz (fun _ _ => lv_iconst (v := 1) hx hb dX9_changed_113 (by decide)) ?_
                    refine zz (fun _ _ => lv_goto (tgt := 118) hx hb dX9_changed_114 (by decide)) ?_
                    exact z_iret C hr hlk dX9_changed_118 (by simp only [zd, fX9_changed, if_neg c_1, if_pos c_3, if_neg c_4, if_neg c_6, if_neg c_7, if_neg c_8, if_neg c_9, if_neg c_10, and_self])
        · exact absurd (by decide) c_5
      · refine zz (fun _ _ => lv_iconst (v := 2) hx hb dX9_changed_26 (by decide)) ?_
        refine zz (fun _ _ => lv_goto (tgt := 31) hx hb dX9_changed_27 (by decide)) ?_
        refine z_put C fp_X9_129 (fun h => by cases h) rm_0 (Nat.le_of_ble_eq_true rfl) rfl rfl dX9_changed_31 ?_
        refine zeq wm_f0 ?_
        refine zz (fun _ _ => lv_aload_n hx hb dX9_changed_34 rfl (lv_at hl 0 rfl)) ?_
        refine z_get (v := .int (2)) C fd_X9_129 rm_0 rfl dX9_changed_35 ?_
        refine zb (fun _ _ => lv_if_le (tgt := 43) hx hb dX9_changed_38 (by decide)) (fun c_11 => ?_) (fun c_11 => ?_)
        · exact absurd c_11 (by decide)
        · refine zz (fun _ _ => lv_iconst (v := 0) hx hb dX9_changed_41 (by decide)) ?_
          exact z_iret C hr hlk dX9_changed_42 (by simp only [zd, fX9_changed, if_neg c_1, if_pos c_3, if_pos c_4, and_self])
    · refine zz (fun _ _ => lv_iconst (v := 1) hx hb dX9_changed_13 (by decide)) ?_
      refine zz (fun _ _ => lv_goto (tgt := 31) hx hb dX9_changed_14 (by decide)) ?_
      refine z_put C fp_X9_129 (fun h => by cases h) rm_0 (Nat.le_of_ble_eq_true rfl) rfl rfl dX9_changed_31 ?_
      refine zeq wm_f0 ?_
      refine zz (fun _ _ => lv_aload_n hx hb dX9_changed_34 rfl (lv_at hl 0 rfl)) ?_
      refine z_get (v := .int (1)) C fd_X9_129 rm_0 rfl dX9_changed_35 ?_
      refine zb (fun _ _ => lv_if_le (tgt := 43) hx hb dX9_changed_38 (by decide)) (fun c_12 => ?_) (fun c_12 => ?_)
      · exact absurd c_12 (by decide)
      · refine zz (fun _ _ => lv_iconst (v := 0) hx hb dX9_changed_41 (by decide)) ?_
        exact z_iret C hr hlk dX9_changed_42 (by simp only [zd, fX9_changed, if_neg c_1, if_neg c_3, and_self])
def fX9_solutions (v : Nat → Int32) (A : Nat → Nat → Int32) (a_ : Int32) : Int32 × (Nat → Int32) × (Nat → Nat → Int32) := if (fX9_isStep v a_) = 0 then (0, (upd v 0 1), A) else (A 34 (Int32.toNatClampNeg (a_)), (upd v 0 0), A)
set_option maxHeartbeats 1000000 in
set_option maxRecDepth 10000 in
theorem ctX9_solutions {l : Launch} {D : va_G} {aC : Nat → ClassId} {b0 sz : Nat} {r : Nat} {v : Nat → Int32} {A : Nat → Nat → Int32} {R : ZM} {a_ : Int32} {n_ : Nat} (hs : v 1 = nI n_) (hn : n_ ≤ 12) : Ct l D aC b0 yX9_solutions cX9_solutions 2 (some .int) 1 0 0 [.ref (r), .int (a_)] (mm aC r v A R) sz (zd (some (.int (fX9_solutions v A a_).1)) (mm aC r (fX9_solutions v A a_).2.1 (fX9_solutions v A a_).2.2 R)) := by
  refine Ct.of (by decide) (Nat.le_of_ble_eq_true rfl) ?_
  intro p e s m below meth c ls C hr hlk hnm hl
  have hl : lv_has ls 2 [(0, .ref (r)), (1, .int (a_))] := hl
  obtain ⟨hx, hb, -, -, -⟩ := id C
  refine zz (fun _ _ => lv_aload_n hx hb dX9_solutions_0 rfl (lv_at hl 0 rfl)) ?_
  refine zz (fun _ _ => lv_aload_n hx hb dX9_solutions_1 rfl (lv_at hl 0 rfl)) ?_
  refine zz (fun _ _ => lv_iload_n hx hb dX9_solutions_2 rfl (lv_at hl 1 rfl)) ?_
  refine zdV (As := [.int (a_)]) (rest := [.ref (r)]) (st' := [.int ((fX9_isStep v a_)), .ref (r)]) C hl.1 lk_X9_143 (ctX9_isStep) rm_0 rfl rfl rfl (Nat.le_of_ble_eq_true rfl) ⟨by decide, by decide, by decide, by decide⟩ dX9_solutions_3 rfl (fun sz => ?_)
  refine zb (fun _ _ => lv_if_eq (tgt := 13) hx hb dX9_solutions_6 (by decide)) (fun c_1 => ?_) (fun c_1 => ?_)
  · refine zz (fun _ _ => lv_iconst (v := 1) hx hb dX9_solutions_13 (by decide)) ?_
    refine z_put C fp_X9_129 (fun h => by cases h) rm_0 (Nat.le_of_ble_eq_true rfl) rfl rfl dX9_solutions_14 ?_
    refine zeq wm_f0 ?_
    refine zz (fun _ _ => lv_aload_n hx hb dX9_solutions_17 rfl (lv_at hl 0 rfl)) ?_
    refine z_get (v := .int (1)) C fd_X9_129 rm_0 rfl dX9_solutions_18 ?_
    refine zb (fun _ _ => lv_if_le (tgt := 28) hx hb dX9_solutions_21 (by decide)) (fun c_2 => ?_) (fun c_2 => ?_)
    · exact absurd c_2 (by decide)
    · refine zz (fun _ _ => lv_iconst (v := 0) hx hb dX9_solutions_24 (by decide)) ?_
      refine zz (fun _ _ => lv_goto (tgt := 34) hx hb dX9_solutions_25 (by decide)) ?_
      exact z_iret C hr hlk dX9_solutions_34 (by simp only [zd, fX9_solutions, if_pos c_1, and_self])
  · refine zz (fun _ _ => lv_iconst (v := 0) hx hb dX9_solutions_9 (by decide)) ?_
    refine zz (fun _ _ => lv_goto (tgt := 14) hx hb dX9_solutions_10 (by decide)) ?_
    refine z_put C fp_X9_129 (fun h => by cases h) rm_0 (Nat.le_of_ble_eq_true rfl) rfl rfl dX9_solutions_14 ?_
    refine zeq wm_f0 ?_
    refine zz (fun _ _ => lv_aload_n hx hb dX9_solutions_17 rfl (lv_at hl 0 rfl)) ?_
    refine z_get (v := .int (0)) C fd_X9_129 rm_0 rfl dX9_solutions_18 ?_
    refine zb (fun _ _ => lv_if_le (tgt := 28) hx hb dX9_solutions_21 (by decide)) (fun c_3 => ?_) (fun c_3 => ?_)
    · refine zz (fun _ _ => lv_aload_n hx hb dX9_solutions_28 rfl (lv_at hl 0 rfl)) ?_
      refine z_get (v := .ref (r + 34)) C fd_X9_110 rm_0 rfl dX9_solutions_29 ?_
      refine zz (fun _ _ => lv_iload_n hx hb dX9_solutions_32 rfl (lv_at hl 1 rfl)) ?_
      refine z_iald (f := A 34) C rm_34 (isStep_in c_1 hs hn (by decide)) dX9_solutions_33 ?_
      exact z_iret C hr hlk dX9_solutions_34 (by simp only [zd, fX9_solutions, if_neg c_1, and_self])
    · exact absurd (by decide) c_3
def fX9_told (v : Nat → Int32) (A : Nat → Nat → Int32) (a_ : Int32) : Int32 × (Nat → Int32) × (Nat → Nat → Int32) := if (fX9_isIn a_ 0 4) = 0 then (0, (upd v 0 1), A) else if a_ = 0 then (v 1, (upd v 0 0), A) else if a_ = 1 then (v 20, (upd v 0 0), A) else if a_ = 2 then (v 26, (upd v 0 0), A) else if a_ = 3 then (v 34, (upd v 0 0), A) else (v 41, (upd v 0 0), A)
set_option maxHeartbeats 1000000 in
set_option maxRecDepth 10000 in
theorem ctX9_told {l : Launch} {D : va_G} {aC : Nat → ClassId} {b0 sz : Nat} {r : Nat} {v : Nat → Int32} {A : Nat → Nat → Int32} {R : ZM} {a_ : Int32} : Ct l D aC b0 yX9_told cX9_told 2 (some .int) 1 0 0 [.ref (r), .int (a_)] (mm aC r v A R) sz (zd (some (.int (fX9_told v A a_).1)) (mm aC r (fX9_told v A a_).2.1 (fX9_told v A a_).2.2 R)) := by
  refine Ct.of (by decide) (Nat.le_of_ble_eq_true rfl) ?_
  intro p e s m below meth c ls C hr hlk hnm hl
  have hl : lv_has ls 2 [(0, .ref (r)), (1, .int (a_))] := hl
  obtain ⟨hx, hb, -, -, -⟩ := id C
  refine zz (fun _ _ => lv_aload_n hx hb dX9_told_0 rfl (lv_at hl 0 rfl)) ?_
  refine zz (fun _ _ => lv_iload_n hx hb dX9_told_1 rfl (lv_at hl 1 rfl)) ?_
  refine zz (fun _ _ => lv_iconst (v := 0) hx hb dX9_told_2 (by decide)) ?_
  refine zz (fun _ _ => lv_iconst (v := 4) hx hb dX9_told_3 (by decide)) ?_
  refine zdS (As := [.int (a_), .int (0), .int (4)]) (rest := [.ref (r)]) (st' := [.int ((fX9_isIn a_ 0 4)), .ref (r)]) C hl.1 lk_X9_135 (ctX9_isIn) rfl rfl (Nat.le_of_ble_eq_true rfl) ⟨by decide, by decide, by decide, by decide⟩ dX9_told_4 rfl (fun sz => ?_)
  refine zb (fun _ _ => lv_if_eq (tgt := 14) hx hb dX9_told_7 (by decide)) (fun c_1 => ?_) (fun c_1 => ?_)
  · refine zz (fun _ _ => lv_iconst (v := 1) hx hb dX9_told_14 (by decide)) ?_
    refine z_put C fp_X9_129 (fun h => by cases h) rm_0 (Nat.le_of_ble_eq_true rfl) rfl rfl dX9_told_15 ?_
    refine zeq wm_f0 ?_
    refine zz (fun _ _ => lv_aload_n hx hb dX9_told_18 rfl (lv_at hl 0 rfl)) ?_
    refine z_get (v := .int (1)) C fd_X9_129 rm_0 rfl dX9_told_19 ?_
    refine zb (fun _ _ => lv_if_le (tgt := 27) hx hb dX9_told_22 (by decide)) (fun c_2 => ?_) (fun c_2 => ?_)
    · exact absurd c_2 (by decide)
    · refine zz (fun _ _ => lv_iconst (v := 0) hx hb dX9_told_25 (by decide)) ?_
      exact z_iret C hr hlk dX9_told_26 (by simp only [zd, fX9_told, if_pos c_1, and_self])
  · refine zz (fun _ _ => lv_iconst (v := 0) hx hb dX9_told_10 (by decide)) ?_
    refine zz (fun _ _ => lv_goto (tgt := 15) hx hb dX9_told_11 (by decide)) ?_
    refine z_put C fp_X9_129 (fun h => by cases h) rm_0 (Nat.le_of_ble_eq_true rfl) rfl rfl dX9_told_15 ?_
    refine zeq wm_f0 ?_
    refine zz (fun _ _ => lv_aload_n hx hb dX9_told_18 rfl (lv_at hl 0 rfl)) ?_
    refine z_get (v := .int (0)) C fd_X9_129 rm_0 rfl dX9_told_19 ?_
    refine zb (fun _ _ => lv_if_le (tgt := 27) hx hb dX9_told_22 (by decide)) (fun c_3 => ?_) (fun c_3 => ?_)
    · refine zz (fun _ _ => lv_iload_n hx hb dX9_told_27 rfl (lv_at hl 1 rfl)) ?_
      refine zbn (fun _ _ => lv_if_ne (tgt := 38) hx hb dX9_told_28 (by decide)) (fun c_4 => ?_) (fun c_4 => ?_)
      · refine zz (fun _ _ => lv_iload_n hx hb dX9_told_38 rfl (lv_at hl 1 rfl)) ?_
        refine zz (fun _ _ => lv_iconst (v := 1) hx hb dX9_told_39 (by decide)) ?_
        refine zbn (fun _ _ => lv_icmp_ne (tgt := 50) hx hb dX9_told_40 (by decide)) (fun c_5 => ?_) (fun c_5 => ?_)
        · refine zz (fun _ _ => lv_iload_n hx hb dX9_told_50 rfl (lv_at hl 1 rfl)) ?_
          refine zz (fun _ _ => lv_iconst (v := 2) hx hb dX9_told_51 (by decide)) ?_
          refine zbn (fun _ _ => lv_icmp_ne (tgt := 62) hx hb dX9_told_52 (by decide)) (fun c_6 => ?_) (fun c_6 => ?_)
          · refine zz (fun _ _ => lv_iload_n hx hb dX9_told_62 rfl (lv_at hl 1 rfl)) ?_
            refine zz (fun _ _ => lv_iconst (v := 3) hx hb dX9_told_63 (by decide)) ?_
            refine zbn (fun _ _ => lv_icmp_ne (tgt := 74) hx hb dX9_told_64 (by decide)) (fun c_7 => ?_) (fun c_7 => ?_)
            · refine zz (fun _ _ => lv_aload_n hx hb dX9_told_74 rfl (lv_at hl 0 rfl)) ?_
              refine z_get (v := .int (v 41)) C fd_X9_196 rm_0 rfl dX9_told_75 ?_
              exact z_iret C hr hlk dX9_told_78 (by simp only [zd, fX9_told, if_neg c_1, if_neg c_4, if_neg c_5, if_neg c_6, if_neg c_7, and_self])
            · refine zz (fun _ _ => lv_aload_n hx hb dX9_told_67 rfl (lv_at hl 0 rfl)) ?_
              refine z_get (v := .int (v 34)) C fd_X9_250 rm_0 rfl dX9_told_68 ?_
              refine zz (fun _ _ => lv_goto (tgt := 78) hx hb dX9_told_71 (by decide)) ?_
              exact z_iret C hr hlk dX9_told_78 (by simp only [zd, fX9_told, if_neg c_1, if_neg c_4, if_neg c_5, if_neg c_6, if_pos c_7, and_self])
          · refine zz (fun _ _ => lv_aload_n hx hb dX9_told_55 rfl (lv_at hl 0 rfl)) ?_
            refine z_get (v := .int (v 26)) C fd_X9_199 rm_0 rfl dX9_told_56 ?_
            refine zz (fun _ _ => lv_goto (tgt := 78) hx hb dX9_told_59 (by decide)) ?_
            exact z_iret C hr hlk dX9_told_78 (by simp only [zd, fX9_told, if_neg c_1, if_neg c_4, if_neg c_5, if_pos c_6, and_self])
        · refine zz (fun _ _ => lv_aload_n hx hb dX9_told_43 rfl (lv_at hl 0 rfl)) ?_
          refine z_get (v := .int (v 20)) C fd_X9_160 rm_0 rfl dX9_told_44 ?_
          refine zz (fun _ _ => lv_goto (tgt := 78) hx hb dX9_told_47 (by decide)) ?_
          exact z_iret C hr hlk dX9_told_78 (by simp only [zd, fX9_told, if_neg c_1, if_neg c_4, if_pos c_5, and_self])
      · refine zz (fun _ _ => lv_aload_n hx hb dX9_told_31 rfl (lv_at hl 0 rfl)) ?_
        refine z_get (v := .int (v 1)) C fd_X9_132 rm_0 rfl dX9_told_32 ?_
        refine zz (fun _ _ => lv_goto (tgt := 78) hx hb dX9_told_35 (by decide)) ?_
        exact z_iret C hr hlk dX9_told_78 (by simp only [zd, fX9_told, if_neg c_1, if_pos c_4, and_self])
    · exact absurd (by decide) c_3
end
