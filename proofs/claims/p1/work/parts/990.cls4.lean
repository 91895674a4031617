set_option maxHeartbeats 2000000 in
set_option maxRecDepth 10000 in
theorem hX7_takeAllFacts {l : Launch} {D : va_G} {aC : Nat → ClassId} {b0 sz : Nat} {x : Nat} {iv av : Nat → Nat → Int32} {R : ZM} {i k : Nat} {to : Int32} {S : St} (hi : i < 12) (hk9 : k ≤ 9) (hkd : iv (61 + 6 * i) 3 = nI k) (hto : iv (61 + 6 * i) 5 = to) (h2 : -2 ≤ to.toInt) (h6 : to.toInt ≤ 6) (hS : SC iv av S) : Ct l D aC b0 yX7_takeAllFacts cX7_takeAllFacts 6 (some .int) 1 0 0 [.ref (x + 2), .ref (x + (61 + 6 * i))] (cm aC x iv av R) sz (zpI (fun iv av => cm aC x iv av R) (fun w' iv' av' => AC iv av (aWipe (decide (k = 5)) to S) w' iv' av')) := by
  refine Ct.of (by decide) (Nat.le_of_ble_eq_true rfl) ?_
  intro p e s m below meth c ls C hr hlk hnm hl
  have hl : lv_has ls 6 [(0, .ref (x + 2)), (1, .ref (x + (61 + 6 * i)))] := hl
  obtain ⟨hx, hb, -, -, -⟩ := id C
  refine zz (fun _ _ => lv_aload_n hx hb dX7_takeAllFacts_0 rfl (lv_at hl 1 rfl)) ?_
  refine z_get (v := .int (iv (61 + 6 * i) 5)) C fd_X7_61 (rd_18 (ck_s hi)) rfl dX7_takeAllFacts_1 ?_
  refine zval (v' := .int (to)) (congrArg Value.int hto) ?_
  refine zdS (As := [.int (to)]) (rest := []) (st' := [.int ((fX8_isGraph to))]) C hl.1 lk_X7_64 (ctX8_isGraph ) rfl rfl (Nat.le_of_ble_eq_true rfl) ⟨by decide, by decide, by decide, by decide⟩ dX7_takeAllFacts_4 rfl (fun sz => ?_)
  refine zs (fun _ _ => lv_istore_n (lv' := [(2, .int ((fX8_isGraph to))), (0, .ref (x + 2)), (1, .ref (x + (61 + 6 * i)))]) hx hb dX7_takeAllFacts_7 rfl hl (by decide) rfl) (fun ls hl => ?_)
  refine zz (fun _ _ => lv_iload_n hx hb dX7_takeAllFacts_8 rfl (lv_at hl 0 rfl)) ?_
  refine zb (fun _ _ => lv_if_eq (tgt := 32) hx hb dX7_takeAllFacts_9 (by decide)) (fun c_1 => ?_) (fun c_1 => ?_)
  · refine zz (fun _ _ => lv_iload_n hx hb dX7_takeAllFacts_32 rfl (lv_at hl 0 rfl)) ?_
    refine zb (fun _ _ => lv_if_eq (tgt := 43) hx hb dX7_takeAllFacts_33 (by decide)) (fun c_2 => ?_) (fun c_2 => ?_)
    · refine zz (fun _ _ => lv_aload_n hx hb dX7_takeAllFacts_43 rfl (lv_at hl 2 rfl)) ?_
      refine z_get (v := .int (iv (61 + 6 * i) 5)) C fd_X7_61 (rd_18 (ck_s hi)) rfl dX7_takeAllFacts_44 ?_
      refine zval (v' := .int (to)) (congrArg Value.int hto) ?_
      refine zz (fun _ _ => lv_iconst (v := (-1)) hx hb dX7_takeAllFacts_47 (by decide)) ?_
      refine zbn (fun _ _ => lv_icmp_ne (tgt := 55) hx hb dX7_takeAllFacts_48 (by decide)) (fun c_3 => ?_) (fun c_3 => ?_)
      · refine zz (fun _ _ => lv_iconst (v := 1) hx hb dX7_takeAllFacts_55 (by decide)) ?_
        refine zval (v' := .int (nI 1)) (congrArg Value.int rfl) ?_
        refine zs (fun _ _ => lv_istore_n (lv' := [(3, .int (nI 1)), (2, .int ((fX8_isGraph to))), (0, .ref (x + 2)), (1, .ref (x + (61 + 6 * i)))]) hx hb dX7_takeAllFacts_56 rfl hl (by decide) rfl) (fun ls hl => ?_)
        refine zz (fun _ _ => lv_iload_n hx hb dX7_takeAllFacts_57 rfl (lv_at hl 1 rfl)) ?_
        refine zb (fun _ _ => lv_if_eq (tgt := 68) hx hb dX7_takeAllFacts_58 (by decide)) (fun c_4 => ?_) (fun c_4 => ?_)
        · refine zz (fun _ _ => lv_bipush (v := 6) hx hb dX7_takeAllFacts_68 (by decide)) ?_
          refine zval (v' := .int (nI 6)) (congrArg Value.int rfl) ?_
          refine zs (fun _ _ => lv_istore (lv' := [(4, .int (nI 6)), (3, .int (nI 1)), (2, .int ((fX8_isGraph to))), (0, .ref (x + 2)), (1, .ref (x + (61 + 6 * i)))]) hx hb dX7_takeAllFacts_70 hl (by decide) rfl) (fun ls hl => ?_)
          refine zz (fun _ _ => lv_iload_n hx hb dX7_takeAllFacts_72 rfl (lv_at hl 1 rfl)) ?_
          refine zs (fun _ _ => lv_istore (lv' := [(5, .int (nI 1)), (4, .int (nI 6)), (3, .int (nI 1)), (2, .int ((fX8_isGraph to))), (0, .ref (x + 2)), (1, .ref (x + (61 + 6 * i)))]) hx hb dX7_takeAllFacts_73 hl (by decide) rfl) (fun ls hl => ?_)
          have hl0 := lv_sub hl [4, 5, 3, 2, 1, 0] rfl
          refine z_loop (γ := (Nat → Nat → Int32) × (Nat → Nat → Int32)) (G := fun a => cm aC x a.1 a.2 R) (I := fun j a => cwJ iv av S (decide (k = 5)) 1 j a.1 a.2) (lv := fun j a => [(0, .ref (x + 2)), (1, .ref (x + (61 + 6 * i))), (2, .int ((fX8_isGraph to))), (3, .int (nI 1)), (4, .int (nI 6)), (5, .int (nI (1 + j)))]) (6) ?_ ?_ (iv, av) _ _ (cwJ_0 hS) hl0
          · intro j5 a5 sz ls hj5 hI5 hl ih5
            obtain ⟨iv5, av5⟩ := a5
            dsimp only at hI5 hl ih5
            refine zeq (M' := (cm aC x iv5 av5 R)) rfl ?_
            refine zz (fun _ _ => lv_iload hx hb dX7_takeAllFacts_75 (lv_at hl 5 rfl)) ?_
            refine zz (fun _ _ => lv_iload hx hb dX7_takeAllFacts_77 (lv_at hl 4 rfl)) ?_
            refine zb (fun _ _ => lv_icmp_gt (tgt := 122) hx hb dX7_takeAllFacts_79 (by decide)) (fun c_6 => ?_) (fun c_6 => ?_)
            · exact absurd c_6 (nI_nlt (by omega) (by omega))
            · refine zz (fun _ _ => lv_aload_n hx hb dX7_takeAllFacts_82 rfl (lv_at hl 1 rfl)) ?_
              refine z_get (v := .int (iv5 (61 + 6 * i) 3)) C fd_X7_40 (rd_18 (ck_s hi)) rfl dX7_takeAllFacts_83 ?_
              refine zval (v' := .int (nI k)) (congrArg Value.int ((hI5.1.1 (61 + 6 * i) 3 (by omega)).trans hkd)) ?_
              refine zz (fun _ _ => lv_iconst (v := 5) hx hb dX7_takeAllFacts_86 (by decide)) ?_
              refine zval (v' := .int (nI 5)) (congrArg Value.int rfl) ?_
              refine zbn (fun _ _ => lv_icmp_ne (tgt := 102) hx hb dX7_takeAllFacts_87 (by decide)) (fun c_7 => ?_) (fun c_7 => ?_)
              · refine zz (fun _ _ => lv_aload_n hx hb dX7_takeAllFacts_102 rfl (lv_at hl 0 rfl)) ?_
                refine z_get (v := .ref (x + 3)) C fd_X7_12 (rd_3 (by decide)) rfl dX7_takeAllFacts_103 ?_
                refine z_get (v := .ref (x + 4)) C fd_X7_68 (rd_4 (by decide)) rfl dX7_takeAllFacts_106 ?_
                refine zz (fun _ _ => lv_iload hx hb dX7_takeAllFacts_109 (lv_at hl 5 rfl)) ?_
                refine z_aald C 3 rfl (rd_5 (by decide)) (by first | assumption | (apply vp_in_nI <;> omega)) (v := .ref (x + (4 + 1 + 2 * (1 + j5)))) (rf_if (f := fun q => x + (4 + 1 + 2 * q)) (n := 7) rfl (by omega) (by decide)) dX7_takeAllFacts_111 ?_
                refine zz (fun _ _ => lv_iconst (v := 0) hx hb dX7_takeAllFacts_112 (by decide)) ?_
                refine z_put C fp_X7_82 (fun h => by cases h) (rd_6 (kp_5 (by decide) (by omega))) (Nat.le_of_ble_eq_true rfl) rfl rfl dX7_takeAllFacts_113 ?_
                refine zeq (wr_6_1 (kp_5 (by decide) (by omega))) ?_
                refine zs (fun _ _ => lv_iinc (v := nI (1 + j5) + 1) (lv' := [(5, .int (nI (1 + j5) + 1)), (0, .ref (x + 2)), (1, .ref (x + (61 + 6 * i))), (2, .int ((fX8_isGraph to))), (3, .int (nI 1)), (4, .int (nI 6))]) hx hb dX7_takeAllFacts_116 hl (k := 5) rfl rfl (by decide) rfl) (fun ls hl => ?_)
                refine zz (fun _ _ => lv_goto (tgt := 75) hx hb dX7_takeAllFacts_119 (by decide)) ?_
                have hl := lv_sub hl [1, 2, 3, 4, 5, 0] rfl
                try simp only [nI_1] at hl
                exact ih5 ((u2 iv5 (4 + 1 + 2 * (1 + j5)) 1 (0)), av5) _ _ (by show cwJ iv av S (decide (k = 5)) 1 (j5 + 1) _ _; rw [show decide (k = 5) = false by simp [show ¬ k = 5 from fun q => c_7 (by rw [q])]]; exact cwJ_c (by have h9 := hI5; rw [show decide (k = 5) = false by simp [show ¬ k = 5 from fun q => c_7 (by rw [q])]] at h9; exact h9) (by omega)) hl
              · refine zz (fun _ _ => lv_aload_n hx hb dX7_takeAllFacts_90 rfl (lv_at hl 0 rfl)) ?_
                refine z_get (v := .ref (x + 3)) C fd_X7_12 (rd_3 (by decide)) rfl dX7_takeAllFacts_91 ?_
                refine zz (fun _ _ => lv_iload hx hb dX7_takeAllFacts_94 (lv_at hl 5 rfl)) ?_
                refine zdV (As := [.int (nI (1 + j5))]) (rest := []) (st' := []) C hl.1 lk_X7_78 (ctX6_drop (by decide) rfl (by omega)) (rd_4 (by decide)) rfl rfl rfl (Nat.le_of_ble_eq_true rfl) ⟨by decide, by decide, by decide, by decide⟩ dX7_takeAllFacts_96 rfl (fun sz => ?_)
                refine zz (fun _ _ => lv_goto (tgt := 116) hx hb dX7_takeAllFacts_99 (by decide)) ?_
                refine zs (fun _ _ => lv_iinc (v := nI (1 + j5) + 1) (lv' := [(5, .int (nI (1 + j5) + 1)), (0, .ref (x + 2)), (1, .ref (x + (61 + 6 * i))), (2, .int ((fX8_isGraph to))), (3, .int (nI 1)), (4, .int (nI 6))]) hx hb dX7_takeAllFacts_116 hl (k := 5) rfl rfl (by decide) rfl) (fun ls hl => ?_)
                refine zz (fun _ _ => lv_goto (tgt := 75) hx hb dX7_takeAllFacts_119 (by decide)) ?_
                have hl := lv_sub hl [1, 2, 3, 4, 5, 0] rfl
                try simp only [nI_1] at hl
                exact ih5 ((fX6_drop iv5 av5 3 (1 + j5) (nI (1 + j5))).1, (fX6_drop iv5 av5 3 (1 + j5) (nI (1 + j5))).2) _ _ (by show cwJ iv av S (decide (k = 5)) 1 (j5 + 1) _ _; rw [show decide (k = 5) = true by simp [show k = 5 from ((nI_eq (by omega) (by omega)).mp c_7)]]; exact cwJ_d (by have h9 := hI5; rw [show decide (k = 5) = true by simp [show k = 5 from ((nI_eq (by omega) (by omega)).mp c_7)]] at h9; exact h9) (by omega)) hl
          · intro a5 sz ls hI5 hl
            obtain ⟨iv5, av5⟩ := a5
            dsimp only at hI5 hl
            refine zeq (M' := (cm aC x iv5 av5 R)) rfl ?_
            refine zz (fun _ _ => lv_iload hx hb dX7_takeAllFacts_75 (lv_at hl 5 rfl)) ?_
            refine zz (fun _ _ => lv_iload hx hb dX7_takeAllFacts_77 (lv_at hl 4 rfl)) ?_
            refine zb (fun _ _ => lv_icmp_gt (tgt := 122) hx hb dX7_takeAllFacts_79 (by decide)) (fun c_8 => ?_) (fun c_8 => ?_)
            · refine zz (fun _ _ => lv_iconst (v := 0) hx hb dX7_takeAllFacts_122 (by decide)) ?_
              exact z_iret C hr hlk dX7_takeAllFacts_123 (zpI_mk (a := iv5) (b := av5) (wpc_0 h6 hS (Or.inl c_1) (fun g hg => by rw [to_m2 c_1 h2 h6 c_3]; exact inTo_named hg) (by decide) hI5))
            · exact absurd (nI_lt (by omega) (by omega)) c_8
        · exact absurd c_1 c_4
      · refine zz (fun _ _ => lv_iconst (v := 0) hx hb dX7_takeAllFacts_51 (by decide)) ?_
        refine zval (v' := .int (nI 0)) (congrArg Value.int rfl) ?_
        refine zz (fun _ _ => lv_goto (tgt := 56) hx hb dX7_takeAllFacts_52 (by decide)) ?_
        refine zs (fun _ _ => lv_istore_n (lv' := [(3, .int (nI 0)), (2, .int ((fX8_isGraph to))), (0, .ref (x + 2)), (1, .ref (x + (61 + 6 * i)))]) hx hb dX7_takeAllFacts_56 rfl hl (by decide) rfl) (fun ls hl => ?_)
        refine zz (fun _ _ => lv_iload_n hx hb dX7_takeAllFacts_57 rfl (lv_at hl 1 rfl)) ?_
        refine zb (fun _ _ => lv_if_eq (tgt := 68) hx hb dX7_takeAllFacts_58 (by decide)) (fun c_9 => ?_) (fun c_9 => ?_)
        · refine zz (fun _ _ => lv_bipush (v := 6) hx hb dX7_takeAllFacts_68 (by decide)) ?_
          refine zval (v' := .int (nI 6)) (congrArg Value.int rfl) ?_
          refine zs (fun _ _ => lv_istore (lv' := [(4, .int (nI 6)), (3, .int (nI 0)), (2, .int ((fX8_isGraph to))), (0, .ref (x + 2)), (1, .ref (x + (61 + 6 * i)))]) hx hb dX7_takeAllFacts_70 hl (by decide) rfl) (fun ls hl => ?_)
          refine zz (fun _ _ => lv_iload_n hx hb dX7_takeAllFacts_72 rfl (lv_at hl 1 rfl)) ?_
          refine zs (fun _ _ => lv_istore (lv' := [(5, .int (nI 0)), (4, .int (nI 6)), (3, .int (nI 0)), (2, .int ((fX8_isGraph to))), (0, .ref (x + 2)), (1, .ref (x + (61 + 6 * i)))]) hx hb dX7_takeAllFacts_73 hl (by decide) rfl) (fun ls hl => ?_)
          have hl0 := lv_sub hl [4, 5, 3, 2, 1, 0] rfl
          refine z_loop (γ := (Nat → Nat → Int32) × (Nat → Nat → Int32)) (G := fun a => cm aC x a.1 a.2 R) (I := fun j a => cwJ iv av S (decide (k = 5)) 0 j a.1 a.2) (lv := fun j a => [(0, .ref (x + 2)), (1, .ref (x + (61 + 6 * i))), (2, .int ((fX8_isGraph to))), (3, .int (nI 0)), (4, .int (nI 6)), (5, .int (nI (0 + j)))]) (7) ?_ ?_ (iv, av) _ _ (cwJ_0 hS) hl0
          · intro j10 a10 sz ls hj10 hI10 hl ih10
            obtain ⟨iv10, av10⟩ := a10
            dsimp only at hI10 hl ih10
            refine zeq (M' := (cm aC x iv10 av10 R)) rfl ?_
            refine zz (fun _ _ => lv_iload hx hb dX7_takeAllFacts_75 (lv_at hl 5 rfl)) ?_
            refine zz (fun _ _ => lv_iload hx hb dX7_takeAllFacts_77 (lv_at hl 4 rfl)) ?_
            refine zb (fun _ _ => lv_icmp_gt (tgt := 122) hx hb dX7_takeAllFacts_79 (by decide)) (fun c_11 => ?_) (fun c_11 => ?_)
            · exact absurd c_11 (nI_nlt (by omega) (by omega))
            · refine zz (fun _ _ => lv_aload_n hx hb dX7_takeAllFacts_82 rfl (lv_at hl 1 rfl)) ?_
              refine z_get (v := .int (iv10 (61 + 6 * i) 3)) C fd_X7_40 (rd_18 (ck_s hi)) rfl dX7_takeAllFacts_83 ?_
              refine zval (v' := .int (nI k)) (congrArg Value.int ((hI10.1.1 (61 + 6 * i) 3 (by omega)).trans hkd)) ?_
              refine zz (fun _ _ => lv_iconst (v := 5) hx hb dX7_takeAllFacts_86 (by decide)) ?_
              refine zval (v' := .int (nI 5)) (congrArg Value.int rfl) ?_
              refine zbn (fun _ _ => lv_icmp_ne (tgt := 102) hx hb dX7_takeAllFacts_87 (by decide)) (fun c_12 => ?_) (fun c_12 => ?_)
              · refine zz (fun _ _ => lv_aload_n hx hb dX7_takeAllFacts_102 rfl (lv_at hl 0 rfl)) ?_
                refine z_get (v := .ref (x + 3)) C fd_X7_12 (rd_3 (by decide)) rfl dX7_takeAllFacts_103 ?_
                refine z_get (v := .ref (x + 4)) C fd_X7_68 (rd_4 (by decide)) rfl dX7_takeAllFacts_106 ?_
                refine zz (fun _ _ => lv_iload hx hb dX7_takeAllFacts_109 (lv_at hl 5 rfl)) ?_
                refine z_aald C 3 rfl (rd_5 (by decide)) (by first | assumption | (apply vp_in_nI <;> omega)) (v := .ref (x + (4 + 1 + 2 * (0 + j10)))) (rf_if (f := fun q => x + (4 + 1 + 2 * q)) (n := 7) rfl (by omega) (by decide)) dX7_takeAllFacts_111 ?_
                refine zz (fun _ _ => lv_iconst (v := 0) hx hb dX7_takeAllFacts_112 (by decide)) ?_
                refine z_put C fp_X7_82 (fun h => by cases h) (rd_6 (kp_5 (by decide) (by omega))) (Nat.le_of_ble_eq_true rfl) rfl rfl dX7_takeAllFacts_113 ?_
                refine zeq (wr_6_1 (kp_5 (by decide) (by omega))) ?_
                refine zs (fun _ _ => lv_iinc (v := nI (0 + j10) + 1) (lv' := [(5, .int (nI (0 + j10) + 1)), (0, .ref (x + 2)), (1, .ref (x + (61 + 6 * i))), (2, .int ((fX8_isGraph to))), (3, .int (nI 0)), (4, .int (nI 6))]) hx hb dX7_takeAllFacts_116 hl (k := 5) rfl rfl (by decide) rfl) (fun ls hl => ?_)
                refine zz (fun _ _ => lv_goto (tgt := 75) hx hb dX7_takeAllFacts_119 (by decide)) ?_
                have hl := lv_sub hl [1, 2, 3, 4, 5, 0] rfl
                try simp only [nI_1] at hl
                exact ih10 ((u2 iv10 (4 + 1 + 2 * (0 + j10)) 1 (0)), av10) _ _ (by show cwJ iv av S (decide (k = 5)) 0 (j10 + 1) _ _; rw [show decide (k = 5) = false by simp [show ¬ k = 5 from fun q => c_12 (by rw [q])]]; exact cwJ_c (by have h9 := hI10; rw [show decide (k = 5) = false by simp [show ¬ k = 5 from fun q => c_12 (by rw [q])]] at h9; exact h9) (by omega)) hl
              · refine zz (fun _ _ => lv_aload_n hx hb dX7_takeAllFacts_90 rfl (lv_at hl 0 rfl)) ?_
                refine z_get (v := .ref (x + 3)) C fd_X7_12 (rd_3 (by decide)) rfl dX7_takeAllFacts_91 ?_
                refine zz (fun _ _ => lv_iload hx hb dX7_takeAllFacts_94 (lv_at hl 5 rfl)) ?_
                refine zdV (As := [.int (nI (0 + j10))]) (rest := []) (st' := []) C hl.1 lk_X7_78 (ctX6_drop (by decide) rfl (by omega)) (rd_4 (by decide)) rfl rfl rfl (Nat.le_of_ble_eq_true rfl) ⟨by decide, by decide, by decide, by decide⟩ dX7_takeAllFacts_96 rfl (fun sz => ?_)
                refine zz (fun _ _ => lv_goto (tgt := 116) hx hb dX7_takeAllFacts_99 (by decide)) ?_
                refine zs (fun _ _ => lv_iinc (v := nI (0 + j10) + 1) (lv' := [(5, .int (nI (0 + j10) + 1)), (0, .ref (x + 2)), (1, .ref (x + (61 + 6 * i))), (2, .int ((fX8_isGraph to))), (3, .int (nI 0)), (4, .int (nI 6))]) hx hb dX7_takeAllFacts_116 hl (k := 5) rfl rfl (by decide) rfl) (fun ls hl => ?_)
                refine zz (fun _ _ => lv_goto (tgt := 75) hx hb dX7_takeAllFacts_119 (by decide)) ?_
                have hl := lv_sub hl [1, 2, 3, 4, 5, 0] rfl
                try simp only [nI_1] at hl
                exact ih10 ((fX6_drop iv10 av10 3 (0 + j10) (nI (0 + j10))).1, (fX6_drop iv10 av10 3 (0 + j10) (nI (0 + j10))).2) _ _ (by show cwJ iv av S (decide (k = 5)) 0 (j10 + 1) _ _; rw [show decide (k = 5) = true by simp [show k = 5 from ((nI_eq (by omega) (by omega)).mp c_12)]]; exact cwJ_d (by have h9 := hI10; rw [show decide (k = 5) = true by simp [show k = 5 from ((nI_eq (by omega) (by omega)).mp c_12)]] at h9; exact h9) (by omega)) hl
          · intro a10 sz ls hI10 hl
            obtain ⟨iv10, av10⟩ := a10
            dsimp only at hI10 hl
            refine zeq (M' := (cm aC x iv10 av10 R)) rfl ?_
            refine zz (fun _ _ => lv_iload hx hb dX7_takeAllFacts_75 (lv_at hl 5 rfl)) ?_
            refine zz (fun _ _ => lv_iload hx hb dX7_takeAllFacts_77 (lv_at hl 4 rfl)) ?_
            refine zb (fun _ _ => lv_icmp_gt (tgt := 122) hx hb dX7_takeAllFacts_79 (by decide)) (fun c_13 => ?_) (fun c_13 => ?_)
            · refine zz (fun _ _ => lv_iconst (v := 0) hx hb dX7_takeAllFacts_122 (by decide)) ?_
              exact z_iret C hr hlk dX7_takeAllFacts_123 (zpI_mk (a := iv10) (b := av10) (wpc_0 h6 hS (Or.inl c_1) (fun g hg => by rw [c_3]; exact inTo_all hg) (by decide) hI10))
            · exact absurd (nI_lt (by omega) (by omega)) c_13
        · exact absurd c_1 c_9
    · exact absurd c_1 c_2
  · obtain ⟨t9, ht9, et9, en9⟩ := to_gr c_1
    refine zz (fun _ _ => lv_aload_n hx hb dX7_takeAllFacts_12 rfl (lv_at hl 1 rfl)) ?_
    refine z_get (v := .ref (x + 3)) C fd_X7_12 (rd_3 (by decide)) rfl dX7_takeAllFacts_13 ?_
    refine z_get (v := .ref (x + 4)) C fd_X7_68 (rd_4 (by decide)) rfl dX7_takeAllFacts_16 ?_
    refine zz (fun _ _ => lv_aload_n hx hb dX7_takeAllFacts_19 rfl (lv_at hl 2 rfl)) ?_
    refine z_get (v := .int (iv (61 + 6 * i) 5)) C fd_X7_61 (rd_18 (ck_s hi)) rfl dX7_takeAllFacts_20 ?_
    refine zval (v' := .int (nI t9)) (congrArg Value.int (hto.trans et9)) ?_
    refine z_aald C 3 rfl (rd_5 (by decide)) (by first | assumption | (apply vp_in_nI <;> omega)) (v := .ref (x + (4 + 1 + 2 * t9))) (rf_if (f := fun q => x + (4 + 1 + 2 * q)) (n := 7) rfl ht9 (by decide)) dX7_takeAllFacts_23 ?_
    refine z_get (v := .int (iv (4 + 1 + 2 * t9) 2)) C fd_X7_72 (rd_6 (kp_5 (by decide) ht9)) rfl dX7_takeAllFacts_24 ?_
    refine zval (v' := .int (tI (S.2.1 t9))) (congrArg Value.int (hS.2.1 t9 ht9).2.1) ?_
    refine zbn (fun _ _ => lv_if_ne (tgt := 32) hx hb dX7_takeAllFacts_27 (by decide)) (fun c_14 => ?_) (fun c_14 => ?_)
    · refine zz (fun _ _ => lv_iload_n hx hb dX7_takeAllFacts_32 rfl (lv_at hl 0 rfl)) ?_
      refine zb (fun _ _ => lv_if_eq (tgt := 43) hx hb dX7_takeAllFacts_33 (by decide)) (fun c_15 => ?_) (fun c_15 => ?_)
      · exact absurd c_15 c_1
      · refine zz (fun _ _ => lv_aload_n hx hb dX7_takeAllFacts_36 rfl (lv_at hl 2 rfl)) ?_
        refine z_get (v := .int (iv (61 + 6 * i) 5)) C fd_X7_61 (rd_18 (ck_s hi)) rfl dX7_takeAllFacts_37 ?_
        refine zval (v' := .int (nI t9)) (congrArg Value.int (hto.trans et9)) ?_
        refine zz (fun _ _ => lv_goto (tgt := 56) hx hb dX7_takeAllFacts_40 (by decide)) ?_
        refine zs (fun _ _ => lv_istore_n (lv' := [(3, .int (nI t9)), (2, .int ((fX8_isGraph to))), (0, .ref (x + 2)), (1, .ref (x + (61 + 6 * i)))]) hx hb dX7_takeAllFacts_56 rfl hl (by decide) rfl) (fun ls hl => ?_)
        refine zz (fun _ _ => lv_iload_n hx hb dX7_takeAllFacts_57 rfl (lv_at hl 1 rfl)) ?_
        refine zb (fun _ _ => lv_if_eq (tgt := 68) hx hb dX7_takeAllFacts_58 (by decide)) (fun c_16 => ?_) (fun c_16 => ?_)
        · exact absurd c_16 c_1
        · refine zz (fun _ _ => lv_aload_n hx hb dX7_takeAllFacts_61 rfl (lv_at hl 3 rfl)) ?_
          refine z_get (v := .int (iv (61 + 6 * i) 5)) C fd_X7_61 (rd_18 (ck_s hi)) rfl dX7_takeAllFacts_62 ?_
          refine zval (v' := .int (nI t9)) (congrArg Value.int (hto.trans et9)) ?_
          refine zz (fun _ _ => lv_goto (tgt := 70) hx hb dX7_takeAllFacts_65 (by decide)) ?_
          refine zs (fun _ _ => lv_istore (lv' := [(4, .int (nI t9)), (3, .int (nI t9)), (2, .int ((fX8_isGraph to))), (0, .ref (x + 2)), (1, .ref (x + (61 + 6 * i)))]) hx hb dX7_takeAllFacts_70 hl (by decide) rfl) (fun ls hl => ?_)
          refine zz (fun _ _ => lv_iload_n hx hb dX7_takeAllFacts_72 rfl (lv_at hl 1 rfl)) ?_
          refine zs (fun _ _ => lv_istore (lv' := [(5, .int (nI t9)), (4, .int (nI t9)), (3, .int (nI t9)), (2, .int ((fX8_isGraph to))), (0, .ref (x + 2)), (1, .ref (x + (61 + 6 * i)))]) hx hb dX7_takeAllFacts_73 hl (by decide) rfl) (fun ls hl => ?_)
          have hl0 := lv_sub hl [4, 5, 3, 2, 1, 0] rfl
          refine z_loop (γ := (Nat → Nat → Int32) × (Nat → Nat → Int32)) (G := fun a => cm aC x a.1 a.2 R) (I := fun j a => cwJ iv av S (decide (k = 5)) t9 j a.1 a.2) (lv := fun j a => [(0, .ref (x + 2)), (1, .ref (x + (61 + 6 * i))), (2, .int ((fX8_isGraph to))), (3, .int (nI t9)), (4, .int (nI t9)), (5, .int (nI (t9 + j)))]) (1) ?_ ?_ (iv, av) _ _ (cwJ_0 hS) hl0
          · intro j17 a17 sz ls hj17 hI17 hl ih17
            obtain ⟨iv17, av17⟩ := a17
            dsimp only at hI17 hl ih17
            refine zeq (M' := (cm aC x iv17 av17 R)) rfl ?_
            refine zz (fun _ _ => lv_iload hx hb dX7_takeAllFacts_75 (lv_at hl 5 rfl)) ?_
            refine zz (fun _ _ => lv_iload hx hb dX7_takeAllFacts_77 (lv_at hl 4 rfl)) ?_
            refine zb (fun _ _ => lv_icmp_gt (tgt := 122) hx hb dX7_takeAllFacts_79 (by decide)) (fun c_18 => ?_) (fun c_18 => ?_)
            · exact absurd c_18 (nI_nlt (by omega) (by omega))
            · refine zz (fun _ _ => lv_aload_n hx hb dX7_takeAllFacts_82 rfl (lv_at hl 1 rfl)) ?_
              refine z_get (v := .int (iv17 (61 + 6 * i) 3)) C fd_X7_40 (rd_18 (ck_s hi)) rfl dX7_takeAllFacts_83 ?_
              refine zval (v' := .int (nI k)) (congrArg Value.int ((hI17.1.1 (61 + 6 * i) 3 (by omega)).trans hkd)) ?_
              refine zz (fun _ _ => lv_iconst (v := 5) hx hb dX7_takeAllFacts_86 (by decide)) ?_
              refine zval (v' := .int (nI 5)) (congrArg Value.int rfl) ?_
              refine zbn (fun _ _ => lv_icmp_ne (tgt := 102) hx hb dX7_takeAllFacts_87 (by decide)) (fun c_19 => ?_) (fun c_19 => ?_)
              · refine zz (fun _ _ => lv_aload_n hx hb dX7_takeAllFacts_102 rfl (lv_at hl 0 rfl)) ?_
                refine z_get (v := .ref (x + 3)) C fd_X7_12 (rd_3 (by decide)) rfl dX7_takeAllFacts_103 ?_
                refine z_get (v := .ref (x + 4)) C fd_X7_68 (rd_4 (by decide)) rfl dX7_takeAllFacts_106 ?_
                refine zz (fun _ _ => lv_iload hx hb dX7_takeAllFacts_109 (lv_at hl 5 rfl)) ?_
                refine z_aald C 3 rfl (rd_5 (by decide)) (by first | assumption | (apply vp_in_nI <;> omega)) (v := .ref (x + (4 + 1 + 2 * (t9 + j17)))) (rf_if (f := fun q => x + (4 + 1 + 2 * q)) (n := 7) rfl (by omega) (by decide)) dX7_takeAllFacts_111 ?_
                refine zz (fun _ _ => lv_iconst (v := 0) hx hb dX7_takeAllFacts_112 (by decide)) ?_
                refine z_put C fp_X7_82 (fun h => by cases h) (rd_6 (kp_5 (by decide) (by omega))) (Nat.le_of_ble_eq_true rfl) rfl rfl dX7_takeAllFacts_113 ?_
                refine zeq (wr_6_1 (kp_5 (by decide) (by omega))) ?_
                refine zs (fun _ _ => lv_iinc (v := nI (t9 + j17) + 1) (lv' := [(5, .int (nI (t9 + j17) + 1)), (0, .ref (x + 2)), (1, .ref (x + (61 + 6 * i))), (2, .int ((fX8_isGraph to))), (3, .int (nI t9)), (4, .int (nI t9))]) hx hb dX7_takeAllFacts_116 hl (k := 5) rfl rfl (by decide) rfl) (fun ls hl => ?_)
                refine zz (fun _ _ => lv_goto (tgt := 75) hx hb dX7_takeAllFacts_119 (by decide)) ?_
                have hl := lv_sub hl [1, 2, 3, 4, 5, 0] rfl
                try simp only [nI_1] at hl
                exact ih17 ((u2 iv17 (4 + 1 + 2 * (t9 + j17)) 1 (0)), av17) _ _ (by show cwJ iv av S (decide (k = 5)) t9 (j17 + 1) _ _; rw [show decide (k = 5) = false by simp [show ¬ k = 5 from fun q => c_19 (by rw [q])]]; exact cwJ_c (by have h9 := hI17; rw [show decide (k = 5) = false by simp [show ¬ k = 5 from fun q => c_19 (by rw [q])]] at h9; exact h9) (by omega)) hl
              · refine zz (fun _ _ => lv_aload_n hx hb dX7_takeAllFacts_90 rfl (lv_at hl 0 rfl)) ?_
                refine z_get (v := .ref (x + 3)) C fd_X7_12 (rd_3 (by decide)) rfl dX7_takeAllFacts_91 ?_
                refine zz (fun _ _ => lv_iload hx hb dX7_takeAllFacts_94 (lv_at hl 5 rfl)) ?_
                refine zdV (As := [.int (nI (t9 + j17))]) (rest := []) (st' := []) C hl.1 lk_X7_78 (ctX6_drop (by decide) rfl (by omega)) (rd_4 (by decide)) rfl rfl rfl (Nat.le_of_ble_eq_true rfl) ⟨by decide, by decide, by decide, by decide⟩ dX7_takeAllFacts_96 rfl (fun sz => ?_)
                refine zz (fun _ _ => lv_goto (tgt := 116) hx hb dX7_takeAllFacts_99 (by decide)) ?_
                refine zs (fun _ _ => lv_iinc (v := nI (t9 + j17) + 1) (lv' := [(5, .int (nI (t9 + j17) + 1)), (0, .ref (x + 2)), (1, .ref (x + (61 + 6 * i))), (2, .int ((fX8_isGraph to))), (3, .int (nI t9)), (4, .int (nI t9))]) hx hb dX7_takeAllFacts_116 hl (k := 5) rfl rfl (by decide) rfl) (fun ls hl => ?_)
                refine zz (fun _ _ => lv_goto (tgt := 75) hx hb dX7_takeAllFacts_119 (by decide)) ?_
                have hl := lv_sub hl [1, 2, 3, 4, 5, 0] rfl
                try simp only [nI_1] at hl
                exact ih17 ((fX6_drop iv17 av17 3 (t9 + j17) (nI (t9 + j17))).1, (fX6_drop iv17 av17 3 (t9 + j17) (nI (t9 + j17))).2) _ _ (by show cwJ iv av S (decide (k = 5)) t9 (j17 + 1) _ _; rw [show decide (k = 5) = true by simp [show k = 5 from ((nI_eq (by omega) (by omega)).mp c_19)]]; exact cwJ_d (by have h9 := hI17; rw [show decide (k = 5) = true by simp [show k = 5 from ((nI_eq (by omega) (by omega)).mp c_19)]] at h9; exact h9) (by omega)) hl
          · intro a17 sz ls hI17 hl
            obtain ⟨iv17, av17⟩ := a17
            dsimp only at hI17 hl
            refine zeq (M' := (cm aC x iv17 av17 R)) rfl ?_
            refine zz (fun _ _ => lv_iload hx hb dX7_takeAllFacts_75 (lv_at hl 5 rfl)) ?_
            refine zz (fun _ _ => lv_iload hx hb dX7_takeAllFacts_77 (lv_at hl 4 rfl)) ?_
            refine zb (fun _ _ => lv_icmp_gt (tgt := 122) hx hb dX7_takeAllFacts_79 (by decide)) (fun c_20 => ?_) (fun c_20 => ?_)
            · refine zz (fun _ _ => lv_iconst (v := 0) hx hb dX7_takeAllFacts_122 (by decide)) ?_
              exact z_iret C hr hlk dX7_takeAllFacts_123 (zpI_mk (a := iv17) (b := av17) (wpc_0 h6 hS (Or.inr (by rw [en9]; exact c_14)) (fun g hg => by rw [et9]; exact inTo_one ht9 hg) (by omega) hI17))
            · exact absurd (nI_lt (by omega) (by omega)) c_20
    · refine zz (fun _ _ => lv_iconst (v := 2) hx hb dX7_takeAllFacts_30 (by decide)) ?_
      exact z_iret C hr hlk dX7_takeAllFacts_31 (zpI_mk (a := iv) (b := av) (wpc_2 hS c_1 (by rw [en9]; exact c_14)))
