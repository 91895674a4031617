theorem pG_f {P : Pd} {T : Nat → Bool} {b t c : Nat} : (((pG P t (fun _ => false), T, b) : St).1 t c) = false := by show pG P t (fun _ => false) t c = false; rw [pG_s]
theorem pG_3 {P : Pd} {f t : Nat} (h : ¬ f = t) : pG (pG (pG (pG P t (fun _ => false)) t ((pG P t (fun _ => false)) f)) f (fun _ => false)) f (fun _ => false) = pG (pG P t (P f)) f (fun _ => false) := by
  funext g c
  unfold pG
  repeat' split
  all_goals first | rfl | (exfalso; omega)
set_option maxHeartbeats 2000000 in
set_option maxRecDepth 10000 in
theorem hX9_copy {l : Launch} {D : va_G} {aC : Nat → ClassId} {b0 sz : Nat} {r : Nat} {v : Nat → Int32} {A : Nat → Nat → Int32} {R : ZM} {i k f t : Nat} {S : St} (hi : i < 12) (hk9 : k ≤ 9) (hf : f < 7) (ht : t < 7) (hkd : A 1 i = nI k) (hfrom : A 2 i = nI f) (hto : A 3 i = nI t) (hR : RC v A S) : Ct l D aC b0 yX9_copy cX9_copy 7 (some .int) 3 0 0 [.ref (r), .int (nI i)] (mm aC r v A R) sz (zpI (fun v A => mm aC r v A R) (fun w' v' A' => AR v A (aBring k f t S) w' v' A')) := by
  refine Ct.of (by decide) (Nat.le_of_ble_eq_true rfl) ?_
  intro p e s m below meth c ls C hr hlk hnm hl
  have hl : lv_has ls 7 [(0, .ref (r)), (1, .int (nI i))] := hl
  obtain ⟨hx, hb, -, -, -⟩ := id C
  refine zz (fun _ _ => lv_aload_n hx hb dX9_copy_0 rfl (lv_at hl 0 rfl)) ?_
  refine z_get (v := .ref (r + 2)) C fd_X9_13 rm_0 rfl dX9_copy_1 ?_
  refine zz (fun _ _ => lv_iload_n hx hb dX9_copy_4 rfl (lv_at hl 1 rfl)) ?_
  refine z_iald (f := A 2) C rm_2 (by first | assumption | (apply vp_in_nI <;> omega)) dX9_copy_5 ?_
  refine zval (v' := .int (nI f)) (congrArg Value.int (rdI hfrom (by omega))) ?_
  refine zs (fun _ _ => lv_istore_n (lv' := [(2, .int (nI f)), (0, .ref (r)), (1, .int (nI i))]) hx hb dX9_copy_6 rfl hl (by decide) rfl) (fun ls hl => ?_)
  refine zz (fun _ _ => lv_aload_n hx hb dX9_copy_7 rfl (lv_at hl 1 rfl)) ?_
  refine z_get (v := .ref (r + 3)) C fd_X9_16 rm_0 rfl dX9_copy_8 ?_
  refine zz (fun _ _ => lv_iload_n hx hb dX9_copy_11 rfl (lv_at hl 2 rfl)) ?_
  refine z_iald (f := A 3) C rm_3 (by first | assumption | (apply vp_in_nI <;> omega)) dX9_copy_12 ?_
  refine zval (v' := .int (nI t)) (congrArg Value.int (rdI hto (by omega))) ?_
  refine zs (fun _ _ => lv_istore_n (lv' := [(3, .int (nI t)), (2, .int (nI f)), (0, .ref (r)), (1, .int (nI i))]) hx hb dX9_copy_13 rfl hl (by decide) rfl) (fun ls hl => ?_)
  refine zz (fun _ _ => lv_aload_n hx hb dX9_copy_14 rfl (lv_at hl 2 rfl)) ?_
  refine z_get (v := .ref (r + 23)) C fd_X9_77 rm_0 rfl dX9_copy_15 ?_
  refine zz (fun _ _ => lv_iload_n hx hb dX9_copy_18 rfl (lv_at hl 1 rfl)) ?_
  refine z_zald (f := A 23) C rm_23 (by first | assumption | (apply vp_in_nI <;> omega)) dX9_copy_19 ?_
  refine zval (v' := .int (tI (S.2.1 f))) (congrArg Value.int (rdI (RC_there hR hf) (by omega))) ?_
  refine zbn (fun _ _ => lv_if_ne (tgt := 25) hx hb dX9_copy_20 (by decide)) (fun c_1 => ?_) (fun c_1 => ?_)
  · refine zz (fun _ _ => lv_iload_n hx hb dX9_copy_25 rfl (lv_at hl 1 rfl)) ?_
    refine zz (fun _ _ => lv_iload_n hx hb dX9_copy_26 rfl (lv_at hl 0 rfl)) ?_
    refine zbn (fun _ _ => lv_icmp_ne (tgt := 32) hx hb dX9_copy_27 (by decide)) (fun c_2 => ?_) (fun c_2 => ?_)
    · refine zz (fun _ _ => lv_aload_n hx hb dX9_copy_32 rfl (lv_at hl 2 rfl)) ?_
      refine z_get (v := .ref (r + 1)) C fd_X9_7 rm_0 rfl dX9_copy_33 ?_
      refine zz (fun _ _ => lv_iload_n hx hb dX9_copy_36 rfl (lv_at hl 3 rfl)) ?_
      refine z_iald (f := A 1) C rm_1 (by first | assumption | (apply vp_in_nI <;> omega)) dX9_copy_37 ?_
      refine zval (v' := .int (nI k)) (congrArg Value.int (rdI hkd (by omega))) ?_
      refine zz (fun _ _ => lv_bipush (v := 8) hx hb dX9_copy_38 (by decide)) ?_
      refine zval (v' := .int (nI 8)) (congrArg Value.int rfl) ?_
      refine zb (fun _ _ => lv_icmp_eq (tgt := 48) hx hb dX9_copy_40 (by decide)) (fun c_3 => ?_) (fun c_3 => ?_)
      · refine zz (fun _ _ => lv_aload_n hx hb dX9_copy_48 rfl (lv_at hl 2 rfl)) ?_
        refine z_get (v := .ref (r + 23)) C fd_X9_77 rm_0 rfl dX9_copy_49 ?_
        refine zz (fun _ _ => lv_iload_n hx hb dX9_copy_52 rfl (lv_at hl 0 rfl)) ?_
        refine zz (fun _ _ => lv_iconst (v := 1) hx hb dX9_copy_53 (by decide)) ?_
        have hR9 : RC v (u1 A 23 (upd (A 23) (Int32.toNatClampNeg (nI t)) 1)) (S.1, tS S.2.1 t true, S.2.2) := by rw [nI_clamp (by omega)]; exact RC_set hR t
        have hf9 : FR v A v (u1 A 23 (upd (A 23) (Int32.toNatClampNeg (nI t)) 1)) := (FR.refl : FR v A v A).trans FR_set
        obtain ⟨ho9, n9, f9, hL9⟩ := id hR9
        have hn9 := (RL_n hL9 ho9).2
        refine z_zast (f := A 23) C rm_23 (by first | assumption | (apply vp_in_nI <;> omega)) rfl dX9_copy_54 ?_
        refine zeq wm_23 ?_
        refine zz (fun _ _ => lv_aload_n hx hb dX9_copy_55 rfl (lv_at hl 2 rfl)) ?_
        refine z_get (v := .ref (r + 1)) C fd_X9_7 rm_0 rfl dX9_copy_56 ?_
        refine zz (fun _ _ => lv_iload_n hx hb dX9_copy_59 rfl (lv_at hl 3 rfl)) ?_
        refine z_iald (f := A 1) C rm_1 (by first | assumption | (apply vp_in_nI <;> omega)) dX9_copy_60 ?_
        refine zval (v' := .int (nI k)) (congrArg Value.int (rdI ((congrFun (hf9.low 1 (by decide)) _).trans hkd) (by omega))) ?_
        refine zz (fun _ _ => lv_bipush (v := 7) hx hb dX9_copy_61 (by decide)) ?_
        refine zval (v' := .int (nI 7)) (congrArg Value.int rfl) ?_
        refine zbn (fun _ _ => lv_icmp_ne (tgt := 120) hx hb dX9_copy_63 (by decide)) (fun c_4 => ?_) (fun c_4 => ?_)
        · refine zz (fun _ _ => lv_iconst (v := 1) hx hb dX9_copy_120 (by decide)) ?_
          refine zs (fun _ _ => lv_istore (lv' := [(4, .int (1)), (3, .int (nI t)), (2, .int (nI f)), (0, .ref (r)), (1, .int (nI i))]) hx hb dX9_copy_121 hl (by decide) rfl) (fun ls hl => ?_)
          refine zz (fun _ _ => lv_aload_n hx hb dX9_copy_123 rfl (lv_at hl 3 rfl)) ?_
          refine z_get (v := .int (v 20)) C fd_X9_160 rm_0 rfl dX9_copy_124 ?_
          refine zval (v' := .int (nI n9)) (congrArg Value.int hL9.1) ?_
          refine zs (fun _ _ => lv_istore (lv' := [(5, .int (nI n9)), (4, .int (1)), (3, .int (nI t)), (2, .int (nI f)), (0, .ref (r)), (1, .int (nI i))]) hx hb dX9_copy_127 hl (by decide) rfl) (fun ls hl => ?_)
          refine zz (fun _ _ => lv_iconst (v := 0) hx hb dX9_copy_129 (by decide)) ?_
          refine zs (fun _ _ => lv_istore (lv' := [(6, .int (0)), (5, .int (nI n9)), (4, .int (1)), (3, .int (nI t)), (2, .int (nI f)), (0, .ref (r)), (1, .int (nI i))]) hx hb dX9_copy_130 hl (by decide) rfl) (fun ls hl => ?_)
          have hl0 := lv_sub hl [5, 6, 4, 3, 2, 1, 0] rfl
          refine z_loop (γ := (Nat → Int32) × (Nat → Nat → Int32) × Int32) (G := fun a => mm aC r a.1 a.2.1 R) (I := fun j a => cmI v A t (grl f9 f j) (S.1, tS S.2.1 t true, S.2.2) a.2.2 a.1 a.2.1 ∧ kpR n9 (u1 A 23 (upd (A 23) (Int32.toNatClampNeg (nI t)) 1)) a.1 a.2.1) (lv := fun j a => [(0, .ref (r)), (1, .int (nI i)), (2, .int (nI f)), (3, .int (nI t)), (4, .int (a.2.2)), (5, .int (nI n9)), (6, .int (nI (j)))]) (n9) ?_ ?_ (v, (u1 A 23 (upd (A 23) (Int32.toNatClampNeg (nI t)) (1))), 1) _ _ ⟨⟨hf9, Or.inr ⟨_, rfl, rfl, hR9, by simp [tS]⟩⟩, ⟨n9, hL9.1, Nat.le_refl _, hn9⟩, fun _ _ _ _ _ => rfl⟩ hl0
          · intro j5 a5 sz ls hj5 hI5 hl ih5
            obtain ⟨v5, A5, t5_4⟩ := a5
            dsimp only at hI5 hl ih5
            refine zeq (M' := (mm aC r v5 A5 R)) rfl ?_
            have hg5 : A5 19 j5 = nI (f9 j5).1 := (hI5.2.2 19 (by decide) (by decide) j5 hj5).trans (hL9.2.2.2.1 j5 hj5).1
            have hok5 := RL_ok hL9 ho9 hj5
            have hf75 := hok5.1
            refine zz (fun _ _ => lv_iload hx hb dX9_copy_132 (lv_at hl 6 rfl)) ?_
            refine zz (fun _ _ => lv_iload hx hb dX9_copy_134 (lv_at hl 5 rfl)) ?_
            refine zb (fun _ _ => lv_icmp_ge (tgt := 197) hx hb dX9_copy_136 (by decide)) (fun c_6 => ?_) (fun c_6 => ?_)
            · exact absurd c_6 (nI_ge (by omega) (by omega))
            · refine zz (fun _ _ => lv_aload_n hx hb dX9_copy_139 rfl (lv_at hl 0 rfl)) ?_
              refine z_get (v := .ref (r + 19)) C fd_X9_65 rm_0 rfl dX9_copy_140 ?_
              refine zz (fun _ _ => lv_iload hx hb dX9_copy_143 (lv_at hl 6 rfl)) ?_
              refine z_iald (f := A5 19) C rm_19 (by first | assumption | (apply vp_in_nI <;> omega)) dX9_copy_145 ?_
              refine zval (v' := .int (nI (f9 j5).1)) (congrArg Value.int (rdI (hg5) (by omega))) ?_
              refine zz (fun _ _ => lv_iload_n hx hb dX9_copy_146 rfl (lv_at hl 2 rfl)) ?_
              refine zbn (fun _ _ => lv_icmp_ne (tgt := 191) hx hb dX9_copy_147 (by decide)) (fun c_7 => ?_) (fun c_7 => ?_)
              · refine zs (fun _ _ => lv_iinc (v := nI (j5) + 1) (lv' := [(6, .int (nI (j5) + 1)), (0, .ref (r)), (1, .int (nI i)), (2, .int (nI f)), (3, .int (nI t)), (4, .int (t5_4)), (5, .int (nI n9))]) hx hb dX9_copy_191 hl (k := 6) rfl rfl (by decide) rfl) (fun ls hl => ?_)
                refine zz (fun _ _ => lv_goto (tgt := 132) hx hb dX9_copy_194 (by decide)) ?_
                have hl := lv_sub hl [1, 2, 3, 4, 5, 6, 0] rfl
                try simp only [nI_1] at hl
                exact ih5 (v5, A5, t5_4) _ _ ⟨(by show cmI _ _ _ (grl f9 f (j5 + 1)) _ _ _ _; unfold grl; rw [if_neg (fun q => c_7 (by rw [q]))]; exact hI5.1), hI5.2⟩ hl
              · refine zz (fun _ _ => lv_iload hx hb dX9_copy_150 (lv_at hl 4 rfl)) ?_
                refine zb (fun _ _ => lv_if_eq (tgt := 188) hx hb dX9_copy_152 (by decide)) (fun c_8 => ?_) (fun c_8 => ?_)
                · refine zz (fun _ _ => lv_iconst (v := 0) hx hb dX9_copy_188 (by decide)) ?_
                  refine zs (fun _ _ => lv_istore (lv' := [(4, .int (0)), (0, .ref (r)), (1, .int (nI i)), (2, .int (nI f)), (3, .int (nI t)), (5, .int (nI n9)), (6, .int (nI (j5)))]) hx hb dX9_copy_189 hl (by decide) rfl) (fun ls hl => ?_)
                  refine zs (fun _ _ => lv_iinc (v := nI (j5) + 1) (lv' := [(6, .int (nI (j5) + 1)), (4, .int (0)), (0, .ref (r)), (1, .int (nI i)), (2, .int (nI f)), (3, .int (nI t)), (5, .int (nI n9))]) hx hb dX9_copy_191 hl (k := 6) rfl rfl (by decide) rfl) (fun ls hl => ?_)
                  refine zz (fun _ _ => lv_goto (tgt := 132) hx hb dX9_copy_194 (by decide)) ?_
                  have hl := lv_sub hl [2, 3, 4, 5, 1, 6, 0] rfl
                  try simp only [nI_1] at hl
                  exact ih5 (v5, A5, 0) _ _ ⟨(by show cmI _ _ _ (grl f9 f (j5 + 1)) _ _ _ _; unfold grl; rw [if_pos ((nI_eq (by omega) (by omega)).mp c_7)]; exact cmA_out hI5.1 c_8), hI5.2⟩ hl
                · refine zz (fun _ _ => lv_aload_n hx hb dX9_copy_155 rfl (lv_at hl 0 rfl)) ?_
                  refine zz (fun _ _ => lv_iload_n hx hb dX9_copy_156 rfl (lv_at hl 3 rfl)) ?_
                  refine zz (fun _ _ => lv_aload_n hx hb dX9_copy_157 rfl (lv_at hl 0 rfl)) ?_
                  refine z_get (v := .ref (r + 20)) C fd_X9_68 rm_0 rfl dX9_copy_158 ?_
                  refine zz (fun _ _ => lv_iload hx hb dX9_copy_161 (lv_at hl 6 rfl)) ?_
                  refine z_iald (f := A5 20) C rm_20 (by first | assumption | (apply vp_in_nI <;> omega)) dX9_copy_163 ?_
                  refine zval (v' := .int (nI (pt (f9 j5).2 0))) (congrArg Value.int (rdI ((hI5.2.2 20 (by decide) (by decide) j5 hj5).trans (hL9.2.2.2.1 j5 hj5).2.1) (by omega))) ?_
                  refine zz (fun _ _ => lv_aload_n hx hb dX9_copy_164 rfl (lv_at hl 0 rfl)) ?_
                  refine z_get (v := .ref (r + 21)) C fd_X9_71 rm_0 rfl dX9_copy_165 ?_
                  refine zz (fun _ _ => lv_iload hx hb dX9_copy_168 (lv_at hl 6 rfl)) ?_
                  refine z_iald (f := A5 21) C rm_21 (by first | assumption | (apply vp_in_nI <;> omega)) dX9_copy_170 ?_
                  refine zval (v' := .int (nI (pt (f9 j5).2 1))) (congrArg Value.int (rdI ((hI5.2.2 21 (by decide) (by decide) j5 hj5).trans (hL9.2.2.2.1 j5 hj5).2.2.1) (by omega))) ?_
                  refine zz (fun _ _ => lv_aload_n hx hb dX9_copy_171 rfl (lv_at hl 0 rfl)) ?_
                  refine z_get (v := .ref (r + 22)) C fd_X9_74 rm_0 rfl dX9_copy_172 ?_
                  refine zz (fun _ _ => lv_iload hx hb dX9_copy_175 (lv_at hl 6 rfl)) ?_
                  refine z_iald (f := A5 22) C rm_22 (by first | assumption | (apply vp_in_nI <;> omega)) dX9_copy_177 ?_
                  refine zval (v' := .int (nI (pt (f9 j5).2 2))) (congrArg Value.int (rdI ((hI5.2.2 22 (by decide) (by decide) j5 hj5).trans (hL9.2.2.2.1 j5 hj5).2.2.2) (by omega))) ?_
                  obtain ⟨⟨nx9, hs10, _, hn10⟩, _⟩ := id hI5.2
                  refine zdV (As := [.int (nI t), .int (nI (pt (f9 j5).2 0)), .int (nI (pt (f9 j5).2 1)), .int (nI (pt (f9 j5).2 2))]) (rest := []) (st' := [.int ((fX9_come v5 A5 (nI t) (nI (pt (f9 j5).2 0)) (nI (pt (f9 j5).2 1)) (nI (pt (f9 j5).2 2))).1)]) C hl.1 lk_X9_209 (ctX9_come hs10 hn10) rm_0 rfl rfl rfl (Nat.le_of_ble_eq_true rfl) ⟨by decide, by decide, by decide, by decide⟩ dX9_copy_178 rfl (fun sz => ?_)
                  refine zb (fun _ _ => lv_if_eq (tgt := 188) hx hb dX9_copy_181 (by decide)) (fun c_9 => ?_) (fun c_9 => ?_)
                  · refine zz (fun _ _ => lv_iconst (v := 0) hx hb dX9_copy_188 (by decide)) ?_
                    refine zs (fun _ _ => lv_istore (lv' := [(4, .int (0)), (0, .ref (r)), (1, .int (nI i)), (2, .int (nI f)), (3, .int (nI t)), (5, .int (nI n9)), (6, .int (nI (j5)))]) hx hb dX9_copy_189 hl (by decide) rfl) (fun ls hl => ?_)
                    refine zs (fun _ _ => lv_iinc (v := nI (j5) + 1) (lv' := [(6, .int (nI (j5) + 1)), (4, .int (0)), (0, .ref (r)), (1, .int (nI i)), (2, .int (nI f)), (3, .int (nI t)), (5, .int (nI n9))]) hx hb dX9_copy_191 hl (k := 6) rfl rfl (by decide) rfl) (fun ls hl => ?_)
                    refine zz (fun _ _ => lv_goto (tgt := 132) hx hb dX9_copy_194 (by decide)) ?_
                    have hl := lv_sub hl [2, 3, 4, 5, 1, 6, 0] rfl
                    try simp only [nI_1] at hl
                    exact ih5 ((fX9_come v5 A5 (nI t) (nI (pt (f9 j5).2 0)) (nI (pt (f9 j5).2 1)) (nI (pt (f9 j5).2 2))).2.1, (fX9_come v5 A5 (nI t) (nI (pt (f9 j5).2 0)) (nI (pt (f9 j5).2 1)) (nI (pt (f9 j5).2 2))).2.2, 0) _ _ ⟨(by show cmI _ _ _ (grl f9 f (j5 + 1)) _ _ _ _; unfold grl; rw [if_pos ((nI_eq (by omega) (by omega)).mp c_7)]; exact (cmA_next ht hok5.2 hI5.1 c_8).1 c_9), kpR_next hI5.2 _ _ _ _⟩ hl
                  · refine zz (fun _ _ => lv_iconst (v := 1) hx hb dX9_copy_184 (by decide)) ?_
                    refine zz (fun _ _ => lv_goto (tgt := 189) hx hb dX9_copy_185 (by decide)) ?_
                    refine zs (fun _ _ => lv_istore (lv' := [(4, .int (1)), (0, .ref (r)), (1, .int (nI i)), (2, .int (nI f)), (3, .int (nI t)), (5, .int (nI n9)), (6, .int (nI (j5)))]) hx hb dX9_copy_189 hl (by decide) rfl) (fun ls hl => ?_)
                    refine zs (fun _ _ => lv_iinc (v := nI (j5) + 1) (lv' := [(6, .int (nI (j5) + 1)), (4, .int (1)), (0, .ref (r)), (1, .int (nI i)), (2, .int (nI f)), (3, .int (nI t)), (5, .int (nI n9))]) hx hb dX9_copy_191 hl (k := 6) rfl rfl (by decide) rfl) (fun ls hl => ?_)
                    refine zz (fun _ _ => lv_goto (tgt := 132) hx hb dX9_copy_194 (by decide)) ?_
                    have hl := lv_sub hl [2, 3, 4, 5, 1, 6, 0] rfl
                    try simp only [nI_1] at hl
                    exact ih5 ((fX9_come v5 A5 (nI t) (nI (pt (f9 j5).2 0)) (nI (pt (f9 j5).2 1)) (nI (pt (f9 j5).2 2))).2.1, (fX9_come v5 A5 (nI t) (nI (pt (f9 j5).2 0)) (nI (pt (f9 j5).2 1)) (nI (pt (f9 j5).2 2))).2.2, 1) _ _ ⟨(by show cmI _ _ _ (grl f9 f (j5 + 1)) _ _ _ _; unfold grl; rw [if_pos ((nI_eq (by omega) (by omega)).mp c_7)]; exact (cmA_next ht hok5.2 hI5.1 c_8).2 c_9), kpR_next hI5.2 _ _ _ _⟩ hl
          · intro a5 sz ls hI5 hl
            obtain ⟨v5, A5, t5_4⟩ := a5
            dsimp only at hI5 hl
            refine zeq (M' := (mm aC r v5 A5 R)) rfl ?_
            refine zz (fun _ _ => lv_iload hx hb dX9_copy_132 (lv_at hl 6 rfl)) ?_
            refine zz (fun _ _ => lv_iload hx hb dX9_copy_134 (lv_at hl 5 rfl)) ?_
            refine zb (fun _ _ => lv_icmp_ge (tgt := 197) hx hb dX9_copy_136 (by decide)) (fun c_10 => ?_) (fun c_10 => ?_)
            · refine zz (fun _ _ => lv_iload hx hb dX9_copy_197 (lv_at hl 4 rfl)) ?_
              refine zb (fun _ _ => lv_if_eq (tgt := 206) hx hb dX9_copy_199 (by decide)) (fun c_11 => ?_) (fun c_11 => ?_)
              · refine zz (fun _ _ => lv_iconst (v := 4) hx hb dX9_copy_206 (by decide)) ?_
                exact z_iret C hr hlk dX9_copy_207 (zpI_mk (a := v5) (b := A5) (by have h9 := (cp_end8 hR.1 ht c_1 (fun q => c_2 (by rw [q])) hL9.2.2.1 hI5.1).1 c_11; rw [show k = 8 from (nI_eq (by omega) (by omega)).mp c_3]; exact h9))
              · refine zz (fun _ _ => lv_iconst (v := 0) hx hb dX9_copy_202 (by decide)) ?_
                refine zz (fun _ _ => lv_goto (tgt := 207) hx hb dX9_copy_203 (by decide)) ?_
                exact z_iret C hr hlk dX9_copy_207 (zpI_mk (a := v5) (b := A5) (by have h9 := (cp_end8 hR.1 ht c_1 (fun q => c_2 (by rw [q])) hL9.2.2.1 hI5.1).2 c_11; rw [show k = 8 from (nI_eq (by omega) (by omega)).mp c_3]; exact h9))
            · exact absurd (nI_le (Nat.le_refl _) (by omega)) c_10
        · exact absurd (c_3.symm.trans c_4) (by decide)
      · refine zz (fun _ _ => lv_aload_n hx hb dX9_copy_43 rfl (lv_at hl 2 rfl)) ?_
        refine zz (fun _ _ => lv_iload_n hx hb dX9_copy_44 rfl (lv_at hl 0 rfl)) ?_
        refine zqVN (As := [.int (nI t)]) (rest := []) C hl.1 lk_X9_171 (hX9_empty hR ht) rm_0 rfl rfl rfl (Nat.le_of_ble_eq_true rfl) ⟨by decide, by decide, by decide, by decide⟩ dX9_copy_45 (fun v12 A12 sz h12 => ?_)
        refine zeq (M' := (mm aC r v12 A12 R)) rfl ?_
        refine zz (fun _ _ => lv_aload_n hx hb dX9_copy_48 rfl (lv_at hl 2 rfl)) ?_
        refine z_get (v := .ref (r + 23)) C fd_X9_77 rm_0 rfl dX9_copy_49 ?_
        refine zz (fun _ _ => lv_iload_n hx hb dX9_copy_52 rfl (lv_at hl 0 rfl)) ?_
        refine zz (fun _ _ => lv_iconst (v := 1) hx hb dX9_copy_53 (by decide)) ?_
        have hR9 : RC v12 (u1 A12 23 (upd (A12 23) (Int32.toNatClampNeg (nI t)) 1)) ((pG S.1 t (fun _ => false), S.2).1, tS S.2.1 t true, S.2.2) := by rw [nI_clamp (by omega)]; exact RC_set h12.2 t
        have hf9 : FR v A v12 (u1 A12 23 (upd (A12 23) (Int32.toNatClampNeg (nI t)) 1)) := h12.1.trans FR_set
        obtain ⟨ho9, n9, f9, hL9⟩ := id hR9
        have hn9 := (RL_n hL9 ho9).2
        refine z_zast (f := A12 23) C rm_23 (by first | assumption | (apply vp_in_nI <;> omega)) rfl dX9_copy_54 ?_
        refine zeq wm_23 ?_
        refine zz (fun _ _ => lv_aload_n hx hb dX9_copy_55 rfl (lv_at hl 2 rfl)) ?_
        refine z_get (v := .ref (r + 1)) C fd_X9_7 rm_0 rfl dX9_copy_56 ?_
        refine zz (fun _ _ => lv_iload_n hx hb dX9_copy_59 rfl (lv_at hl 3 rfl)) ?_
        refine z_iald (f := A12 1) C rm_1 (by first | assumption | (apply vp_in_nI <;> omega)) dX9_copy_60 ?_
        refine zval (v' := .int (nI k)) (congrArg Value.int (rdI ((congrFun (hf9.low 1 (by decide)) _).trans hkd) (by omega))) ?_
        refine zz (fun _ _ => lv_bipush (v := 7) hx hb dX9_copy_61 (by decide)) ?_
        refine zval (v' := .int (nI 7)) (congrArg Value.int rfl) ?_
        refine zbn (fun _ _ => lv_icmp_ne (tgt := 120) hx hb dX9_copy_63 (by decide)) (fun c_13 => ?_) (fun c_13 => ?_)
        · refine zz (fun _ _ => lv_iconst (v := 1) hx hb dX9_copy_120 (by decide)) ?_
          refine zs (fun _ _ => lv_istore (lv' := [(4, .int (1)), (3, .int (nI t)), (2, .int (nI f)), (0, .ref (r)), (1, .int (nI i))]) hx hb dX9_copy_121 hl (by decide) rfl) (fun ls hl => ?_)
          refine zz (fun _ _ => lv_aload_n hx hb dX9_copy_123 rfl (lv_at hl 3 rfl)) ?_
          refine z_get (v := .int (v12 20)) C fd_X9_160 rm_0 rfl dX9_copy_124 ?_
          refine zval (v' := .int (nI n9)) (congrArg Value.int hL9.1) ?_
          refine zs (fun _ _ => lv_istore (lv' := [(5, .int (nI n9)), (4, .int (1)), (3, .int (nI t)), (2, .int (nI f)), (0, .ref (r)), (1, .int (nI i))]) hx hb dX9_copy_127 hl (by decide) rfl) (fun ls hl => ?_)
          refine zz (fun _ _ => lv_iconst (v := 0) hx hb dX9_copy_129 (by decide)) ?_
          refine zs (fun _ _ => lv_istore (lv' := [(6, .int (0)), (5, .int (nI n9)), (4, .int (1)), (3, .int (nI t)), (2, .int (nI f)), (0, .ref (r)), (1, .int (nI i))]) hx hb dX9_copy_130 hl (by decide) rfl) (fun ls hl => ?_)
          have hl0 := lv_sub hl [5, 6, 4, 3, 2, 1, 0] rfl
          refine z_loop (γ := (Nat → Int32) × (Nat → Nat → Int32) × Int32) (G := fun a => mm aC r a.1 a.2.1 R) (I := fun j a => cmI v A t (grl f9 f j) ((pG S.1 t (fun _ => false), S.2).1, tS S.2.1 t true, S.2.2) a.2.2 a.1 a.2.1 ∧ kpR n9 (u1 A12 23 (upd (A12 23) (Int32.toNatClampNeg (nI t)) 1)) a.1 a.2.1) (lv := fun j a => [(0, .ref (r)), (1, .int (nI i)), (2, .int (nI f)), (3, .int (nI t)), (4, .int (a.2.2)), (5, .int (nI n9)), (6, .int (nI (j)))]) (n9) ?_ ?_ (v12, (u1 A12 23 (upd (A12 23) (Int32.toNatClampNeg (nI t)) (1))), 1) _ _ ⟨⟨hf9, Or.inr ⟨_, rfl, rfl, hR9, by simp [tS]⟩⟩, ⟨n9, hL9.1, Nat.le_refl _, hn9⟩, fun _ _ _ _ _ => rfl⟩ hl0
          · intro j14 a14 sz ls hj14 hI14 hl ih14
            obtain ⟨v14, A14, t14_4⟩ := a14
            dsimp only at hI14 hl ih14
            refine zeq (M' := (mm aC r v14 A14 R)) rfl ?_
            have hg14 : A14 19 j14 = nI (f9 j14).1 := (hI14.2.2 19 (by decide) (by decide) j14 hj14).trans (hL9.2.2.2.1 j14 hj14).1
            have hok14 := RL_ok hL9 ho9 hj14
            have hf714 := hok14.1
            refine zz (fun _ _ => lv_iload hx hb dX9_copy_132 (lv_at hl 6 rfl)) ?_
            refine zz (fun _ _ => lv_iload hx hb dX9_copy_134 (lv_at hl 5 rfl)) ?_
            refine zb (fun _ _ => lv_icmp_ge (tgt := 197) hx hb dX9_copy_136 (by decide)) (fun c_15 => ?_) (fun c_15 => ?_)
            · exact absurd c_15 (nI_ge (by omega) (by omega))
            · refine zz (fun _ _ => lv_aload_n hx hb dX9_copy_139 rfl (lv_at hl 0 rfl)) ?_
              refine z_get (v := .ref (r + 19)) C fd_X9_65 rm_0 rfl dX9_copy_140 ?_
              refine zz (fun _ _ => lv_iload hx hb dX9_copy_143 (lv_at hl 6 rfl)) ?_
              refine z_iald (f := A14 19) C rm_19 (by first | assumption | (apply vp_in_nI <;> omega)) dX9_copy_145 ?_
              refine zval (v' := .int (nI (f9 j14).1)) (congrArg Value.int (rdI (hg14) (by omega))) ?_
              refine zz (fun _ _ => lv_iload_n hx hb dX9_copy_146 rfl (lv_at hl 2 rfl)) ?_
              refine zbn (fun _ _ => lv_icmp_ne (tgt := 191) hx hb dX9_copy_147 (by decide)) (fun c_16 => ?_) (fun c_16 => ?_)
              · refine zs (fun _ _ => lv_iinc (v := nI (j14) + 1) (lv' := [(6, .int (nI (j14) + 1)), (0, .ref (r)), (1, .int (nI i)), (2, .int (nI f)), (3, .int (nI t)), (4, .int (t14_4)), (5, .int (nI n9))]) hx hb dX9_copy_191 hl (k := 6) rfl rfl (by decide) rfl) (fun ls hl => ?_)
                refine zz (fun _ _ => lv_goto (tgt := 132) hx hb dX9_copy_194 (by decide)) ?_
                have hl := lv_sub hl [1, 2, 3, 4, 5, 6, 0] rfl
                try simp only [nI_1] at hl
                exact ih14 (v14, A14, t14_4) _ _ ⟨(by show cmI _ _ _ (grl f9 f (j14 + 1)) _ _ _ _; unfold grl; rw [if_neg (fun q => c_16 (by rw [q]))]; exact hI14.1), hI14.2⟩ hl
              · refine zz (fun _ _ => lv_iload hx hb dX9_copy_150 (lv_at hl 4 rfl)) ?_
                refine zb (fun _ _ => lv_if_eq (tgt := 188) hx hb dX9_copy_152 (by decide)) (fun c_17 => ?_) (fun c_17 => ?_)
                · refine zz (fun _ _ => lv_iconst (v := 0) hx hb dX9_copy_188 (by decide)) ?_
                  refine zs (fun _ _ => lv_istore (lv' := [(4, .int (0)), (0, .ref (r)), (1, .int (nI i)), (2, .int (nI f)), (3, .int (nI t)), (5, .int (nI n9)), (6, .int (nI (j14)))]) hx hb dX9_copy_189 hl (by decide) rfl) (fun ls hl => ?_)
                  refine zs (fun _ _ => lv_iinc (v := nI (j14) + 1) (lv' := [(6, .int (nI (j14) + 1)), (4, .int (0)), (0, .ref (r)), (1, .int (nI i)), (2, .int (nI f)), (3, .int (nI t)), (5, .int (nI n9))]) hx hb dX9_copy_191 hl (k := 6) rfl rfl (by decide) rfl) (fun ls hl => ?_)
                  refine zz (fun _ _ => lv_goto (tgt := 132) hx hb dX9_copy_194 (by decide)) ?_
                  have hl := lv_sub hl [2, 3, 4, 5, 1, 6, 0] rfl
                  try simp only [nI_1] at hl
                  exact ih14 (v14, A14, 0) _ _ ⟨(by show cmI _ _ _ (grl f9 f (j14 + 1)) _ _ _ _; unfold grl; rw [if_pos ((nI_eq (by omega) (by omega)).mp c_16)]; exact cmA_out hI14.1 c_17), hI14.2⟩ hl
                · refine zz (fun _ _ => lv_aload_n hx hb dX9_copy_155 rfl (lv_at hl 0 rfl)) ?_
                  refine zz (fun _ _ => lv_iload_n hx hb dX9_copy_156 rfl (lv_at hl 3 rfl)) ?_
                  refine zz (fun _ _ => lv_aload_n hx hb dX9_copy_157 rfl (lv_at hl 0 rfl)) ?_
                  refine z_get (v := .ref (r + 20)) C fd_X9_68 rm_0 rfl dX9_copy_158 ?_
                  refine zz (fun _ _ => lv_iload hx hb dX9_copy_161 (lv_at hl 6 rfl)) ?_
                  refine z_iald (f := A14 20) C rm_20 (by first | assumption | (apply vp_in_nI <;> omega)) dX9_copy_163 ?_
                  refine zval (v' := .int (nI (pt (f9 j14).2 0))) (congrArg Value.int (rdI ((hI14.2.2 20 (by decide) (by decide) j14 hj14).trans (hL9.2.2.2.1 j14 hj14).2.1) (by omega))) ?_
                  refine zz (fun _ _ => lv_aload_n hx hb dX9_copy_164 rfl (lv_at hl 0 rfl)) ?_
                  refine z_get (v := .ref (r + 21)) C fd_X9_71 rm_0 rfl dX9_copy_165 ?_
                  refine zz (fun _ _ => lv_iload hx hb dX9_copy_168 (lv_at hl 6 rfl)) ?_
                  refine z_iald (f := A14 21) C rm_21 (by first | assumption | (apply vp_in_nI <;> omega)) dX9_copy_170 ?_
                  refine zval (v' := .int (nI (pt (f9 j14).2 1))) (congrArg Value.int (rdI ((hI14.2.2 21 (by decide) (by decide) j14 hj14).trans (hL9.2.2.2.1 j14 hj14).2.2.1) (by omega))) ?_
                  refine zz (fun _ _ => lv_aload_n hx hb dX9_copy_171 rfl (lv_at hl 0 rfl)) ?_
                  refine z_get (v := .ref (r + 22)) C fd_X9_74 rm_0 rfl dX9_copy_172 ?_
                  refine zz (fun _ _ => lv_iload hx hb dX9_copy_175 (lv_at hl 6 rfl)) ?_
                  refine z_iald (f := A14 22) C rm_22 (by first | assumption | (apply vp_in_nI <;> omega)) dX9_copy_177 ?_
                  refine zval (v' := .int (nI (pt (f9 j14).2 2))) (congrArg Value.int (rdI ((hI14.2.2 22 (by decide) (by decide) j14 hj14).trans (hL9.2.2.2.1 j14 hj14).2.2.2) (by omega))) ?_
                  obtain ⟨⟨nx9, hs10, _, hn10⟩, _⟩ := id hI14.2
                  refine zdV (As := [.int (nI t), .int (nI (pt (f9 j14).2 0)), .int (nI (pt (f9 j14).2 1)), .int (nI (pt (f9 j14).2 2))]) (rest := []) (st' := [.int ((fX9_come v14 A14 (nI t) (nI (pt (f9 j14).2 0)) (nI (pt (f9 j14).2 1)) (nI (pt (f9 j14).2 2))).1)]) C hl.1 lk_X9_209 (ctX9_come hs10 hn10) rm_0 rfl rfl rfl (Nat.le_of_ble_eq_true rfl) ⟨by decide, by decide, by decide, by decide⟩ dX9_copy_178 rfl (fun sz => ?_)
                  refine zb (fun _ _ => lv_if_eq (tgt := 188) hx hb dX9_copy_181 (by decide)) (fun c_18 => ?_) (fun c_18 => ?_)
                  · refine zz (fun _ _ => lv_iconst (v := 0) hx hb dX9_copy_188 (by decide)) ?_
                    refine zs (fun _ _ => lv_istore (lv' := [(4, .int (0)), (0, .ref (r)), (1, .int (nI i)), (2, .int (nI f)), (3, .int (nI t)), (5, .int (nI n9)), (6, .int (nI (j14)))]) hx hb dX9_copy_189 hl (by decide) rfl) (fun ls hl => ?_)
                    refine zs (fun _ _ => lv_iinc (v := nI (j14) + 1) (lv' := [(6, .int (nI (j14) + 1)), (4, .int (0)), (0, .ref (r)), (1, .int (nI i)), (2, .int (nI f)), (3, .int (nI t)), (5, .int (nI n9))]) hx hb dX9_copy_191 hl (k := 6) rfl rfl (by decide) rfl) (fun ls hl => ?_)
                    refine zz (fun _ _ => lv_goto (tgt := 132) hx hb dX9_copy_194 (by decide)) ?_
                    have hl := lv_sub hl [2, 3, 4, 5, 1, 6, 0] rfl
                    try simp only [nI_1] at hl
                    exact ih14 ((fX9_come v14 A14 (nI t) (nI (pt (f9 j14).2 0)) (nI (pt (f9 j14).2 1)) (nI (pt (f9 j14).2 2))).2.1, (fX9_come v14 A14 (nI t) (nI (pt (f9 j14).2 0)) (nI (pt (f9 j14).2 1)) (nI (pt (f9 j14).2 2))).2.2, 0) _ _ ⟨(by show cmI _ _ _ (grl f9 f (j14 + 1)) _ _ _ _; unfold grl; rw [if_pos ((nI_eq (by omega) (by omega)).mp c_16)]; exact (cmA_next ht hok14.2 hI14.1 c_17).1 c_18), kpR_next hI14.2 _ _ _ _⟩ hl
                  · refine zz (fun _ _ => lv_iconst (v := 1) hx hb dX9_copy_184 (by decide)) ?_
                    refine zz (fun _ _ => lv_goto (tgt := 189) hx hb dX9_copy_185 (by decide)) ?_
                    refine zs (fun _ _ => lv_istore (lv' := [(4, .int (1)), (0, .ref (r)), (1, .int (nI i)), (2, .int (nI f)), (3, .int (nI t)), (5, .int (nI n9)), (6, .int (nI (j14)))]) hx hb dX9_copy_189 hl (by decide) rfl) (fun ls hl => ?_)
                    refine zs (fun _ _ => lv_iinc (v := nI (j14) + 1) (lv' := [(6, .int (nI (j14) + 1)), (4, .int (1)), (0, .ref (r)), (1, .int (nI i)), (2, .int (nI f)), (3, .int (nI t)), (5, .int (nI n9))]) hx hb dX9_copy_191 hl (k := 6) rfl rfl (by decide) rfl) (fun ls hl => ?_)
                    refine zz (fun _ _ => lv_goto (tgt := 132) hx hb dX9_copy_194 (by decide)) ?_
                    have hl := lv_sub hl [2, 3, 4, 5, 1, 6, 0] rfl
                    try simp only [nI_1] at hl
                    exact ih14 ((fX9_come v14 A14 (nI t) (nI (pt (f9 j14).2 0)) (nI (pt (f9 j14).2 1)) (nI (pt (f9 j14).2 2))).2.1, (fX9_come v14 A14 (nI t) (nI (pt (f9 j14).2 0)) (nI (pt (f9 j14).2 1)) (nI (pt (f9 j14).2 2))).2.2, 1) _ _ ⟨(by show cmI _ _ _ (grl f9 f (j14 + 1)) _ _ _ _; unfold grl; rw [if_pos ((nI_eq (by omega) (by omega)).mp c_16)]; exact (cmA_next ht hok14.2 hI14.1 c_17).2 c_18), kpR_next hI14.2 _ _ _ _⟩ hl
          · intro a14 sz ls hI14 hl
            obtain ⟨v14, A14, t14_4⟩ := a14
            dsimp only at hI14 hl
            refine zeq (M' := (mm aC r v14 A14 R)) rfl ?_
            refine zz (fun _ _ => lv_iload hx hb dX9_copy_132 (lv_at hl 6 rfl)) ?_
            refine zz (fun _ _ => lv_iload hx hb dX9_copy_134 (lv_at hl 5 rfl)) ?_
            refine zb (fun _ _ => lv_icmp_ge (tgt := 197) hx hb dX9_copy_136 (by decide)) (fun c_19 => ?_) (fun c_19 => ?_)
            · refine zz (fun _ _ => lv_iload hx hb dX9_copy_197 (lv_at hl 4 rfl)) ?_
              refine zb (fun _ _ => lv_if_eq (tgt := 206) hx hb dX9_copy_199 (by decide)) (fun c_20 => ?_) (fun c_20 => ?_)
              · refine zz (fun _ _ => lv_iconst (v := 4) hx hb dX9_copy_206 (by decide)) ?_
                exact z_iret C hr hlk dX9_copy_207 (zpI_mk (a := v14) (b := A14) ((cp_end6 hR.1 hf ht (fun q => c_3 (by rw [q])) (fun q => c_13 (by rw [q])) c_1 (fun q => c_2 (by rw [q])) hL9.2.2.1 hI14.1).1 c_20))
              · refine zz (fun _ _ => lv_iconst (v := 0) hx hb dX9_copy_202 (by decide)) ?_
                refine zz (fun _ _ => lv_goto (tgt := 207) hx hb dX9_copy_203 (by decide)) ?_
                exact z_iret C hr hlk dX9_copy_207 (zpI_mk (a := v14) (b := A14) ((cp_end6 hR.1 hf ht (fun q => c_3 (by rw [q])) (fun q => c_13 (by rw [q])) c_1 (fun q => c_2 (by rw [q])) hL9.2.2.1 hI14.1).2 c_20))
            · exact absurd (nI_le (Nat.le_refl _) (by omega)) c_19
        · have hk7 : k = 7 := (nI_eq (by omega) (by omega)).mp c_13
          subst hk7
          refine zz (fun _ _ => lv_iconst (v := 0) hx hb dX9_copy_66 (by decide)) ?_
          refine zs (fun _ _ => lv_istore (lv' := [(4, .int (0)), (3, .int (nI t)), (2, .int (nI f)), (0, .ref (r)), (1, .int (nI i))]) hx hb dX9_copy_67 hl (by decide) rfl) (fun ls hl => ?_)
          have hl0 := lv_sub hl [3, 4, 2, 1, 0] rfl
          refine z_loop (γ := (Nat → Int32) × (Nat → Nat → Int32)) (G := fun a => mm aC r a.1 a.2 R) (I := fun j a => mvI n9 f9 f t v12 (u1 A12 23 (upd (A12 23) (Int32.toNatClampNeg (nI t)) 1)) j a.1 a.2) (lv := fun j a => [(0, .ref (r)), (1, .int (nI i)), (2, .int (nI f)), (3, .int (nI t)), (4, .int (nI (j)))]) (n9) ?_ ?_ (v12, (u1 A12 23 (upd (A12 23) (Int32.toNatClampNeg (nI t)) (1)))) _ _ ⟨rfl, fun _ _ => rfl, fun i hi => by rw [if_neg (fun q => absurd q.1 (Nat.not_lt_zero _))]⟩ hl0
          · intro j21 a21 sz ls hj21 hI21 hl ih21
            obtain ⟨v21, A21⟩ := a21
            dsimp only at hI21 hl ih21
            refine zeq (M' := (mm aC r v21 A21 R)) rfl ?_
            have hg21 : A21 19 j21 = nI (f9 j21).1 := by rw [hI21.2.2 j21 hj21, if_neg (fun q => absurd q.1 (Nat.lt_irrefl _))]; exact (hL9.2.2.2.1 j21 hj21).1
            have hf721 := (RL_ok hL9 ho9 hj21).1
            refine zz (fun _ _ => lv_iload hx hb dX9_copy_69 (lv_at hl 4 rfl)) ?_
            refine zz (fun _ _ => lv_aload_n hx hb dX9_copy_71 rfl (lv_at hl 0 rfl)) ?_
            refine z_get (v := .int (v21 20)) C fd_X9_160 rm_0 rfl dX9_copy_72 ?_
            refine zval (v' := .int (nI n9)) (congrArg Value.int (by rw [hI21.1]; exact hL9.1)) ?_
            refine zb (fun _ _ => lv_icmp_ge (tgt := 113) hx hb dX9_copy_75 (by decide)) (fun c_22 => ?_) (fun c_22 => ?_)
            · exact absurd c_22 (nI_ge (by omega) (by omega))
            · refine zz (fun _ _ => lv_aload_n hx hb dX9_copy_78 rfl (lv_at hl 0 rfl)) ?_
              refine z_get (v := .ref (r + 19)) C fd_X9_65 rm_0 rfl dX9_copy_79 ?_
              refine zz (fun _ _ => lv_iload hx hb dX9_copy_82 (lv_at hl 4 rfl)) ?_
              refine zz (fun _ _ => lv_aload_n hx hb dX9_copy_84 rfl (lv_at hl 0 rfl)) ?_
              refine z_get (v := .ref (r + 19)) C fd_X9_65 rm_0 rfl dX9_copy_85 ?_
              refine zz (fun _ _ => lv_iload hx hb dX9_copy_88 (lv_at hl 4 rfl)) ?_
              refine z_iald (f := A21 19) C rm_19 (by first | assumption | (apply vp_in_nI <;> omega)) dX9_copy_90 ?_
              refine zval (v' := .int (nI (f9 j21).1)) (congrArg Value.int (rdI (hg21) (by omega))) ?_
              refine zz (fun _ _ => lv_iload_n hx hb dX9_copy_91 rfl (lv_at hl 2 rfl)) ?_
              refine zbn (fun _ _ => lv_icmp_ne (tgt := 99) hx hb dX9_copy_92 (by decide)) (fun c_23 => ?_) (fun c_23 => ?_)
              · refine zz (fun _ _ => lv_aload_n hx hb dX9_copy_99 rfl (lv_at hl 0 rfl)) ?_
                refine z_get (v := .ref (r + 19)) C fd_X9_65 rm_0 rfl dX9_copy_100 ?_
                refine zz (fun _ _ => lv_iload hx hb dX9_copy_103 (lv_at hl 4 rfl)) ?_
                refine z_iald (f := A21 19) C rm_19 (by first | assumption | (apply vp_in_nI <;> omega)) dX9_copy_105 ?_
                refine zval (v' := .int (nI (f9 j21).1)) (congrArg Value.int (rdI (hg21) (by omega))) ?_
                refine z_iast (f := A21 19) C rm_19 (by first | assumption | (apply vp_in_nI <;> omega)) dX9_copy_106 ?_
                refine zeq wm_19 ?_
                refine zs (fun _ _ => lv_iinc (v := nI (j21) + 1) (lv' := [(4, .int (nI (j21) + 1)), (0, .ref (r)), (1, .int (nI i)), (2, .int (nI f)), (3, .int (nI t))]) hx hb dX9_copy_107 hl (k := 4) rfl rfl (by decide) rfl) (fun ls hl => ?_)
                refine zz (fun _ _ => lv_goto (tgt := 69) hx hb dX9_copy_110 (by decide)) ?_
                have hl := lv_sub hl [1, 2, 3, 4, 0] rfl
                try simp only [nI_1] at hl
                exact ih21 (v21, (u1 A21 19 (upd (A21 19) (Int32.toNatClampNeg (nI (j21))) (nI (f9 j21).1)))) _ _ (by dsimp only; rw [nI_clamp (n := j21) (by omega)]; exact mv_next (z := nI (f9 j21).1) hI21 (by rw [if_neg (fun q => c_23 (by rw [q]))]; exact (hL9.2.2.2.1 j21 hj21).1.symm)) hl
              · refine zz (fun _ _ => lv_iload_n hx hb dX9_copy_95 rfl (lv_at hl 3 rfl)) ?_
                refine zz (fun _ _ => lv_goto (tgt := 106) hx hb dX9_copy_96 (by decide)) ?_
                refine z_iast (f := A21 19) C rm_19 (by first | assumption | (apply vp_in_nI <;> omega)) dX9_copy_106 ?_
                refine zeq wm_19 ?_
                refine zs (fun _ _ => lv_iinc (v := nI (j21) + 1) (lv' := [(4, .int (nI (j21) + 1)), (0, .ref (r)), (1, .int (nI i)), (2, .int (nI f)), (3, .int (nI t))]) hx hb dX9_copy_107 hl (k := 4) rfl rfl (by decide) rfl) (fun ls hl => ?_)
                refine zz (fun _ _ => lv_goto (tgt := 69) hx hb dX9_copy_110 (by decide)) ?_
                have hl := lv_sub hl [1, 2, 3, 4, 0] rfl
                try simp only [nI_1] at hl
                exact ih21 (v21, (u1 A21 19 (upd (A21 19) (Int32.toNatClampNeg (nI (j21))) (nI t)))) _ _ (by dsimp only; rw [nI_clamp (n := j21) (by omega)]; exact mv_next (z := nI t) hI21 (by rw [if_pos ((nI_eq (by omega) (by omega)).mp c_23)])) hl
          · intro a21 sz ls hI21 hl
            obtain ⟨v21, A21⟩ := a21
            dsimp only at hI21 hl
            refine zeq (M' := (mm aC r v21 A21 R)) rfl ?_
            refine zz (fun _ _ => lv_iload hx hb dX9_copy_69 (lv_at hl 4 rfl)) ?_
            refine zz (fun _ _ => lv_aload_n hx hb dX9_copy_71 rfl (lv_at hl 0 rfl)) ?_
            refine z_get (v := .int (v21 20)) C fd_X9_160 rm_0 rfl dX9_copy_72 ?_
            refine zval (v' := .int (nI n9)) (congrArg Value.int (by rw [hI21.1]; exact hL9.1)) ?_
            refine zb (fun _ _ => lv_icmp_ge (tgt := 113) hx hb dX9_copy_75 (by decide)) (fun c_24 => ?_) (fun c_24 => ?_)
            · refine zz (fun _ _ => lv_aload_n hx hb dX9_copy_113 rfl (lv_at hl 0 rfl)) ?_
              refine zz (fun _ _ => lv_iload_n hx hb dX9_copy_114 rfl (lv_at hl 2 rfl)) ?_
              refine zqVN (As := [.int (nI f)]) (rest := []) C hl.1 lk_X9_228 (hX9_dropOne (mv_end ho9 hL9 hf ht (fun q => c_2 (by rw [q])) (fun c => pG_f) (by simp [tS]) hI21).2 hf) rm_0 rfl rfl rfl (Nat.le_of_ble_eq_true rfl) ⟨by decide, by decide, by decide, by decide⟩ dX9_copy_115 (fun v25 A25 sz h25 => ?_)
              refine zeq (M' := (mm aC r v25 A25 R)) rfl ?_
              refine zz (fun _ _ => lv_iconst (v := 0) hx hb dX9_copy_118 (by decide)) ?_
              exact z_iret C hr hlk dX9_copy_119 (zpI_mk (a := v25) (b := A25) (cp_end7 c_1 (fun q => c_2 (by rw [q])) (hf9.trans ((mv_end ho9 hL9 hf ht (fun q => c_2 (by rw [q])) (fun c => pG_f) (by simp [tS]) hI21).1.trans h25.1)) (by have h9 := h25.2; dsimp only at h9; rw [pG_3 (fun q => c_2 (by rw [q]))] at h9; exact h9)))
            · exact absurd (nI_le (Nat.le_refl _) (by omega)) c_24
    · refine zz (fun _ _ => lv_iconst (v := 0) hx hb dX9_copy_30 (by decide)) ?_
      exact z_iret C hr hlk dX9_copy_31 (zpI_mk (a := v) (b := A) (cp_same hR c_1 ((nI_eq (by omega) (by omega)).mp c_2)))
  · refine zz (fun _ _ => lv_iconst (v := 2) hx hb dX9_copy_23 (by decide)) ?_
    exact z_iret C hr hlk dX9_copy_24 (zpI_mk (a := v) (b := A) (cp_no hR c_1))
