section
theorem nI_addk (i k : Nat) : nI i + nI k = nI (i + k) := by rw [nI_add]
theorem wk_step : zLkW RL 62 yL_step cL_step 6 (some .int) [(0, 12, 15, 13), (0, 12, 19, 15)] 5 := ⟨⟨by decide +kernel, by decide +kernel, by decide +kernel⟩, (zWi 491 (by decide +kernel) rfl), (zWi 48 (by decide +kernel) rfl), ml_L_62, (zWi 490 (by decide +kernel) rfl)⟩
set_option maxHeartbeats 1000000 in
set_option maxRecDepth 10000 in
theorem lc_step {p : Program} {l : Launch} {e : Env} {s : State} {m : MethodId} {args : Array Value} {below : List Frame} {meth : Method} {c : Code} {D : va_G} {aC : Nat → ClassId} {b0 b L i xa r w sz cells slots : Nat} {Q : State → Prop} {xs : Nat → Int32} {M M1 M2 : ZM} {kc bv tv : Int32} {fs fs1 fs2 : List Value} {g : Nat → Int64} {ls : Array Slot} (C : zC p l s m c D aC b0 RL cL_law 7) (hX : va_X b L xs s s.heap) (hbl : b < s.heap.size) (hbA : b < b0) (hi : i + 6 ≤ L) (hLb : L < 2 ^ 31) (hW : CtW l D aC b0 yL_step cL_step 6 (some .int) [(0, 12, 15, 13), (0, 12, 19, 15)] 3 1 6 [.ref xa, .int (xs (i + 1)), .int (xs (i + 2)), .int (xs (i + 3)), .ref w] M sz (zd (some (.int kc)) M1)) (hR : ∀ sz, Ct l D aC b0 yX9_step cX9_step 6 (some .int) 2 0 0 [.ref r, .int (xs (i + 1)), .int (xs (i + 2)), .int (xs (i + 3))] M1 sz (zd (some (.int bv)) M2)) (hr1 : M1 r = some (.inr (9, fs1))) (hc : cells + 2 ≤ 601024) (hs : slots + 12 ≤ 7293034) (hl : lv_has ls 7 [(0, .ref b), (1, .ref xa), (2, .ref r), (3, .ref w), (4, .int (nI i))]) (kk : ∀ (sz : Nat) (ls : Array Slot), lv_has ls 7 [(0, .ref b), (1, .ref xa), (2, .ref r), (3, .ref w), (4, .int (nI i))] → Z p l e room_1 s m args below meth c D b0 M2 sz (cells + 1) (slots + 6) Q (F0 m 807 ls [])) : Z p l e room_1 s m args below meth c D b0 M sz cells slots Q (F0 m 116 ls []) := by
  obtain ⟨hx, hb, -, -, -⟩ := id C
  refine zz (fun _ _ => lv_aload_n hx hb dL_law_116 rfl (lv_at hl 1 rfl)) ?_
  refine zz (fun _ _ => lv_aload_n hx hb dL_law_117 rfl (lv_at hl 0 rfl)) ?_
  refine zz (fun _ _ => lv_iload hx hb dL_law_118 (lv_at hl 4 rfl)) ?_
  refine zz (fun _ _ => lv_iconst (v := nI 1) hx hb dL_law_120 (by decide)) ?_
  refine zz (fun _ _ => lv_iadd hx hb dL_law_121) ?_
  refine zval (v' := .int (nI (i + 1))) (congrArg Value.int (nI_addk i 1)) ?_
  refine z_sld C hX hbl hbA (i := i + 1) (by omega) hLb dL_law_122 ?_
  refine zz (fun _ _ => lv_aload_n hx hb dL_law_123 rfl (lv_at hl 0 rfl)) ?_
  refine zz (fun _ _ => lv_iload hx hb dL_law_124 (lv_at hl 4 rfl)) ?_
  refine zz (fun _ _ => lv_iconst (v := nI 2) hx hb dL_law_126 (by decide)) ?_
  refine zz (fun _ _ => lv_iadd hx hb dL_law_127) ?_
  refine zval (v' := .int (nI (i + 2))) (congrArg Value.int (nI_addk i 2)) ?_
  refine z_sld C hX hbl hbA (i := i + 2) (by omega) hLb dL_law_128 ?_
  refine zz (fun _ _ => lv_aload_n hx hb dL_law_129 rfl (lv_at hl 0 rfl)) ?_
  refine zz (fun _ _ => lv_iload hx hb dL_law_130 (lv_at hl 4 rfl)) ?_
  refine zz (fun _ _ => lv_iconst (v := nI 3) hx hb dL_law_132 (by decide)) ?_
  refine zz (fun _ _ => lv_iadd hx hb dL_law_133) ?_
  refine zval (v' := .int (nI (i + 3))) (congrArg Value.int (nI_addk i 3)) ?_
  refine z_sld C hX hbl hbA (i := i + 3) (by omega) hLb dL_law_134 ?_
  refine zz (fun _ _ => lv_aload_n hx hb dL_law_135 rfl (lv_at hl 3 rfl)) ?_
  refine zdSW (As := [.ref xa, .int (xs (i + 1)), .int (xs (i + 2)), .int (xs (i + 3)), .ref w]) (rest := []) (st' := [.int kc]) C hl.1 wk_step hW rfl rfl (Nat.le_of_ble_eq_true rfl) ⟨by decide, by decide, by show _ ≤ 601024; omega, by show _ ≤ 7293034; omega⟩ dL_law_136 rfl (fun sz => ?_)
  refine zs (fun _ _ => lv_istore (lv' := [(5, .int kc), (0, .ref b), (1, .ref xa), (2, .ref r), (3, .ref w), (4, .int (nI i))]) hx hb dL_law_139 hl (by decide) rfl) (fun ls hl => ?_)
  refine zz (fun _ _ => lv_aload_n hx hb dL_law_141 rfl (lv_at hl 3 rfl)) ?_
  refine zz (fun _ _ => lv_aload_n hx hb dL_law_142 rfl (lv_at hl 1 rfl)) ?_
  refine zz (fun _ _ => lv_iload hx hb dL_law_143 (lv_at hl 5 rfl)) ?_
  refine zz (fun _ _ => lv_iconst (v := nI 1) hx hb dL_law_145 (by decide)) ?_
  refine zz (fun _ _ => lv_iadd hx hb dL_law_146) ?_
  refine zval (v' := .int (nI (i + 1))) (congrArg Value.int (nI_addk i 1)) ?_
  refine z_sld C hX hbl hbA (i := i + 1) (by omega) hLb dL_law_147 ?_
  refine zz (fun _ _ => lv_aload_n hx hb dL_law_148 rfl (lv_at hl 1 rfl)) ?_
  refine zz (fun _ _ => lv_iload hx hb dL_law_149 (lv_at hl 5 rfl)) ?_
  refine zz (fun _ _ => lv_iconst (v := nI 2) hx hb dL_law_151 (by decide)) ?_
  refine zz (fun _ _ => lv_iadd hx hb dL_law_152) ?_
  refine zval (v' := .int (nI (i + 2))) (congrArg Value.int (nI_addk i 2)) ?_
  refine z_sld C hX hbl hbA (i := i + 2) (by omega) hLb dL_law_153 ?_
  refine zz (fun _ _ => lv_aload_n hx hb dL_law_154 rfl (lv_at hl 1 rfl)) ?_
  refine zz (fun _ _ => lv_iload hx hb dL_law_155 (lv_at hl 5 rfl)) ?_
  refine zz (fun _ _ => lv_iconst (v := nI 3) hx hb dL_law_157 (by decide)) ?_
  refine zz (fun _ _ => lv_iadd hx hb dL_law_158) ?_
  refine zval (v' := .int (nI (i + 3))) (congrArg Value.int (nI_addk i 3)) ?_
  refine z_sld C hX hbl hbA (i := i + 3) (by omega) hLb dL_law_159 ?_
  refine zdV (As := [.int (xs (i + 1)), .int (xs (i + 2)), .int (xs (i + 3))]) (rest := []) (st' := [.int bv]) C hl.1 lk_L_67 (hR _) hr1 rfl rfl rfl (Nat.le_of_ble_eq_true rfl) ⟨by decide, by decide, by show _ ≤ 601024; omega, by show _ ≤ 7293034; omega⟩ dL_law_160 rfl (fun sz => ?_)
  refine zs (fun _ _ => lv_istore (lv' := [(6, .int bv), (5, .int kc), (0, .ref b), (1, .ref xa), (2, .ref r), (3, .ref w), (4, .int (nI i))]) hx hb dL_law_163 hl (by decide) rfl) (fun ls hl => ?_)
  refine zz (fun _ _ => lv_goto (tgt := 807) hx hb dL_law_165 (by decide)) ?_
  exact kk _ _ (lv_sub hl [2, 3, 4, 5, 6] rfl)
theorem wk_silent : zLkW RL 68 yL_silent cL_silent 5 (some .int) [(0, 17, 20, 21)] 4 := ⟨⟨by decide +kernel, by decide +kernel, by decide +kernel⟩, (zWi 598 (by decide +kernel) rfl), (zWi 48 (by decide +kernel) rfl), ml_L_68, (zWi 597 (by decide +kernel) rfl)⟩
set_option maxHeartbeats 1000000 in
set_option maxRecDepth 10000 in
theorem lc_silent {p : Program} {l : Launch} {e : Env} {s : State} {m : MethodId} {args : Array Value} {below : List Frame} {meth : Method} {c : Code} {D : va_G} {aC : Nat → ClassId} {b0 b L i xa r w sz cells slots : Nat} {Q : State → Prop} {xs : Nat → Int32} {M M1 M2 : ZM} {kc bv tv : Int32} {fs fs1 fs2 : List Value} {g : Nat → Int64} {ls : Array Slot} (C : zC p l s m c D aC b0 RL cL_law 7) (hX : va_X b L xs s s.heap) (hbl : b < s.heap.size) (hbA : b < b0) (hi : i + 6 ≤ L) (hLb : L < 2 ^ 31) (hW : CtW l D aC b0 yL_silent cL_silent 5 (some .int) [(0, 17, 20, 21)] 2 1 6 [.ref xa, .int (xs (i + 1)), .int (if xs (i + 2) = 0 then 0 else 1), .ref w] M sz (zd (some (.int kc)) M1)) (hR : ∀ sz, Ct l D aC b0 yX9_silent cX9_silent 4 (some .boolean) 1 0 0 [.ref r, .int (xs (i + 1)), .int (if xs (i + 2) = 0 then 0 else 1)] M1 sz (zd (some (.int bv)) M2)) (hr1 : M1 r = some (.inr (9, fs1))) (hc : cells + 2 ≤ 601024) (hs : slots + 12 ≤ 7293034) (hl : lv_has ls 7 [(0, .ref b), (1, .ref xa), (2, .ref r), (3, .ref w), (4, .int (nI i))]) (kk : ∀ (sz : Nat) (ls : Array Slot), lv_has ls 7 [(0, .ref b), (1, .ref xa), (2, .ref r), (3, .ref w), (4, .int (nI i))] → Z p l e room_1 s m args below meth c D b0 M2 sz (cells + 1) (slots + 6) Q (F0 m 807 ls [])) : Z p l e room_1 s m args below meth c D b0 M sz cells slots Q (F0 m 168 ls []) := by
  obtain ⟨hx, hb, -, -, -⟩ := id C
  by_cases hz : xs (i + 2) = 0
  · simp only [if_pos hz] at hW hR
    refine zz (fun _ _ => lv_aload_n hx hb dL_law_168 rfl (lv_at hl 1 rfl)) ?_
    refine zz (fun _ _ => lv_aload_n hx hb dL_law_169 rfl (lv_at hl 0 rfl)) ?_
    refine zz (fun _ _ => lv_iload hx hb dL_law_170 (lv_at hl 4 rfl)) ?_
    refine zz (fun _ _ => lv_iconst (v := nI 1) hx hb dL_law_172 (by decide)) ?_
    refine zz (fun _ _ => lv_iadd hx hb dL_law_173) ?_
    refine zval (v' := .int (nI (i + 1))) (congrArg Value.int (nI_addk i 1)) ?_
    refine z_sld C hX hbl hbA (i := i + 1) (by omega) hLb dL_law_174 ?_
    refine zz (fun _ _ => lv_aload_n hx hb dL_law_175 rfl (lv_at hl 0 rfl)) ?_
    refine zz (fun _ _ => lv_iload hx hb dL_law_176 (lv_at hl 4 rfl)) ?_
    refine zz (fun _ _ => lv_iconst (v := nI 2) hx hb dL_law_178 (by decide)) ?_
    refine zz (fun _ _ => lv_iadd hx hb dL_law_179) ?_
    refine zval (v' := .int (nI (i + 2))) (congrArg Value.int (nI_addk i 2)) ?_
    refine z_sld C hX hbl hbA (i := i + 2) (by omega) hLb dL_law_180 ?_
    refine zb (fun _ _ => lv_if_eq (tgt := 188) hx hb dL_law_181 (by decide)) (fun c_1 => ?_) (fun c_1 => ?_)
    rotate_left
    · exact absurd hz c_1
    refine zz (fun _ _ => lv_iconst (v := 0) hx hb dL_law_188 (by decide)) ?_
    refine zz (fun _ _ => lv_aload_n hx hb dL_law_189 rfl (lv_at hl 3 rfl)) ?_
    refine zdSW (As := [.ref xa, .int (xs (i + 1)), .int 0, .ref w]) (rest := []) (st' := [.int kc]) C hl.1 wk_silent hW rfl rfl (Nat.le_of_ble_eq_true rfl) ⟨by decide, by decide, by show _ ≤ 601024; omega, by show _ ≤ 7293034; omega⟩ dL_law_190 rfl (fun sz => ?_)
    refine zs (fun _ _ => lv_istore (lv' := [(5, .int kc), (0, .ref b), (1, .ref xa), (2, .ref r), (3, .ref w), (4, .int (nI i))]) hx hb dL_law_193 hl (by decide) rfl) (fun ls hl => ?_)
    refine zz (fun _ _ => lv_aload_n hx hb dL_law_195 rfl (lv_at hl 3 rfl)) ?_
    refine zz (fun _ _ => lv_aload_n hx hb dL_law_196 rfl (lv_at hl 1 rfl)) ?_
    refine zz (fun _ _ => lv_iload hx hb dL_law_197 (lv_at hl 5 rfl)) ?_
    refine zz (fun _ _ => lv_iconst (v := nI 1) hx hb dL_law_199 (by decide)) ?_
    refine zz (fun _ _ => lv_iadd hx hb dL_law_200) ?_
    refine zval (v' := .int (nI (i + 1))) (congrArg Value.int (nI_addk i 1)) ?_
    refine z_sld C hX hbl hbA (i := i + 1) (by omega) hLb dL_law_201 ?_
    refine zz (fun _ _ => lv_aload_n hx hb dL_law_202 rfl (lv_at hl 1 rfl)) ?_
    refine zz (fun _ _ => lv_iload hx hb dL_law_203 (lv_at hl 5 rfl)) ?_
    refine zz (fun _ _ => lv_iconst (v := nI 2) hx hb dL_law_205 (by decide)) ?_
    refine zz (fun _ _ => lv_iadd hx hb dL_law_206) ?_
    refine zval (v' := .int (nI (i + 2))) (congrArg Value.int (nI_addk i 2)) ?_
    refine z_sld C hX hbl hbA (i := i + 2) (by omega) hLb dL_law_207 ?_
    refine zb (fun _ _ => lv_if_eq (tgt := 215) hx hb dL_law_208 (by decide)) (fun c_1 => ?_) (fun c_1 => ?_)
    rotate_left
    · exact absurd hz c_1
    refine zz (fun _ _ => lv_iconst (v := 0) hx hb dL_law_215 (by decide)) ?_
    refine zdV (As := [.int (xs (i + 1)), .int 0]) (rest := []) (st' := [.int bv]) C hl.1 lk_L_71 (hR _) hr1 rfl rfl rfl (Nat.le_of_ble_eq_true rfl) ⟨by decide, by decide, by show _ ≤ 601024; omega, by show _ ≤ 7293034; omega⟩ dL_law_216 rfl (fun sz => ?_)
    refine zs (fun _ _ => lv_istore (lv' := [(6, .int bv), (5, .int kc), (0, .ref b), (1, .ref xa), (2, .ref r), (3, .ref w), (4, .int (nI i))]) hx hb dL_law_219 hl (by decide) rfl) (fun ls hl => ?_)
    refine zz (fun _ _ => lv_goto (tgt := 807) hx hb dL_law_221 (by decide)) ?_
    exact kk _ _ (lv_sub hl [2, 3, 4, 5, 6] rfl)
  · simp only [if_neg hz] at hW hR
    refine zz (fun _ _ => lv_aload_n hx hb dL_law_168 rfl (lv_at hl 1 rfl)) ?_
    refine zz (fun _ _ => lv_aload_n hx hb dL_law_169 rfl (lv_at hl 0 rfl)) ?_
    refine zz (fun _ _ => lv_iload hx hb dL_law_170 (lv_at hl 4 rfl)) ?_
    refine zz (fun _ _ => lv_iconst (v := nI 1) hx hb dL_law_172 (by decide)) ?_
    refine zz (fun _ _ => lv_iadd hx hb dL_law_173) ?_
    refine zval (v' := .int (nI (i + 1))) (congrArg Value.int (nI_addk i 1)) ?_
    refine z_sld C hX hbl hbA (i := i + 1) (by omega) hLb dL_law_174 ?_
    refine zz (fun _ _ => lv_aload_n hx hb dL_law_175 rfl (lv_at hl 0 rfl)) ?_
    refine zz (fun _ _ => lv_iload hx hb dL_law_176 (lv_at hl 4 rfl)) ?_
    refine zz (fun _ _ => lv_iconst (v := nI 2) hx hb dL_law_178 (by decide)) ?_
    refine zz (fun _ _ => lv_iadd hx hb dL_law_179) ?_
    refine zval (v' := .int (nI (i + 2))) (congrArg Value.int (nI_addk i 2)) ?_
    refine z_sld C hX hbl hbA (i := i + 2) (by omega) hLb dL_law_180 ?_
    refine zb (fun _ _ => lv_if_eq (tgt := 188) hx hb dL_law_181 (by decide)) (fun c_1 => ?_) (fun c_1 => ?_)
    · exact absurd c_1 hz
    refine zz (fun _ _ => lv_iconst (v := 1) hx hb dL_law_184 (by decide)) ?_
    refine zz (fun _ _ => lv_goto (tgt := 189) hx hb dL_law_185 (by decide)) ?_
    refine zz (fun _ _ => lv_aload_n hx hb dL_law_189 rfl (lv_at hl 3 rfl)) ?_
    refine zdSW (As := [.ref xa, .int (xs (i + 1)), .int 1, .ref w]) (rest := []) (st' := [.int kc]) C hl.1 wk_silent hW rfl rfl (Nat.le_of_ble_eq_true rfl) ⟨by decide, by decide, by show _ ≤ 601024; omega, by show _ ≤ 7293034; omega⟩ dL_law_190 rfl (fun sz => ?_)
    refine zs (fun _ _ => lv_istore (lv' := [(5, .int kc), (0, .ref b), (1, .ref xa), (2, .ref r), (3, .ref w), (4, .int (nI i))]) hx hb dL_law_193 hl (by decide) rfl) (fun ls hl => ?_)
    refine zz (fun _ _ => lv_aload_n hx hb dL_law_195 rfl (lv_at hl 3 rfl)) ?_
    refine zz (fun _ _ => lv_aload_n hx hb dL_law_196 rfl (lv_at hl 1 rfl)) ?_
    refine zz (fun _ _ => lv_iload hx hb dL_law_197 (lv_at hl 5 rfl)) ?_
    refine zz (fun _ _ => lv_iconst (v := nI 1) hx hb dL_law_199 (by decide)) ?_
    refine zz (fun _ _ => lv_iadd hx hb dL_law_200) ?_
    refine zval (v' := .int (nI (i + 1))) (congrArg Value.int (nI_addk i 1)) ?_
    refine z_sld C hX hbl hbA (i := i + 1) (by omega) hLb dL_law_201 ?_
    refine zz (fun _ _ => lv_aload_n hx hb dL_law_202 rfl (lv_at hl 1 rfl)) ?_
    refine zz (fun _ _ => lv_iload hx hb dL_law_203 (lv_at hl 5 rfl)) ?_
    refine zz (fun _ _ => lv_iconst (v := nI 2) hx hb dL_law_205 (by decide)) ?_
    refine zz (fun _ _ => lv_iadd hx hb dL_law_206) ?_
    refine zval (v' := .int (nI (i + 2))) (congrArg Value.int (nI_addk i 2)) ?_
    refine z_sld C hX hbl hbA (i := i + 2) (by omega) hLb dL_law_207 ?_
    refine zb (fun _ _ => lv_if_eq (tgt := 215) hx hb dL_law_208 (by decide)) (fun c_1 => ?_) (fun c_1 => ?_)
    · exact absurd c_1 hz
    refine zz (fun _ _ => lv_iconst (v := 1) hx hb dL_law_211 (by decide)) ?_
    refine zz (fun _ _ => lv_goto (tgt := 216) hx hb dL_law_212 (by decide)) ?_
    refine zdV (As := [.int (xs (i + 1)), .int 1]) (rest := []) (st' := [.int bv]) C hl.1 lk_L_71 (hR _) hr1 rfl rfl rfl (Nat.le_of_ble_eq_true rfl) ⟨by decide, by decide, by show _ ≤ 601024; omega, by show _ ≤ 7293034; omega⟩ dL_law_216 rfl (fun sz => ?_)
    refine zs (fun _ _ => lv_istore (lv' := [(6, .int bv), (5, .int kc), (0, .ref b), (1, .ref xa), (2, .ref r), (3, .ref w), (4, .int (nI i))]) hx hb dL_law_219 hl (by decide) rfl) (fun ls hl => ?_)
    refine zz (fun _ _ => lv_goto (tgt := 807) hx hb dL_law_221 (by decide)) ?_
    exact kk _ _ (lv_sub hl [2, 3, 4, 5, 6] rfl)
theorem wk_template : zLkW RL 72 yL_template cL_template 8 (some .int) [(0, 16, 19, 21), (0, 16, 23, 13), (0, 16, 27, 15)] 7 := ⟨⟨by decide +kernel, by decide +kernel, by decide +kernel⟩, (zWi 626 (by decide +kernel) rfl), (zWi 48 (by decide +kernel) rfl), ml_L_72, (zWi 625 (by decide +kernel) rfl)⟩
set_option maxHeartbeats 1000000 in
set_option maxRecDepth 10000 in
theorem lc_template {p : Program} {l : Launch} {e : Env} {s : State} {m : MethodId} {args : Array Value} {below : List Frame} {meth : Method} {c : Code} {D : va_G} {aC : Nat → ClassId} {b0 b L i xa r w sz cells slots : Nat} {Q : State → Prop} {xs : Nat → Int32} {M M1 M2 : ZM} {kc bv tv : Int32} {fs fs1 fs2 : List Value} {g : Nat → Int64} {ls : Array Slot} (C : zC p l s m c D aC b0 RL cL_law 7) (hX : va_X b L xs s s.heap) (hbl : b < s.heap.size) (hbA : b < b0) (hi : i + 6 ≤ L) (hLb : L < 2 ^ 31) (hW : CtW l D aC b0 yL_template cL_template 8 (some .int) [(0, 16, 19, 21), (0, 16, 23, 13), (0, 16, 27, 15)] 4 2 12 [.ref xa, .int (xs (i + 1)), .int (xs (i + 2)), .int (xs (i + 3)), .int (xs (i + 4)), .int (if xs (i + 5) = 0 then 0 else 1), .ref w] M sz (zd (some (.int kc)) M1)) (hR : ∀ sz, Ct l D aC b0 yX9_template cX9_template 9 (some .int) 3 0 0 [.ref r, .int (xs (i + 1)), .int (xs (i + 2)), .int (xs (i + 3)), .int (xs (i + 4)), .int (if xs (i + 5) = 0 then 0 else 1)] M1 sz (zd (some (.int bv)) M2)) (hr1 : M1 r = some (.inr (9, fs1))) (hc : cells + 2 ≤ 601024) (hs : slots + 12 ≤ 7293034) (hl : lv_has ls 7 [(0, .ref b), (1, .ref xa), (2, .ref r), (3, .ref w), (4, .int (nI i))]) (kk : ∀ (sz : Nat) (ls : Array Slot), lv_has ls 7 [(0, .ref b), (1, .ref xa), (2, .ref r), (3, .ref w), (4, .int (nI i))] → Z p l e room_1 s m args below meth c D b0 M2 sz (cells + 2) (slots + 12) Q (F0 m 807 ls [])) : Z p l e room_1 s m args below meth c D b0 M sz cells slots Q (F0 m 224 ls []) := by
  obtain ⟨hx, hb, -, -, -⟩ := id C
  by_cases hz : xs (i + 5) = 0
  · simp only [if_pos hz] at hW hR
    refine zz (fun _ _ => lv_aload_n hx hb dL_law_224 rfl (lv_at hl 1 rfl)) ?_
    refine zz (fun _ _ => lv_aload_n hx hb dL_law_225 rfl (lv_at hl 0 rfl)) ?_
    refine zz (fun _ _ => lv_iload hx hb dL_law_226 (lv_at hl 4 rfl)) ?_
    refine zz (fun _ _ => lv_iconst (v := nI 1) hx hb dL_law_228 (by decide)) ?_
    refine zz (fun _ _ => lv_iadd hx hb dL_law_229) ?_
    refine zval (v' := .int (nI (i + 1))) (congrArg Value.int (nI_addk i 1)) ?_
    refine z_sld C hX hbl hbA (i := i + 1) (by omega) hLb dL_law_230 ?_
    refine zz (fun _ _ => lv_aload_n hx hb dL_law_231 rfl (lv_at hl 0 rfl)) ?_
    refine zz (fun _ _ => lv_iload hx hb dL_law_232 (lv_at hl 4 rfl)) ?_
    refine zz (fun _ _ => lv_iconst (v := nI 2) hx hb dL_law_234 (by decide)) ?_
    refine zz (fun _ _ => lv_iadd hx hb dL_law_235) ?_
    refine zval (v' := .int (nI (i + 2))) (congrArg Value.int (nI_addk i 2)) ?_
    refine z_sld C hX hbl hbA (i := i + 2) (by omega) hLb dL_law_236 ?_
    refine zz (fun _ _ => lv_aload_n hx hb dL_law_237 rfl (lv_at hl 0 rfl)) ?_
    refine zz (fun _ _ => lv_iload hx hb dL_law_238 (lv_at hl 4 rfl)) ?_
    refine zz (fun _ _ => lv_iconst (v := nI 3) hx hb dL_law_240 (by decide)) ?_
    refine zz (fun _ _ => lv_iadd hx hb dL_law_241) ?_
    refine zval (v' := .int (nI (i + 3))) (congrArg Value.int (nI_addk i 3)) ?_
    refine z_sld C hX hbl hbA (i := i + 3) (by omega) hLb dL_law_242 ?_
    refine zz (fun _ _ => lv_aload_n hx hb dL_law_243 rfl (lv_at hl 0 rfl)) ?_
    refine zz (fun _ _ => lv_iload hx hb dL_law_244 (lv_at hl 4 rfl)) ?_
    refine zz (fun _ _ => lv_iconst (v := nI 4) hx hb dL_law_246 (by decide)) ?_
    refine zz (fun _ _ => lv_iadd hx hb dL_law_247) ?_
    refine zval (v' := .int (nI (i + 4))) (congrArg Value.int (nI_addk i 4)) ?_
    refine z_sld C hX hbl hbA (i := i + 4) (by omega) hLb dL_law_248 ?_
    refine zz (fun _ _ => lv_aload_n hx hb dL_law_249 rfl (lv_at hl 0 rfl)) ?_
    refine zz (fun _ _ => lv_iload hx hb dL_law_250 (lv_at hl 4 rfl)) ?_
    refine zz (fun _ _ => lv_iconst (v := nI 5) hx hb dL_law_252 (by decide)) ?_
    refine zz (fun _ _ => lv_iadd hx hb dL_law_253) ?_
    refine zval (v' := .int (nI (i + 5))) (congrArg Value.int (nI_addk i 5)) ?_
    refine z_sld C hX hbl hbA (i := i + 5) (by omega) hLb dL_law_254 ?_
    refine zb (fun _ _ => lv_if_eq (tgt := 262) hx hb dL_law_255 (by decide)) (fun c_1 => ?_) (fun c_1 => ?_)
    rotate_left
    · exact absurd hz c_1
    refine zz (fun _ _ => lv_iconst (v := 0) hx hb dL_law_262 (by decide)) ?_
    refine zz (fun _ _ => lv_aload_n hx hb dL_law_263 rfl (lv_at hl 3 rfl)) ?_
    refine zdSW (As := [.ref xa, .int (xs (i + 1)), .int (xs (i + 2)), .int (xs (i + 3)), .int (xs (i + 4)), .int 0, .ref w]) (rest := []) (st' := [.int kc]) C hl.1 wk_template hW rfl rfl (Nat.le_of_ble_eq_true rfl) ⟨by decide, by decide, by show _ ≤ 601024; omega, by show _ ≤ 7293034; omega⟩ dL_law_264 rfl (fun sz => ?_)
    refine zs (fun _ _ => lv_istore (lv' := [(5, .int kc), (0, .ref b), (1, .ref xa), (2, .ref r), (3, .ref w), (4, .int (nI i))]) hx hb dL_law_267 hl (by decide) rfl) (fun ls hl => ?_)
    refine zz (fun _ _ => lv_aload_n hx hb dL_law_269 rfl (lv_at hl 3 rfl)) ?_
    refine zz (fun _ _ => lv_aload_n hx hb dL_law_270 rfl (lv_at hl 1 rfl)) ?_
    refine zz (fun _ _ => lv_iload hx hb dL_law_271 (lv_at hl 5 rfl)) ?_
    refine zz (fun _ _ => lv_iconst (v := nI 1) hx hb dL_law_273 (by decide)) ?_
    refine zz (fun _ _ => lv_iadd hx hb dL_law_274) ?_
    refine zval (v' := .int (nI (i + 1))) (congrArg Value.int (nI_addk i 1)) ?_
    refine z_sld C hX hbl hbA (i := i + 1) (by omega) hLb dL_law_275 ?_
    refine zz (fun _ _ => lv_aload_n hx hb dL_law_276 rfl (lv_at hl 1 rfl)) ?_
    refine zz (fun _ _ => lv_iload hx hb dL_law_277 (lv_at hl 5 rfl)) ?_
    refine zz (fun _ _ => lv_iconst (v := nI 2) hx hb dL_law_279 (by decide)) ?_
    refine zz (fun _ _ => lv_iadd hx hb dL_law_280) ?_
    refine zval (v' := .int (nI (i + 2))) (congrArg Value.int (nI_addk i 2)) ?_
    refine z_sld C hX hbl hbA (i := i + 2) (by omega) hLb dL_law_281 ?_
    refine zz (fun _ _ => lv_aload_n hx hb dL_law_282 rfl (lv_at hl 1 rfl)) ?_
    refine zz (fun _ _ => lv_iload hx hb dL_law_283 (lv_at hl 5 rfl)) ?_
    refine zz (fun _ _ => lv_iconst (v := nI 3) hx hb dL_law_285 (by decide)) ?_
    refine zz (fun _ _ => lv_iadd hx hb dL_law_286) ?_
    refine zval (v' := .int (nI (i + 3))) (congrArg Value.int (nI_addk i 3)) ?_
    refine z_sld C hX hbl hbA (i := i + 3) (by omega) hLb dL_law_287 ?_
    refine zz (fun _ _ => lv_aload_n hx hb dL_law_288 rfl (lv_at hl 1 rfl)) ?_
    refine zz (fun _ _ => lv_iload hx hb dL_law_289 (lv_at hl 5 rfl)) ?_
    refine zz (fun _ _ => lv_iconst (v := nI 4) hx hb dL_law_291 (by decide)) ?_
    refine zz (fun _ _ => lv_iadd hx hb dL_law_292) ?_
    refine zval (v' := .int (nI (i + 4))) (congrArg Value.int (nI_addk i 4)) ?_
    refine z_sld C hX hbl hbA (i := i + 4) (by omega) hLb dL_law_293 ?_
    refine zz (fun _ _ => lv_aload_n hx hb dL_law_294 rfl (lv_at hl 1 rfl)) ?_
    refine zz (fun _ _ => lv_iload hx hb dL_law_295 (lv_at hl 5 rfl)) ?_
    refine zz (fun _ _ => lv_iconst (v := nI 5) hx hb dL_law_297 (by decide)) ?_
    refine zz (fun _ _ => lv_iadd hx hb dL_law_298) ?_
    refine zval (v' := .int (nI (i + 5))) (congrArg Value.int (nI_addk i 5)) ?_
    refine z_sld C hX hbl hbA (i := i + 5) (by omega) hLb dL_law_299 ?_
    refine zb (fun _ _ => lv_if_eq (tgt := 307) hx hb dL_law_300 (by decide)) (fun c_1 => ?_) (fun c_1 => ?_)
    rotate_left
    · exact absurd hz c_1
    refine zz (fun _ _ => lv_iconst (v := 0) hx hb dL_law_307 (by decide)) ?_
    refine zdV (As := [.int (xs (i + 1)), .int (xs (i + 2)), .int (xs (i + 3)), .int (xs (i + 4)), .int 0]) (rest := []) (st' := [.int bv]) C hl.1 lk_L_75 (hR _) hr1 rfl rfl rfl (Nat.le_of_ble_eq_true rfl) ⟨by decide, by decide, by show _ ≤ 601024; omega, by show _ ≤ 7293034; omega⟩ dL_law_308 rfl (fun sz => ?_)
    refine zs (fun _ _ => lv_istore (lv' := [(6, .int bv), (5, .int kc), (0, .ref b), (1, .ref xa), (2, .ref r), (3, .ref w), (4, .int (nI i))]) hx hb dL_law_311 hl (by decide) rfl) (fun ls hl => ?_)
    refine zz (fun _ _ => lv_goto (tgt := 807) hx hb dL_law_313 (by decide)) ?_
    exact kk _ _ (lv_sub hl [2, 3, 4, 5, 6] rfl)
  · simp only [if_neg hz] at hW hR
    refine zz (fun _ _ => lv_aload_n hx hb dL_law_224 rfl (lv_at hl 1 rfl)) ?_
    refine zz (fun _ _ => lv_aload_n hx hb dL_law_225 rfl (lv_at hl 0 rfl)) ?_
    refine zz (fun _ _ => lv_iload hx hb dL_law_226 (lv_at hl 4 rfl)) ?_
    refine zz (fun _ _ => lv_iconst (v := nI 1) hx hb dL_law_228 (by decide)) ?_
    refine zz (fun _ _ => lv_iadd hx hb dL_law_229) ?_
    refine zval (v' := .int (nI (i + 1))) (congrArg Value.int (nI_addk i 1)) ?_
    refine z_sld C hX hbl hbA (i := i + 1) (by omega) hLb dL_law_230 ?_
    refine zz (fun _ _ => lv_aload_n hx hb dL_law_231 rfl (lv_at hl 0 rfl)) ?_
    refine zz (fun _ _ => lv_iload hx hb dL_law_232 (lv_at hl 4 rfl)) ?_
    refine zz (fun _ _ => lv_iconst (v := nI 2) hx hb dL_law_234 (by decide)) ?_
    refine zz (fun _ _ => lv_iadd hx hb dL_law_235) ?_
    refine zval (v' := .int (nI (i + 2))) (congrArg Value.int (nI_addk i 2)) ?_
    refine z_sld C hX hbl hbA (i := i + 2) (by omega) hLb dL_law_236 ?_
    refine zz (fun _ _ => lv_aload_n hx hb dL_law_237 rfl (lv_at hl 0 rfl)) ?_
    refine zz (fun _ _ => lv_iload hx hb dL_law_238 (lv_at hl 4 rfl)) ?_
    refine zz (fun _ _ => lv_iconst (v := nI 3) hx hb dL_law_240 (by decide)) ?_
    refine zz (fun _ _ => lv_iadd hx hb dL_law_241) ?_
    refine zval (v' := .int (nI (i + 3))) (congrArg Value.int (nI_addk i 3)) ?_
    refine z_sld C hX hbl hbA (i := i + 3) (by omega) hLb dL_law_242 ?_
    refine zz (fun _ _ => lv_aload_n hx hb dL_law_243 rfl (lv_at hl 0 rfl)) ?_
    refine zz (fun _ _ => lv_iload hx hb dL_law_244 (lv_at hl 4 rfl)) ?_
    refine zz (fun _ _ => lv_iconst (v := nI 4) hx hb dL_law_246 (by decide)) ?_
    refine zz (fun _ _ => lv_iadd hx hb dL_law_247) ?_
    refine zval (v' := .int (nI (i + 4))) (congrArg Value.int (nI_addk i 4)) ?_
    refine z_sld C hX hbl hbA (i := i + 4) (by omega) hLb dL_law_248 ?_
    refine zz (fun _ _ => lv_aload_n hx hb dL_law_249 rfl (lv_at hl 0 rfl)) ?_
    refine zz (fun _ _ => lv_iload hx hb dL_law_250 (lv_at hl 4 rfl)) ?_
    refine zz (fun _ _ => lv_iconst (v := nI 5) hx hb dL_law_252 (by decide)) ?_
    refine zz (fun _ _ => lv_iadd hx hb dL_law_253) ?_
    refine zval (v' := .int (nI (i + 5))) (congrArg Value.int (nI_addk i 5)) ?_
    refine z_sld C hX hbl hbA (i := i + 5) (by omega) hLb dL_law_254 ?_
    refine zb (fun _ _ => lv_if_eq (tgt := 262) hx hb dL_law_255 (by decide)) (fun c_1 => ?_) (fun c_1 => ?_)
    · exact absurd c_1 hz
    refine zz (fun _ _ => lv_iconst (v := 1) hx hb dL_law_258 (by decide)) ?_
    refine zz (fun _ _ => lv_goto (tgt := 263) hx hb dL_law_259 (by decide)) ?_
    refine zz (fun _ _ => lv_aload_n hx hb dL_law_263 rfl (lv_at hl 3 rfl)) ?_
    refine zdSW (As := [.ref xa, .int (xs (i + 1)), .int (xs (i + 2)), .int (xs (i + 3)), .int (xs (i + 4)), .int 1, .ref w]) (rest := []) (st' := [.int kc]) C hl.1 wk_template hW rfl rfl (Nat.le_of_ble_eq_true rfl) ⟨by decide, by decide, by show _ ≤ 601024; omega, by show _ ≤ 7293034; omega⟩ dL_law_264 rfl (fun sz => ?_)
    refine zs (fun _ _ => lv_istore (lv' := [(5, .int kc), (0, .ref b), (1, .ref xa), (2, .ref r), (3, .ref w), (4, .int (nI i))]) hx hb dL_law_267 hl (by decide) rfl) (fun ls hl => ?_)
    refine zz (fun _ _ => lv_aload_n hx hb dL_law_269 rfl (lv_at hl 3 rfl)) ?_
    refine zz (fun _ _ => lv_aload_n hx hb dL_law_270 rfl (lv_at hl 1 rfl)) ?_
    refine zz (fun _ _ => lv_iload hx hb dL_law_271 (lv_at hl 5 rfl)) ?_
    refine zz (fun _ _ => lv_iconst (v := nI 1) hx hb dL_law_273 (by decide)) ?_
    refine zz (fun _ _ => lv_iadd hx hb dL_law_274) ?_
    refine zval (v' := .int (nI (i + 1))) (congrArg Value.int (nI_addk i 1)) ?_
    refine z_sld C hX hbl hbA (i := i + 1) (by omega) hLb dL_law_275 ?_
    refine zz (fun _ _ => lv_aload_n hx hb dL_law_276 rfl (lv_at hl 1 rfl)) ?_
    refine zz (fun _ _ => lv_iload hx hb dL_law_277 (lv_at hl 5 rfl)) ?_
    refine zz (fun _ _ => lv_iconst (v := nI 2) hx hb dL_law_279 (by decide)) ?_
    refine zz (fun _ _ => lv_iadd hx hb dL_law_280) ?_
    refine zval (v' := .int (nI (i + 2))) (congrArg Value.int (nI_addk i 2)) ?_
    refine z_sld C hX hbl hbA (i := i + 2) (by omega) hLb dL_law_281 ?_
    refine zz (fun _ _ => lv_aload_n hx hb dL_law_282 rfl (lv_at hl 1 rfl)) ?_
    refine zz (fun _ _ => lv_iload hx hb dL_law_283 (lv_at hl 5 rfl)) ?_
    refine zz (fun _ _ => lv_iconst (v := nI 3) hx hb dL_law_285 (by decide)) ?_
    refine zz (fun _ _ => lv_iadd hx hb dL_law_286) ?_
    refine zval (v' := .int (nI (i + 3))) (congrArg Value.int (nI_addk i 3)) ?_
    refine z_sld C hX hbl hbA (i := i + 3) (by omega) hLb dL_law_287 ?_
    refine zz (fun _ _ => lv_aload_n hx hb dL_law_288 rfl (lv_at hl 1 rfl)) ?_
    refine zz (fun _ _ => lv_iload hx hb dL_law_289 (lv_at hl 5 rfl)) ?_
    refine zz (fun _ _ => lv_iconst (v := nI 4) hx hb dL_law_291 (by decide)) ?_
    refine zz (fun _ _ => lv_iadd hx hb dL_law_292) ?_
    refine zval (v' := .int (nI (i + 4))) (congrArg Value.int (nI_addk i 4)) ?_
    refine z_sld C hX hbl hbA (i := i + 4) (by omega) hLb dL_law_293 ?_
    refine zz (fun _ _ => lv_aload_n hx hb dL_law_294 rfl (lv_at hl 1 rfl)) ?_
    refine zz (fun _ _ => lv_iload hx hb dL_law_295 (lv_at hl 5 rfl)) ?_
    refine zz (fun _ _ => lv_iconst (v := nI 5) hx hb dL_law_297 (by decide)) ?_
    refine zz (fun _ _ => lv_iadd hx hb dL_law_298) ?_
    refine zval (v' := .int (nI (i + 5))) (congrArg Value.int (nI_addk i 5)) ?_
    refine z_sld C hX hbl hbA (i := i + 5) (by omega) hLb dL_law_299 ?_
    refine zb (fun _ _ => lv_if_eq (tgt := 307) hx hb dL_law_300 (by decide)) (fun c_1 => ?_) (fun c_1 => ?_)
    · exact absurd c_1 hz
    refine zz (fun _ _ => lv_iconst (v := 1) hx hb dL_law_303 (by decide)) ?_
    refine zz (fun _ _ => lv_goto (tgt := 308) hx hb dL_law_304 (by decide)) ?_
    refine zdV (As := [.int (xs (i + 1)), .int (xs (i + 2)), .int (xs (i + 3)), .int (xs (i + 4)), .int 1]) (rest := []) (st' := [.int bv]) C hl.1 lk_L_75 (hR _) hr1 rfl rfl rfl (Nat.le_of_ble_eq_true rfl) ⟨by decide, by decide, by show _ ≤ 601024; omega, by show _ ≤ 7293034; omega⟩ dL_law_308 rfl (fun sz => ?_)
    refine zs (fun _ _ => lv_istore (lv' := [(6, .int bv), (5, .int kc), (0, .ref b), (1, .ref xa), (2, .ref r), (3, .ref w), (4, .int (nI i))]) hx hb dL_law_311 hl (by decide) rfl) (fun ls hl => ?_)
    refine zz (fun _ _ => lv_goto (tgt := 807) hx hb dL_law_313 (by decide)) ?_
    exact kk _ _ (lv_sub hl [2, 3, 4, 5, 6] rfl)
theorem wk_pattern : zLkW RL 76 yL_pattern cL_pattern 7 (some .int) [(0, 14, 17, 21), (0, 14, 21, 13), (0, 14, 25, 15)] 6 := ⟨⟨by decide +kernel, by decide +kernel, by decide +kernel⟩, (zWi 658 (by decide +kernel) rfl), (zWi 48 (by decide +kernel) rfl), ml_L_76, (zWi 657 (by decide +kernel) rfl)⟩
set_option maxHeartbeats 1000000 in
set_option maxRecDepth 10000 in
theorem lc_pattern {p : Program} {l : Launch} {e : Env} {s : State} {m : MethodId} {args : Array Value} {below : List Frame} {meth : Method} {c : Code} {D : va_G} {aC : Nat → ClassId} {b0 b L i xa r w sz cells slots : Nat} {Q : State → Prop} {xs : Nat → Int32} {M M1 M2 : ZM} {kc bv tv : Int32} {fs fs1 fs2 : List Value} {g : Nat → Int64} {ls : Array Slot} (C : zC p l s m c D aC b0 RL cL_law 7) (hX : va_X b L xs s s.heap) (hbl : b < s.heap.size) (hbA : b < b0) (hi : i + 6 ≤ L) (hLb : L < 2 ^ 31) (hW : CtW l D aC b0 yL_pattern cL_pattern 7 (some .int) [(0, 14, 17, 21), (0, 14, 21, 13), (0, 14, 25, 15)] 3 2 12 [.ref xa, .int (xs (i + 1)), .int (xs (i + 2)), .int (xs (i + 3)), .int (xs (i + 4)), .ref w] M sz (zd (some (.int kc)) M1)) (hR : ∀ sz, Ct l D aC b0 yX9_pattern cX9_pattern 7 (some .int) 3 0 0 [.ref r, .int (xs (i + 1)), .int (xs (i + 2)), .int (xs (i + 3)), .int (xs (i + 4))] M1 sz (zd (some (.int bv)) M2)) (hr1 : M1 r = some (.inr (9, fs1))) (hc : cells + 2 ≤ 601024) (hs : slots + 12 ≤ 7293034) (hl : lv_has ls 7 [(0, .ref b), (1, .ref xa), (2, .ref r), (3, .ref w), (4, .int (nI i))]) (kk : ∀ (sz : Nat) (ls : Array Slot), lv_has ls 7 [(0, .ref b), (1, .ref xa), (2, .ref r), (3, .ref w), (4, .int (nI i))] → Z p l e room_1 s m args below meth c D b0 M2 sz (cells + 2) (slots + 12) Q (F0 m 807 ls [])) : Z p l e room_1 s m args below meth c D b0 M sz cells slots Q (F0 m 316 ls []) := by
  obtain ⟨hx, hb, -, -, -⟩ := id C
  refine zz (fun _ _ => lv_aload_n hx hb dL_law_316 rfl (lv_at hl 1 rfl)) ?_
  refine zz (fun _ _ => lv_aload_n hx hb dL_law_317 rfl (lv_at hl 0 rfl)) ?_
  refine zz (fun _ _ => lv_iload hx hb dL_law_318 (lv_at hl 4 rfl)) ?_
  refine zz (fun _ _ => lv_iconst (v := nI 1) hx hb dL_law_320 (by decide)) ?_
  refine zz (fun _ _ => lv_iadd hx hb dL_law_321) ?_
  refine zval (v' := .int (nI (i + 1))) (congrArg Value.int (nI_addk i 1)) ?_
  refine z_sld C hX hbl hbA (i := i + 1) (by omega) hLb dL_law_322 ?_
  refine zz (fun _ _ => lv_aload_n hx hb dL_law_323 rfl (lv_at hl 0 rfl)) ?_
  refine zz (fun _ _ => lv_iload hx hb dL_law_324 (lv_at hl 4 rfl)) ?_
  refine zz (fun _ _ => lv_iconst (v := nI 2) hx hb dL_law_326 (by decide)) ?_
  refine zz (fun _ _ => lv_iadd hx hb dL_law_327) ?_
  refine zval (v' := .int (nI (i + 2))) (congrArg Value.int (nI_addk i 2)) ?_
  refine z_sld C hX hbl hbA (i := i + 2) (by omega) hLb dL_law_328 ?_
  refine zz (fun _ _ => lv_aload_n hx hb dL_law_329 rfl (lv_at hl 0 rfl)) ?_
  refine zz (fun _ _ => lv_iload hx hb dL_law_330 (lv_at hl 4 rfl)) ?_
  refine zz (fun _ _ => lv_iconst (v := nI 3) hx hb dL_law_332 (by decide)) ?_
  refine zz (fun _ _ => lv_iadd hx hb dL_law_333) ?_
  refine zval (v' := .int (nI (i + 3))) (congrArg Value.int (nI_addk i 3)) ?_
  refine z_sld C hX hbl hbA (i := i + 3) (by omega) hLb dL_law_334 ?_
  refine zz (fun _ _ => lv_aload_n hx hb dL_law_335 rfl (lv_at hl 0 rfl)) ?_
  refine zz (fun _ _ => lv_iload hx hb dL_law_336 (lv_at hl 4 rfl)) ?_
  refine zz (fun _ _ => lv_iconst (v := nI 4) hx hb dL_law_338 (by decide)) ?_
  refine zz (fun _ _ => lv_iadd hx hb dL_law_339) ?_
  refine zval (v' := .int (nI (i + 4))) (congrArg Value.int (nI_addk i 4)) ?_
  refine z_sld C hX hbl hbA (i := i + 4) (by omega) hLb dL_law_340 ?_
  refine zz (fun _ _ => lv_aload_n hx hb dL_law_341 rfl (lv_at hl 3 rfl)) ?_
  refine zdSW (As := [.ref xa, .int (xs (i + 1)), .int (xs (i + 2)), .int (xs (i + 3)), .int (xs (i + 4)), .ref w]) (rest := []) (st' := [.int kc]) C hl.1 wk_pattern hW rfl rfl (Nat.le_of_ble_eq_true rfl) ⟨by decide, by decide, by show _ ≤ 601024; omega, by show _ ≤ 7293034; omega⟩ dL_law_342 rfl (fun sz => ?_)
  refine zs (fun _ _ => lv_istore (lv' := [(5, .int kc), (0, .ref b), (1, .ref xa), (2, .ref r), (3, .ref w), (4, .int (nI i))]) hx hb dL_law_345 hl (by decide) rfl) (fun ls hl => ?_)
  refine zz (fun _ _ => lv_aload_n hx hb dL_law_347 rfl (lv_at hl 3 rfl)) ?_
  refine zz (fun _ _ => lv_aload_n hx hb dL_law_348 rfl (lv_at hl 1 rfl)) ?_
  refine zz (fun _ _ => lv_iload hx hb dL_law_349 (lv_at hl 5 rfl)) ?_
  refine zz (fun _ _ => lv_iconst (v := nI 1) hx hb dL_law_351 (by decide)) ?_
  refine zz (fun _ _ => lv_iadd hx hb dL_law_352) ?_
  refine zval (v' := .int (nI (i + 1))) (congrArg Value.int (nI_addk i 1)) ?_
  refine z_sld C hX hbl hbA (i := i + 1) (by omega) hLb dL_law_353 ?_
  refine zz (fun _ _ => lv_aload_n hx hb dL_law_354 rfl (lv_at hl 1 rfl)) ?_
  refine zz (fun _ _ => lv_iload hx hb dL_law_355 (lv_at hl 5 rfl)) ?_
  refine zz (fun _ _ => lv_iconst (v := nI 2) hx hb dL_law_357 (by decide)) ?_
  refine zz (fun _ _ => lv_iadd hx hb dL_law_358) ?_
  refine zval (v' := .int (nI (i + 2))) (congrArg Value.int (nI_addk i 2)) ?_
  refine z_sld C hX hbl hbA (i := i + 2) (by omega) hLb dL_law_359 ?_
  refine zz (fun _ _ => lv_aload_n hx hb dL_law_360 rfl (lv_at hl 1 rfl)) ?_
  refine zz (fun _ _ => lv_iload hx hb dL_law_361 (lv_at hl 5 rfl)) ?_
  refine zz (fun _ _ => lv_iconst (v := nI 3) hx hb dL_law_363 (by decide)) ?_
  refine zz (fun _ _ => lv_iadd hx hb dL_law_364) ?_
  refine zval (v' := .int (nI (i + 3))) (congrArg Value.int (nI_addk i 3)) ?_
  refine z_sld C hX hbl hbA (i := i + 3) (by omega) hLb dL_law_365 ?_
  refine zz (fun _ _ => lv_aload_n hx hb dL_law_366 rfl (lv_at hl 1 rfl)) ?_
  refine zz (fun _ _ => lv_iload hx hb dL_law_367 (lv_at hl 5 rfl)) ?_
  refine zz (fun _ _ => lv_iconst (v := nI 4) hx hb dL_law_369 (by decide)) ?_
  refine zz (fun _ _ => lv_iadd hx hb dL_law_370) ?_
  refine zval (v' := .int (nI (i + 4))) (congrArg Value.int (nI_addk i 4)) ?_
  refine z_sld C hX hbl hbA (i := i + 4) (by omega) hLb dL_law_371 ?_
  refine zdV (As := [.int (xs (i + 1)), .int (xs (i + 2)), .int (xs (i + 3)), .int (xs (i + 4))]) (rest := []) (st' := [.int bv]) C hl.1 lk_L_79 (hR _) hr1 rfl rfl rfl (Nat.le_of_ble_eq_true rfl) ⟨by decide, by decide, by show _ ≤ 601024; omega, by show _ ≤ 7293034; omega⟩ dL_law_372 rfl (fun sz => ?_)
  refine zs (fun _ _ => lv_istore (lv' := [(6, .int bv), (5, .int kc), (0, .ref b), (1, .ref xa), (2, .ref r), (3, .ref w), (4, .int (nI i))]) hx hb dL_law_375 hl (by decide) rfl) (fun ls hl => ?_)
  refine zz (fun _ _ => lv_goto (tgt := 807) hx hb dL_law_377 (by decide)) ?_
  exact kk _ _ (lv_sub hl [2, 3, 4, 5, 6] rfl)
theorem wk_file : zLkW RL 80 yL_file cL_file 7 (some .int) [(0, 14, 17, 21), (0, 14, 21, 13), (0, 14, 25, 15)] 6 := ⟨⟨by decide +kernel, by decide +kernel, by decide +kernel⟩, (zWi 671 (by decide +kernel) rfl), (zWi 48 (by decide +kernel) rfl), ml_L_80, (zWi 670 (by decide +kernel) rfl)⟩
set_option maxHeartbeats 1000000 in
set_option maxRecDepth 10000 in
theorem lc_file {p : Program} {l : Launch} {e : Env} {s : State} {m : MethodId} {args : Array Value} {below : List Frame} {meth : Method} {c : Code} {D : va_G} {aC : Nat → ClassId} {b0 b L i xa r w sz cells slots : Nat} {Q : State → Prop} {xs : Nat → Int32} {M M1 M2 : ZM} {kc bv tv : Int32} {fs fs1 fs2 : List Value} {g : Nat → Int64} {ls : Array Slot} (C : zC p l s m c D aC b0 RL cL_law 7) (hX : va_X b L xs s s.heap) (hbl : b < s.heap.size) (hbA : b < b0) (hi : i + 6 ≤ L) (hLb : L < 2 ^ 31) (hW : CtW l D aC b0 yL_file cL_file 7 (some .int) [(0, 14, 17, 21), (0, 14, 21, 13), (0, 14, 25, 15)] 3 2 12 [.ref xa, .int (xs (i + 1)), .int (xs (i + 2)), .int (xs (i + 3)), .int (xs (i + 4)), .ref w] M sz (zd (some (.int kc)) M1)) (hR : ∀ sz, Ct l D aC b0 yX9_file cX9_file 6 (some .int) 2 0 0 [.ref r, .int (xs (i + 1)), .int (xs (i + 2)), .int (xs (i + 3)), .int (xs (i + 4))] M1 sz (zd (some (.int bv)) M2)) (hr1 : M1 r = some (.inr (9, fs1))) (hc : cells + 2 ≤ 601024) (hs : slots + 12 ≤ 7293034) (hl : lv_has ls 7 [(0, .ref b), (1, .ref xa), (2, .ref r), (3, .ref w), (4, .int (nI i))]) (kk : ∀ (sz : Nat) (ls : Array Slot), lv_has ls 7 [(0, .ref b), (1, .ref xa), (2, .ref r), (3, .ref w), (4, .int (nI i))] → Z p l e room_1 s m args below meth c D b0 M2 sz (cells + 2) (slots + 12) Q (F0 m 807 ls [])) : Z p l e room_1 s m args below meth c D b0 M sz cells slots Q (F0 m 380 ls []) := by
  obtain ⟨hx, hb, -, -, -⟩ := id C
  refine zz (fun _ _ => lv_aload_n hx hb dL_law_380 rfl (lv_at hl 1 rfl)) ?_
  refine zz (fun _ _ => lv_aload_n hx hb dL_law_381 rfl (lv_at hl 0 rfl)) ?_
  refine zz (fun _ _ => lv_iload hx hb dL_law_382 (lv_at hl 4 rfl)) ?_
  refine zz (fun _ _ => lv_iconst (v := nI 1) hx hb dL_law_384 (by decide)) ?_
  refine zz (fun _ _ => lv_iadd hx hb dL_law_385) ?_
  refine zval (v' := .int (nI (i + 1))) (congrArg Value.int (nI_addk i 1)) ?_
  refine z_sld C hX hbl hbA (i := i + 1) (by omega) hLb dL_law_386 ?_
  refine zz (fun _ _ => lv_aload_n hx hb dL_law_387 rfl (lv_at hl 0 rfl)) ?_
  refine zz (fun _ _ => lv_iload hx hb dL_law_388 (lv_at hl 4 rfl)) ?_
  refine zz (fun _ _ => lv_iconst (v := nI 2) hx hb dL_law_390 (by decide)) ?_
  refine zz (fun _ _ => lv_iadd hx hb dL_law_391) ?_
  refine zval (v' := .int (nI (i + 2))) (congrArg Value.int (nI_addk i 2)) ?_
  refine z_sld C hX hbl hbA (i := i + 2) (by omega) hLb dL_law_392 ?_
  refine zz (fun _ _ => lv_aload_n hx hb dL_law_393 rfl (lv_at hl 0 rfl)) ?_
  refine zz (fun _ _ => lv_iload hx hb dL_law_394 (lv_at hl 4 rfl)) ?_
  refine zz (fun _ _ => lv_iconst (v := nI 3) hx hb dL_law_396 (by decide)) ?_
  refine zz (fun _ _ => lv_iadd hx hb dL_law_397) ?_
  refine zval (v' := .int (nI (i + 3))) (congrArg Value.int (nI_addk i 3)) ?_
  refine z_sld C hX hbl hbA (i := i + 3) (by omega) hLb dL_law_398 ?_
  refine zz (fun _ _ => lv_aload_n hx hb dL_law_399 rfl (lv_at hl 0 rfl)) ?_
  refine zz (fun _ _ => lv_iload hx hb dL_law_400 (lv_at hl 4 rfl)) ?_
  refine zz (fun _ _ => lv_iconst (v := nI 4) hx hb dL_law_402 (by decide)) ?_
  refine zz (fun _ _ => lv_iadd hx hb dL_law_403) ?_
  refine zval (v' := .int (nI (i + 4))) (congrArg Value.int (nI_addk i 4)) ?_
  refine z_sld C hX hbl hbA (i := i + 4) (by omega) hLb dL_law_404 ?_
  refine zz (fun _ _ => lv_aload_n hx hb dL_law_405 rfl (lv_at hl 3 rfl)) ?_
  refine zdSW (As := [.ref xa, .int (xs (i + 1)), .int (xs (i + 2)), .int (xs (i + 3)), .int (xs (i + 4)), .ref w]) (rest := []) (st' := [.int kc]) C hl.1 wk_file hW rfl rfl (Nat.le_of_ble_eq_true rfl) ⟨by decide, by decide, by show _ ≤ 601024; omega, by show _ ≤ 7293034; omega⟩ dL_law_406 rfl (fun sz => ?_)
  refine zs (fun _ _ => lv_istore (lv' := [(5, .int kc), (0, .ref b), (1, .ref xa), (2, .ref r), (3, .ref w), (4, .int (nI i))]) hx hb dL_law_409 hl (by decide) rfl) (fun ls hl => ?_)
  refine zz (fun _ _ => lv_aload_n hx hb dL_law_411 rfl (lv_at hl 3 rfl)) ?_
  refine zz (fun _ _ => lv_aload_n hx hb dL_law_412 rfl (lv_at hl 1 rfl)) ?_
  refine zz (fun _ _ => lv_iload hx hb dL_law_413 (lv_at hl 5 rfl)) ?_
  refine zz (fun _ _ => lv_iconst (v := nI 1) hx hb dL_law_415 (by decide)) ?_
  refine zz (fun _ _ => lv_iadd hx hb dL_law_416) ?_
  refine zval (v' := .int (nI (i + 1))) (congrArg Value.int (nI_addk i 1)) ?_
  refine z_sld C hX hbl hbA (i := i + 1) (by omega) hLb dL_law_417 ?_
  refine zz (fun _ _ => lv_aload_n hx hb dL_law_418 rfl (lv_at hl 1 rfl)) ?_
  refine zz (fun _ _ => lv_iload hx hb dL_law_419 (lv_at hl 5 rfl)) ?_
  refine zz (fun _ _ => lv_iconst (v := nI 2) hx hb dL_law_421 (by decide)) ?_
  refine zz (fun _ _ => lv_iadd hx hb dL_law_422) ?_
  refine zval (v' := .int (nI (i + 2))) (congrArg Value.int (nI_addk i 2)) ?_
  refine z_sld C hX hbl hbA (i := i + 2) (by omega) hLb dL_law_423 ?_
  refine zz (fun _ _ => lv_aload_n hx hb dL_law_424 rfl (lv_at hl 1 rfl)) ?_
  refine zz (fun _ _ => lv_iload hx hb dL_law_425 (lv_at hl 5 rfl)) ?_
  refine zz (fun _ _ => lv_iconst (v := nI 3) hx hb dL_law_427 (by decide)) ?_
  refine zz (fun _ _ => lv_iadd hx hb dL_law_428) ?_
  refine zval (v' := .int (nI (i + 3))) (congrArg Value.int (nI_addk i 3)) ?_
  refine z_sld C hX hbl hbA (i := i + 3) (by omega) hLb dL_law_429 ?_
  refine zz (fun _ _ => lv_aload_n hx hb dL_law_430 rfl (lv_at hl 1 rfl)) ?_
  refine zz (fun _ _ => lv_iload hx hb dL_law_431 (lv_at hl 5 rfl)) ?_
  refine zz (fun _ _ => lv_iconst (v := nI 4) hx hb dL_law_433 (by decide)) ?_
  refine zz (fun _ _ => lv_iadd hx hb dL_law_434) ?_
  refine zval (v' := .int (nI (i + 4))) (congrArg Value.int (nI_addk i 4)) ?_
  refine z_sld C hX hbl hbA (i := i + 4) (by omega) hLb dL_law_435 ?_
  refine zdV (As := [.int (xs (i + 1)), .int (xs (i + 2)), .int (xs (i + 3)), .int (xs (i + 4))]) (rest := []) (st' := [.int bv]) C hl.1 lk_L_82 (hR _) hr1 rfl rfl rfl (Nat.le_of_ble_eq_true rfl) ⟨by decide, by decide, by show _ ≤ 601024; omega, by show _ ≤ 7293034; omega⟩ dL_law_436 rfl (fun sz => ?_)
  refine zs (fun _ _ => lv_istore (lv' := [(6, .int bv), (5, .int kc), (0, .ref b), (1, .ref xa), (2, .ref r), (3, .ref w), (4, .int (nI i))]) hx hb dL_law_439 hl (by decide) rfl) (fun ls hl => ?_)
  refine zz (fun _ _ => lv_goto (tgt := 807) hx hb dL_law_441 (by decide)) ?_
  exact kk _ _ (lv_sub hl [2, 3, 4, 5, 6] rfl)
theorem wk_torn : zLkW RL 83 yL_torn cL_torn 5 (some .int) [(0, 17, 20, 21)] 4 := ⟨⟨by decide +kernel, by decide +kernel, by decide +kernel⟩, (zWi 685 (by decide +kernel) rfl), (zWi 48 (by decide +kernel) rfl), ml_L_83, (zWi 684 (by decide +kernel) rfl)⟩
set_option maxHeartbeats 1000000 in
set_option maxRecDepth 10000 in
theorem lc_torn {p : Program} {l : Launch} {e : Env} {s : State} {m : MethodId} {args : Array Value} {below : List Frame} {meth : Method} {c : Code} {D : va_G} {aC : Nat → ClassId} {b0 b L i xa r w sz cells slots : Nat} {Q : State → Prop} {xs : Nat → Int32} {M M1 M2 : ZM} {kc bv tv : Int32} {fs fs1 fs2 : List Value} {g : Nat → Int64} {ls : Array Slot} (C : zC p l s m c D aC b0 RL cL_law 7) (hX : va_X b L xs s s.heap) (hbl : b < s.heap.size) (hbA : b < b0) (hi : i + 6 ≤ L) (hLb : L < 2 ^ 31) (hW : CtW l D aC b0 yL_torn cL_torn 5 (some .int) [(0, 17, 20, 21)] 2 1 6 [.ref xa, .int (xs (i + 1)), .int (if xs (i + 2) = 0 then 0 else 1), .ref w] M sz (zd (some (.int kc)) M1)) (hR : ∀ sz, Ct l D aC b0 yX9_torn cX9_torn 4 (some .boolean) 1 0 0 [.ref r, .int (xs (i + 1)), .int (if xs (i + 2) = 0 then 0 else 1)] M1 sz (zd (some (.int bv)) M2)) (hr1 : M1 r = some (.inr (9, fs1))) (hc : cells + 2 ≤ 601024) (hs : slots + 12 ≤ 7293034) (hl : lv_has ls 7 [(0, .ref b), (1, .ref xa), (2, .ref r), (3, .ref w), (4, .int (nI i))]) (kk : ∀ (sz : Nat) (ls : Array Slot), lv_has ls 7 [(0, .ref b), (1, .ref xa), (2, .ref r), (3, .ref w), (4, .int (nI i))] → Z p l e room_1 s m args below meth c D b0 M2 sz (cells + 1) (slots + 6) Q (F0 m 807 ls [])) : Z p l e room_1 s m args below meth c D b0 M sz cells slots Q (F0 m 444 ls []) := by
  obtain ⟨hx, hb, -, -, -⟩ := id C
  by_cases hz : xs (i + 2) = 0
  · simp only [if_pos hz] at hW hR
    refine zz (fun _ _ => lv_aload_n hx hb dL_law_444 rfl (lv_at hl 1 rfl)) ?_
    refine zz (fun _ _ => lv_aload_n hx hb dL_law_445 rfl (lv_at hl 0 rfl)) ?_
    refine zz (fun _ _ => lv_iload hx hb dL_law_446 (lv_at hl 4 rfl)) ?_
    refine zz (fun _ _ => lv_iconst (v := nI 1) hx hb dL_law_448 (by decide)) ?_
    refine zz (fun _ _ => lv_iadd hx hb dL_law_449) ?_
    refine zval (v' := .int (nI (i + 1))) (congrArg Value.int (nI_addk i 1)) ?_
    refine z_sld C hX hbl hbA (i := i + 1) (by omega) hLb dL_law_450 ?_
    refine zz (fun _ _ => lv_aload_n hx hb dL_law_451 rfl (lv_at hl 0 rfl)) ?_
    refine zz (fun _ _ => lv_iload hx hb dL_law_452 (lv_at hl 4 rfl)) ?_
    refine zz (fun _ _ => lv_iconst (v := nI 2) hx hb dL_law_454 (by decide)) ?_
    refine zz (fun _ _ => lv_iadd hx hb dL_law_455) ?_
    refine zval (v' := .int (nI (i + 2))) (congrArg Value.int (nI_addk i 2)) ?_
    refine z_sld C hX hbl hbA (i := i + 2) (by omega) hLb dL_law_456 ?_
    refine zb (fun _ _ => lv_if_eq (tgt := 464) hx hb dL_law_457 (by decide)) (fun c_1 => ?_) (fun c_1 => ?_)
    rotate_left
    · exact absurd hz c_1
    refine zz (fun _ _ => lv_iconst (v := 0) hx hb dL_law_464 (by decide)) ?_
    refine zz (fun _ _ => lv_aload_n hx hb dL_law_465 rfl (lv_at hl 3 rfl)) ?_
    refine zdSW (As := [.ref xa, .int (xs (i + 1)), .int 0, .ref w]) (rest := []) (st' := [.int kc]) C hl.1 wk_torn hW rfl rfl (Nat.le_of_ble_eq_true rfl) ⟨by decide, by decide, by show _ ≤ 601024; omega, by show _ ≤ 7293034; omega⟩ dL_law_466 rfl (fun sz => ?_)
    refine zs (fun _ _ => lv_istore (lv' := [(5, .int kc), (0, .ref b), (1, .ref xa), (2, .ref r), (3, .ref w), (4, .int (nI i))]) hx hb dL_law_469 hl (by decide) rfl) (fun ls hl => ?_)
    refine zz (fun _ _ => lv_aload_n hx hb dL_law_471 rfl (lv_at hl 3 rfl)) ?_
    refine zz (fun _ _ => lv_aload_n hx hb dL_law_472 rfl (lv_at hl 1 rfl)) ?_
    refine zz (fun _ _ => lv_iload hx hb dL_law_473 (lv_at hl 5 rfl)) ?_
    refine zz (fun _ _ => lv_iconst (v := nI 1) hx hb dL_law_475 (by decide)) ?_
    refine zz (fun _ _ => lv_iadd hx hb dL_law_476) ?_
    refine zval (v' := .int (nI (i + 1))) (congrArg Value.int (nI_addk i 1)) ?_
    refine z_sld C hX hbl hbA (i := i + 1) (by omega) hLb dL_law_477 ?_
    refine zz (fun _ _ => lv_aload_n hx hb dL_law_478 rfl (lv_at hl 1 rfl)) ?_
    refine zz (fun _ _ => lv_iload hx hb dL_law_479 (lv_at hl 5 rfl)) ?_
    refine zz (fun _ _ => lv_iconst (v := nI 2) hx hb dL_law_481 (by decide)) ?_
    refine zz (fun _ _ => lv_iadd hx hb dL_law_482) ?_
    refine zval (v' := .int (nI (i + 2))) (congrArg Value.int (nI_addk i 2)) ?_
    refine z_sld C hX hbl hbA (i := i + 2) (by omega) hLb dL_law_483 ?_
    refine zb (fun _ _ => lv_if_eq (tgt := 491) hx hb dL_law_484 (by decide)) (fun c_1 => ?_) (fun c_1 => ?_)
    rotate_left
    · exact absurd hz c_1
    refine zz (fun _ _ => lv_iconst (v := 0) hx hb dL_law_491 (by decide)) ?_
    refine zdV (As := [.int (xs (i + 1)), .int 0]) (rest := []) (st' := [.int bv]) C hl.1 lk_L_85 (hR _) hr1 rfl rfl rfl (Nat.le_of_ble_eq_true rfl) ⟨by decide, by decide, by show _ ≤ 601024; omega, by show _ ≤ 7293034; omega⟩ dL_law_492 rfl (fun sz => ?_)
    refine zs (fun _ _ => lv_istore (lv' := [(6, .int bv), (5, .int kc), (0, .ref b), (1, .ref xa), (2, .ref r), (3, .ref w), (4, .int (nI i))]) hx hb dL_law_495 hl (by decide) rfl) (fun ls hl => ?_)
    refine zz (fun _ _ => lv_goto (tgt := 807) hx hb dL_law_497 (by decide)) ?_
    exact kk _ _ (lv_sub hl [2, 3, 4, 5, 6] rfl)
  · simp only [if_neg hz] at hW hR
    refine zz (fun _ _ => lv_aload_n hx hb dL_law_444 rfl (lv_at hl 1 rfl)) ?_
    refine zz (fun _ _ => lv_aload_n hx hb dL_law_445 rfl (lv_at hl 0 rfl)) ?_
    refine zz (fun _ _ => lv_iload hx hb dL_law_446 (lv_at hl 4 rfl)) ?_
    refine zz (fun _ _ => lv_iconst (v := nI 1) hx hb dL_law_448 (by decide)) ?_
    refine zz (fun _ _ => lv_iadd hx hb dL_law_449) ?_
    refine zval (v' := .int (nI (i + 1))) (congrArg Value.int (nI_addk i 1)) ?_
    refine z_sld C hX hbl hbA (i := i + 1) (by omega) hLb dL_law_450 ?_
    refine zz (fun _ _ => lv_aload_n hx hb dL_law_451 rfl (lv_at hl 0 rfl)) ?_
    refine zz (fun _ _ => lv_iload hx hb dL_law_452 (lv_at hl 4 rfl)) ?_
    refine zz (fun _ _ => lv_iconst (v := nI 2) hx hb dL_law_454 (by decide)) ?_
    refine zz (fun _ _ => lv_iadd hx hb dL_law_455) ?_
    refine zval (v' := .int (nI (i + 2))) (congrArg Value.int (nI_addk i 2)) ?_
    refine z_sld C hX hbl hbA (i := i + 2) (by omega) hLb dL_law_456 ?_
    refine zb (fun _ _ => lv_if_eq (tgt := 464) hx hb dL_law_457 (by decide)) (fun c_1 => ?_) (fun c_1 => ?_)
    · exact absurd c_1 hz
    refine zz (fun _ _ => lv_iconst (v := 1) hx hb dL_law_460 (by decide)) ?_
    refine zz (fun _ _ => lv_goto (tgt := 465) hx hb dL_law_461 (by decide)) ?_
    refine zz (fun _ _ => lv_aload_n hx hb dL_law_465 rfl (lv_at hl 3 rfl)) ?_
    refine zdSW (As := [.ref xa, .int (xs (i + 1)), .int 1, .ref w]) (rest := []) (st' := [.int kc]) C hl.1 wk_torn hW rfl rfl (Nat.le_of_ble_eq_true rfl) ⟨by decide, by decide, by show _ ≤ 601024; omega, by show _ ≤ 7293034; omega⟩ dL_law_466 rfl (fun sz => ?_)
    refine zs (fun _ _ => lv_istore (lv' := [(5, .int kc), (0, .ref b), (1, .ref xa), (2, .ref r), (3, .ref w), (4, .int (nI i))]) hx hb dL_law_469 hl (by decide) rfl) (fun ls hl => ?_)
    refine zz (fun _ _ => lv_aload_n hx hb dL_law_471 rfl (lv_at hl 3 rfl)) ?_
    refine zz (fun _ _ => lv_aload_n hx hb dL_law_472 rfl (lv_at hl 1 rfl)) ?_
    refine zz (fun _ _ => lv_iload hx hb dL_law_473 (lv_at hl 5 rfl)) ?_
    refine zz (fun _ _ => lv_iconst (v := nI 1) hx hb dL_law_475 (by decide)) ?_
    refine zz (fun _ _ => lv_iadd hx hb dL_law_476) ?_
    refine zval (v' := .int (nI (i + 1))) (congrArg Value.int (nI_addk i 1)) ?_
    refine z_sld C hX hbl hbA (i := i + 1) (by omega) hLb dL_law_477 ?_
    refine zz (fun _ _ => lv_aload_n hx hb dL_law_478 rfl (lv_at hl 1 rfl)) ?_
    refine zz (fun _ _ => lv_iload hx hb dL_law_479 (lv_at hl 5 rfl)) ?_
    refine zz (fun _ _ => lv_iconst (v := nI 2) hx hb dL_law_481 (by decide)) ?_
    refine zz (fun _ _ => lv_iadd hx hb dL_law_482) ?_
    refine zval (v' := .int (nI (i + 2))) (congrArg Value.int (nI_addk i 2)) ?_
    refine z_sld C hX hbl hbA (i := i + 2) (by omega) hLb dL_law_483 ?_
    refine zb (fun _ _ => lv_if_eq (tgt := 491) hx hb dL_law_484 (by decide)) (fun c_1 => ?_) (fun c_1 => ?_)
    · exact absurd c_1 hz
    refine zz (fun _ _ => lv_iconst (v := 1) hx hb dL_law_487 (by decide)) ?_
    refine zz (fun _ _ => lv_goto (tgt := 492) hx hb dL_law_488 (by decide)) ?_
    refine zdV (As := [.int (xs (i + 1)), .int 1]) (rest := []) (st' := [.int bv]) C hl.1 lk_L_85 (hR _) hr1 rfl rfl rfl (Nat.le_of_ble_eq_true rfl) ⟨by decide, by decide, by show _ ≤ 601024; omega, by show _ ≤ 7293034; omega⟩ dL_law_492 rfl (fun sz => ?_)
    refine zs (fun _ _ => lv_istore (lv' := [(6, .int bv), (5, .int kc), (0, .ref b), (1, .ref xa), (2, .ref r), (3, .ref w), (4, .int (nI i))]) hx hb dL_law_495 hl (by decide) rfl) (fun ls hl => ?_)
    refine zz (fun _ _ => lv_goto (tgt := 807) hx hb dL_law_497 (by decide)) ?_
    exact kk _ _ (lv_sub hl [2, 3, 4, 5, 6] rfl)
set_option maxHeartbeats 1000000 in
set_option maxRecDepth 10000 in
theorem lc_run {p : Program} {l : Launch} {e : Env} {s : State} {m : MethodId} {args : Array Value} {below : List Frame} {meth : Method} {c : Code} {D : va_G} {aC : Nat → ClassId} {b0 b L i xa r w sz cells slots : Nat} {Q : State → Prop} {xs : Nat → Int32} {M M1 M2 : ZM} {kc bv tv : Int32} {fs fs1 fs2 : List Value} {g : Nat → Int64} {ls : Array Slot} (C : zC p l s m c D aC b0 RL cL_law 7) (hX : va_X b L xs s s.heap) (hbl : b < s.heap.size) (hbA : b < b0) (hi : i + 6 ≤ L) (hLb : L < 2 ^ 31) (hC : ∀ sz, Ct l D aC b0 yX8_run cX8_run 3 (some .int) 2 0 0 [.ref xa] M sz (zd (some (.int kc)) M1)) (hxa : M xa = some (.inr (8, fs))) (hR : ∀ sz, Ct l D aC b0 yX9_run cX9_run 3 (some .int) 1 0 0 [.ref r] M1 sz (zd (some (.int bv)) M2)) (hr1 : M1 r = some (.inr (9, fs1))) (hc : cells + 2 ≤ 601024) (hs : slots + 12 ≤ 7293034) (hl : lv_has ls 7 [(0, .ref b), (1, .ref xa), (2, .ref r), (3, .ref w), (4, .int (nI i))]) (kk : ∀ (sz : Nat) (ls : Array Slot), lv_has ls 7 [(0, .ref b), (1, .ref xa), (2, .ref r), (3, .ref w), (4, .int (nI i))] → Z p l e room_1 s m args below meth c D b0 M2 sz cells slots Q (F0 m 807 ls [])) : Z p l e room_1 s m args below meth c D b0 M sz cells slots Q (F0 m 500 ls []) := by
  obtain ⟨hx, hb, -, -, -⟩ := id C
  refine zz (fun _ _ => lv_aload_n hx hb dL_law_500 rfl (lv_at hl 1 rfl)) ?_
  refine zdV (As := []) (rest := []) (st' := [.int kc]) C hl.1 lk_L_86 (hC _) hxa rfl rfl rfl (Nat.le_of_ble_eq_true rfl) ⟨by decide, by decide, by show _ ≤ 601024; omega, by show _ ≤ 7293034; omega⟩ dL_law_501 rfl (fun sz => ?_)
  refine zz (fun _ _ => lv_pop hx hb dL_law_504 rfl) ?_
  refine zz (fun _ _ => lv_aload_n hx hb dL_law_505 rfl (lv_at hl 2 rfl)) ?_
  refine zdV (As := []) (rest := []) (st' := [.int bv]) C hl.1 lk_L_90 (hR _) hr1 rfl rfl rfl (Nat.le_of_ble_eq_true rfl) ⟨by decide, by decide, by show _ ≤ 601024; omega, by show _ ≤ 7293034; omega⟩ dL_law_506 rfl (fun sz => ?_)
  refine zz (fun _ _ => lv_pop hx hb dL_law_509 rfl) ?_
  refine zz (fun _ _ => lv_goto (tgt := 807) hx hb dL_law_510 (by decide)) ?_
  exact kk _ _ (lv_sub hl [0, 1, 2, 3, 4] rfl)
set_option maxHeartbeats 1000000 in
set_option maxRecDepth 10000 in
theorem lc_fails {p : Program} {l : Launch} {e : Env} {s : State} {m : MethodId} {args : Array Value} {below : List Frame} {meth : Method} {c : Code} {D : va_G} {aC : Nat → ClassId} {b0 b L i xa r w sz cells slots : Nat} {Q : State → Prop} {xs : Nat → Int32} {M M1 M2 : ZM} {kc bv tv : Int32} {fs fs1 fs2 : List Value} {g : Nat → Int64} {ls : Array Slot} (C : zC p l s m c D aC b0 RL cL_law 7) (hX : va_X b L xs s s.heap) (hbl : b < s.heap.size) (hbA : b < b0) (hi : i + 6 ≤ L) (hLb : L < 2 ^ 31) (hC : ∀ sz, Ct l D aC b0 yX8_fails cX8_fails 1 (some .int) 0 0 0 [.ref xa] M sz (zd (some (.int kc)) M1)) (hxa : M xa = some (.inr (8, fs))) (hR : ∀ sz, Ct l D aC b0 yX9_fails cX9_fails 1 (some .int) 0 0 0 [.ref r] M1 sz (zd (some (.int bv)) M2)) (hr1 : M1 r = some (.inr (9, fs1))) (hc : cells + 2 ≤ 601024) (hs : slots + 12 ≤ 7293034) (hl : lv_has ls 7 [(0, .ref b), (1, .ref xa), (2, .ref r), (3, .ref w), (4, .int (nI i))]) (kk : ∀ (sz : Nat) (ls : Array Slot), lv_has ls 7 [(0, .ref b), (1, .ref xa), (2, .ref r), (3, .ref w), (4, .int (nI i))] → Z p l e room_1 s m args below meth c D b0 M2 sz cells slots Q (F0 m 807 ls [])) : Z p l e room_1 s m args below meth c D b0 M sz cells slots Q (F0 m 513 ls []) := by
  obtain ⟨hx, hb, -, -, -⟩ := id C
  refine zz (fun _ _ => lv_aload_n hx hb dL_law_513 rfl (lv_at hl 1 rfl)) ?_
  refine zdV (As := []) (rest := []) (st' := [.int kc]) C hl.1 lk_L_91 (hC _) hxa rfl rfl rfl (Nat.le_of_ble_eq_true rfl) ⟨by decide, by decide, by show _ ≤ 601024; omega, by show _ ≤ 7293034; omega⟩ dL_law_514 rfl (fun sz => ?_)
  refine zz (fun _ _ => lv_pop hx hb dL_law_517 rfl) ?_
  refine zz (fun _ _ => lv_aload_n hx hb dL_law_518 rfl (lv_at hl 2 rfl)) ?_
  refine zdV (As := []) (rest := []) (st' := [.int bv]) C hl.1 lk_L_94 (hR _) hr1 rfl rfl rfl (Nat.le_of_ble_eq_true rfl) ⟨by decide, by decide, by show _ ≤ 601024; omega, by show _ ≤ 7293034; omega⟩ dL_law_519 rfl (fun sz => ?_)
  refine zz (fun _ _ => lv_pop hx hb dL_law_522 rfl) ?_
  refine zz (fun _ _ => lv_goto (tgt := 807) hx hb dL_law_523 (by decide)) ?_
  exact kk _ _ (lv_sub hl [0, 1, 2, 3, 4] rfl)
set_option maxHeartbeats 1000000 in
set_option maxRecDepth 10000 in
theorem lc_clear {p : Program} {l : Launch} {e : Env} {s : State} {m : MethodId} {args : Array Value} {below : List Frame} {meth : Method} {c : Code} {D : va_G} {aC : Nat → ClassId} {b0 b L i xa r w sz cells slots : Nat} {Q : State → Prop} {xs : Nat → Int32} {M M1 M2 : ZM} {kc bv tv : Int32} {fs fs1 fs2 : List Value} {g : Nat → Int64} {ls : Array Slot} (C : zC p l s m c D aC b0 RL cL_law 7) (hX : va_X b L xs s s.heap) (hbl : b < s.heap.size) (hbA : b < b0) (hi : i + 6 ≤ L) (hLb : L < 2 ^ 31) (hC : ∀ sz, Ct l D aC b0 yX8_clear cX8_clear 2 (some .int) 0 0 0 [.ref xa] M sz (zd (some (.int kc)) M1)) (hxa : M xa = some (.inr (8, fs))) (hR : ∀ sz, Ct l D aC b0 yX9_clear cX9_clear 3 (some .int) 0 0 0 [.ref r] M1 sz (zd (some (.int bv)) M2)) (hr1 : M1 r = some (.inr (9, fs1))) (hc : cells + 2 ≤ 601024) (hs : slots + 12 ≤ 7293034) (hl : lv_has ls 7 [(0, .ref b), (1, .ref xa), (2, .ref r), (3, .ref w), (4, .int (nI i))]) (kk : ∀ (sz : Nat) (ls : Array Slot), lv_has ls 7 [(0, .ref b), (1, .ref xa), (2, .ref r), (3, .ref w), (4, .int (nI i))] → Z p l e room_1 s m args below meth c D b0 M2 sz cells slots Q (F0 m 807 ls [])) : Z p l e room_1 s m args below meth c D b0 M sz cells slots Q (F0 m 526 ls []) := by
  obtain ⟨hx, hb, -, -, -⟩ := id C
  refine zz (fun _ _ => lv_aload_n hx hb dL_law_526 rfl (lv_at hl 1 rfl)) ?_
  refine zdV (As := []) (rest := []) (st' := [.int kc]) C hl.1 lk_L_95 (hC _) hxa rfl rfl rfl (Nat.le_of_ble_eq_true rfl) ⟨by decide, by decide, by show _ ≤ 601024; omega, by show _ ≤ 7293034; omega⟩ dL_law_527 rfl (fun sz => ?_)
  refine zz (fun _ _ => lv_pop hx hb dL_law_530 rfl) ?_
  refine zz (fun _ _ => lv_aload_n hx hb dL_law_531 rfl (lv_at hl 2 rfl)) ?_
  refine zdV (As := []) (rest := []) (st' := [.int bv]) C hl.1 lk_L_98 (hR _) hr1 rfl rfl rfl (Nat.le_of_ble_eq_true rfl) ⟨by decide, by decide, by show _ ≤ 601024; omega, by show _ ≤ 7293034; omega⟩ dL_law_532 rfl (fun sz => ?_)
  refine zz (fun _ _ => lv_pop hx hb dL_law_535 rfl) ?_
  refine zz (fun _ _ => lv_goto (tgt := 807) hx hb dL_law_536 (by decide)) ?_
  exact kk _ _ (lv_sub hl [0, 1, 2, 3, 4] rfl)
theorem wk_many : zLkW RL 99 yL_many cL_many 4 (some .int) [(0, 9, 12, 21)] 3 := ⟨⟨by decide +kernel, by decide +kernel, by decide +kernel⟩, (zWi 692 (by decide +kernel) rfl), (zWi 48 (by decide +kernel) rfl), ml_L_99, (zWi 691 (by decide +kernel) rfl)⟩
set_option maxHeartbeats 1000000 in
set_option maxRecDepth 10000 in
theorem lc_many {p : Program} {l : Launch} {e : Env} {s : State} {m : MethodId} {args : Array Value} {below : List Frame} {meth : Method} {c : Code} {D : va_G} {aC : Nat → ClassId} {b0 b L i xa r w sz cells slots : Nat} {Q : State → Prop} {xs : Nat → Int32} {M M1 M2 : ZM} {kc bv tv : Int32} {fs fs1 fs2 : List Value} {g : Nat → Int64} {ls : Array Slot} (C : zC p l s m c D aC b0 RL cL_law 7) (hX : va_X b L xs s s.heap) (hbl : b < s.heap.size) (hbA : b < b0) (hi : i + 6 ≤ L) (hLb : L < 2 ^ 31) (hW : CtW l D aC b0 yL_many cL_many 4 (some .int) [(0, 9, 12, 21)] 3 1 6 [.ref xa, .int (xs (i + 1)), .ref w] M sz (zd (some (.int kc)) M1)) (hR : ∀ sz, Ct l D aC b0 yX9_many cX9_many 2 (some .int) 2 0 0 [.ref r, .int (xs (i + 1))] M1 sz (zd (some (.int bv)) M2)) (hr1 : M1 r = some (.inr (9, fs1))) (hc : cells + 2 ≤ 601024) (hs : slots + 12 ≤ 7293034) (hl : lv_has ls 7 [(0, .ref b), (1, .ref xa), (2, .ref r), (3, .ref w), (4, .int (nI i))]) (kk : ∀ (sz : Nat) (ls : Array Slot), lv_has ls 7 [(0, .ref b), (1, .ref xa), (2, .ref r), (3, .ref w), (4, .int (nI i))] → Z p l e room_1 s m args below meth c D b0 M2 sz (cells + 1) (slots + 6) Q (F0 m 807 ls [])) : Z p l e room_1 s m args below meth c D b0 M sz cells slots Q (F0 m 539 ls []) := by
  obtain ⟨hx, hb, -, -, -⟩ := id C
  refine zz (fun _ _ => lv_aload_n hx hb dL_law_539 rfl (lv_at hl 1 rfl)) ?_
  refine zz (fun _ _ => lv_aload_n hx hb dL_law_540 rfl (lv_at hl 0 rfl)) ?_
  refine zz (fun _ _ => lv_iload hx hb dL_law_541 (lv_at hl 4 rfl)) ?_
  refine zz (fun _ _ => lv_iconst (v := nI 1) hx hb dL_law_543 (by decide)) ?_
  refine zz (fun _ _ => lv_iadd hx hb dL_law_544) ?_
  refine zval (v' := .int (nI (i + 1))) (congrArg Value.int (nI_addk i 1)) ?_
  refine z_sld C hX hbl hbA (i := i + 1) (by omega) hLb dL_law_545 ?_
  refine zz (fun _ _ => lv_aload_n hx hb dL_law_546 rfl (lv_at hl 3 rfl)) ?_
  refine zdSW (As := [.ref xa, .int (xs (i + 1)), .ref w]) (rest := []) (st' := [.int kc]) C hl.1 wk_many hW rfl rfl (Nat.le_of_ble_eq_true rfl) ⟨by decide, by decide, by show _ ≤ 601024; omega, by show _ ≤ 7293034; omega⟩ dL_law_547 rfl (fun sz => ?_)
  refine zs (fun _ _ => lv_istore (lv' := [(5, .int kc), (0, .ref b), (1, .ref xa), (2, .ref r), (3, .ref w), (4, .int (nI i))]) hx hb dL_law_550 hl (by decide) rfl) (fun ls hl => ?_)
  refine zz (fun _ _ => lv_aload_n hx hb dL_law_552 rfl (lv_at hl 3 rfl)) ?_
  refine zz (fun _ _ => lv_aload_n hx hb dL_law_553 rfl (lv_at hl 1 rfl)) ?_
  refine zz (fun _ _ => lv_iload hx hb dL_law_554 (lv_at hl 5 rfl)) ?_
  refine zz (fun _ _ => lv_iconst (v := nI 1) hx hb dL_law_556 (by decide)) ?_
  refine zz (fun _ _ => lv_iadd hx hb dL_law_557) ?_
  refine zval (v' := .int (nI (i + 1))) (congrArg Value.int (nI_addk i 1)) ?_
  refine z_sld C hX hbl hbA (i := i + 1) (by omega) hLb dL_law_558 ?_
  refine zdV (As := [.int (xs (i + 1))]) (rest := []) (st' := [.int bv]) C hl.1 lk_L_102 (hR _) hr1 rfl rfl rfl (Nat.le_of_ble_eq_true rfl) ⟨by decide, by decide, by show _ ≤ 601024; omega, by show _ ≤ 7293034; omega⟩ dL_law_559 rfl (fun sz => ?_)
  refine zs (fun _ _ => lv_istore (lv' := [(6, .int bv), (5, .int kc), (0, .ref b), (1, .ref xa), (2, .ref r), (3, .ref w), (4, .int (nI i))]) hx hb dL_law_562 hl (by decide) rfl) (fun ls hl => ?_)
  refine zz (fun _ _ => lv_goto (tgt := 807) hx hb dL_law_564 (by decide)) ?_
  exact kk _ _ (lv_sub hl [2, 3, 4, 5, 6] rfl)
theorem wk_at : zLkW RL 103 yL_at cL_at 6 (some .int) [(0, 12, 15, 21), (0, 12, 19, 13)] 5 := ⟨⟨by decide +kernel, by decide +kernel, by decide +kernel⟩, (zWi 704 (by decide +kernel) rfl), (zWi 48 (by decide +kernel) rfl), ml_L_103, (zWi 703 (by decide +kernel) rfl)⟩
set_option maxHeartbeats 1000000 in
set_option maxRecDepth 10000 in
theorem lc_at {p : Program} {l : Launch} {e : Env} {s : State} {m : MethodId} {args : Array Value} {below : List Frame} {meth : Method} {c : Code} {D : va_G} {aC : Nat → ClassId} {b0 b L i xa r w sz cells slots : Nat} {Q : State → Prop} {xs : Nat → Int32} {M M1 M2 : ZM} {kc bv tv : Int32} {fs fs1 fs2 : List Value} {g : Nat → Int64} {ls : Array Slot} (C : zC p l s m c D aC b0 RL cL_law 7) (hX : va_X b L xs s s.heap) (hbl : b < s.heap.size) (hbA : b < b0) (hi : i + 6 ≤ L) (hLb : L < 2 ^ 31) (hW : CtW l D aC b0 yL_at cL_at 6 (some .int) [(0, 12, 15, 21), (0, 12, 19, 13)] 3 2 12 [.ref xa, .int (xs (i + 1)), .int (xs (i + 2)), .int (xs (i + 3)), .ref w] M sz (zd (some (.int kc)) M1)) (hR : ∀ sz, Ct l D aC b0 yX9_at cX9_at 4 (some .int) 2 0 0 [.ref r, .int (xs (i + 1)), .int (xs (i + 2)), .int (xs (i + 3))] M1 sz (zd (some (.int bv)) M2)) (hr1 : M1 r = some (.inr (9, fs1))) (hc : cells + 2 ≤ 601024) (hs : slots + 12 ≤ 7293034) (hl : lv_has ls 7 [(0, .ref b), (1, .ref xa), (2, .ref r), (3, .ref w), (4, .int (nI i))]) (kk : ∀ (sz : Nat) (ls : Array Slot), lv_has ls 7 [(0, .ref b), (1, .ref xa), (2, .ref r), (3, .ref w), (4, .int (nI i))] → Z p l e room_1 s m args below meth c D b0 M2 sz (cells + 2) (slots + 12) Q (F0 m 807 ls [])) : Z p l e room_1 s m args below meth c D b0 M sz cells slots Q (F0 m 567 ls []) := by
  obtain ⟨hx, hb, -, -, -⟩ := id C
  refine zz (fun _ _ => lv_aload_n hx hb dL_law_567 rfl (lv_at hl 1 rfl)) ?_
  refine zz (fun _ _ => lv_aload_n hx hb dL_law_568 rfl (lv_at hl 0 rfl)) ?_
  refine zz (fun _ _ => lv_iload hx hb dL_law_569 (lv_at hl 4 rfl)) ?_
  refine zz (fun _ _ => lv_iconst (v := nI 1) hx hb dL_law_571 (by decide)) ?_
  refine zz (fun _ _ => lv_iadd hx hb dL_law_572) ?_
  refine zval (v' := .int (nI (i + 1))) (congrArg Value.int (nI_addk i 1)) ?_
  refine z_sld C hX hbl hbA (i := i + 1) (by omega) hLb dL_law_573 ?_
  refine zz (fun _ _ => lv_aload_n hx hb dL_law_574 rfl (lv_at hl 0 rfl)) ?_
  refine zz (fun _ _ => lv_iload hx hb dL_law_575 (lv_at hl 4 rfl)) ?_
  refine zz (fun _ _ => lv_iconst (v := nI 2) hx hb dL_law_577 (by decide)) ?_
  refine zz (fun _ _ => lv_iadd hx hb dL_law_578) ?_
  refine zval (v' := .int (nI (i + 2))) (congrArg Value.int (nI_addk i 2)) ?_
  refine z_sld C hX hbl hbA (i := i + 2) (by omega) hLb dL_law_579 ?_
  refine zz (fun _ _ => lv_aload_n hx hb dL_law_580 rfl (lv_at hl 0 rfl)) ?_
  refine zz (fun _ _ => lv_iload hx hb dL_law_581 (lv_at hl 4 rfl)) ?_
  refine zz (fun _ _ => lv_iconst (v := nI 3) hx hb dL_law_583 (by decide)) ?_
  refine zz (fun _ _ => lv_iadd hx hb dL_law_584) ?_
  refine zval (v' := .int (nI (i + 3))) (congrArg Value.int (nI_addk i 3)) ?_
  refine z_sld C hX hbl hbA (i := i + 3) (by omega) hLb dL_law_585 ?_
  refine zz (fun _ _ => lv_aload_n hx hb dL_law_586 rfl (lv_at hl 3 rfl)) ?_
  refine zdSW (As := [.ref xa, .int (xs (i + 1)), .int (xs (i + 2)), .int (xs (i + 3)), .ref w]) (rest := []) (st' := [.int kc]) C hl.1 wk_at hW rfl rfl (Nat.le_of_ble_eq_true rfl) ⟨by decide, by decide, by show _ ≤ 601024; omega, by show _ ≤ 7293034; omega⟩ dL_law_587 rfl (fun sz => ?_)
  refine zs (fun _ _ => lv_istore (lv' := [(5, .int kc), (0, .ref b), (1, .ref xa), (2, .ref r), (3, .ref w), (4, .int (nI i))]) hx hb dL_law_590 hl (by decide) rfl) (fun ls hl => ?_)
  refine zz (fun _ _ => lv_aload_n hx hb dL_law_592 rfl (lv_at hl 3 rfl)) ?_
  refine zz (fun _ _ => lv_aload_n hx hb dL_law_593 rfl (lv_at hl 1 rfl)) ?_
  refine zz (fun _ _ => lv_iload hx hb dL_law_594 (lv_at hl 5 rfl)) ?_
  refine zz (fun _ _ => lv_iconst (v := nI 1) hx hb dL_law_596 (by decide)) ?_
  refine zz (fun _ _ => lv_iadd hx hb dL_law_597) ?_
  refine zval (v' := .int (nI (i + 1))) (congrArg Value.int (nI_addk i 1)) ?_
  refine z_sld C hX hbl hbA (i := i + 1) (by omega) hLb dL_law_598 ?_
  refine zz (fun _ _ => lv_aload_n hx hb dL_law_599 rfl (lv_at hl 1 rfl)) ?_
  refine zz (fun _ _ => lv_iload hx hb dL_law_600 (lv_at hl 5 rfl)) ?_
  refine zz (fun _ _ => lv_iconst (v := nI 2) hx hb dL_law_602 (by decide)) ?_
  refine zz (fun _ _ => lv_iadd hx hb dL_law_603) ?_
  refine zval (v' := .int (nI (i + 2))) (congrArg Value.int (nI_addk i 2)) ?_
  refine z_sld C hX hbl hbA (i := i + 2) (by omega) hLb dL_law_604 ?_
  refine zz (fun _ _ => lv_aload_n hx hb dL_law_605 rfl (lv_at hl 1 rfl)) ?_
  refine zz (fun _ _ => lv_iload hx hb dL_law_606 (lv_at hl 5 rfl)) ?_
  refine zz (fun _ _ => lv_iconst (v := nI 3) hx hb dL_law_608 (by decide)) ?_
  refine zz (fun _ _ => lv_iadd hx hb dL_law_609) ?_
  refine zval (v' := .int (nI (i + 3))) (congrArg Value.int (nI_addk i 3)) ?_
  refine z_sld C hX hbl hbA (i := i + 3) (by omega) hLb dL_law_610 ?_
  refine zdV (As := [.int (xs (i + 1)), .int (xs (i + 2)), .int (xs (i + 3))]) (rest := []) (st' := [.int bv]) C hl.1 lk_L_105 (hR _) hr1 rfl rfl rfl (Nat.le_of_ble_eq_true rfl) ⟨by decide, by decide, by show _ ≤ 601024; omega, by show _ ≤ 7293034; omega⟩ dL_law_611 rfl (fun sz => ?_)
  refine zs (fun _ _ => lv_istore (lv' := [(6, .int bv), (5, .int kc), (0, .ref b), (1, .ref xa), (2, .ref r), (3, .ref w), (4, .int (nI i))]) hx hb dL_law_614 hl (by decide) rfl) (fun ls hl => ?_)
  refine zz (fun _ _ => lv_goto (tgt := 807) hx hb dL_law_616 (by decide)) ?_
  exact kk _ _ (lv_sub hl [2, 3, 4, 5, 6] rfl)
theorem wk_has : zLkW RL 106 yL_has cL_has 7 (some .int) [(0, 21, 24, 21)] 6 := ⟨⟨by decide +kernel, by decide +kernel, by decide +kernel⟩, (zWi 714 (by decide +kernel) rfl), (zWi 48 (by decide +kernel) rfl), ml_L_106, (zWi 713 (by decide +kernel) rfl)⟩
set_option maxHeartbeats 1000000 in
set_option maxRecDepth 10000 in
theorem lc_has {p : Program} {l : Launch} {e : Env} {s : State} {m : MethodId} {args : Array Value} {below : List Frame} {meth : Method} {c : Code} {D : va_G} {aC : Nat → ClassId} {b0 b L i xa r w sz cells slots : Nat} {Q : State → Prop} {xs : Nat → Int32} {M M1 M2 : ZM} {kc bv tv : Int32} {fs fs1 fs2 : List Value} {g : Nat → Int64} {ls : Array Slot} (C : zC p l s m c D aC b0 RL cL_law 7) (hX : va_X b L xs s s.heap) (hbl : b < s.heap.size) (hbA : b < b0) (hi : i + 6 ≤ L) (hLb : L < 2 ^ 31) (hW : CtW l D aC b0 yL_has cL_has 7 (some .int) [(0, 21, 24, 21)] 3 1 6 [.ref xa, .int (xs (i + 1)), .int (xs (i + 2)), .int (xs (i + 3)), .int (xs (i + 4)), .ref w] M sz (zd (some (.int kc)) M1)) (hR : ∀ sz, Ct l D aC b0 yX9_has cX9_has 5 (some .boolean) 1 0 0 [.ref r, .int (xs (i + 1)), .int (xs (i + 2)), .int (xs (i + 3)), .int (xs (i + 4))] M1 sz (zd (some (.int bv)) M2)) (hr1 : M1 r = some (.inr (9, fs1))) (hc : cells + 2 ≤ 601024) (hs : slots + 12 ≤ 7293034) (hl : lv_has ls 7 [(0, .ref b), (1, .ref xa), (2, .ref r), (3, .ref w), (4, .int (nI i))]) (kk : ∀ (sz : Nat) (ls : Array Slot), lv_has ls 7 [(0, .ref b), (1, .ref xa), (2, .ref r), (3, .ref w), (4, .int (nI i))] → Z p l e room_1 s m args below meth c D b0 M2 sz (cells + 1) (slots + 6) Q (F0 m 807 ls [])) : Z p l e room_1 s m args below meth c D b0 M sz cells slots Q (F0 m 619 ls []) := by
  obtain ⟨hx, hb, -, -, -⟩ := id C
  refine zz (fun _ _ => lv_aload_n hx hb dL_law_619 rfl (lv_at hl 1 rfl)) ?_
  refine zz (fun _ _ => lv_aload_n hx hb dL_law_620 rfl (lv_at hl 0 rfl)) ?_
  refine zz (fun _ _ => lv_iload hx hb dL_law_621 (lv_at hl 4 rfl)) ?_
  refine zz (fun _ _ => lv_iconst (v := nI 1) hx hb dL_law_623 (by decide)) ?_
  refine zz (fun _ _ => lv_iadd hx hb dL_law_624) ?_
  refine zval (v' := .int (nI (i + 1))) (congrArg Value.int (nI_addk i 1)) ?_
  refine z_sld C hX hbl hbA (i := i + 1) (by omega) hLb dL_law_625 ?_
  refine zz (fun _ _ => lv_aload_n hx hb dL_law_626 rfl (lv_at hl 0 rfl)) ?_
  refine zz (fun _ _ => lv_iload hx hb dL_law_627 (lv_at hl 4 rfl)) ?_
  refine zz (fun _ _ => lv_iconst (v := nI 2) hx hb dL_law_629 (by decide)) ?_
  refine zz (fun _ _ => lv_iadd hx hb dL_law_630) ?_
  refine zval (v' := .int (nI (i + 2))) (congrArg Value.int (nI_addk i 2)) ?_
  refine z_sld C hX hbl hbA (i := i + 2) (by omega) hLb dL_law_631 ?_
  refine zz (fun _ _ => lv_aload_n hx hb dL_law_632 rfl (lv_at hl 0 rfl)) ?_
  refine zz (fun _ _ => lv_iload hx hb dL_law_633 (lv_at hl 4 rfl)) ?_
  refine zz (fun _ _ => lv_iconst (v := nI 3) hx hb dL_law_635 (by decide)) ?_
  refine zz (fun _ _ => lv_iadd hx hb dL_law_636) ?_
  refine zval (v' := .int (nI (i + 3))) (congrArg Value.int (nI_addk i 3)) ?_
  refine z_sld C hX hbl hbA (i := i + 3) (by omega) hLb dL_law_637 ?_
  refine zz (fun _ _ => lv_aload_n hx hb dL_law_638 rfl (lv_at hl 0 rfl)) ?_
  refine zz (fun _ _ => lv_iload hx hb dL_law_639 (lv_at hl 4 rfl)) ?_
  refine zz (fun _ _ => lv_iconst (v := nI 4) hx hb dL_law_641 (by decide)) ?_
  refine zz (fun _ _ => lv_iadd hx hb dL_law_642) ?_
  refine zval (v' := .int (nI (i + 4))) (congrArg Value.int (nI_addk i 4)) ?_
  refine z_sld C hX hbl hbA (i := i + 4) (by omega) hLb dL_law_643 ?_
  refine zz (fun _ _ => lv_aload_n hx hb dL_law_644 rfl (lv_at hl 3 rfl)) ?_
  refine zdSW (As := [.ref xa, .int (xs (i + 1)), .int (xs (i + 2)), .int (xs (i + 3)), .int (xs (i + 4)), .ref w]) (rest := []) (st' := [.int kc]) C hl.1 wk_has hW rfl rfl (Nat.le_of_ble_eq_true rfl) ⟨by decide, by decide, by show _ ≤ 601024; omega, by show _ ≤ 7293034; omega⟩ dL_law_645 rfl (fun sz => ?_)
  refine zs (fun _ _ => lv_istore (lv' := [(5, .int kc), (0, .ref b), (1, .ref xa), (2, .ref r), (3, .ref w), (4, .int (nI i))]) hx hb dL_law_648 hl (by decide) rfl) (fun ls hl => ?_)
  refine zz (fun _ _ => lv_aload_n hx hb dL_law_650 rfl (lv_at hl 3 rfl)) ?_
  refine zz (fun _ _ => lv_aload_n hx hb dL_law_651 rfl (lv_at hl 1 rfl)) ?_
  refine zz (fun _ _ => lv_iload hx hb dL_law_652 (lv_at hl 5 rfl)) ?_
  refine zz (fun _ _ => lv_iconst (v := nI 1) hx hb dL_law_654 (by decide)) ?_
  refine zz (fun _ _ => lv_iadd hx hb dL_law_655) ?_
  refine zval (v' := .int (nI (i + 1))) (congrArg Value.int (nI_addk i 1)) ?_
  refine z_sld C hX hbl hbA (i := i + 1) (by omega) hLb dL_law_656 ?_
  refine zz (fun _ _ => lv_aload_n hx hb dL_law_657 rfl (lv_at hl 1 rfl)) ?_
  refine zz (fun _ _ => lv_iload hx hb dL_law_658 (lv_at hl 5 rfl)) ?_
  refine zz (fun _ _ => lv_iconst (v := nI 2) hx hb dL_law_660 (by decide)) ?_
  refine zz (fun _ _ => lv_iadd hx hb dL_law_661) ?_
  refine zval (v' := .int (nI (i + 2))) (congrArg Value.int (nI_addk i 2)) ?_
  refine z_sld C hX hbl hbA (i := i + 2) (by omega) hLb dL_law_662 ?_
  refine zz (fun _ _ => lv_aload_n hx hb dL_law_663 rfl (lv_at hl 1 rfl)) ?_
  refine zz (fun _ _ => lv_iload hx hb dL_law_664 (lv_at hl 5 rfl)) ?_
  refine zz (fun _ _ => lv_iconst (v := nI 3) hx hb dL_law_666 (by decide)) ?_
  refine zz (fun _ _ => lv_iadd hx hb dL_law_667) ?_
  refine zval (v' := .int (nI (i + 3))) (congrArg Value.int (nI_addk i 3)) ?_
  refine z_sld C hX hbl hbA (i := i + 3) (by omega) hLb dL_law_668 ?_
  refine zz (fun _ _ => lv_aload_n hx hb dL_law_669 rfl (lv_at hl 1 rfl)) ?_
  refine zz (fun _ _ => lv_iload hx hb dL_law_670 (lv_at hl 5 rfl)) ?_
  refine zz (fun _ _ => lv_iconst (v := nI 4) hx hb dL_law_672 (by decide)) ?_
  refine zz (fun _ _ => lv_iadd hx hb dL_law_673) ?_
  refine zval (v' := .int (nI (i + 4))) (congrArg Value.int (nI_addk i 4)) ?_
  refine z_sld C hX hbl hbA (i := i + 4) (by omega) hLb dL_law_674 ?_
  refine zdV (As := [.int (xs (i + 1)), .int (xs (i + 2)), .int (xs (i + 3)), .int (xs (i + 4))]) (rest := []) (st' := [.int bv]) C hl.1 lk_L_108 (hR _) hr1 rfl rfl rfl (Nat.le_of_ble_eq_true rfl) ⟨by decide, by decide, by show _ ≤ 601024; omega, by show _ ≤ 7293034; omega⟩ dL_law_675 rfl (fun sz => ?_)
  refine zs (fun _ _ => lv_istore (lv' := [(6, .int bv), (5, .int kc), (0, .ref b), (1, .ref xa), (2, .ref r), (3, .ref w), (4, .int (nI i))]) hx hb dL_law_678 hl (by decide) rfl) (fun ls hl => ?_)
  refine zz (fun _ _ => lv_goto (tgt := 807) hx hb dL_law_680 (by decide)) ?_
  exact kk _ _ (lv_sub hl [2, 3, 4, 5, 6] rfl)
theorem wk_changed : zLkW RL 109 yL_changed cL_changed 5 (some .int) [(0, 10, 13, 21), (0, 10, 17, 13)] 4 := ⟨⟨by decide +kernel, by decide +kernel, by decide +kernel⟩, (zWi 726 (by decide +kernel) rfl), (zWi 48 (by decide +kernel) rfl), ml_L_109, (zWi 725 (by decide +kernel) rfl)⟩
set_option maxHeartbeats 1000000 in
set_option maxRecDepth 10000 in
theorem lc_changed {p : Program} {l : Launch} {e : Env} {s : State} {m : MethodId} {args : Array Value} {below : List Frame} {meth : Method} {c : Code} {D : va_G} {aC : Nat → ClassId} {b0 b L i xa r w sz cells slots : Nat} {Q : State → Prop} {xs : Nat → Int32} {M M1 M2 : ZM} {kc bv tv : Int32} {fs fs1 fs2 : List Value} {g : Nat → Int64} {ls : Array Slot} (C : zC p l s m c D aC b0 RL cL_law 7) (hX : va_X b L xs s s.heap) (hbl : b < s.heap.size) (hbA : b < b0) (hi : i + 6 ≤ L) (hLb : L < 2 ^ 31) (hW : CtW l D aC b0 yL_changed cL_changed 5 (some .int) [(0, 10, 13, 21), (0, 10, 17, 13)] 2 1 6 [.ref xa, .int (xs (i + 1)), .int (xs (i + 2)), .ref w] M sz (zd (some (.int kc)) M1)) (hR : ∀ sz, Ct l D aC b0 yX9_changed cX9_changed 3 (some .int) 1 0 0 [.ref r, .int (xs (i + 1)), .int (xs (i + 2))] M1 sz (zd (some (.int bv)) M2)) (hr1 : M1 r = some (.inr (9, fs1))) (hc : cells + 2 ≤ 601024) (hs : slots + 12 ≤ 7293034) (hl : lv_has ls 7 [(0, .ref b), (1, .ref xa), (2, .ref r), (3, .ref w), (4, .int (nI i))]) (kk : ∀ (sz : Nat) (ls : Array Slot), lv_has ls 7 [(0, .ref b), (1, .ref xa), (2, .ref r), (3, .ref w), (4, .int (nI i))] → Z p l e room_1 s m args below meth c D b0 M2 sz (cells + 1) (slots + 6) Q (F0 m 807 ls [])) : Z p l e room_1 s m args below meth c D b0 M sz cells slots Q (F0 m 683 ls []) := by
  obtain ⟨hx, hb, -, -, -⟩ := id C
  refine zz (fun _ _ => lv_aload_n hx hb dL_law_683 rfl (lv_at hl 1 rfl)) ?_
  refine zz (fun _ _ => lv_aload_n hx hb dL_law_684 rfl (lv_at hl 0 rfl)) ?_
  refine zz (fun _ _ => lv_iload hx hb dL_law_685 (lv_at hl 4 rfl)) ?_
  refine zz (fun _ _ => lv_iconst (v := nI 1) hx hb dL_law_687 (by decide)) ?_
  refine zz (fun _ _ => lv_iadd hx hb dL_law_688) ?_
  refine zval (v' := .int (nI (i + 1))) (congrArg Value.int (nI_addk i 1)) ?_
  refine z_sld C hX hbl hbA (i := i + 1) (by omega) hLb dL_law_689 ?_
  refine zz (fun _ _ => lv_aload_n hx hb dL_law_690 rfl (lv_at hl 0 rfl)) ?_
  refine zz (fun _ _ => lv_iload hx hb dL_law_691 (lv_at hl 4 rfl)) ?_
  refine zz (fun _ _ => lv_iconst (v := nI 2) hx hb dL_law_693 (by decide)) ?_
  refine zz (fun _ _ => lv_iadd hx hb dL_law_694) ?_
  refine zval (v' := .int (nI (i + 2))) (congrArg Value.int (nI_addk i 2)) ?_
  refine z_sld C hX hbl hbA (i := i + 2) (by omega) hLb dL_law_695 ?_
  refine zz (fun _ _ => lv_aload_n hx hb dL_law_696 rfl (lv_at hl 3 rfl)) ?_
  refine zdSW (As := [.ref xa, .int (xs (i + 1)), .int (xs (i + 2)), .ref w]) (rest := []) (st' := [.int kc]) C hl.1 wk_changed hW rfl rfl (Nat.le_of_ble_eq_true rfl) ⟨by decide, by decide, by show _ ≤ 601024; omega, by show _ ≤ 7293034; omega⟩ dL_law_697 rfl (fun sz => ?_)
  refine zs (fun _ _ => lv_istore (lv' := [(5, .int kc), (0, .ref b), (1, .ref xa), (2, .ref r), (3, .ref w), (4, .int (nI i))]) hx hb dL_law_700 hl (by decide) rfl) (fun ls hl => ?_)
  refine zz (fun _ _ => lv_aload_n hx hb dL_law_702 rfl (lv_at hl 3 rfl)) ?_
  refine zz (fun _ _ => lv_aload_n hx hb dL_law_703 rfl (lv_at hl 1 rfl)) ?_
  refine zz (fun _ _ => lv_iload hx hb dL_law_704 (lv_at hl 5 rfl)) ?_
  refine zz (fun _ _ => lv_iconst (v := nI 1) hx hb dL_law_706 (by decide)) ?_
  refine zz (fun _ _ => lv_iadd hx hb dL_law_707) ?_
  refine zval (v' := .int (nI (i + 1))) (congrArg Value.int (nI_addk i 1)) ?_
  refine z_sld C hX hbl hbA (i := i + 1) (by omega) hLb dL_law_708 ?_
  refine zz (fun _ _ => lv_aload_n hx hb dL_law_709 rfl (lv_at hl 1 rfl)) ?_
  refine zz (fun _ _ => lv_iload hx hb dL_law_710 (lv_at hl 5 rfl)) ?_
  refine zz (fun _ _ => lv_iconst (v := nI 2) hx hb dL_law_712 (by decide)) ?_
  refine zz (fun _ _ => lv_iadd hx hb dL_law_713) ?_
  refine zval (v' := .int (nI (i + 2))) (congrArg Value.int (nI_addk i 2)) ?_
  refine z_sld C hX hbl hbA (i := i + 2) (by omega) hLb dL_law_714 ?_
  refine zdV (As := [.int (xs (i + 1)), .int (xs (i + 2))]) (rest := []) (st' := [.int bv]) C hl.1 lk_L_112 (hR _) hr1 rfl rfl rfl (Nat.le_of_ble_eq_true rfl) ⟨by decide, by decide, by show _ ≤ 601024; omega, by show _ ≤ 7293034; omega⟩ dL_law_715 rfl (fun sz => ?_)
  refine zs (fun _ _ => lv_istore (lv' := [(6, .int bv), (5, .int kc), (0, .ref b), (1, .ref xa), (2, .ref r), (3, .ref w), (4, .int (nI i))]) hx hb dL_law_718 hl (by decide) rfl) (fun ls hl => ?_)
  refine zz (fun _ _ => lv_goto (tgt := 807) hx hb dL_law_720 (by decide)) ?_
  exact kk _ _ (lv_sub hl [2, 3, 4, 5, 6] rfl)
theorem wk_solutions : zLkW RL 113 yL_solutions cL_solutions 4 (some .int) [(0, 9, 12, 21)] 3 := ⟨⟨by decide +kernel, by decide +kernel, by decide +kernel⟩, (zWi 735 (by decide +kernel) rfl), (zWi 48 (by decide +kernel) rfl), ml_L_113, (zWi 734 (by decide +kernel) rfl)⟩
set_option maxHeartbeats 1000000 in
set_option maxRecDepth 10000 in
theorem lc_solutions {p : Program} {l : Launch} {e : Env} {s : State} {m : MethodId} {args : Array Value} {below : List Frame} {meth : Method} {c : Code} {D : va_G} {aC : Nat → ClassId} {b0 b L i xa r w sz cells slots : Nat} {Q : State → Prop} {xs : Nat → Int32} {M M1 M2 : ZM} {kc bv tv : Int32} {fs fs1 fs2 : List Value} {g : Nat → Int64} {ls : Array Slot} (C : zC p l s m c D aC b0 RL cL_law 7) (hX : va_X b L xs s s.heap) (hbl : b < s.heap.size) (hbA : b < b0) (hi : i + 6 ≤ L) (hLb : L < 2 ^ 31) (hW : CtW l D aC b0 yL_solutions cL_solutions 4 (some .int) [(0, 9, 12, 21)] 2 1 6 [.ref xa, .int (xs (i + 1)), .ref w] M sz (zd (some (.int kc)) M1)) (hR : ∀ sz, Ct l D aC b0 yX9_solutions cX9_solutions 2 (some .int) 1 0 0 [.ref r, .int (xs (i + 1))] M1 sz (zd (some (.int bv)) M2)) (hr1 : M1 r = some (.inr (9, fs1))) (hc : cells + 2 ≤ 601024) (hs : slots + 12 ≤ 7293034) (hl : lv_has ls 7 [(0, .ref b), (1, .ref xa), (2, .ref r), (3, .ref w), (4, .int (nI i))]) (kk : ∀ (sz : Nat) (ls : Array Slot), lv_has ls 7 [(0, .ref b), (1, .ref xa), (2, .ref r), (3, .ref w), (4, .int (nI i))] → Z p l e room_1 s m args below meth c D b0 M2 sz (cells + 1) (slots + 6) Q (F0 m 807 ls [])) : Z p l e room_1 s m args below meth c D b0 M sz cells slots Q (F0 m 723 ls []) := by
  obtain ⟨hx, hb, -, -, -⟩ := id C
  refine zz (fun _ _ => lv_aload_n hx hb dL_law_723 rfl (lv_at hl 1 rfl)) ?_
  refine zz (fun _ _ => lv_aload_n hx hb dL_law_724 rfl (lv_at hl 0 rfl)) ?_
  refine zz (fun _ _ => lv_iload hx hb dL_law_725 (lv_at hl 4 rfl)) ?_
  refine zz (fun _ _ => lv_iconst (v := nI 1) hx hb dL_law_727 (by decide)) ?_
  refine zz (fun _ _ => lv_iadd hx hb dL_law_728) ?_
  refine zval (v' := .int (nI (i + 1))) (congrArg Value.int (nI_addk i 1)) ?_
  refine z_sld C hX hbl hbA (i := i + 1) (by omega) hLb dL_law_729 ?_
  refine zz (fun _ _ => lv_aload_n hx hb dL_law_730 rfl (lv_at hl 3 rfl)) ?_
  refine zdSW (As := [.ref xa, .int (xs (i + 1)), .ref w]) (rest := []) (st' := [.int kc]) C hl.1 wk_solutions hW rfl rfl (Nat.le_of_ble_eq_true rfl) ⟨by decide, by decide, by show _ ≤ 601024; omega, by show _ ≤ 7293034; omega⟩ dL_law_731 rfl (fun sz => ?_)
  refine zs (fun _ _ => lv_istore (lv' := [(5, .int kc), (0, .ref b), (1, .ref xa), (2, .ref r), (3, .ref w), (4, .int (nI i))]) hx hb dL_law_734 hl (by decide) rfl) (fun ls hl => ?_)
  refine zz (fun _ _ => lv_aload_n hx hb dL_law_736 rfl (lv_at hl 3 rfl)) ?_
  refine zz (fun _ _ => lv_aload_n hx hb dL_law_737 rfl (lv_at hl 1 rfl)) ?_
  refine zz (fun _ _ => lv_iload hx hb dL_law_738 (lv_at hl 5 rfl)) ?_
  refine zz (fun _ _ => lv_iconst (v := nI 1) hx hb dL_law_740 (by decide)) ?_
  refine zz (fun _ _ => lv_iadd hx hb dL_law_741) ?_
  refine zval (v' := .int (nI (i + 1))) (congrArg Value.int (nI_addk i 1)) ?_
  refine z_sld C hX hbl hbA (i := i + 1) (by omega) hLb dL_law_742 ?_
  refine zdV (As := [.int (xs (i + 1))]) (rest := []) (st' := [.int bv]) C hl.1 lk_L_115 (hR _) hr1 rfl rfl rfl (Nat.le_of_ble_eq_true rfl) ⟨by decide, by decide, by show _ ≤ 601024; omega, by show _ ≤ 7293034; omega⟩ dL_law_743 rfl (fun sz => ?_)
  refine zs (fun _ _ => lv_istore (lv' := [(6, .int bv), (5, .int kc), (0, .ref b), (1, .ref xa), (2, .ref r), (3, .ref w), (4, .int (nI i))]) hx hb dL_law_746 hl (by decide) rfl) (fun ls hl => ?_)
  refine zz (fun _ _ => lv_goto (tgt := 807) hx hb dL_law_748 (by decide)) ?_
  exact kk _ _ (lv_sub hl [2, 3, 4, 5, 6] rfl)
theorem wk_told : zLkW RL 116 yL_told cL_told 4 (some .int) [(0, 9, 12, 13)] 3 := ⟨⟨by decide +kernel, by decide +kernel, by decide +kernel⟩, (zWi 742 (by decide +kernel) rfl), (zWi 48 (by decide +kernel) rfl), ml_L_116, (zWi 741 (by decide +kernel) rfl)⟩
set_option maxHeartbeats 1000000 in
set_option maxRecDepth 10000 in
theorem lc_told {p : Program} {l : Launch} {e : Env} {s : State} {m : MethodId} {args : Array Value} {below : List Frame} {meth : Method} {c : Code} {D : va_G} {aC : Nat → ClassId} {b0 b L i xa r w sz cells slots : Nat} {Q : State → Prop} {xs : Nat → Int32} {M M1 M2 : ZM} {kc bv tv : Int32} {fs fs1 fs2 : List Value} {g : Nat → Int64} {ls : Array Slot} (C : zC p l s m c D aC b0 RL cL_law 7) (hX : va_X b L xs s s.heap) (hbl : b < s.heap.size) (hbA : b < b0) (hi : i + 6 ≤ L) (hLb : L < 2 ^ 31) (hW : CtW l D aC b0 yL_told cL_told 4 (some .int) [(0, 9, 12, 13)] 2 1 6 [.ref xa, .int (xs (i + 1)), .ref w] M sz (zd (some (.int kc)) M1)) (hR : ∀ sz, Ct l D aC b0 yX9_told cX9_told 2 (some .int) 1 0 0 [.ref r, .int (xs (i + 1))] M1 sz (zd (some (.int bv)) M2)) (hr1 : M1 r = some (.inr (9, fs1))) (hT : ∀ sz, Ct l D aC b0 yX9_thrown cX9_thrown 1 (some .int) 0 0 0 [.ref r] M2 sz (zd (some (.int tv)) M2)) (hr2 : M2 r = some (.inr (9, fs2))) (hw : M2 w = some (.inl (aC 6, 1, .inr (.inl g)))) (e1 : tv = kc) (e2 : kc = 0 → g (Int32.toNatClampNeg (nI 0)) = bv.toInt64) (hc : cells + 2 ≤ 601024) (hs : slots + 12 ≤ 7293034) (hl : lv_has ls 7 [(0, .ref b), (1, .ref xa), (2, .ref r), (3, .ref w), (4, .int (nI i))]) (kk : ∀ (sz : Nat) (ls : Array Slot), lv_has ls 7 [(0, .ref b), (1, .ref xa), (2, .ref r), (3, .ref w), (4, .int (nI i))] → Z p l e room_1 s m args below meth c D b0 M2 sz (cells + 1) (slots + 6) Q (F0 m 807 ls [])) : Z p l e room_1 s m args below meth c D b0 M sz cells slots Q (F0 m 751 ls []) := by
  obtain ⟨hx, hb, -, -, -⟩ := id C
  refine zz (fun _ _ => lv_aload_n hx hb dL_law_751 rfl (lv_at hl 1 rfl)) ?_
  refine zz (fun _ _ => lv_aload_n hx hb dL_law_752 rfl (lv_at hl 0 rfl)) ?_
  refine zz (fun _ _ => lv_iload hx hb dL_law_753 (lv_at hl 4 rfl)) ?_
  refine zz (fun _ _ => lv_iconst (v := nI 1) hx hb dL_law_755 (by decide)) ?_
  refine zz (fun _ _ => lv_iadd hx hb dL_law_756) ?_
  refine zval (v' := .int (nI (i + 1))) (congrArg Value.int (nI_addk i 1)) ?_
  refine z_sld C hX hbl hbA (i := i + 1) (by omega) hLb dL_law_757 ?_
  refine zz (fun _ _ => lv_aload_n hx hb dL_law_758 rfl (lv_at hl 3 rfl)) ?_
  refine zdSW (As := [.ref xa, .int (xs (i + 1)), .ref w]) (rest := []) (st' := [.int kc]) C hl.1 wk_told hW rfl rfl (Nat.le_of_ble_eq_true rfl) ⟨by decide, by decide, by show _ ≤ 601024; omega, by show _ ≤ 7293034; omega⟩ dL_law_759 rfl (fun sz => ?_)
  refine zs (fun _ _ => lv_istore (lv' := [(5, .int kc), (0, .ref b), (1, .ref xa), (2, .ref r), (3, .ref w), (4, .int (nI i))]) hx hb dL_law_762 hl (by decide) rfl) (fun ls hl => ?_)
  refine zz (fun _ _ => lv_aload_n hx hb dL_law_764 rfl (lv_at hl 3 rfl)) ?_
  refine zz (fun _ _ => lv_aload_n hx hb dL_law_765 rfl (lv_at hl 1 rfl)) ?_
  refine zz (fun _ _ => lv_iload hx hb dL_law_766 (lv_at hl 5 rfl)) ?_
  refine zz (fun _ _ => lv_iconst (v := nI 1) hx hb dL_law_768 (by decide)) ?_
  refine zz (fun _ _ => lv_iadd hx hb dL_law_769) ?_
  refine zval (v' := .int (nI (i + 1))) (congrArg Value.int (nI_addk i 1)) ?_
  refine z_sld C hX hbl hbA (i := i + 1) (by omega) hLb dL_law_770 ?_
  refine zdV (As := [.int (xs (i + 1))]) (rest := []) (st' := [.int bv]) C hl.1 lk_L_118 (hR _) hr1 rfl rfl rfl (Nat.le_of_ble_eq_true rfl) ⟨by decide, by decide, by show _ ≤ 601024; omega, by show _ ≤ 7293034; omega⟩ dL_law_771 rfl (fun sz => ?_)
  refine zs (fun _ _ => lv_istore (lv' := [(6, .int bv), (5, .int kc), (0, .ref b), (1, .ref xa), (2, .ref r), (3, .ref w), (4, .int (nI i))]) hx hb dL_law_774 hl (by decide) rfl) (fun ls hl => ?_)
  refine zz (fun _ _ => lv_aload_n hx hb dL_law_776 rfl (lv_at hl 4 rfl)) ?_
  refine zdV (As := []) (rest := []) (st' := [.int tv]) C hl.1 lk_L_119 (hT _) hr2 rfl rfl rfl (Nat.le_of_ble_eq_true rfl) ⟨by decide, by decide, by show _ ≤ 601024; omega, by show _ ≤ 7293034; omega⟩ dL_law_777 rfl (fun sz => ?_)
  refine zz (fun _ _ => lv_iload hx hb dL_law_780 (lv_at hl 1 rfl)) ?_
  refine zb (fun _ _ => lv_icmp_eq (tgt := 787) hx hb dL_law_782 (by decide)) (fun c_2 => ?_) (fun c_2 => ?_)
  rotate_left
  · exact absurd e1 c_2
  refine zz (fun _ _ => lv_iload hx hb dL_law_787 (lv_at hl 1 rfl)) ?_
  refine zbn (fun _ _ => lv_if_ne (tgt := 804) hx hb dL_law_789 (by decide)) (fun c_3 => ?_) (fun c_3 => ?_)
  · refine zz (fun _ _ => lv_goto (tgt := 807) hx hb dL_law_804 (by decide)) ?_
    exact kk _ _ (lv_sub hl [2, 3, 4, 5, 6] rfl)
  refine zz (fun _ _ => lv_aload_n hx hb dL_law_792 rfl (lv_at hl 5 rfl)) ?_
  refine zz (fun _ _ => lv_iconst (v := nI 0) hx hb dL_law_793 (by decide)) ?_
  refine z_lald C hw (in_nI (j := 0) rfl (by decide) (by decide)) dL_law_794 ?_
  refine zz (fun _ _ => lv_iload hx hb dL_law_795 (lv_at hl 0 rfl)) ?_
  refine zz (fun _ _ => lv_i2l (v := bv.toInt64) hx hb dL_law_797 rfl) ?_
  refine zz (fun _ _ => lv_lcmp_eq hx hb (e2 c_3) dL_law_798) ?_
  refine zb (fun _ _ => lv_if_eq (tgt := 804) hx hb dL_law_799 (by decide)) (fun _ => ?_) (fun c_4 => absurd rfl c_4)
  refine zz (fun _ _ => lv_goto (tgt := 807) hx hb dL_law_804 (by decide)) ?_
  exact kk _ _ (lv_sub hl [2, 3, 4, 5, 6] rfl)
end
