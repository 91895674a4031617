theorem nI_addk (i k : Nat) : nI i + nI k = nI (i + k) := by rw [nI_add]
theorem wk_step : zLkW RL 62 yL_step cL_step 6 (some .int) [(0, 12, 15, 13), (0, 12, 19, 15)] 5 := ⟨⟨by decide +kernel, by decide +kernel, by decide +kernel⟩, (zWi 491 (by decide +kernel) rfl), (zWi 48 (by decide +kernel) rfl), ml_L_62, (zWi 490 (by decide +kernel) rfl)⟩
set_option maxHeartbeats 1000000 in
set_option maxRecDepth 10000 in
theorem lc_step {p : Program} {l : Launch} {e : Env} {s : State} {m : MethodId} {args : Array Value} {below : List Frame} {meth : Method} {c : Code} {D : va_G} {aC : Nat → ClassId} {b0 b L i xa r w sz cells slots : Nat} {Q : State → Prop} {xs : Nat → Int32} {M M1 M2 : ZM} {kc bv tv : Int32} {fs fs1 fs2 : List Value} {g : Nat → Int64} {ls : Array Slot} (C : zC p l s m c D aC b0 RL cL_law 7) (hX : va_X b L xs s s.heap) (hbl : b < s.heap.size) (hbA : b < b0) (hi : i + 6 ≤ L) (hLb : L < 2 ^ 31) (hW : CtW l D aC b0 yL_step cL_step 6 (some .int) [(0, 12, 15, 13), (0, 12, 19, 15)] 3 1 6 [.ref xa, .int (xs (i + 1)), .int (xs (i + 2)), .int (xs (i + 3)), .ref w] M sz (zd (some (.int kc)) M1)) (hR : ∀ sz, Ct l D aC b0 yX9_step cX9_step 6 (some .int) 2 0 0 [.ref r, .int (xs (i + 1)), .int (xs (i + 2)), .int (xs (i + 3))] M1 sz (zd (some (.int bv)) M2)) (hr1 : M1 r = some (.inr (9, fs1))) (hT : ∀ sz, Ct l D aC b0 yX9_thrown cX9_thrown 1 (some .int) 0 0 0 [.ref r] M2 sz (zd (some (.int tv)) M2)) (hr2 : M2 r = some (.inr (9, fs2))) (hw : M2 w = some (.inl (aC 6, 1, .inr (.inl g)))) (e1 : tv = kc) (e2 : kc = 0 → g (Int32.toNatClampNeg (nI 0)) = bv.toInt64) (hc : cells + 2 ≤ 600002) (hs : slots + 12 ≤ 7302232) (hl : lv_has ls 7 [(0, .ref b), (1, .ref xa), (2, .ref r), (3, .ref w), (4, .int (nI i))]) (kk : ∀ (sz : Nat) (ls : Array Slot), lv_has ls 7 [(0, .ref b), (1, .ref xa), (2, .ref r), (3, .ref w), (4, .int (nI i))] → Z p l e room_1 s m args below meth c D b0 M2 sz (cells + 1) (slots + 6) Q (F0 m 1136 ls [])) : Z p l e room_1 s m args below meth c D b0 M sz cells slots Q (F0 m 116 ls []) := by
  obtain ⟨hx, hb, -, -, -⟩ := id C
  refine zz (fun _ _ => lv_aload_n hx hb dL_law_116 rfl (lv_at hl 1 rfl)) ?_
  refine zz (fun _ _ => lv_aload_n hx hb dL_law_117 rfl (lv_at hl 0 rfl)) ?_
  refine zz (fun _ _ => lv_iload hx hb dL_law_118 (lv_at hl 4 rfl)) ?_
  refine zz (fun _ _ => lv_iconst (v := nI 1) hx hb dL_law_120 (by decide)) ?_
  refine zz (fun _ _ => lv_iadd hx hb dL_law_121) ?_
  refine zval (v' := .int (nI (i + 1))) (congrArg Value.int (nI_addk i 1)) ?_
  refine z_sld C hX hbl hbA (i := i + 1) (by omega) hLb dL_law_122 ?_
  refine zz (fun _ _ => lv_aload_n hx hb dL_law_123 rfl (lv_at hl 0 rfl)) ?_
  refine zz (fun _ _ => lv_iload hx hb dL_law_124 (lv_at hl 4 rfl)) ?_
  refine zz (fun _ _ => lv_iconst (v := nI 2) hx hb dL_law_126 (by decide)) ?_
  refine zz (fun _ _ => lv_iadd hx hb dL_law_127) ?_
  refine zval (v' := .int (nI (i + 2))) (congrArg Value.int (nI_addk i 2)) ?_
  refine z_sld C hX hbl hbA (i := i + 2) (by omega) hLb dL_law_128 ?_
  refine zz (fun _ _ => lv_aload_n hx hb dL_law_129 rfl (lv_at hl 0 rfl)) ?_
  refine zz (fun _ _ => lv_iload hx hb dL_law_130 (lv_at hl 4 rfl)) ?_
  refine zz (fun _ _ => lv_iconst (v := nI 3) hx hb dL_law_132 (by decide)) ?_
  refine zz (fun _ _ => lv_iadd hx hb dL_law_133) ?_
  refine zval (v' := .int (nI (i + 3))) (congrArg Value.int (nI_addk i 3)) ?_
  refine z_sld C hX hbl hbA (i := i + 3) (by omega) hLb dL_law_134 ?_
  refine zz (fun _ _ => lv_aload_n hx hb dL_law_135 rfl (lv_at hl 3 rfl)) ?_
  refine zdSW (As := [.ref xa, .int (xs (i + 1)), .int (xs (i + 2)), .int (xs (i + 3)), .ref w]) (rest := []) (st' := [.int kc]) C hl.1 wk_step hW rfl rfl (Nat.le_of_ble_eq_true rfl) ⟨by decide, by decide, by show _ ≤ 600002; omega, by show _ ≤ 7302232; omega⟩ dL_law_136 rfl (fun sz => ?_)
  refine zs (fun _ _ => lv_istore (lv' := [(5, .int kc), (0, .ref b), (1, .ref xa), (2, .ref r), (3, .ref w), (4, .int (nI i))]) hx hb dL_law_139 hl (by decide) rfl) (fun ls hl => ?_)
  refine zz (fun _ _ => lv_aload_n hx hb dL_law_141 rfl (lv_at hl 3 rfl)) ?_
  refine zz (fun _ _ => lv_aload_n hx hb dL_law_142 rfl (lv_at hl 1 rfl)) ?_
  refine zz (fun _ _ => lv_iload hx hb dL_law_143 (lv_at hl 5 rfl)) ?_
  refine zz (fun _ _ => lv_iconst (v := nI 1) hx hb dL_law_145 (by decide)) ?_
  refine zz (fun _ _ => lv_iadd hx hb dL_law_146) ?_
  refine zval (v' := .int (nI (i + 1))) (congrArg Value.int (nI_addk i 1)) ?_
  refine z_sld C hX hbl hbA (i := i + 1) (by omega) hLb dL_law_147 ?_
  refine zz (fun _ _ => lv_aload_n hx hb dL_law_148 rfl (lv_at hl 1 rfl)) ?_
  refine zz (fun _ _ => lv_iload hx hb dL_law_149 (lv_at hl 5 rfl)) ?_
  refine zz (fun _ _ => lv_iconst (v := nI 2) hx hb dL_law_151 (by decide)) ?_
  refine zz (fun _ _ => lv_iadd hx hb dL_law_152) ?_
  refine zval (v' := .int (nI (i + 2))) (congrArg Value.int (nI_addk i 2)) ?_
  refine z_sld C hX hbl hbA (i := i + 2) (by omega) hLb dL_law_153 ?_
  refine zz (fun _ _ => lv_aload_n hx hb dL_law_154 rfl (lv_at hl 1 rfl)) ?_
  refine zz (fun _ _ => lv_iload hx hb dL_law_155 (lv_at hl 5 rfl)) ?_
  refine zz (fun _ _ => lv_iconst (v := nI 3) hx hb dL_law_157 (by decide)) ?_
  refine zz (fun _ _ => lv_iadd hx hb dL_law_158) ?_
  refine zval (v' := .int (nI (i + 3))) (congrArg Value.int (nI_addk i 3)) ?_
  refine z_sld C hX hbl hbA (i := i + 3) (by omega) hLb dL_law_159 ?_
  refine zdV (As := [.int (xs (i + 1)), .int (xs (i + 2)), .int (xs (i + 3))]) (rest := []) (st' := [.int bv]) C hl.1 lk_L_67 (hR _) hr1 rfl rfl rfl (Nat.le_of_ble_eq_true rfl) ⟨by decide, by decide, by show _ ≤ 600002; omega, by show _ ≤ 7302232; omega⟩ dL_law_160 rfl (fun sz => ?_)
  refine zs (fun _ _ => lv_istore (lv' := [(6, .int bv), (5, .int kc), (0, .ref b), (1, .ref xa), (2, .ref r), (3, .ref w), (4, .int (nI i))]) hx hb dL_law_163 hl (by decide) rfl) (fun ls hl => ?_)
  refine zz (fun _ _ => lv_aload_n hx hb dL_law_165 rfl (lv_at hl 4 rfl)) ?_
  refine zdV (As := []) (rest := []) (st' := [.int tv]) C hl.1 lk_L_68 (hT _) hr2 rfl rfl rfl (Nat.le_of_ble_eq_true rfl) ⟨by decide, by decide, by show _ ≤ 600002; omega, by show _ ≤ 7302232; omega⟩ dL_law_166 rfl (fun sz => ?_)
  refine zz (fun _ _ => lv_iload hx hb dL_law_169 (lv_at hl 1 rfl)) ?_
  refine zb (fun _ _ => lv_icmp_eq (tgt := 176) hx hb dL_law_171 (by decide)) (fun c_2 => ?_) (fun c_2 => ?_)
  rotate_left
  · exact absurd e1 c_2
  refine zz (fun _ _ => lv_iload hx hb dL_law_176 (lv_at hl 1 rfl)) ?_
  refine zbn (fun _ _ => lv_if_ne (tgt := 193) hx hb dL_law_178 (by decide)) (fun c_3 => ?_) (fun c_3 => ?_)
  · refine zz (fun _ _ => lv_goto (tgt := 1136) hx hb dL_law_193 (by decide)) ?_
    exact kk _ _ (lv_sub hl [2, 3, 4, 5, 6] rfl)
  refine zz (fun _ _ => lv_aload_n hx hb dL_law_181 rfl (lv_at hl 5 rfl)) ?_
  refine zz (fun _ _ => lv_iconst (v := nI 0) hx hb dL_law_182 (by decide)) ?_
  refine z_lald C hw (in_nI (j := 0) rfl (by decide) (by decide)) dL_law_183 ?_
  refine zz (fun _ _ => lv_iload hx hb dL_law_184 (lv_at hl 0 rfl)) ?_
  refine zz (fun _ _ => lv_i2l (v := bv.toInt64) hx hb dL_law_186 rfl) ?_
  refine zz (fun _ _ => lv_lcmp_eq hx hb (e2 c_3) dL_law_187) ?_
  refine zb (fun _ _ => lv_if_eq (tgt := 193) hx hb dL_law_188 (by decide)) (fun _ => ?_) (fun c_4 => absurd rfl c_4)
  refine zz (fun _ _ => lv_goto (tgt := 1136) hx hb dL_law_193 (by decide)) ?_
  exact kk _ _ (lv_sub hl [2, 3, 4, 5, 6] rfl)
theorem wk_silent : zLkW RL 72 yL_silent cL_silent 5 (some .int) [(0, 17, 20, 21)] 4 := ⟨⟨by decide +kernel, by decide +kernel, by decide +kernel⟩, (zWi 598 (by decide +kernel) rfl), (zWi 48 (by decide +kernel) rfl), ml_L_72, (zWi 597 (by decide +kernel) rfl)⟩
set_option maxHeartbeats 1000000 in
set_option maxRecDepth 10000 in
theorem lc_silent {p : Program} {l : Launch} {e : Env} {s : State} {m : MethodId} {args : Array Value} {below : List Frame} {meth : Method} {c : Code} {D : va_G} {aC : Nat → ClassId} {b0 b L i xa r w sz cells slots : Nat} {Q : State → Prop} {xs : Nat → Int32} {M M1 M2 : ZM} {kc bv tv : Int32} {fs fs1 fs2 : List Value} {g : Nat → Int64} {ls : Array Slot} (C : zC p l s m c D aC b0 RL cL_law 7) (hX : va_X b L xs s s.heap) (hbl : b < s.heap.size) (hbA : b < b0) (hi : i + 6 ≤ L) (hLb : L < 2 ^ 31) (hW : CtW l D aC b0 yL_silent cL_silent 5 (some .int) [(0, 17, 20, 21)] 2 1 6 [.ref xa, .int (xs (i + 1)), .int (if xs (i + 2) = 0 then 0 else 1), .ref w] M sz (zd (some (.int kc)) M1)) (hR : ∀ sz, Ct l D aC b0 yX9_silent cX9_silent 4 (some .boolean) 1 0 0 [.ref r, .int (xs (i + 1)), .int (if xs (i + 2) = 0 then 0 else 1)] M1 sz (zd (some (.int bv)) M2)) (hr1 : M1 r = some (.inr (9, fs1))) (hT : ∀ sz, Ct l D aC b0 yX9_thrown cX9_thrown 1 (some .int) 0 0 0 [.ref r] M2 sz (zd (some (.int tv)) M2)) (hr2 : M2 r = some (.inr (9, fs2))) (hw : M2 w = some (.inl (aC 6, 1, .inr (.inl g)))) (e1 : tv = kc) (e2 : kc = 0 → g (Int32.toNatClampNeg (nI 0)) = (if bv = 0 then 0 else 1)) (hc : cells + 2 ≤ 600002) (hs : slots + 12 ≤ 7302232) (hl : lv_has ls 7 [(0, .ref b), (1, .ref xa), (2, .ref r), (3, .ref w), (4, .int (nI i))]) (kk : ∀ (sz : Nat) (ls : Array Slot), lv_has ls 7 [(0, .ref b), (1, .ref xa), (2, .ref r), (3, .ref w), (4, .int (nI i))] → Z p l e room_1 s m args below meth c D b0 M2 sz (cells + 1) (slots + 6) Q (F0 m 1136 ls [])) : Z p l e room_1 s m args below meth c D b0 M sz cells slots Q (F0 m 196 ls []) := by
  obtain ⟨hx, hb, -, -, -⟩ := id C
  by_cases hz : xs (i + 2) = 0
  · simp only [if_pos hz] at hW hR
    refine zz (fun _ _ => lv_aload_n hx hb dL_law_196 rfl (lv_at hl 1 rfl)) ?_
    refine zz (fun _ _ => lv_aload_n hx hb dL_law_197 rfl (lv_at hl 0 rfl)) ?_
    refine zz (fun _ _ => lv_iload hx hb dL_law_198 (lv_at hl 4 rfl)) ?_
    refine zz (fun _ _ => lv_iconst (v := nI 1) hx hb dL_law_200 (by decide)) ?_
    refine zz (fun _ _ => lv_iadd hx hb dL_law_201) ?_
    refine zval (v' := .int (nI (i + 1))) (congrArg Value.int (nI_addk i 1)) ?_
    refine z_sld C hX hbl hbA (i := i + 1) (by omega) hLb dL_law_202 ?_
    refine zz (fun _ _ => lv_aload_n hx hb dL_law_203 rfl (lv_at hl 0 rfl)) ?_
    refine zz (fun _ _ => lv_iload hx hb dL_law_204 (lv_at hl 4 rfl)) ?_
    refine zz (fun _ _ => lv_iconst (v := nI 2) hx hb dL_law_206 (by decide)) ?_
    refine zz (fun _ _ => lv_iadd hx hb dL_law_207) ?_
    refine zval (v' := .int (nI (i + 2))) (congrArg Value.int (nI_addk i 2)) ?_
    refine z_sld C hX hbl hbA (i := i + 2) (by omega) hLb dL_law_208 ?_
    refine zb (fun _ _ => lv_if_eq (tgt := 216) hx hb dL_law_209 (by decide)) (fun c_1 => ?_) (fun c_1 => ?_)
    rotate_left
    · exact absurd hz c_1
    refine zz (fun _ _ => lv_iconst (v := 0) hx hb dL_law_216 (by decide)) ?_
    refine zz (fun _ _ => lv_aload_n hx hb dL_law_217 rfl (lv_at hl 3 rfl)) ?_
    refine zdSW (As := [.ref xa, .int (xs (i + 1)), .int 0, .ref w]) (rest := []) (st' := [.int kc]) C hl.1 wk_silent hW rfl rfl (Nat.le_of_ble_eq_true rfl) ⟨by decide, by decide, by show _ ≤ 600002; omega, by show _ ≤ 7302232; omega⟩ dL_law_218 rfl (fun sz => ?_)
    refine zs (fun _ _ => lv_istore (lv' := [(5, .int kc), (0, .ref b), (1, .ref xa), (2, .ref r), (3, .ref w), (4, .int (nI i))]) hx hb dL_law_221 hl (by decide) rfl) (fun ls hl => ?_)
    refine zz (fun _ _ => lv_aload_n hx hb dL_law_223 rfl (lv_at hl 3 rfl)) ?_
    refine zz (fun _ _ => lv_aload_n hx hb dL_law_224 rfl (lv_at hl 1 rfl)) ?_
    refine zz (fun _ _ => lv_iload hx hb dL_law_225 (lv_at hl 5 rfl)) ?_
    refine zz (fun _ _ => lv_iconst (v := nI 1) hx hb dL_law_227 (by decide)) ?_
    refine zz (fun _ _ => lv_iadd hx hb dL_law_228) ?_
    refine zval (v' := .int (nI (i + 1))) (congrArg Value.int (nI_addk i 1)) ?_
    refine z_sld C hX hbl hbA (i := i + 1) (by omega) hLb dL_law_229 ?_
    refine zz (fun _ _ => lv_aload_n hx hb dL_law_230 rfl (lv_at hl 1 rfl)) ?_
    refine zz (fun _ _ => lv_iload hx hb dL_law_231 (lv_at hl 5 rfl)) ?_
    refine zz (fun _ _ => lv_iconst (v := nI 2) hx hb dL_law_233 (by decide)) ?_
    refine zz (fun _ _ => lv_iadd hx hb dL_law_234) ?_
    refine zval (v' := .int (nI (i + 2))) (congrArg Value.int (nI_addk i 2)) ?_
    refine z_sld C hX hbl hbA (i := i + 2) (by omega) hLb dL_law_235 ?_
    refine zb (fun _ _ => lv_if_eq (tgt := 243) hx hb dL_law_236 (by decide)) (fun c_1 => ?_) (fun c_1 => ?_)
    rotate_left
    · exact absurd hz c_1
    refine zz (fun _ _ => lv_iconst (v := 0) hx hb dL_law_243 (by decide)) ?_
    refine zdV (As := [.int (xs (i + 1)), .int 0]) (rest := []) (st' := [.int bv]) C hl.1 lk_L_75 (hR _) hr1 rfl rfl rfl (Nat.le_of_ble_eq_true rfl) ⟨by decide, by decide, by show _ ≤ 600002; omega, by show _ ≤ 7302232; omega⟩ dL_law_244 rfl (fun sz => ?_)
    refine zs (fun _ _ => lv_istore (lv' := [(6, .int bv), (5, .int kc), (0, .ref b), (1, .ref xa), (2, .ref r), (3, .ref w), (4, .int (nI i))]) hx hb dL_law_247 hl (by decide) rfl) (fun ls hl => ?_)
    refine zz (fun _ _ => lv_aload_n hx hb dL_law_249 rfl (lv_at hl 4 rfl)) ?_
    refine zdV (As := []) (rest := []) (st' := [.int tv]) C hl.1 lk_L_68 (hT _) hr2 rfl rfl rfl (Nat.le_of_ble_eq_true rfl) ⟨by decide, by decide, by show _ ≤ 600002; omega, by show _ ≤ 7302232; omega⟩ dL_law_250 rfl (fun sz => ?_)
    refine zz (fun _ _ => lv_iload hx hb dL_law_253 (lv_at hl 1 rfl)) ?_
    refine zb (fun _ _ => lv_icmp_eq (tgt := 260) hx hb dL_law_255 (by decide)) (fun c_2 => ?_) (fun c_2 => ?_)
    rotate_left
    · exact absurd e1 c_2
    refine zz (fun _ _ => lv_iload hx hb dL_law_260 (lv_at hl 1 rfl)) ?_
    refine zbn (fun _ _ => lv_if_ne (tgt := 284) hx hb dL_law_262 (by decide)) (fun c_3 => ?_) (fun c_3 => ?_)
    · refine zz (fun _ _ => lv_goto (tgt := 1136) hx hb dL_law_284 (by decide)) ?_
      exact kk _ _ (lv_sub hl [2, 3, 4, 5, 6] rfl)
    refine zz (fun _ _ => lv_aload_n hx hb dL_law_265 rfl (lv_at hl 5 rfl)) ?_
    refine zz (fun _ _ => lv_iconst (v := nI 0) hx hb dL_law_266 (by decide)) ?_
    refine z_lald C hw (in_nI (j := 0) rfl (by decide) (by decide)) dL_law_267 ?_
    refine zz (fun _ _ => lv_iload hx hb dL_law_268 (lv_at hl 0 rfl)) ?_
    refine zb (fun _ _ => lv_if_eq (tgt := 277) hx hb dL_law_270 (by decide)) (fun c_5 => ?_) (fun c_5 => ?_)
    · refine zz (fun _ _ => lv_lconst (v := 0) hx hb dL_law_277 (by decide)) ?_
      refine zz (fun _ _ => lv_lcmp_eq hx hb (by rw [e2 c_3, if_pos c_5]) dL_law_278) ?_
      refine zb (fun _ _ => lv_if_eq (tgt := 284) hx hb dL_law_279 (by decide)) (fun _ => ?_) (fun c_4 => absurd rfl c_4)
      refine zz (fun _ _ => lv_goto (tgt := 1136) hx hb dL_law_284 (by decide)) ?_
      exact kk _ _ (lv_sub hl [2, 3, 4, 5, 6] rfl)
    · refine zz (fun _ _ => lv_lconst (v := 1) hx hb dL_law_273 (by decide)) ?_
      refine zz (fun _ _ => lv_goto (tgt := 278) hx hb dL_law_274 (by decide)) ?_
      refine zz (fun _ _ => lv_lcmp_eq hx hb (by rw [e2 c_3, if_neg c_5]) dL_law_278) ?_
      refine zb (fun _ _ => lv_if_eq (tgt := 284) hx hb dL_law_279 (by decide)) (fun _ => ?_) (fun c_4 => absurd rfl c_4)
      refine zz (fun _ _ => lv_goto (tgt := 1136) hx hb dL_law_284 (by decide)) ?_
      exact kk _ _ (lv_sub hl [2, 3, 4, 5, 6] rfl)
  · simp only [if_neg hz] at hW hR
    refine zz (fun _ _ => lv_aload_n hx hb dL_law_196 rfl (lv_at hl 1 rfl)) ?_
    refine zz (fun _ _ => lv_aload_n hx hb dL_law_197 rfl (lv_at hl 0 rfl)) ?_
    refine zz (fun _ _ => lv_iload hx hb dL_law_198 (lv_at hl 4 rfl)) ?_
    refine zz (fun _ _ => lv_iconst (v := nI 1) hx hb dL_law_200 (by decide)) ?_
    refine zz (fun _ _ => lv_iadd hx hb dL_law_201) ?_
    refine zval (v' := .int (nI (i + 1))) (congrArg Value.int (nI_addk i 1)) ?_
    refine z_sld C hX hbl hbA (i := i + 1) (by omega) hLb dL_law_202 ?_
    refine zz (fun _ _ => lv_aload_n hx hb dL_law_203 rfl (lv_at hl 0 rfl)) ?_
    refine zz (fun _ _ => lv_iload hx hb dL_law_204 (lv_at hl 4 rfl)) ?_
    refine zz (fun _ _ => lv_iconst (v := nI 2) hx hb dL_law_206 (by decide)) ?_
    refine zz (fun _ _ => lv_iadd hx hb dL_law_207) ?_
    refine zval (v' := .int (nI (i + 2))) (congrArg Value.int (nI_addk i 2)) ?_
    refine z_sld C hX hbl hbA (i := i + 2) (by omega) hLb dL_law_208 ?_
    refine zb (fun _ _ => lv_if_eq (tgt := 216) hx hb dL_law_209 (by decide)) (fun c_1 => ?_) (fun c_1 => ?_)
    · exact absurd c_1 hz
    refine zz (fun _ _ => lv_iconst (v := 1) hx hb dL_law_212 (by decide)) ?_
    refine zz (fun _ _ => lv_goto (tgt := 217) hx hb dL_law_213 (by decide)) ?_
    refine zz (fun _ _ => lv_aload_n hx hb dL_law_217 rfl (lv_at hl 3 rfl)) ?_
    refine zdSW (As := [.ref xa, .int (xs (i + 1)), .int 1, .ref w]) (rest := []) (st' := [.int kc]) C hl.1 wk_silent hW rfl rfl (Nat.le_of_ble_eq_true rfl) ⟨by decide, by decide, by show _ ≤ 600002; omega, by show _ ≤ 7302232; omega⟩ dL_law_218 rfl (fun sz => ?_)
    refine zs (fun _ _ => lv_istore (lv' := [(5, .int kc), (0, .ref b), (1, .ref xa), (2, .ref r), (3, .ref w), (4, .int (nI i))]) hx hb dL_law_221 hl (by decide) rfl) (fun ls hl => ?_)
    refine zz (fun _ _ => lv_aload_n hx hb dL_law_223 rfl (lv_at hl 3 rfl)) ?_
    refine zz (fun _ _ => lv_aload_n hx hb dL_law_224 rfl (lv_at hl 1 rfl)) ?_
    refine zz (fun _ _ => lv_iload hx hb dL_law_225 (lv_at hl 5 rfl)) ?_
    refine zz (fun _ _ => lv_iconst (v := nI 1) hx hb dL_law_227 (by decide)) ?_
    refine zz (fun _ _ => lv_iadd hx hb dL_law_228) ?_
    refine zval (v' := .int (nI (i + 1))) (congrArg Value.int (nI_addk i 1)) ?_
    refine z_sld C hX hbl hbA (i := i + 1) (by omega) hLb dL_law_229 ?_
    refine zz (fun _ _ => lv_aload_n hx hb dL_law_230 rfl (lv_at hl 1 rfl)) ?_
    refine zz (fun _ _ => lv_iload hx hb dL_law_231 (lv_at hl 5 rfl)) ?_
    refine zz (fun _ _ => lv_iconst (v := nI 2) hx hb dL_law_233 (by decide)) ?_
    refine zz (fun _ _ => lv_iadd hx hb dL_law_234) ?_
    refine zval (v' := .int (nI (i + 2))) (congrArg Value.int (nI_addk i 2)) ?_
    refine z_sld C hX hbl hbA (i := i + 2) (by omega) hLb dL_law_235 ?_
    refine zb (fun _ _ => lv_if_eq (tgt := 243) hx hb dL_law_236 (by decide)) (fun c_1 => ?_) (fun c_1 => ?_)
    · exact absurd c_1 hz
    refine zz (fun _ _ => lv_iconst (v := 1) hx hb dL_law_239 (by decide)) ?_
    refine zz (fun _ _ => lv_goto (tgt := 244) hx hb dL_law_240 (by decide)) ?_
    refine zdV (As := [.int (xs (i + 1)), .int 1]) (rest := []) (st' := [.int bv]) C hl.1 lk_L_75 (hR _) hr1 rfl rfl rfl (Nat.le_of_ble_eq_true rfl) ⟨by decide, by decide, by show _ ≤ 600002; omega, by show _ ≤ 7302232; omega⟩ dL_law_244 rfl (fun sz => ?_)
    refine zs (fun _ _ => lv_istore (lv' := [(6, .int bv), (5, .int kc), (0, .ref b), (1, .ref xa), (2, .ref r), (3, .ref w), (4, .int (nI i))]) hx hb dL_law_247 hl (by decide) rfl) (fun ls hl => ?_)
    refine zz (fun _ _ => lv_aload_n hx hb dL_law_249 rfl (lv_at hl 4 rfl)) ?_
    refine zdV (As := []) (rest := []) (st' := [.int tv]) C hl.1 lk_L_68 (hT _) hr2 rfl rfl rfl (Nat.le_of_ble_eq_true rfl) ⟨by decide, by decide, by show _ ≤ 600002; omega, by show _ ≤ 7302232; omega⟩ dL_law_250 rfl (fun sz => ?_)
    refine zz (fun _ _ => lv_iload hx hb dL_law_253 (lv_at hl 1 rfl)) ?_
    refine zb (fun _ _ => lv_icmp_eq (tgt := 260) hx hb dL_law_255 (by decide)) (fun c_2 => ?_) (fun c_2 => ?_)
    rotate_left
    · exact absurd e1 c_2
    refine zz (fun _ _ => lv_iload hx hb dL_law_260 (lv_at hl 1 rfl)) ?_
    refine zbn (fun _ _ => lv_if_ne (tgt := 284) hx hb dL_law_262 (by decide)) (fun c_3 => ?_) (fun c_3 => ?_)
    · refine zz (fun _ _ => lv_goto (tgt := 1136) hx hb dL_law_284 (by decide)) ?_
      exact kk _ _ (lv_sub hl [2, 3, 4, 5, 6] rfl)
    refine zz (fun _ _ => lv_aload_n hx hb dL_law_265 rfl (lv_at hl 5 rfl)) ?_
    refine zz (fun _ _ => lv_iconst (v := nI 0) hx hb dL_law_266 (by decide)) ?_
    refine z_lald C hw (in_nI (j := 0) rfl (by decide) (by decide)) dL_law_267 ?_
    refine zz (fun _ _ => lv_iload hx hb dL_law_268 (lv_at hl 0 rfl)) ?_
    refine zb (fun _ _ => lv_if_eq (tgt := 277) hx hb dL_law_270 (by decide)) (fun c_5 => ?_) (fun c_5 => ?_)
    · refine zz (fun _ _ => lv_lconst (v := 0) hx hb dL_law_277 (by decide)) ?_
      refine zz (fun _ _ => lv_lcmp_eq hx hb (by rw [e2 c_3, if_pos c_5]) dL_law_278) ?_
      refine zb (fun _ _ => lv_if_eq (tgt := 284) hx hb dL_law_279 (by decide)) (fun _ => ?_) (fun c_4 => absurd rfl c_4)
      refine zz (fun _ _ => lv_goto (tgt := 1136) hx hb dL_law_284 (by decide)) ?_
      exact kk _ _ (lv_sub hl [2, 3, 4, 5, 6] rfl)
    · refine zz (fun _ _ => lv_lconst (v := 1) hx hb dL_law_273 (by decide)) ?_
      refine zz (fun _ _ => lv_goto (tgt := 278) hx hb dL_law_274 (by decide)) ?_
      refine zz (fun _ _ => lv_lcmp_eq hx hb (by rw [e2 c_3, if_neg c_5]) dL_law_278) ?_
      refine zb (fun _ _ => lv_if_eq (tgt := 284) hx hb dL_law_279 (by decide)) (fun _ => ?_) (fun c_4 => absurd rfl c_4)
      refine zz (fun _ _ => lv_goto (tgt := 1136) hx hb dL_law_284 (by decide)) ?_
      exact kk _ _ (lv_sub hl [2, 3, 4, 5, 6] rfl)
theorem wk_template : zLkW RL 76 yL_template cL_template 8 (some .int) [(0, 16, 19, 21), (0, 16, 23, 13), (0, 16, 27, 15)] 7 := ⟨⟨by decide +kernel, by decide +kernel, by decide +kernel⟩, (zWi 626 (by decide +kernel) rfl), (zWi 48 (by decide +kernel) rfl), ml_L_76, (zWi 625 (by decide +kernel) rfl)⟩
set_option maxHeartbeats 1000000 in
set_option maxRecDepth 10000 in
theorem lc_template {p : Program} {l : Launch} {e : Env} {s : State} {m : MethodId} {args : Array Value} {below : List Frame} {meth : Method} {c : Code} {D : va_G} {aC : Nat → ClassId} {b0 b L i xa r w sz cells slots : Nat} {Q : State → Prop} {xs : Nat → Int32} {M M1 M2 : ZM} {kc bv tv : Int32} {fs fs1 fs2 : List Value} {g : Nat → Int64} {ls : Array Slot} (C : zC p l s m c D aC b0 RL cL_law 7) (hX : va_X b L xs s s.heap) (hbl : b < s.heap.size) (hbA : b < b0) (hi : i + 6 ≤ L) (hLb : L < 2 ^ 31) (hW : CtW l D aC b0 yL_template cL_template 8 (some .int) [(0, 16, 19, 21), (0, 16, 23, 13), (0, 16, 27, 15)] 4 2 12 [.ref xa, .int (xs (i + 1)), .int (xs (i + 2)), .int (xs (i + 3)), .int (xs (i + 4)), .int (if xs (i + 5) = 0 then 0 else 1), .ref w] M sz (zd (some (.int kc)) M1)) (hR : ∀ sz, Ct l D aC b0 yX9_template cX9_template 9 (some .int) 3 0 0 [.ref r, .int (xs (i + 1)), .int (xs (i + 2)), .int (xs (i + 3)), .int (xs (i + 4)), .int (if xs (i + 5) = 0 then 0 else 1)] M1 sz (zd (some (.int bv)) M2)) (hr1 : M1 r = some (.inr (9, fs1))) (hT : ∀ sz, Ct l D aC b0 yX9_thrown cX9_thrown 1 (some .int) 0 0 0 [.ref r] M2 sz (zd (some (.int tv)) M2)) (hr2 : M2 r = some (.inr (9, fs2))) (hw : M2 w = some (.inl (aC 6, 1, .inr (.inl g)))) (e1 : tv = kc) (e2 : kc = 0 → g (Int32.toNatClampNeg (nI 0)) = bv.toInt64) (hc : cells + 2 ≤ 600002) (hs : slots + 12 ≤ 7302232) (hl : lv_has ls 7 [(0, .ref b), (1, .ref xa), (2, .ref r), (3, .ref w), (4, .int (nI i))]) (kk : ∀ (sz : Nat) (ls : Array Slot), lv_has ls 7 [(0, .ref b), (1, .ref xa), (2, .ref r), (3, .ref w), (4, .int (nI i))] → Z p l e room_1 s m args below meth c D b0 M2 sz (cells + 2) (slots + 12) Q (F0 m 1136 ls [])) : Z p l e room_1 s m args below meth c D b0 M sz cells slots Q (F0 m 287 ls []) := by
  obtain ⟨hx, hb, -, -, -⟩ := id C
  by_cases hz : xs (i + 5) = 0
  · simp only [if_pos hz] at hW hR
    refine zz (fun _ _ => lv_aload_n hx hb dL_law_287 rfl (lv_at hl 1 rfl)) ?_
    refine zz (fun _ _ => lv_aload_n hx hb dL_law_288 rfl (lv_at hl 0 rfl)) ?_
    refine zz (fun _ _ => lv_iload hx hb dL_law_289 (lv_at hl 4 rfl)) ?_
    refine zz (fun _ _ => lv_iconst (v := nI 1) hx hb dL_law_291 (by decide)) ?_
    refine zz (fun _ _ => lv_iadd hx hb dL_law_292) ?_
    refine zval (v' := .int (nI (i + 1))) (congrArg Value.int (nI_addk i 1)) ?_
    refine z_sld C hX hbl hbA (i := i + 1) (by omega) hLb dL_law_293 ?_
    refine zz (fun _ _ => lv_aload_n hx hb dL_law_294 rfl (lv_at hl 0 rfl)) ?_
    refine zz (fun _ _ => lv_iload hx hb dL_law_295 (lv_at hl 4 rfl)) ?_
    refine zz (fun _ _ => lv_iconst (v := nI 2) hx hb dL_law_297 (by decide)) ?_
    refine zz (fun _ _ => lv_iadd hx hb dL_law_298) ?_
    refine zval (v' := .int (nI (i + 2))) (congrArg Value.int (nI_addk i 2)) ?_
    refine z_sld C hX hbl hbA (i := i + 2) (by omega) hLb dL_law_299 ?_
    refine zz (fun _ _ => lv_aload_n hx hb dL_law_300 rfl (lv_at hl 0 rfl)) ?_
    refine zz (fun _ _ => lv_iload hx hb dL_law_301 (lv_at hl 4 rfl)) ?_
    refine zz (fun _ _ => lv_iconst (v := nI 3) hx hb dL_law_303 (by decide)) ?_
    refine zz (fun _ _ => lv_iadd hx hb dL_law_304) ?_
    refine zval (v' := .int (nI (i + 3))) (congrArg Value.int (nI_addk i 3)) ?_
    refine z_sld C hX hbl hbA (i := i + 3) (by omega) hLb dL_law_305 ?_
    refine zz (fun _ _ => lv_aload_n hx hb dL_law_306 rfl (lv_at hl 0 rfl)) ?_
    refine zz (fun _ _ => lv_iload hx hb dL_law_307 (lv_at hl 4 rfl)) ?_
    refine zz (fun _ _ => lv_iconst (v := nI 4) hx hb dL_law_309 (by decide)) ?_
    refine zz (fun _ _ => lv_iadd hx hb dL_law_310) ?_
    refine zval (v' := .int (nI (i + 4))) (congrArg Value.int (nI_addk i 4)) ?_
    refine z_sld C hX hbl hbA (i := i + 4) (by omega) hLb dL_law_311 ?_
    refine zz (fun _ _ => lv_aload_n hx hb dL_law_312 rfl (lv_at hl 0 rfl)) ?_
    refine zz (fun _ _ => lv_iload hx hb dL_law_313 (lv_at hl 4 rfl)) ?_
    refine zz (fun _ _ => lv_iconst (v := nI 5) hx hb dL_law_315 (by decide)) ?_
    refine zz (fun _ _ => lv_iadd hx hb dL_law_316) ?_
    refine zval (v' := .int (nI (i + 5))) (congrArg Value.int (nI_addk i 5)) ?_
    refine z_sld C hX hbl hbA (i := i + 5) (by omega) hLb dL_law_317 ?_
    refine zb (fun _ _ => lv_if_eq (tgt := 325) hx hb dL_law_318 (by decide)) (fun c_1 => ?_) (fun c_1 => ?_)
    rotate_left
    · exact absurd hz c_1
    refine zz (fun _ _ => lv_iconst (v := 0) hx hb dL_law_325 (by decide)) ?_
    refine zz (fun _ _ => lv_aload_n hx hb dL_law_326 rfl (lv_at hl 3 rfl)) ?_
    refine zdSW (As := [.ref xa, .int (xs (i + 1)), .int (xs (i + 2)), .int (xs (i + 3)), .int (xs (i + 4)), .int 0, .ref w]) (rest := []) (st' := [.int kc]) C hl.1 wk_template hW rfl rfl (Nat.le_of_ble_eq_true rfl) ⟨by decide, by decide, by show _ ≤ 600002; omega, by show _ ≤ 7302232; omega⟩ dL_law_327 rfl (fun sz => ?_)
    refine zs (fun _ _ => lv_istore (lv' := [(5, .int kc), (0, .ref b), (1, .ref xa), (2, .ref r), (3, .ref w), (4, .int (nI i))]) hx hb dL_law_330 hl (by decide) rfl) (fun ls hl => ?_)
    refine zz (fun _ _ => lv_aload_n hx hb dL_law_332 rfl (lv_at hl 3 rfl)) ?_
    refine zz (fun _ _ => lv_aload_n hx hb dL_law_333 rfl (lv_at hl 1 rfl)) ?_
    refine zz (fun _ _ => lv_iload hx hb dL_law_334 (lv_at hl 5 rfl)) ?_
    refine zz (fun _ _ => lv_iconst (v := nI 1) hx hb dL_law_336 (by decide)) ?_
    refine zz (fun _ _ => lv_iadd hx hb dL_law_337) ?_
    refine zval (v' := .int (nI (i + 1))) (congrArg Value.int (nI_addk i 1)) ?_
    refine z_sld C hX hbl hbA (i := i + 1) (by omega) hLb dL_law_338 ?_
    refine zz (fun _ _ => lv_aload_n hx hb dL_law_339 rfl (lv_at hl 1 rfl)) ?_
    refine zz (fun _ _ => lv_iload hx hb dL_law_340 (lv_at hl 5 rfl)) ?_
    refine zz (fun _ _ => lv_iconst (v := nI 2) hx hb dL_law_342 (by decide)) ?_
    refine zz (fun _ _ => lv_iadd hx hb dL_law_343) ?_
    refine zval (v' := .int (nI (i + 2))) (congrArg Value.int (nI_addk i 2)) ?_
    refine z_sld C hX hbl hbA (i := i + 2) (by omega) hLb dL_law_344 ?_
    refine zz (fun _ _ => lv_aload_n hx hb dL_law_345 rfl (lv_at hl 1 rfl)) ?_
    refine zz (fun _ _ => lv_iload hx hb dL_law_346 (lv_at hl 5 rfl)) ?_
    refine zz (fun _ _ => lv_iconst (v := nI 3) hx hb dL_law_348 (by decide)) ?_
    refine zz (fun _ _ => lv_iadd hx hb dL_law_349) ?_
    refine zval (v' := .int (nI (i + 3))) (congrArg Value.int (nI_addk i 3)) ?_
    refine z_sld C hX hbl hbA (i := i + 3) (by omega) hLb dL_law_350 ?_
    refine zz (fun _ _ => lv_aload_n hx hb dL_law_351 rfl (lv_at hl 1 rfl)) ?_
    refine zz (fun _ _ => lv_iload hx hb dL_law_352 (lv_at hl 5 rfl)) ?_
    refine zz (fun _ _ => lv_iconst (v := nI 4) hx hb dL_law_354 (by decide)) ?_
    refine zz (fun _ _ => lv_iadd hx hb dL_law_355) ?_
    refine zval (v' := .int (nI (i + 4))) (congrArg Value.int (nI_addk i 4)) ?_
    refine z_sld C hX hbl hbA (i := i + 4) (by omega) hLb dL_law_356 ?_
    refine zz (fun _ _ => lv_aload_n hx hb dL_law_357 rfl (lv_at hl 1 rfl)) ?_
    refine zz (fun _ _ => lv_iload hx hb dL_law_358 (lv_at hl 5 rfl)) ?_
    refine zz (fun _ _ => lv_iconst (v := nI 5) hx hb dL_law_360 (by decide)) ?_
    refine zz (fun _ _ => lv_iadd hx hb dL_law_361) ?_
    refine zval (v' := .int (nI (i + 5))) (congrArg Value.int (nI_addk i 5)) ?_
    refine z_sld C hX hbl hbA (i := i + 5) (by omega) hLb dL_law_362 ?_
    refine zb (fun _ _ => lv_if_eq (tgt := 370) hx hb dL_law_363 (by decide)) (fun c_1 => ?_) (fun c_1 => ?_)
    rotate_left
    · exact absurd hz c_1
    refine zz (fun _ _ => lv_iconst (v := 0) hx hb dL_law_370 (by decide)) ?_
    refine zdV (As := [.int (xs (i + 1)), .int (xs (i + 2)), .int (xs (i + 3)), .int (xs (i + 4)), .int 0]) (rest := []) (st' := [.int bv]) C hl.1 lk_L_79 (hR _) hr1 rfl rfl rfl (Nat.le_of_ble_eq_true rfl) ⟨by decide, by decide, by show _ ≤ 600002; omega, by show _ ≤ 7302232; omega⟩ dL_law_371 rfl (fun sz => ?_)
    refine zs (fun _ _ => lv_istore (lv' := [(6, .int bv), (5, .int kc), (0, .ref b), (1, .ref xa), (2, .ref r), (3, .ref w), (4, .int (nI i))]) hx hb dL_law_374 hl (by decide) rfl) (fun ls hl => ?_)
    refine zz (fun _ _ => lv_aload_n hx hb dL_law_376 rfl (lv_at hl 4 rfl)) ?_
    refine zdV (As := []) (rest := []) (st' := [.int tv]) C hl.1 lk_L_68 (hT _) hr2 rfl rfl rfl (Nat.le_of_ble_eq_true rfl) ⟨by decide, by decide, by show _ ≤ 600002; omega, by show _ ≤ 7302232; omega⟩ dL_law_377 rfl (fun sz => ?_)
    refine zz (fun _ _ => lv_iload hx hb dL_law_380 (lv_at hl 1 rfl)) ?_
    refine zb (fun _ _ => lv_icmp_eq (tgt := 387) hx hb dL_law_382 (by decide)) (fun c_2 => ?_) (fun c_2 => ?_)
    rotate_left
    · exact absurd e1 c_2
    refine zz (fun _ _ => lv_iload hx hb dL_law_387 (lv_at hl 1 rfl)) ?_
    refine zbn (fun _ _ => lv_if_ne (tgt := 404) hx hb dL_law_389 (by decide)) (fun c_3 => ?_) (fun c_3 => ?_)
    · refine zz (fun _ _ => lv_goto (tgt := 1136) hx hb dL_law_404 (by decide)) ?_
      exact kk _ _ (lv_sub hl [2, 3, 4, 5, 6] rfl)
    refine zz (fun _ _ => lv_aload_n hx hb dL_law_392 rfl (lv_at hl 5 rfl)) ?_
    refine zz (fun _ _ => lv_iconst (v := nI 0) hx hb dL_law_393 (by decide)) ?_
    refine z_lald C hw (in_nI (j := 0) rfl (by decide) (by decide)) dL_law_394 ?_
    refine zz (fun _ _ => lv_iload hx hb dL_law_395 (lv_at hl 0 rfl)) ?_
    refine zz (fun _ _ => lv_i2l (v := bv.toInt64) hx hb dL_law_397 rfl) ?_
    refine zz (fun _ _ => lv_lcmp_eq hx hb (e2 c_3) dL_law_398) ?_
    refine zb (fun _ _ => lv_if_eq (tgt := 404) hx hb dL_law_399 (by decide)) (fun _ => ?_) (fun c_4 => absurd rfl c_4)
    refine zz (fun _ _ => lv_goto (tgt := 1136) hx hb dL_law_404 (by decide)) ?_
    exact kk _ _ (lv_sub hl [2, 3, 4, 5, 6] rfl)
  · simp only [if_neg hz] at hW hR
    refine zz (fun _ _ => lv_aload_n hx hb dL_law_287 rfl (lv_at hl 1 rfl)) ?_
    refine zz (fun _ _ => lv_aload_n hx hb dL_law_288 rfl (lv_at hl 0 rfl)) ?_
    refine zz (fun _ _ => lv_iload hx hb dL_law_289 (lv_at hl 4 rfl)) ?_
    refine zz (fun _ _ => lv_iconst (v := nI 1) hx hb dL_law_291 (by decide)) ?_
    refine zz (fun _ _ => lv_iadd hx hb dL_law_292) ?_
    refine zval (v' := .int (nI (i + 1))) (congrArg Value.int (nI_addk i 1)) ?_
    refine z_sld C hX hbl hbA (i := i + 1) (by omega) hLb dL_law_293 ?_
    refine zz (fun _ _ => lv_aload_n hx hb dL_law_294 rfl (lv_at hl 0 rfl)) ?_
    refine zz (fun _ _ => lv_iload hx hb dL_law_295 (lv_at hl 4 rfl)) ?_
    refine zz (fun _ _ => lv_iconst (v := nI 2) hx hb dL_law_297 (by decide)) ?_
    refine zz (fun _ _ => lv_iadd hx hb dL_law_298) ?_
    refine zval (v' := .int (nI (i + 2))) (congrArg Value.int (nI_addk i 2)) ?_
    refine z_sld C hX hbl hbA (i := i + 2) (by omega) hLb dL_law_299 ?_
    refine zz (fun _ _ => lv_aload_n hx hb dL_law_300 rfl (lv_at hl 0 rfl)) ?_
    refine zz (fun _ _ => lv_iload hx hb dL_law_301 (lv_at hl 4 rfl)) ?_
    refine zz (fun _ _ => lv_iconst (v := nI 3) hx hb dL_law_303 (by decide)) ?_
    refine zz (fun _ _ => lv_iadd hx hb dL_law_304) ?_
    refine zval (v' := .int (nI (i + 3))) (congrArg Value.int (nI_addk i 3)) ?_
    refine z_sld C hX hbl hbA (i := i + 3) (by omega) hLb dL_law_305 ?_
    refine zz (fun _ _ => lv_aload_n hx hb dL_law_306 rfl (lv_at hl 0 rfl)) ?_
    refine zz (fun _ _ => lv_iload hx hb dL_law_307 (lv_at hl 4 rfl)) ?_
    refine zz (fun _ _ => lv_iconst (v := nI 4) hx hb dL_law_309 (by decide)) ?_
    refine zz (fun _ _ => lv_iadd hx hb dL_law_310) ?_
    refine zval (v' := .int (nI (i + 4))) (congrArg Value.int (nI_addk i 4)) ?_
    refine z_sld C hX hbl hbA (i := i + 4) (by omega) hLb dL_law_311 ?_
    refine zz (fun _ _ => lv_aload_n hx hb dL_law_312 rfl (lv_at hl 0 rfl)) ?_
    refine zz (fun _ _ => lv_iload hx hb dL_law_313 (lv_at hl 4 rfl)) ?_
    refine zz (fun _ _ => lv_iconst (v := nI 5) hx hb dL_law_315 (by decide)) ?_
    refine zz (fun _ _ => lv_iadd hx hb dL_law_316) ?_
    refine zval (v' := .int (nI (i + 5))) (congrArg Value.int (nI_addk i 5)) ?_
    refine z_sld C hX hbl hbA (i := i + 5) (by omega) hLb dL_law_317 ?_
    refine zb (fun _ _ => lv_if_eq (tgt := 325) hx hb dL_law_318 (by decide)) (fun c_1 => ?_) (fun c_1 => ?_)
    · exact absurd c_1 hz
    refine zz (fun _ _ => lv_iconst (v := 1) hx hb dL_law_321 (by decide)) ?_
    refine zz (fun _ _ => lv_goto (tgt := 326) hx hb dL_law_322 (by decide)) ?_
    refine zz (fun _ _ => lv_aload_n hx hb dL_law_326 rfl (lv_at hl 3 rfl)) ?_
    refine zdSW (As := [.ref xa, .int (xs (i + 1)), .int (xs (i + 2)), .int (xs (i + 3)), .int (xs (i + 4)), .int 1, .ref w]) (rest := []) (st' := [.int kc]) C hl.1 wk_template hW rfl rfl (Nat.le_of_ble_eq_true rfl) ⟨by decide, by decide, by show _ ≤ 600002; omega, by show _ ≤ 7302232; omega⟩ dL_law_327 rfl (fun sz => ?_)
    refine zs (fun _ _ => lv_istore (lv' := [(5, .int kc), (0, .ref b), (1, .ref xa), (2, .ref r), (3, .ref w), (4, .int (nI i))]) hx hb dL_law_330 hl (by decide) rfl) (fun ls hl => ?_)
    refine zz (fun _ _ => lv_aload_n hx hb dL_law_332 rfl (lv_at hl 3 rfl)) ?_
    refine zz (fun _ _ => lv_aload_n hx hb dL_law_333 rfl (lv_at hl 1 rfl)) ?_
    refine zz (fun _ _ => lv_iload hx hb dL_law_334 (lv_at hl 5 rfl)) ?_
    refine zz (fun _ _ => lv_iconst (v := nI 1) hx hb dL_law_336 (by decide)) ?_
    refine zz (fun _ _ => lv_iadd hx hb dL_law_337) ?_
    refine zval (v' := .int (nI (i + 1))) (congrArg Value.int (nI_addk i 1)) ?_
    refine z_sld C hX hbl hbA (i := i + 1) (by omega) hLb dL_law_338 ?_
    refine zz (fun _ _ => lv_aload_n hx hb dL_law_339 rfl (lv_at hl 1 rfl)) ?_
    refine zz (fun _ _ => lv_iload hx hb dL_law_340 (lv_at hl 5 rfl)) ?_
    refine zz (fun _ _ => lv_iconst (v := nI 2) hx hb dL_law_342 (by decide)) ?_
    refine zz (fun _ _ => lv_iadd hx hb dL_law_343) ?_
    refine zval (v' := .int (nI (i + 2))) (congrArg Value.int (nI_addk i 2)) ?_
    refine z_sld C hX hbl hbA (i := i + 2) (by omega) hLb dL_law_344 ?_
    refine zz (fun _ _ => lv_aload_n hx hb dL_law_345 rfl (lv_at hl 1 rfl)) ?_
    refine zz (fun _ _ => lv_iload hx hb dL_law_346 (lv_at hl 5 rfl)) ?_
    refine zz (fun _ _ => lv_iconst (v := nI 3) hx hb dL_law_348 (by decide)) ?_
    refine zz (fun _ _ => lv_iadd hx hb dL_law_349) ?_
    refine zval (v' := .int (nI (i + 3))) (congrArg Value.int (nI_addk i 3)) ?_
    refine z_sld C hX hbl hbA (i := i + 3) (by omega) hLb dL_law_350 ?_
    refine zz (fun _ _ => lv_aload_n hx hb dL_law_351 rfl (lv_at hl 1 rfl)) ?_
    refine zz (fun _ _ => lv_iload hx hb dL_law_352 (lv_at hl 5 rfl)) ?_
    refine zz (fun _ _ => lv_iconst (v := nI 4) hx hb dL_law_354 (by decide)) ?_
    refine zz (fun _ _ => lv_iadd hx hb dL_law_355) ?_
    refine zval (v' := .int (nI (i + 4))) (congrArg Value.int (nI_addk i 4)) ?_
    refine z_sld C hX hbl hbA (i := i + 4) (by omega) hLb dL_law_356 ?_
    refine zz (fun _ _ => lv_aload_n hx hb dL_law_357 rfl (lv_at hl 1 rfl)) ?_
    refine zz (fun _ _ => lv_iload hx hb dL_law_358 (lv_at hl 5 rfl)) ?_
    refine zz (fun _ _ => lv_iconst (v := nI 5) hx hb dL_law_360 (by decide)) ?_
    refine zz (fun _ _ => lv_iadd hx hb dL_law_361) ?_
    refine zval (v' := .int (nI (i + 5))) (congrArg Value.int (nI_addk i 5)) ?_
    refine z_sld C hX hbl hbA (i := i + 5) (by omega) hLb dL_law_362 ?_
    refine zb (fun _ _ => lv_if_eq (tgt := 370) hx hb dL_law_363 (by decide)) (fun c_1 => ?_) (fun c_1 => ?_)
    · exact absurd c_1 hz
    refine zz (fun _ _ => lv_iconst (v := 1) hx hb dL_law_366 (by decide)) ?_
    refine zz (fun _ _ => lv_goto (tgt := 371) hx hb dL_law_367 (by decide)) ?_
    refine zdV (As := [.int (xs (i + 1)), .int (xs (i + 2)), .int (xs (i + 3)), .int (xs (i + 4)), .int 1]) (rest := []) (st' := [.int bv]) C hl.1 lk_L_79 (hR _) hr1 rfl rfl rfl (Nat.le_of_ble_eq_true rfl) ⟨by decide, by decide, by show _ ≤ 600002; omega, by show _ ≤ 7302232; omega⟩ dL_law_371 rfl (fun sz => ?_)
    refine zs (fun _ _ => lv_istore (lv' := [(6, .int bv), (5, .int kc), (0, .ref b), (1, .ref xa), (2, .ref r), (3, .ref w), (4, .int (nI i))]) hx hb dL_law_374 hl (by decide) rfl) (fun ls hl => ?_)
    refine zz (fun _ _ => lv_aload_n hx hb dL_law_376 rfl (lv_at hl 4 rfl)) ?_
    refine zdV (As := []) (rest := []) (st' := [.int tv]) C hl.1 lk_L_68 (hT _) hr2 rfl rfl rfl (Nat.le_of_ble_eq_true rfl) ⟨by decide, by decide, by show _ ≤ 600002; omega, by show _ ≤ 7302232; omega⟩ dL_law_377 rfl (fun sz => ?_)
    refine zz (fun _ _ => lv_iload hx hb dL_law_380 (lv_at hl 1 rfl)) ?_
    refine zb (fun _ _ => lv_icmp_eq (tgt := 387) hx hb dL_law_382 (by decide)) (fun c_2 => ?_) (fun c_2 => ?_)
    rotate_left
    · exact absurd e1 c_2
    refine zz (fun _ _ => lv_iload hx hb dL_law_387 (lv_at hl 1 rfl)) ?_
    refine zbn (fun _ _ => lv_if_ne (tgt := 404) hx hb dL_law_389 (by decide)) (fun c_3 => ?_) (fun c_3 => ?_)
    · refine zz (fun _ _ => lv_goto (tgt := 1136) hx hb dL_law_404 (by decide)) ?_
      exact kk _ _ (lv_sub hl [2, 3, 4, 5, 6] rfl)
    refine zz (fun _ _ => lv_aload_n hx hb dL_law_392 rfl (lv_at hl 5 rfl)) ?_
    refine zz (fun _ _ => lv_iconst (v := nI 0) hx hb dL_law_393 (by decide)) ?_
    refine z_lald C hw (in_nI (j := 0) rfl (by decide) (by decide)) dL_law_394 ?_
    refine zz (fun _ _ => lv_iload hx hb dL_law_395 (lv_at hl 0 rfl)) ?_
    refine zz (fun _ _ => lv_i2l (v := bv.toInt64) hx hb dL_law_397 rfl) ?_
    refine zz (fun _ _ => lv_lcmp_eq hx hb (e2 c_3) dL_law_398) ?_
    refine zb (fun _ _ => lv_if_eq (tgt := 404) hx hb dL_law_399 (by decide)) (fun _ => ?_) (fun c_4 => absurd rfl c_4)
    refine zz (fun _ _ => lv_goto (tgt := 1136) hx hb dL_law_404 (by decide)) ?_
    exact kk _ _ (lv_sub hl [2, 3, 4, 5, 6] rfl)
theorem wk_pattern : zLkW RL 80 yL_pattern cL_pattern 7 (some .int) [(0, 14, 17, 21), (0, 14, 21, 13), (0, 14, 25, 15)] 6 := ⟨⟨by decide +kernel, by decide +kernel, by decide +kernel⟩, (zWi 658 (by decide +kernel) rfl), (zWi 48 (by decide +kernel) rfl), ml_L_80, (zWi 657 (by decide +kernel) rfl)⟩
set_option maxHeartbeats 1000000 in
set_option maxRecDepth 10000 in
theorem lc_pattern {p : Program} {l : Launch} {e : Env} {s : State} {m : MethodId} {args : Array Value} {below : List Frame} {meth : Method} {c : Code} {D : va_G} {aC : Nat → ClassId} {b0 b L i xa r w sz cells slots : Nat} {Q : State → Prop} {xs : Nat → Int32} {M M1 M2 : ZM} {kc bv tv : Int32} {fs fs1 fs2 : List Value} {g : Nat → Int64} {ls : Array Slot} (C : zC p l s m c D aC b0 RL cL_law 7) (hX : va_X b L xs s s.heap) (hbl : b < s.heap.size) (hbA : b < b0) (hi : i + 6 ≤ L) (hLb : L < 2 ^ 31) (hW : CtW l D aC b0 yL_pattern cL_pattern 7 (some .int) [(0, 14, 17, 21), (0, 14, 21, 13), (0, 14, 25, 15)] 3 2 12 [.ref xa, .int (xs (i + 1)), .int (xs (i + 2)), .int (xs (i + 3)), .int (xs (i + 4)), .ref w] M sz (zd (some (.int kc)) M1)) (hR : ∀ sz, Ct l D aC b0 yX9_pattern cX9_pattern 7 (some .int) 3 0 0 [.ref r, .int (xs (i + 1)), .int (xs (i + 2)), .int (xs (i + 3)), .int (xs (i + 4))] M1 sz (zd (some (.int bv)) M2)) (hr1 : M1 r = some (.inr (9, fs1))) (hT : ∀ sz, Ct l D aC b0 yX9_thrown cX9_thrown 1 (some .int) 0 0 0 [.ref r] M2 sz (zd (some (.int tv)) M2)) (hr2 : M2 r = some (.inr (9, fs2))) (hw : M2 w = some (.inl (aC 6, 1, .inr (.inl g)))) (e1 : tv = kc) (e2 : kc = 0 → g (Int32.toNatClampNeg (nI 0)) = bv.toInt64) (hc : cells + 2 ≤ 600002) (hs : slots + 12 ≤ 7302232) (hl : lv_has ls 7 [(0, .ref b), (1, .ref xa), (2, .ref r), (3, .ref w), (4, .int (nI i))]) (kk : ∀ (sz : Nat) (ls : Array Slot), lv_has ls 7 [(0, .ref b), (1, .ref xa), (2, .ref r), (3, .ref w), (4, .int (nI i))] → Z p l e room_1 s m args below meth c D b0 M2 sz (cells + 2) (slots + 12) Q (F0 m 1136 ls [])) : Z p l e room_1 s m args below meth c D b0 M sz cells slots Q (F0 m 407 ls []) := by
  obtain ⟨hx, hb, -, -, -⟩ := id C
  refine zz (fun _ _ => lv_aload_n hx hb dL_law_407 rfl (lv_at hl 1 rfl)) ?_
  refine zz (fun _ _ => lv_aload_n hx hb dL_law_408 rfl (lv_at hl 0 rfl)) ?_
  refine zz (fun _ _ => lv_iload hx hb dL_law_409 (lv_at hl 4 rfl)) ?_
  refine zz (fun _ _ => lv_iconst (v := nI 1) hx hb dL_law_411 (by decide)) ?_
  refine zz (fun _ _ => lv_iadd hx hb dL_law_412) ?_
  refine zval (v' := .int (nI (i + 1))) (congrArg Value.int (nI_addk i 1)) ?_
  refine z_sld C hX hbl hbA (i := i + 1) (by omega) hLb dL_law_413 ?_
  refine zz (fun _ _ => lv_aload_n hx hb dL_law_414 rfl (lv_at hl 0 rfl)) ?_
  refine zz (fun _ _ => lv_iload hx hb dL_law_415 (lv_at hl 4 rfl)) ?_
  refine zz (fun _ _ => lv_iconst (v := nI 2) hx hb dL_law_417 (by decide)) ?_
  refine zz (fun _ _ => lv_iadd hx hb dL_law_418) ?_
  refine zval (v' := .int (nI (i + 2))) (congrArg Value.int (nI_addk i 2)) ?_
  refine z_sld C hX hbl hbA (i := i + 2) (by omega) hLb dL_law_419 ?_
  refine zz (fun _ _ => lv_aload_n hx hb dL_law_420 rfl (lv_at hl 0 rfl)) ?_
  refine zz (fun _ _ => lv_iload hx hb dL_law_421 (lv_at hl 4 rfl)) ?_
  refine zz (fun _ _ => lv_iconst (v := nI 3) hx hb dL_law_423 (by decide)) ?_
  refine zz (fun _ _ => lv_iadd hx hb dL_law_424) ?_
  refine zval (v' := .int (nI (i + 3))) (congrArg Value.int (nI_addk i 3)) ?_
  refine z_sld C hX hbl hbA (i := i + 3) (by omega) hLb dL_law_425 ?_
  refine zz (fun _ _ => lv_aload_n hx hb dL_law_426 rfl (lv_at hl 0 rfl)) ?_
  refine zz (fun _ _ => lv_iload hx hb dL_law_427 (lv_at hl 4 rfl)) ?_
  refine zz (fun _ _ => lv_iconst (v := nI 4) hx hb dL_law_429 (by decide)) ?_
  refine zz (fun _ _ => lv_iadd hx hb dL_law_430) ?_
  refine zval (v' := .int (nI (i + 4))) (congrArg Value.int (nI_addk i 4)) ?_
  refine z_sld C hX hbl hbA (i := i + 4) (by omega) hLb dL_law_431 ?_
  refine zz (fun _ _ => lv_aload_n hx hb dL_law_432 rfl (lv_at hl 3 rfl)) ?_
  refine zdSW (As := [.ref xa, .int (xs (i + 1)), .int (xs (i + 2)), .int (xs (i + 3)), .int (xs (i + 4)), .ref w]) (rest := []) (st' := [.int kc]) C hl.1 wk_pattern hW rfl rfl (Nat.le_of_ble_eq_true rfl) ⟨by decide, by decide, by show _ ≤ 600002; omega, by show _ ≤ 7302232; omega⟩ dL_law_433 rfl (fun sz => ?_)
  refine zs (fun _ _ => lv_istore (lv' := [(5, .int kc), (0, .ref b), (1, .ref xa), (2, .ref r), (3, .ref w), (4, .int (nI i))]) hx hb dL_law_436 hl (by decide) rfl) (fun ls hl => ?_)
  refine zz (fun _ _ => lv_aload_n hx hb dL_law_438 rfl (lv_at hl 3 rfl)) ?_
  refine zz (fun _ _ => lv_aload_n hx hb dL_law_439 rfl (lv_at hl 1 rfl)) ?_
  refine zz (fun _ _ => lv_iload hx hb dL_law_440 (lv_at hl 5 rfl)) ?_
  refine zz (fun _ _ => lv_iconst (v := nI 1) hx hb dL_law_442 (by decide)) ?_
  refine zz (fun _ _ => lv_iadd hx hb dL_law_443) ?_
  refine zval (v' := .int (nI (i + 1))) (congrArg Value.int (nI_addk i 1)) ?_
  refine z_sld C hX hbl hbA (i := i + 1) (by omega) hLb dL_law_444 ?_
  refine zz (fun _ _ => lv_aload_n hx hb dL_law_445 rfl (lv_at hl 1 rfl)) ?_
  refine zz (fun _ _ => lv_iload hx hb dL_law_446 (lv_at hl 5 rfl)) ?_
  refine zz (fun _ _ => lv_iconst (v := nI 2) hx hb dL_law_448 (by decide)) ?_
  refine zz (fun _ _ => lv_iadd hx hb dL_law_449) ?_
  refine zval (v' := .int (nI (i + 2))) (congrArg Value.int (nI_addk i 2)) ?_
  refine z_sld C hX hbl hbA (i := i + 2) (by omega) hLb dL_law_450 ?_
  refine zz (fun _ _ => lv_aload_n hx hb dL_law_451 rfl (lv_at hl 1 rfl)) ?_
  refine zz (fun _ _ => lv_iload hx hb dL_law_452 (lv_at hl 5 rfl)) ?_
  refine zz (fun _ _ => lv_iconst (v := nI 3) hx hb dL_law_454 (by decide)) ?_
  refine zz (fun _ _ => lv_iadd hx hb dL_law_455) ?_
  refine zval (v' := .int (nI (i + 3))) (congrArg Value.int (nI_addk i 3)) ?_
  refine z_sld C hX hbl hbA (i := i + 3) (by omega) hLb dL_law_456 ?_
  refine zz (fun _ _ => lv_aload_n hx hb dL_law_457 rfl (lv_at hl 1 rfl)) ?_
  refine zz (fun _ _ => lv_iload hx hb dL_law_458 (lv_at hl 5 rfl)) ?_
  refine zz (fun _ _ => lv_iconst (v := nI 4) hx hb dL_law_460 (by decide)) ?_
  refine zz (fun _ _ => lv_iadd hx hb dL_law_461) ?_
  refine zval (v' := .int (nI (i + 4))) (congrArg Value.int (nI_addk i 4)) ?_
  refine z_sld C hX hbl hbA (i := i + 4) (by omega) hLb dL_law_462 ?_
  refine zdV (As := [.int (xs (i + 1)), .int (xs (i + 2)), .int (xs (i + 3)), .int (xs (i + 4))]) (rest := []) (st' := [.int bv]) C hl.1 lk_L_83 (hR _) hr1 rfl rfl rfl (Nat.le_of_ble_eq_true rfl) ⟨by decide, by decide, by show _ ≤ 600002; omega, by show _ ≤ 7302232; omega⟩ dL_law_463 rfl (fun sz => ?_)
  refine zs (fun _ _ => lv_istore (lv' := [(6, .int bv), (5, .int kc), (0, .ref b), (1, .ref xa), (2, .ref r), (3, .ref w), (4, .int (nI i))]) hx hb dL_law_466 hl (by decide) rfl) (fun ls hl => ?_)
  refine zz (fun _ _ => lv_aload_n hx hb dL_law_468 rfl (lv_at hl 4 rfl)) ?_
  refine zdV (As := []) (rest := []) (st' := [.int tv]) C hl.1 lk_L_68 (hT _) hr2 rfl rfl rfl (Nat.le_of_ble_eq_true rfl) ⟨by decide, by decide, by show _ ≤ 600002; omega, by show _ ≤ 7302232; omega⟩ dL_law_469 rfl (fun sz => ?_)
  refine zz (fun _ _ => lv_iload hx hb dL_law_472 (lv_at hl 1 rfl)) ?_
  refine zb (fun _ _ => lv_icmp_eq (tgt := 479) hx hb dL_law_474 (by decide)) (fun c_2 => ?_) (fun c_2 => ?_)
  rotate_left
  · exact absurd e1 c_2
  refine zz (fun _ _ => lv_iload hx hb dL_law_479 (lv_at hl 1 rfl)) ?_
  refine zbn (fun _ _ => lv_if_ne (tgt := 496) hx hb dL_law_481 (by decide)) (fun c_3 => ?_) (fun c_3 => ?_)
  · refine zz (fun _ _ => lv_goto (tgt := 1136) hx hb dL_law_496 (by decide)) ?_
    exact kk _ _ (lv_sub hl [2, 3, 4, 5, 6] rfl)
  refine zz (fun _ _ => lv_aload_n hx hb dL_law_484 rfl (lv_at hl 5 rfl)) ?_
  refine zz (fun _ _ => lv_iconst (v := nI 0) hx hb dL_law_485 (by decide)) ?_
  refine z_lald C hw (in_nI (j := 0) rfl (by decide) (by decide)) dL_law_486 ?_
  refine zz (fun _ _ => lv_iload hx hb dL_law_487 (lv_at hl 0 rfl)) ?_
  refine zz (fun _ _ => lv_i2l (v := bv.toInt64) hx hb dL_law_489 rfl) ?_
  refine zz (fun _ _ => lv_lcmp_eq hx hb (e2 c_3) dL_law_490) ?_
  refine zb (fun _ _ => lv_if_eq (tgt := 496) hx hb dL_law_491 (by decide)) (fun _ => ?_) (fun c_4 => absurd rfl c_4)
  refine zz (fun _ _ => lv_goto (tgt := 1136) hx hb dL_law_496 (by decide)) ?_
  exact kk _ _ (lv_sub hl [2, 3, 4, 5, 6] rfl)
theorem wk_file : zLkW RL 84 yL_file cL_file 7 (some .int) [(0, 14, 17, 21), (0, 14, 21, 13), (0, 14, 25, 15)] 6 := ⟨⟨by decide +kernel, by decide +kernel, by decide +kernel⟩, (zWi 671 (by decide +kernel) rfl), (zWi 48 (by decide +kernel) rfl), ml_L_84, (zWi 670 (by decide +kernel) rfl)⟩
set_option maxHeartbeats 1000000 in
set_option maxRecDepth 10000 in
theorem lc_file {p : Program} {l : Launch} {e : Env} {s : State} {m : MethodId} {args : Array Value} {below : List Frame} {meth : Method} {c : Code} {D : va_G} {aC : Nat → ClassId} {b0 b L i xa r w sz cells slots : Nat} {Q : State → Prop} {xs : Nat → Int32} {M M1 M2 : ZM} {kc bv tv : Int32} {fs fs1 fs2 : List Value} {g : Nat → Int64} {ls : Array Slot} (C : zC p l s m c D aC b0 RL cL_law 7) (hX : va_X b L xs s s.heap) (hbl : b < s.heap.size) (hbA : b < b0) (hi : i + 6 ≤ L) (hLb : L < 2 ^ 31) (hW : CtW l D aC b0 yL_file cL_file 7 (some .int) [(0, 14, 17, 21), (0, 14, 21, 13), (0, 14, 25, 15)] 3 2 12 [.ref xa, .int (xs (i + 1)), .int (xs (i + 2)), .int (xs (i + 3)), .int (xs (i + 4)), .ref w] M sz (zd (some (.int kc)) M1)) (hR : ∀ sz, Ct l D aC b0 yX9_file cX9_file 6 (some .int) 2 0 0 [.ref r, .int (xs (i + 1)), .int (xs (i + 2)), .int (xs (i + 3)), .int (xs (i + 4))] M1 sz (zd (some (.int bv)) M2)) (hr1 : M1 r = some (.inr (9, fs1))) (hT : ∀ sz, Ct l D aC b0 yX9_thrown cX9_thrown 1 (some .int) 0 0 0 [.ref r] M2 sz (zd (some (.int tv)) M2)) (hr2 : M2 r = some (.inr (9, fs2))) (hw : M2 w = some (.inl (aC 6, 1, .inr (.inl g)))) (e1 : tv = kc) (e2 : kc = 0 → g (Int32.toNatClampNeg (nI 0)) = bv.toInt64) (hc : cells + 2 ≤ 600002) (hs : slots + 12 ≤ 7302232) (hl : lv_has ls 7 [(0, .ref b), (1, .ref xa), (2, .ref r), (3, .ref w), (4, .int (nI i))]) (kk : ∀ (sz : Nat) (ls : Array Slot), lv_has ls 7 [(0, .ref b), (1, .ref xa), (2, .ref r), (3, .ref w), (4, .int (nI i))] → Z p l e room_1 s m args below meth c D b0 M2 sz (cells + 2) (slots + 12) Q (F0 m 1136 ls [])) : Z p l e room_1 s m args below meth c D b0 M sz cells slots Q (F0 m 499 ls []) := by
  obtain ⟨hx, hb, -, -, -⟩ := id C
  refine zz (fun _ _ => lv_aload_n hx hb dL_law_499 rfl (lv_at hl 1 rfl)) ?_
  refine zz (fun _ _ => lv_aload_n hx hb dL_law_500 rfl (lv_at hl 0 rfl)) ?_
  refine zz (fun _ _ => lv_iload hx hb dL_law_501 (lv_at hl 4 rfl)) ?_
  refine zz (fun _ _ => lv_iconst (v := nI 1) hx hb dL_law_503 (by decide)) ?_
  refine zz (fun _ _ => lv_iadd hx hb dL_law_504) ?_
  refine zval (v' := .int (nI (i + 1))) (congrArg Value.int (nI_addk i 1)) ?_
  refine z_sld C hX hbl hbA (i := i + 1) (by omega) hLb dL_law_505 ?_
  refine zz (fun _ _ => lv_aload_n hx hb dL_law_506 rfl (lv_at hl 0 rfl)) ?_
  refine zz (fun _ _ => lv_iload hx hb dL_law_507 (lv_at hl 4 rfl)) ?_
  refine zz (fun _ _ => lv_iconst (v := nI 2) hx hb dL_law_509 (by decide)) ?_
  refine zz (fun _ _ => lv_iadd hx hb dL_law_510) ?_
  refine zval (v' := .int (nI (i + 2))) (congrArg Value.int (nI_addk i 2)) ?_
  refine z_sld C hX hbl hbA (i := i + 2) (by omega) hLb dL_law_511 ?_
  refine zz (fun _ _ => lv_aload_n hx hb dL_law_512 rfl (lv_at hl 0 rfl)) ?_
  refine zz (fun _ _ => lv_iload hx hb dL_law_513 (lv_at hl 4 rfl)) ?_
  refine zz (fun _ _ => lv_iconst (v := nI 3) hx hb dL_law_515 (by decide)) ?_
  refine zz (fun _ _ => lv_iadd hx hb dL_law_516) ?_
  refine zval (v' := .int (nI (i + 3))) (congrArg Value.int (nI_addk i 3)) ?_
  refine z_sld C hX hbl hbA (i := i + 3) (by omega) hLb dL_law_517 ?_
  refine zz (fun _ _ => lv_aload_n hx hb dL_law_518 rfl (lv_at hl 0 rfl)) ?_
  refine zz (fun _ _ => lv_iload hx hb dL_law_519 (lv_at hl 4 rfl)) ?_
  refine zz (fun _ _ => lv_iconst (v := nI 4) hx hb dL_law_521 (by decide)) ?_
  refine zz (fun _ _ => lv_iadd hx hb dL_law_522) ?_
  refine zval (v' := .int (nI (i + 4))) (congrArg Value.int (nI_addk i 4)) ?_
  refine z_sld C hX hbl hbA (i := i + 4) (by omega) hLb dL_law_523 ?_
  refine zz (fun _ _ => lv_aload_n hx hb dL_law_524 rfl (lv_at hl 3 rfl)) ?_
  refine zdSW (As := [.ref xa, .int (xs (i + 1)), .int (xs (i + 2)), .int (xs (i + 3)), .int (xs (i + 4)), .ref w]) (rest := []) (st' := [.int kc]) C hl.1 wk_file hW rfl rfl (Nat.le_of_ble_eq_true rfl) ⟨by decide, by decide, by show _ ≤ 600002; omega, by show _ ≤ 7302232; omega⟩ dL_law_525 rfl (fun sz => ?_)
  refine zs (fun _ _ => lv_istore (lv' := [(5, .int kc), (0, .ref b), (1, .ref xa), (2, .ref r), (3, .ref w), (4, .int (nI i))]) hx hb dL_law_528 hl (by decide) rfl) (fun ls hl => ?_)
  refine zz (fun _ _ => lv_aload_n hx hb dL_law_530 rfl (lv_at hl 3 rfl)) ?_
  refine zz (fun _ _ => lv_aload_n hx hb dL_law_531 rfl (lv_at hl 1 rfl)) ?_
  refine zz (fun _ _ => lv_iload hx hb dL_law_532 (lv_at hl 5 rfl)) ?_
  refine zz (fun _ _ => lv_iconst (v := nI 1) hx hb dL_law_534 (by decide)) ?_
  refine zz (fun _ _ => lv_iadd hx hb dL_law_535) ?_
  refine zval (v' := .int (nI (i + 1))) (congrArg Value.int (nI_addk i 1)) ?_
  refine z_sld C hX hbl hbA (i := i + 1) (by omega) hLb dL_law_536 ?_
  refine zz (fun _ _ => lv_aload_n hx hb dL_law_537 rfl (lv_at hl 1 rfl)) ?_
  refine zz (fun _ _ => lv_iload hx hb dL_law_538 (lv_at hl 5 rfl)) ?_
  refine zz (fun _ _ => lv_iconst (v := nI 2) hx hb dL_law_540 (by decide)) ?_
  refine zz (fun _ _ => lv_iadd hx hb dL_law_541) ?_
  refine zval (v' := .int (nI (i + 2))) (congrArg Value.int (nI_addk i 2)) ?_
  refine z_sld C hX hbl hbA (i := i + 2) (by omega) hLb dL_law_542 ?_
  refine zz (fun _ _ => lv_aload_n hx hb dL_law_543 rfl (lv_at hl 1 rfl)) ?_
  refine zz (fun _ _ => lv_iload hx hb dL_law_544 (lv_at hl 5 rfl)) ?_
  refine zz (fun _ _ => lv_iconst (v := nI 3) hx hb dL_law_546 (by decide)) ?_
  refine zz (fun _ _ => lv_iadd hx hb dL_law_547) ?_
  refine zval (v' := .int (nI (i + 3))) (congrArg Value.int (nI_addk i 3)) ?_
  refine z_sld C hX hbl hbA (i := i + 3) (by omega) hLb dL_law_548 ?_
  refine zz (fun _ _ => lv_aload_n hx hb dL_law_549 rfl (lv_at hl 1 rfl)) ?_
  refine zz (fun _ _ => lv_iload hx hb dL_law_550 (lv_at hl 5 rfl)) ?_
  refine zz (fun _ _ => lv_iconst (v := nI 4) hx hb dL_law_552 (by decide)) ?_
  refine zz (fun _ _ => lv_iadd hx hb dL_law_553) ?_
  refine zval (v' := .int (nI (i + 4))) (congrArg Value.int (nI_addk i 4)) ?_
  refine z_sld C hX hbl hbA (i := i + 4) (by omega) hLb dL_law_554 ?_
  refine zdV (As := [.int (xs (i + 1)), .int (xs (i + 2)), .int (xs (i + 3)), .int (xs (i + 4))]) (rest := []) (st' := [.int bv]) C hl.1 lk_L_86 (hR _) hr1 rfl rfl rfl (Nat.le_of_ble_eq_true rfl) ⟨by decide, by decide, by show _ ≤ 600002; omega, by show _ ≤ 7302232; omega⟩ dL_law_555 rfl (fun sz => ?_)
  refine zs (fun _ _ => lv_istore (lv' := [(6, .int bv), (5, .int kc), (0, .ref b), (1, .ref xa), (2, .ref r), (3, .ref w), (4, .int (nI i))]) hx hb dL_law_558 hl (by decide) rfl) (fun ls hl => ?_)
  refine zz (fun _ _ => lv_aload_n hx hb dL_law_560 rfl (lv_at hl 4 rfl)) ?_
  refine zdV (As := []) (rest := []) (st' := [.int tv]) C hl.1 lk_L_68 (hT _) hr2 rfl rfl rfl (Nat.le_of_ble_eq_true rfl) ⟨by decide, by decide, by show _ ≤ 600002; omega, by show _ ≤ 7302232; omega⟩ dL_law_561 rfl (fun sz => ?_)
  refine zz (fun _ _ => lv_iload hx hb dL_law_564 (lv_at hl 1 rfl)) ?_
  refine zb (fun _ _ => lv_icmp_eq (tgt := 571) hx hb dL_law_566 (by decide)) (fun c_2 => ?_) (fun c_2 => ?_)
  rotate_left
  · exact absurd e1 c_2
  refine zz (fun _ _ => lv_iload hx hb dL_law_571 (lv_at hl 1 rfl)) ?_
  refine zbn (fun _ _ => lv_if_ne (tgt := 588) hx hb dL_law_573 (by decide)) (fun c_3 => ?_) (fun c_3 => ?_)
  · refine zz (fun _ _ => lv_goto (tgt := 1136) hx hb dL_law_588 (by decide)) ?_
    exact kk _ _ (lv_sub hl [2, 3, 4, 5, 6] rfl)
  refine zz (fun _ _ => lv_aload_n hx hb dL_law_576 rfl (lv_at hl 5 rfl)) ?_
  refine zz (fun _ _ => lv_iconst (v := nI 0) hx hb dL_law_577 (by decide)) ?_
  refine z_lald C hw (in_nI (j := 0) rfl (by decide) (by decide)) dL_law_578 ?_
  refine zz (fun _ _ => lv_iload hx hb dL_law_579 (lv_at hl 0 rfl)) ?_
  refine zz (fun _ _ => lv_i2l (v := bv.toInt64) hx hb dL_law_581 rfl) ?_
  refine zz (fun _ _ => lv_lcmp_eq hx hb (e2 c_3) dL_law_582) ?_
  refine zb (fun _ _ => lv_if_eq (tgt := 588) hx hb dL_law_583 (by decide)) (fun _ => ?_) (fun c_4 => absurd rfl c_4)
  refine zz (fun _ _ => lv_goto (tgt := 1136) hx hb dL_law_588 (by decide)) ?_
  exact kk _ _ (lv_sub hl [2, 3, 4, 5, 6] rfl)
theorem wk_torn : zLkW RL 87 yL_torn cL_torn 5 (some .int) [(0, 17, 20, 21)] 4 := ⟨⟨by decide +kernel, by decide +kernel, by decide +kernel⟩, (zWi 685 (by decide +kernel) rfl), (zWi 48 (by decide +kernel) rfl), ml_L_87, (zWi 684 (by decide +kernel) rfl)⟩
set_option maxHeartbeats 1000000 in
set_option maxRecDepth 10000 in
theorem lc_torn {p : Program} {l : Launch} {e : Env} {s : State} {m : MethodId} {args : Array Value} {below : List Frame} {meth : Method} {c : Code} {D : va_G} {aC : Nat → ClassId} {b0 b L i xa r w sz cells slots : Nat} {Q : State → Prop} {xs : Nat → Int32} {M M1 M2 : ZM} {kc bv tv : Int32} {fs fs1 fs2 : List Value} {g : Nat → Int64} {ls : Array Slot} (C : zC p l s m c D aC b0 RL cL_law 7) (hX : va_X b L xs s s.heap) (hbl : b < s.heap.size) (hbA : b < b0) (hi : i + 6 ≤ L) (hLb : L < 2 ^ 31) (hW : CtW l D aC b0 yL_torn cL_torn 5 (some .int) [(0, 17, 20, 21)] 2 1 6 [.ref xa, .int (xs (i + 1)), .int (if xs (i + 2) = 0 then 0 else 1), .ref w] M sz (zd (some (.int kc)) M1)) (hR : ∀ sz, Ct l D aC b0 yX9_torn cX9_torn 4 (some .boolean) 1 0 0 [.ref r, .int (xs (i + 1)), .int (if xs (i + 2) = 0 then 0 else 1)] M1 sz (zd (some (.int bv)) M2)) (hr1 : M1 r = some (.inr (9, fs1))) (hT : ∀ sz, Ct l D aC b0 yX9_thrown cX9_thrown 1 (some .int) 0 0 0 [.ref r] M2 sz (zd (some (.int tv)) M2)) (hr2 : M2 r = some (.inr (9, fs2))) (hw : M2 w = some (.inl (aC 6, 1, .inr (.inl g)))) (e1 : tv = kc) (e2 : kc = 0 → g (Int32.toNatClampNeg (nI 0)) = (if bv = 0 then 0 else 1)) (hc : cells + 2 ≤ 600002) (hs : slots + 12 ≤ 7302232) (hl : lv_has ls 7 [(0, .ref b), (1, .ref xa), (2, .ref r), (3, .ref w), (4, .int (nI i))]) (kk : ∀ (sz : Nat) (ls : Array Slot), lv_has ls 7 [(0, .ref b), (1, .ref xa), (2, .ref r), (3, .ref w), (4, .int (nI i))] → Z p l e room_1 s m args below meth c D b0 M2 sz (cells + 1) (slots + 6) Q (F0 m 1136 ls [])) : Z p l e room_1 s m args below meth c D b0 M sz cells slots Q (F0 m 591 ls []) := by
  obtain ⟨hx, hb, -, -, -⟩ := id C
  by_cases hz : xs (i + 2) = 0
  · simp only [if_pos hz] at hW hR
    refine zz (fun _ _ => lv_aload_n hx hb dL_law_591 rfl (lv_at hl 1 rfl)) ?_
    refine zz (fun _ _ => lv_aload_n hx hb dL_law_592 rfl (lv_at hl 0 rfl)) ?_
    refine zz (fun _ _ => lv_iload hx hb dL_law_593 (lv_at hl 4 rfl)) ?_
    refine zz (fun _ _ => lv_iconst (v := nI 1) hx hb dL_law_595 (by decide)) ?_
    refine zz (fun _ _ => lv_iadd hx hb dL_law_596) ?_
    refine zval (v' := .int (nI (i + 1))) (congrArg Value.int (nI_addk i 1)) ?_
    refine z_sld C hX hbl hbA (i := i + 1) (by omega) hLb dL_law_597 ?_
    refine zz (fun _ _ => lv_aload_n hx hb dL_law_598 rfl (lv_at hl 0 rfl)) ?_
    refine zz (fun _ _ => lv_iload hx hb dL_law_599 (lv_at hl 4 rfl)) ?_
    refine zz (fun _ _ => lv_iconst (v := nI 2) hx hb dL_law_601 (by decide)) ?_
    refine zz (fun _ _ => lv_iadd hx hb dL_law_602) ?_
    refine zval (v' := .int (nI (i + 2))) (congrArg Value.int (nI_addk i 2)) ?_
    refine z_sld C hX hbl hbA (i := i + 2) (by omega) hLb dL_law_603 ?_
    refine zb (fun _ _ => lv_if_eq (tgt := 611) hx hb dL_law_604 (by decide)) (fun c_1 => ?_) (fun c_1 => ?_)
    rotate_left
    · exact absurd hz c_1
    refine zz (fun _ _ => lv_iconst (v := 0) hx hb dL_law_611 (by decide)) ?_
    refine zz (fun _ _ => lv_aload_n hx hb dL_law_612 rfl (lv_at hl 3 rfl)) ?_
    refine zdSW (As := [.ref xa, .int (xs (i + 1)), .int 0, .ref w]) (rest := []) (st' := [.int kc]) C hl.1 wk_torn hW rfl rfl (Nat.le_of_ble_eq_true rfl) ⟨by decide, by decide, by show _ ≤ 600002; omega, by show _ ≤ 7302232; omega⟩ dL_law_613 rfl (fun sz => ?_)
    refine zs (fun _ _ => lv_istore (lv' := [(5, .int kc), (0, .ref b), (1, .ref xa), (2, .ref r), (3, .ref w), (4, .int (nI i))]) hx hb dL_law_616 hl (by decide) rfl) (fun ls hl => ?_)
    refine zz (fun _ _ => lv_aload_n hx hb dL_law_618 rfl (lv_at hl 3 rfl)) ?_
    refine zz (fun _ _ => lv_aload_n hx hb dL_law_619 rfl (lv_at hl 1 rfl)) ?_
    refine zz (fun _ _ => lv_iload hx hb dL_law_620 (lv_at hl 5 rfl)) ?_
    refine zz (fun _ _ => lv_iconst (v := nI 1) hx hb dL_law_622 (by decide)) ?_
    refine zz (fun _ _ => lv_iadd hx hb dL_law_623) ?_
    refine zval (v' := .int (nI (i + 1))) (congrArg Value.int (nI_addk i 1)) ?_
    refine z_sld C hX hbl hbA (i := i + 1) (by omega) hLb dL_law_624 ?_
    refine zz (fun _ _ => lv_aload_n hx hb dL_law_625 rfl (lv_at hl 1 rfl)) ?_
    refine zz (fun _ _ => lv_iload hx hb dL_law_626 (lv_at hl 5 rfl)) ?_
    refine zz (fun _ _ => lv_iconst (v := nI 2) hx hb dL_law_628 (by decide)) ?_
    refine zz (fun _ _ => lv_iadd hx hb dL_law_629) ?_
    refine zval (v' := .int (nI (i + 2))) (congrArg Value.int (nI_addk i 2)) ?_
    refine z_sld C hX hbl hbA (i := i + 2) (by omega) hLb dL_law_630 ?_
    refine zb (fun _ _ => lv_if_eq (tgt := 638) hx hb dL_law_631 (by decide)) (fun c_1 => ?_) (fun c_1 => ?_)
    rotate_left
    · exact absurd hz c_1
    refine zz (fun _ _ => lv_iconst (v := 0) hx hb dL_law_638 (by decide)) ?_
    refine zdV (As := [.int (xs (i + 1)), .int 0]) (rest := []) (st' := [.int bv]) C hl.1 lk_L_89 (hR _) hr1 rfl rfl rfl (Nat.le_of_ble_eq_true rfl) ⟨by decide, by decide, by show _ ≤ 600002; omega, by show _ ≤ 7302232; omega⟩ dL_law_639 rfl (fun sz => ?_)
    refine zs (fun _ _ => lv_istore (lv' := [(6, .int bv), (5, .int kc), (0, .ref b), (1, .ref xa), (2, .ref r), (3, .ref w), (4, .int (nI i))]) hx hb dL_law_642 hl (by decide) rfl) (fun ls hl => ?_)
    refine zz (fun _ _ => lv_aload_n hx hb dL_law_644 rfl (lv_at hl 4 rfl)) ?_
    refine zdV (As := []) (rest := []) (st' := [.int tv]) C hl.1 lk_L_68 (hT _) hr2 rfl rfl rfl (Nat.le_of_ble_eq_true rfl) ⟨by decide, by decide, by show _ ≤ 600002; omega, by show _ ≤ 7302232; omega⟩ dL_law_645 rfl (fun sz => ?_)
    refine zz (fun _ _ => lv_iload hx hb dL_law_648 (lv_at hl 1 rfl)) ?_
    refine zb (fun _ _ => lv_icmp_eq (tgt := 655) hx hb dL_law_650 (by decide)) (fun c_2 => ?_) (fun c_2 => ?_)
    rotate_left
    · exact absurd e1 c_2
    refine zz (fun _ _ => lv_iload hx hb dL_law_655 (lv_at hl 1 rfl)) ?_
    refine zbn (fun _ _ => lv_if_ne (tgt := 679) hx hb dL_law_657 (by decide)) (fun c_3 => ?_) (fun c_3 => ?_)
    · refine zz (fun _ _ => lv_goto (tgt := 1136) hx hb dL_law_679 (by decide)) ?_
      exact kk _ _ (lv_sub hl [2, 3, 4, 5, 6] rfl)
    refine zz (fun _ _ => lv_aload_n hx hb dL_law_660 rfl (lv_at hl 5 rfl)) ?_
    refine zz (fun _ _ => lv_iconst (v := nI 0) hx hb dL_law_661 (by decide)) ?_
    refine z_lald C hw (in_nI (j := 0) rfl (by decide) (by decide)) dL_law_662 ?_
    refine zz (fun _ _ => lv_iload hx hb dL_law_663 (lv_at hl 0 rfl)) ?_
    refine zb (fun _ _ => lv_if_eq (tgt := 672) hx hb dL_law_665 (by decide)) (fun c_5 => ?_) (fun c_5 => ?_)
    · refine zz (fun _ _ => lv_lconst (v := 0) hx hb dL_law_672 (by decide)) ?_
      refine zz (fun _ _ => lv_lcmp_eq hx hb (by rw [e2 c_3, if_pos c_5]) dL_law_673) ?_
      refine zb (fun _ _ => lv_if_eq (tgt := 679) hx hb dL_law_674 (by decide)) (fun _ => ?_) (fun c_4 => absurd rfl c_4)
      refine zz (fun _ _ => lv_goto (tgt := 1136) hx hb dL_law_679 (by decide)) ?_
      exact kk _ _ (lv_sub hl [2, 3, 4, 5, 6] rfl)
    · refine zz (fun _ _ => lv_lconst (v := 1) hx hb dL_law_668 (by decide)) ?_
      refine zz (fun _ _ => lv_goto (tgt := 673) hx hb dL_law_669 (by decide)) ?_
      refine zz (fun _ _ => lv_lcmp_eq hx hb (by rw [e2 c_3, if_neg c_5]) dL_law_673) ?_
      refine zb (fun _ _ => lv_if_eq (tgt := 679) hx hb dL_law_674 (by decide)) (fun _ => ?_) (fun c_4 => absurd rfl c_4)
      refine zz (fun _ _ => lv_goto (tgt := 1136) hx hb dL_law_679 (by decide)) ?_
      exact kk _ _ (lv_sub hl [2, 3, 4, 5, 6] rfl)
  · simp only [if_neg hz] at hW hR
    refine zz (fun _ _ => lv_aload_n hx hb dL_law_591 rfl (lv_at hl 1 rfl)) ?_
    refine zz (fun _ _ => lv_aload_n hx hb dL_law_592 rfl (lv_at hl 0 rfl)) ?_
    refine zz (fun _ _ => lv_iload hx hb dL_law_593 (lv_at hl 4 rfl)) ?_
    refine zz (fun _ _ => lv_iconst (v := nI 1) hx hb dL_law_595 (by decide)) ?_
    refine zz (fun _ _ => lv_iadd hx hb dL_law_596) ?_
    refine zval (v' := .int (nI (i + 1))) (congrArg Value.int (nI_addk i 1)) ?_
    refine z_sld C hX hbl hbA (i := i + 1) (by omega) hLb dL_law_597 ?_
    refine zz (fun _ _ => lv_aload_n hx hb dL_law_598 rfl (lv_at hl 0 rfl)) ?_
    refine zz (fun _ _ => lv_iload hx hb dL_law_599 (lv_at hl 4 rfl)) ?_
    refine zz (fun _ _ => lv_iconst (v := nI 2) hx hb dL_law_601 (by decide)) ?_
    refine zz (fun _ _ => lv_iadd hx hb dL_law_602) ?_
    refine zval (v' := .int (nI (i + 2))) (congrArg Value.int (nI_addk i 2)) ?_
    refine z_sld C hX hbl hbA (i := i + 2) (by omega) hLb dL_law_603 ?_
    refine zb (fun _ _ => lv_if_eq (tgt := 611) hx hb dL_law_604 (by decide)) (fun c_1 => ?_) (fun c_1 => ?_)
    · exact absurd c_1 hz
    refine zz (fun _ _ => lv_iconst (v := 1) hx hb dL_law_607 (by decide)) ?_
    refine zz (fun _ _ => lv_goto (tgt := 612) hx hb dL_law_608 (by decide)) ?_
    refine zz (fun _ _ => lv_aload_n hx hb dL_law_612 rfl (lv_at hl 3 rfl)) ?_
    refine zdSW (As := [.ref xa, .int (xs (i + 1)), .int 1, .ref w]) (rest := []) (st' := [.int kc]) C hl.1 wk_torn hW rfl rfl (Nat.le_of_ble_eq_true rfl) ⟨by decide, by decide, by show _ ≤ 600002; omega, by show _ ≤ 7302232; omega⟩ dL_law_613 rfl (fun sz => ?_)
    refine zs (fun _ _ => lv_istore (lv' := [(5, .int kc), (0, .ref b), (1, .ref xa), (2, .ref r), (3, .ref w), (4, .int (nI i))]) hx hb dL_law_616 hl (by decide) rfl) (fun ls hl => ?_)
    refine zz (fun _ _ => lv_aload_n hx hb dL_law_618 rfl (lv_at hl 3 rfl)) ?_
    refine zz (fun _ _ => lv_aload_n hx hb dL_law_619 rfl (lv_at hl 1 rfl)) ?_
    refine zz (fun _ _ => lv_iload hx hb dL_law_620 (lv_at hl 5 rfl)) ?_
    refine zz (fun _ _ => lv_iconst (v := nI 1) hx hb dL_law_622 (by decide)) ?_
    refine zz (fun _ _ => lv_iadd hx hb dL_law_623) ?_
    refine zval (v' := .int (nI (i + 1))) (congrArg Value.int (nI_addk i 1)) ?_
    refine z_sld C hX hbl hbA (i := i + 1) (by omega) hLb dL_law_624 ?_
    refine zz (fun _ _ => lv_aload_n hx hb dL_law_625 rfl (lv_at hl 1 rfl)) ?_
    refine zz (fun _ _ => lv_iload hx hb dL_law_626 (lv_at hl 5 rfl)) ?_
    refine zz (fun _ _ => lv_iconst (v := nI 2) hx hb dL_law_628 (by decide)) ?_
    refine zz (fun _ _ => lv_iadd hx hb dL_law_629) ?_
    refine zval (v' := .int (nI (i + 2))) (congrArg Value.int (nI_addk i 2)) ?_
    refine z_sld C hX hbl hbA (i := i + 2) (by omega) hLb dL_law_630 ?_
    refine zb (fun _ _ => lv_if_eq (tgt := 638) hx hb dL_law_631 (by decide)) (fun c_1 => ?_) (fun c_1 => ?_)
    · exact absurd c_1 hz
    refine zz (fun _ _ => lv_iconst (v := 1) hx hb dL_law_634 (by decide)) ?_
    refine zz (fun _ _ => lv_goto (tgt := 639) hx hb dL_law_635 (by decide)) ?_
    refine zdV (As := [.int (xs (i + 1)), .int 1]) (rest := []) (st' := [.int bv]) C hl.1 lk_L_89 (hR _) hr1 rfl rfl rfl (Nat.le_of_ble_eq_true rfl) ⟨by decide, by decide, by show _ ≤ 600002; omega, by show _ ≤ 7302232; omega⟩ dL_law_639 rfl (fun sz => ?_)
    refine zs (fun _ _ => lv_istore (lv' := [(6, .int bv), (5, .int kc), (0, .ref b), (1, .ref xa), (2, .ref r), (3, .ref w), (4, .int (nI i))]) hx hb dL_law_642 hl (by decide) rfl) (fun ls hl => ?_)
    refine zz (fun _ _ => lv_aload_n hx hb dL_law_644 rfl (lv_at hl 4 rfl)) ?_
    refine zdV (As := []) (rest := []) (st' := [.int tv]) C hl.1 lk_L_68 (hT _) hr2 rfl rfl rfl (Nat.le_of_ble_eq_true rfl) ⟨by decide, by decide, by show _ ≤ 600002; omega, by show _ ≤ 7302232; omega⟩ dL_law_645 rfl (fun sz => ?_)
    refine zz (fun _ _ => lv_iload hx hb dL_law_648 (lv_at hl 1 rfl)) ?_
    refine zb (fun _ _ => lv_icmp_eq (tgt := 655) hx hb dL_law_650 (by decide)) (fun c_2 => ?_) (fun c_2 => ?_)
    rotate_left
    · exact absurd e1 c_2
    refine zz (fun _ _ => lv_iload hx hb dL_law_655 (lv_at hl 1 rfl)) ?_
    refine zbn (fun _ _ => lv_if_ne (tgt := 679) hx hb dL_law_657 (by decide)) (fun c_3 => ?_) (fun c_3 => ?_)
    · refine zz (fun _ _ => lv_goto (tgt := 1136) hx hb dL_law_679 (by decide)) ?_
      exact kk _ _ (lv_sub hl [2, 3, 4, 5, 6] rfl)
    refine zz (fun _ _ => lv_aload_n hx hb dL_law_660 rfl (lv_at hl 5 rfl)) ?_
    refine zz (fun _ _ => lv_iconst (v := nI 0) hx hb dL_law_661 (by decide)) ?_
    refine z_lald C hw (in_nI (j := 0) rfl (by decide) (by decide)) dL_law_662 ?_
    refine zz (fun _ _ => lv_iload hx hb dL_law_663 (lv_at hl 0 rfl)) ?_
    refine zb (fun _ _ => lv_if_eq (tgt := 672) hx hb dL_law_665 (by decide)) (fun c_5 => ?_) (fun c_5 => ?_)
    · refine zz (fun _ _ => lv_lconst (v := 0) hx hb dL_law_672 (by decide)) ?_
      refine zz (fun _ _ => lv_lcmp_eq hx hb (by rw [e2 c_3, if_pos c_5]) dL_law_673) ?_
      refine zb (fun _ _ => lv_if_eq (tgt := 679) hx hb dL_law_674 (by decide)) (fun _ => ?_) (fun c_4 => absurd rfl c_4)
      refine zz (fun _ _ => lv_goto (tgt := 1136) hx hb dL_law_679 (by decide)) ?_
      exact kk _ _ (lv_sub hl [2, 3, 4, 5, 6] rfl)
    · refine zz (fun _ _ => lv_lconst (v := 1) hx hb dL_law_668 (by decide)) ?_
      refine zz (fun _ _ => lv_goto (tgt := 673) hx hb dL_law_669 (by decide)) ?_
      refine zz (fun _ _ => lv_lcmp_eq hx hb (by rw [e2 c_3, if_neg c_5]) dL_law_673) ?_
      refine zb (fun _ _ => lv_if_eq (tgt := 679) hx hb dL_law_674 (by decide)) (fun _ => ?_) (fun c_4 => absurd rfl c_4)
      refine zz (fun _ _ => lv_goto (tgt := 1136) hx hb dL_law_679 (by decide)) ?_
      exact kk _ _ (lv_sub hl [2, 3, 4, 5, 6] rfl)
set_option maxHeartbeats 1000000 in
set_option maxRecDepth 10000 in
theorem lc_run {p : Program} {l : Launch} {e : Env} {s : State} {m : MethodId} {args : Array Value} {below : List Frame} {meth : Method} {c : Code} {D : va_G} {aC : Nat → ClassId} {b0 b L i xa r w sz cells slots : Nat} {Q : State → Prop} {xs : Nat → Int32} {M M1 M2 : ZM} {kc bv tv : Int32} {fs fs1 fs2 : List Value} {g : Nat → Int64} {ls : Array Slot} (C : zC p l s m c D aC b0 RL cL_law 7) (hX : va_X b L xs s s.heap) (hbl : b < s.heap.size) (hbA : b < b0) (hi : i + 6 ≤ L) (hLb : L < 2 ^ 31) (hC : ∀ sz, Ct l D aC b0 yX8_run cX8_run 3 (some .int) 2 0 0 [.ref xa] M sz (zd (some (.int kc)) M1)) (hxa : M xa = some (.inr (8, fs))) (hR : ∀ sz, Ct l D aC b0 yX9_run cX9_run 3 (some .int) 1 0 0 [.ref r] M1 sz (zd (some (.int bv)) M2)) (hr1 : M1 r = some (.inr (9, fs1))) (e1 : kc = bv) (hc : cells + 2 ≤ 600002) (hs : slots + 12 ≤ 7302232) (hl : lv_has ls 7 [(0, .ref b), (1, .ref xa), (2, .ref r), (3, .ref w), (4, .int (nI i))]) (kk : ∀ (sz : Nat) (ls : Array Slot), lv_has ls 7 [(0, .ref b), (1, .ref xa), (2, .ref r), (3, .ref w), (4, .int (nI i))] → Z p l e room_1 s m args below meth c D b0 M2 sz cells slots Q (F0 m 1136 ls [])) : Z p l e room_1 s m args below meth c D b0 M sz cells slots Q (F0 m 682 ls []) := by
  obtain ⟨hx, hb, -, -, -⟩ := id C
  refine zz (fun _ _ => lv_aload_n hx hb dL_law_682 rfl (lv_at hl 1 rfl)) ?_
  refine zdV (As := []) (rest := []) (st' := [.int kc]) C hl.1 lk_L_90 (hC _) hxa rfl rfl rfl (Nat.le_of_ble_eq_true rfl) ⟨by decide, by decide, by show _ ≤ 600002; omega, by show _ ≤ 7302232; omega⟩ dL_law_683 rfl (fun sz => ?_)
  refine zz (fun _ _ => lv_aload_n hx hb dL_law_686 rfl (lv_at hl 2 rfl)) ?_
  refine zdV (As := []) (rest := [.int kc]) (st' := [.int bv, .int kc]) C hl.1 lk_L_93 (hR _) hr1 rfl rfl rfl (Nat.le_of_ble_eq_true rfl) ⟨by decide, by decide, by show _ ≤ 600002; omega, by show _ ≤ 7302232; omega⟩ dL_law_687 rfl (fun sz => ?_)
  refine zb (fun _ _ => lv_icmp_eq (tgt := 1136) hx hb dL_law_690 (by decide)) (fun c_2 => ?_) (fun c_2 => ?_)
  rotate_left
  · exact absurd e1 c_2
  exact kk _ _ (lv_sub hl [0, 1, 2, 3, 4] rfl)
set_option maxHeartbeats 1000000 in
set_option maxRecDepth 10000 in
theorem lc_fails {p : Program} {l : Launch} {e : Env} {s : State} {m : MethodId} {args : Array Value} {below : List Frame} {meth : Method} {c : Code} {D : va_G} {aC : Nat → ClassId} {b0 b L i xa r w sz cells slots : Nat} {Q : State → Prop} {xs : Nat → Int32} {M M1 M2 : ZM} {kc bv tv : Int32} {fs fs1 fs2 : List Value} {g : Nat → Int64} {ls : Array Slot} (C : zC p l s m c D aC b0 RL cL_law 7) (hX : va_X b L xs s s.heap) (hbl : b < s.heap.size) (hbA : b < b0) (hi : i + 6 ≤ L) (hLb : L < 2 ^ 31) (hC : ∀ sz, Ct l D aC b0 yX8_fails cX8_fails 1 (some .int) 0 0 0 [.ref xa] M sz (zd (some (.int kc)) M1)) (hxa : M xa = some (.inr (8, fs))) (hR : ∀ sz, Ct l D aC b0 yX9_fails cX9_fails 1 (some .int) 0 0 0 [.ref r] M1 sz (zd (some (.int bv)) M2)) (hr1 : M1 r = some (.inr (9, fs1))) (e1 : kc = bv) (hc : cells + 2 ≤ 600002) (hs : slots + 12 ≤ 7302232) (hl : lv_has ls 7 [(0, .ref b), (1, .ref xa), (2, .ref r), (3, .ref w), (4, .int (nI i))]) (kk : ∀ (sz : Nat) (ls : Array Slot), lv_has ls 7 [(0, .ref b), (1, .ref xa), (2, .ref r), (3, .ref w), (4, .int (nI i))] → Z p l e room_1 s m args below meth c D b0 M2 sz cells slots Q (F0 m 1136 ls [])) : Z p l e room_1 s m args below meth c D b0 M sz cells slots Q (F0 m 695 ls []) := by
  obtain ⟨hx, hb, -, -, -⟩ := id C
  refine zz (fun _ _ => lv_aload_n hx hb dL_law_695 rfl (lv_at hl 1 rfl)) ?_
  refine zdV (As := []) (rest := []) (st' := [.int kc]) C hl.1 lk_L_94 (hC _) hxa rfl rfl rfl (Nat.le_of_ble_eq_true rfl) ⟨by decide, by decide, by show _ ≤ 600002; omega, by show _ ≤ 7302232; omega⟩ dL_law_696 rfl (fun sz => ?_)
  refine zz (fun _ _ => lv_aload_n hx hb dL_law_699 rfl (lv_at hl 2 rfl)) ?_
  refine zdV (As := []) (rest := [.int kc]) (st' := [.int bv, .int kc]) C hl.1 lk_L_97 (hR _) hr1 rfl rfl rfl (Nat.le_of_ble_eq_true rfl) ⟨by decide, by decide, by show _ ≤ 600002; omega, by show _ ≤ 7302232; omega⟩ dL_law_700 rfl (fun sz => ?_)
  refine zb (fun _ _ => lv_icmp_eq (tgt := 1136) hx hb dL_law_703 (by decide)) (fun c_2 => ?_) (fun c_2 => ?_)
  rotate_left
  · exact absurd e1 c_2
  exact kk _ _ (lv_sub hl [0, 1, 2, 3, 4] rfl)
set_option maxHeartbeats 1000000 in
set_option maxRecDepth 10000 in
theorem lc_clear {p : Program} {l : Launch} {e : Env} {s : State} {m : MethodId} {args : Array Value} {below : List Frame} {meth : Method} {c : Code} {D : va_G} {aC : Nat → ClassId} {b0 b L i xa r w sz cells slots : Nat} {Q : State → Prop} {xs : Nat → Int32} {M M1 M2 : ZM} {kc bv tv : Int32} {fs fs1 fs2 : List Value} {g : Nat → Int64} {ls : Array Slot} (C : zC p l s m c D aC b0 RL cL_law 7) (hX : va_X b L xs s s.heap) (hbl : b < s.heap.size) (hbA : b < b0) (hi : i + 6 ≤ L) (hLb : L < 2 ^ 31) (hC : ∀ sz, Ct l D aC b0 yX8_clear cX8_clear 2 (some .int) 0 0 0 [.ref xa] M sz (zd (some (.int kc)) M1)) (hxa : M xa = some (.inr (8, fs))) (hR : ∀ sz, Ct l D aC b0 yX9_clear cX9_clear 3 (some .int) 0 0 0 [.ref r] M1 sz (zd (some (.int bv)) M2)) (hr1 : M1 r = some (.inr (9, fs1))) (e1 : kc = bv) (hc : cells + 2 ≤ 600002) (hs : slots + 12 ≤ 7302232) (hl : lv_has ls 7 [(0, .ref b), (1, .ref xa), (2, .ref r), (3, .ref w), (4, .int (nI i))]) (kk : ∀ (sz : Nat) (ls : Array Slot), lv_has ls 7 [(0, .ref b), (1, .ref xa), (2, .ref r), (3, .ref w), (4, .int (nI i))] → Z p l e room_1 s m args below meth c D b0 M2 sz cells slots Q (F0 m 1136 ls [])) : Z p l e room_1 s m args below meth c D b0 M sz cells slots Q (F0 m 708 ls []) := by
  obtain ⟨hx, hb, -, -, -⟩ := id C
  refine zz (fun _ _ => lv_aload_n hx hb dL_law_708 rfl (lv_at hl 1 rfl)) ?_
  refine zdV (As := []) (rest := []) (st' := [.int kc]) C hl.1 lk_L_98 (hC _) hxa rfl rfl rfl (Nat.le_of_ble_eq_true rfl) ⟨by decide, by decide, by show _ ≤ 600002; omega, by show _ ≤ 7302232; omega⟩ dL_law_709 rfl (fun sz => ?_)
  refine zz (fun _ _ => lv_aload_n hx hb dL_law_712 rfl (lv_at hl 2 rfl)) ?_
  refine zdV (As := []) (rest := [.int kc]) (st' := [.int bv, .int kc]) C hl.1 lk_L_101 (hR _) hr1 rfl rfl rfl (Nat.le_of_ble_eq_true rfl) ⟨by decide, by decide, by show _ ≤ 600002; omega, by show _ ≤ 7302232; omega⟩ dL_law_713 rfl (fun sz => ?_)
  refine zb (fun _ _ => lv_icmp_eq (tgt := 1136) hx hb dL_law_716 (by decide)) (fun c_2 => ?_) (fun c_2 => ?_)
  rotate_left
  · exact absurd e1 c_2
  exact kk _ _ (lv_sub hl [0, 1, 2, 3, 4] rfl)
theorem wk_many : zLkW RL 102 yL_many cL_many 4 (some .int) [(0, 9, 12, 21)] 3 := ⟨⟨by decide +kernel, by decide +kernel, by decide +kernel⟩, (zWi 692 (by decide +kernel) rfl), (zWi 48 (by decide +kernel) rfl), ml_L_102, (zWi 691 (by decide +kernel) rfl)⟩
set_option maxHeartbeats 1000000 in
set_option maxRecDepth 10000 in
theorem lc_many {p : Program} {l : Launch} {e : Env} {s : State} {m : MethodId} {args : Array Value} {below : List Frame} {meth : Method} {c : Code} {D : va_G} {aC : Nat → ClassId} {b0 b L i xa r w sz cells slots : Nat} {Q : State → Prop} {xs : Nat → Int32} {M M1 M2 : ZM} {kc bv tv : Int32} {fs fs1 fs2 : List Value} {g : Nat → Int64} {ls : Array Slot} (C : zC p l s m c D aC b0 RL cL_law 7) (hX : va_X b L xs s s.heap) (hbl : b < s.heap.size) (hbA : b < b0) (hi : i + 6 ≤ L) (hLb : L < 2 ^ 31) (hW : CtW l D aC b0 yL_many cL_many 4 (some .int) [(0, 9, 12, 21)] 3 1 6 [.ref xa, .int (xs (i + 1)), .ref w] M sz (zd (some (.int kc)) M1)) (hR : ∀ sz, Ct l D aC b0 yX9_many cX9_many 2 (some .int) 2 0 0 [.ref r, .int (xs (i + 1))] M1 sz (zd (some (.int bv)) M2)) (hr1 : M1 r = some (.inr (9, fs1))) (hT : ∀ sz, Ct l D aC b0 yX9_thrown cX9_thrown 1 (some .int) 0 0 0 [.ref r] M2 sz (zd (some (.int tv)) M2)) (hr2 : M2 r = some (.inr (9, fs2))) (hw : M2 w = some (.inl (aC 6, 1, .inr (.inl g)))) (e1 : tv = kc) (e2 : kc = 0 → g (Int32.toNatClampNeg (nI 0)) = bv.toInt64) (hc : cells + 2 ≤ 600002) (hs : slots + 12 ≤ 7302232) (hl : lv_has ls 7 [(0, .ref b), (1, .ref xa), (2, .ref r), (3, .ref w), (4, .int (nI i))]) (kk : ∀ (sz : Nat) (ls : Array Slot), lv_has ls 7 [(0, .ref b), (1, .ref xa), (2, .ref r), (3, .ref w), (4, .int (nI i))] → Z p l e room_1 s m args below meth c D b0 M2 sz (cells + 1) (slots + 6) Q (F0 m 1136 ls [])) : Z p l e room_1 s m args below meth c D b0 M sz cells slots Q (F0 m 721 ls []) := by
  obtain ⟨hx, hb, -, -, -⟩ := id C
  refine zz (fun _ _ => lv_aload_n hx hb dL_law_721 rfl (lv_at hl 1 rfl)) ?_
  refine zz (fun _ _ => lv_aload_n hx hb dL_law_722 rfl (lv_at hl 0 rfl)) ?_
  refine zz (fun _ _ => lv_iload hx hb dL_law_723 (lv_at hl 4 rfl)) ?_
  refine zz (fun _ _ => lv_iconst (v := nI 1) hx hb dL_law_725 (by decide)) ?_
  refine zz (fun _ _ => lv_iadd hx hb dL_law_726) ?_
  refine zval (v' := .int (nI (i + 1))) (congrArg Value.int (nI_addk i 1)) ?_
  refine z_sld C hX hbl hbA (i := i + 1) (by omega) hLb dL_law_727 ?_
  refine zz (fun _ _ => lv_aload_n hx hb dL_law_728 rfl (lv_at hl 3 rfl)) ?_
  refine zdSW (As := [.ref xa, .int (xs (i + 1)), .ref w]) (rest := []) (st' := [.int kc]) C hl.1 wk_many hW rfl rfl (Nat.le_of_ble_eq_true rfl) ⟨by decide, by decide, by show _ ≤ 600002; omega, by show _ ≤ 7302232; omega⟩ dL_law_729 rfl (fun sz => ?_)
  refine zs (fun _ _ => lv_istore (lv' := [(5, .int kc), (0, .ref b), (1, .ref xa), (2, .ref r), (3, .ref w), (4, .int (nI i))]) hx hb dL_law_732 hl (by decide) rfl) (fun ls hl => ?_)
  refine zz (fun _ _ => lv_aload_n hx hb dL_law_734 rfl (lv_at hl 3 rfl)) ?_
  refine zz (fun _ _ => lv_aload_n hx hb dL_law_735 rfl (lv_at hl 1 rfl)) ?_
  refine zz (fun _ _ => lv_iload hx hb dL_law_736 (lv_at hl 5 rfl)) ?_
  refine zz (fun _ _ => lv_iconst (v := nI 1) hx hb dL_law_738 (by decide)) ?_
  refine zz (fun _ _ => lv_iadd hx hb dL_law_739) ?_
  refine zval (v' := .int (nI (i + 1))) (congrArg Value.int (nI_addk i 1)) ?_
  refine z_sld C hX hbl hbA (i := i + 1) (by omega) hLb dL_law_740 ?_
  refine zdV (As := [.int (xs (i + 1))]) (rest := []) (st' := [.int bv]) C hl.1 lk_L_105 (hR _) hr1 rfl rfl rfl (Nat.le_of_ble_eq_true rfl) ⟨by decide, by decide, by show _ ≤ 600002; omega, by show _ ≤ 7302232; omega⟩ dL_law_741 rfl (fun sz => ?_)
  refine zs (fun _ _ => lv_istore (lv' := [(6, .int bv), (5, .int kc), (0, .ref b), (1, .ref xa), (2, .ref r), (3, .ref w), (4, .int (nI i))]) hx hb dL_law_744 hl (by decide) rfl) (fun ls hl => ?_)
  refine zz (fun _ _ => lv_aload_n hx hb dL_law_746 rfl (lv_at hl 4 rfl)) ?_
  refine zdV (As := []) (rest := []) (st' := [.int tv]) C hl.1 lk_L_68 (hT _) hr2 rfl rfl rfl (Nat.le_of_ble_eq_true rfl) ⟨by decide, by decide, by show _ ≤ 600002; omega, by show _ ≤ 7302232; omega⟩ dL_law_747 rfl (fun sz => ?_)
  refine zz (fun _ _ => lv_iload hx hb dL_law_750 (lv_at hl 1 rfl)) ?_
  refine zb (fun _ _ => lv_icmp_eq (tgt := 757) hx hb dL_law_752 (by decide)) (fun c_2 => ?_) (fun c_2 => ?_)
  rotate_left
  · exact absurd e1 c_2
  refine zz (fun _ _ => lv_iload hx hb dL_law_757 (lv_at hl 1 rfl)) ?_
  refine zbn (fun _ _ => lv_if_ne (tgt := 774) hx hb dL_law_759 (by decide)) (fun c_3 => ?_) (fun c_3 => ?_)
  · refine zz (fun _ _ => lv_goto (tgt := 1136) hx hb dL_law_774 (by decide)) ?_
    exact kk _ _ (lv_sub hl [2, 3, 4, 5, 6] rfl)
  refine zz (fun _ _ => lv_aload_n hx hb dL_law_762 rfl (lv_at hl 5 rfl)) ?_
  refine zz (fun _ _ => lv_iconst (v := nI 0) hx hb dL_law_763 (by decide)) ?_
  refine z_lald C hw (in_nI (j := 0) rfl (by decide) (by decide)) dL_law_764 ?_
  refine zz (fun _ _ => lv_iload hx hb dL_law_765 (lv_at hl 0 rfl)) ?_
  refine zz (fun _ _ => lv_i2l (v := bv.toInt64) hx hb dL_law_767 rfl) ?_
  refine zz (fun _ _ => lv_lcmp_eq hx hb (e2 c_3) dL_law_768) ?_
  refine zb (fun _ _ => lv_if_eq (tgt := 774) hx hb dL_law_769 (by decide)) (fun _ => ?_) (fun c_4 => absurd rfl c_4)
  refine zz (fun _ _ => lv_goto (tgt := 1136) hx hb dL_law_774 (by decide)) ?_
  exact kk _ _ (lv_sub hl [2, 3, 4, 5, 6] rfl)
theorem wk_at : zLkW RL 106 yL_at cL_at 6 (some .int) [(0, 12, 15, 21), (0, 12, 19, 13)] 5 := ⟨⟨by decide +kernel, by decide +kernel, by decide +kernel⟩, (zWi 704 (by decide +kernel) rfl), (zWi 48 (by decide +kernel) rfl), ml_L_106, (zWi 703 (by decide +kernel) rfl)⟩
set_option maxHeartbeats 1000000 in
set_option maxRecDepth 10000 in
theorem lc_at {p : Program} {l : Launch} {e : Env} {s : State} {m : MethodId} {args : Array Value} {below : List Frame} {meth : Method} {c : Code} {D : va_G} {aC : Nat → ClassId} {b0 b L i xa r w sz cells slots : Nat} {Q : State → Prop} {xs : Nat → Int32} {M M1 M2 : ZM} {kc bv tv : Int32} {fs fs1 fs2 : List Value} {g : Nat → Int64} {ls : Array Slot} (C : zC p l s m c D aC b0 RL cL_law 7) (hX : va_X b L xs s s.heap) (hbl : b < s.heap.size) (hbA : b < b0) (hi : i + 6 ≤ L) (hLb : L < 2 ^ 31) (hW : CtW l D aC b0 yL_at cL_at 6 (some .int) [(0, 12, 15, 21), (0, 12, 19, 13)] 3 2 12 [.ref xa, .int (xs (i + 1)), .int (xs (i + 2)), .int (xs (i + 3)), .ref w] M sz (zd (some (.int kc)) M1)) (hR : ∀ sz, Ct l D aC b0 yX9_at cX9_at 4 (some .int) 2 0 0 [.ref r, .int (xs (i + 1)), .int (xs (i + 2)), .int (xs (i + 3))] M1 sz (zd (some (.int bv)) M2)) (hr1 : M1 r = some (.inr (9, fs1))) (hT : ∀ sz, Ct l D aC b0 yX9_thrown cX9_thrown 1 (some .int) 0 0 0 [.ref r] M2 sz (zd (some (.int tv)) M2)) (hr2 : M2 r = some (.inr (9, fs2))) (hw : M2 w = some (.inl (aC 6, 1, .inr (.inl g)))) (e1 : tv = kc) (e2 : kc = 0 → g (Int32.toNatClampNeg (nI 0)) = bv.toInt64) (hc : cells + 2 ≤ 600002) (hs : slots + 12 ≤ 7302232) (hl : lv_has ls 7 [(0, .ref b), (1, .ref xa), (2, .ref r), (3, .ref w), (4, .int (nI i))]) (kk : ∀ (sz : Nat) (ls : Array Slot), lv_has ls 7 [(0, .ref b), (1, .ref xa), (2, .ref r), (3, .ref w), (4, .int (nI i))] → Z p l e room_1 s m args below meth c D b0 M2 sz (cells + 2) (slots + 12) Q (F0 m 1136 ls [])) : Z p l e room_1 s m args below meth c D b0 M sz cells slots Q (F0 m 777 ls []) := by
  obtain ⟨hx, hb, -, -, -⟩ := id C
  refine zz (fun _ _ => lv_aload_n hx hb dL_law_777 rfl (lv_at hl 1 rfl)) ?_
  refine zz (fun _ _ => lv_aload_n hx hb dL_law_778 rfl (lv_at hl 0 rfl)) ?_
  refine zz (fun _ _ => lv_iload hx hb dL_law_779 (lv_at hl 4 rfl)) ?_
  refine zz (fun _ _ => lv_iconst (v := nI 1) hx hb dL_law_781 (by decide)) ?_
  refine zz (fun _ _ => lv_iadd hx hb dL_law_782) ?_
  refine zval (v' := .int (nI (i + 1))) (congrArg Value.int (nI_addk i 1)) ?_
  refine z_sld C hX hbl hbA (i := i + 1) (by omega) hLb dL_law_783 ?_
  refine zz (fun _ _ => lv_aload_n hx hb dL_law_784 rfl (lv_at hl 0 rfl)) ?_
  refine zz (fun _ _ => lv_iload hx hb dL_law_785 (lv_at hl 4 rfl)) ?_
  refine zz (fun _ _ => lv_iconst (v := nI 2) hx hb dL_law_787 (by decide)) ?_
  refine zz (fun _ _ => lv_iadd hx hb dL_law_788) ?_
  refine zval (v' := .int (nI (i + 2))) (congrArg Value.int (nI_addk i 2)) ?_
  refine z_sld C hX hbl hbA (i := i + 2) (by omega) hLb dL_law_789 ?_
  refine zz (fun _ _ => lv_aload_n hx hb dL_law_790 rfl (lv_at hl 0 rfl)) ?_
  refine zz (fun _ _ => lv_iload hx hb dL_law_791 (lv_at hl 4 rfl)) ?_
  refine zz (fun _ _ => lv_iconst (v := nI 3) hx hb dL_law_793 (by decide)) ?_
  refine zz (fun _ _ => lv_iadd hx hb dL_law_794) ?_
  refine zval (v' := .int (nI (i + 3))) (congrArg Value.int (nI_addk i 3)) ?_
  refine z_sld C hX hbl hbA (i := i + 3) (by omega) hLb dL_law_795 ?_
  refine zz (fun _ _ => lv_aload_n hx hb dL_law_796 rfl (lv_at hl 3 rfl)) ?_
  refine zdSW (As := [.ref xa, .int (xs (i + 1)), .int (xs (i + 2)), .int (xs (i + 3)), .ref w]) (rest := []) (st' := [.int kc]) C hl.1 wk_at hW rfl rfl (Nat.le_of_ble_eq_true rfl) ⟨by decide, by decide, by show _ ≤ 600002; omega, by show _ ≤ 7302232; omega⟩ dL_law_797 rfl (fun sz => ?_)
  refine zs (fun _ _ => lv_istore (lv' := [(5, .int kc), (0, .ref b), (1, .ref xa), (2, .ref r), (3, .ref w), (4, .int (nI i))]) hx hb dL_law_800 hl (by decide) rfl) (fun ls hl => ?_)
  refine zz (fun _ _ => lv_aload_n hx hb dL_law_802 rfl (lv_at hl 3 rfl)) ?_
  refine zz (fun _ _ => lv_aload_n hx hb dL_law_803 rfl (lv_at hl 1 rfl)) ?_
  refine zz (fun _ _ => lv_iload hx hb dL_law_804 (lv_at hl 5 rfl)) ?_
  refine zz (fun _ _ => lv_iconst (v := nI 1) hx hb dL_law_806 (by decide)) ?_
  refine zz (fun _ _ => lv_iadd hx hb dL_law_807) ?_
  refine zval (v' := .int (nI (i + 1))) (congrArg Value.int (nI_addk i 1)) ?_
  refine z_sld C hX hbl hbA (i := i + 1) (by omega) hLb dL_law_808 ?_
  refine zz (fun _ _ => lv_aload_n hx hb dL_law_809 rfl (lv_at hl 1 rfl)) ?_
  refine zz (fun _ _ => lv_iload hx hb dL_law_810 (lv_at hl 5 rfl)) ?_
  refine zz (fun _ _ => lv_iconst (v := nI 2) hx hb dL_law_812 (by decide)) ?_
  refine zz (fun _ _ => lv_iadd hx hb dL_law_813) ?_
  refine zval (v' := .int (nI (i + 2))) (congrArg Value.int (nI_addk i 2)) ?_
  refine z_sld C hX hbl hbA (i := i + 2) (by omega) hLb dL_law_814 ?_
  refine zz (fun _ _ => lv_aload_n hx hb dL_law_815 rfl (lv_at hl 1 rfl)) ?_
  refine zz (fun _ _ => lv_iload hx hb dL_law_816 (lv_at hl 5 rfl)) ?_
  refine zz (fun _ _ => lv_iconst (v := nI 3) hx hb dL_law_818 (by decide)) ?_
  refine zz (fun _ _ => lv_iadd hx hb dL_law_819) ?_
  refine zval (v' := .int (nI (i + 3))) (congrArg Value.int (nI_addk i 3)) ?_
  refine z_sld C hX hbl hbA (i := i + 3) (by omega) hLb dL_law_820 ?_
  refine zdV (As := [.int (xs (i + 1)), .int (xs (i + 2)), .int (xs (i + 3))]) (rest := []) (st' := [.int bv]) C hl.1 lk_L_108 (hR _) hr1 rfl rfl rfl (Nat.le_of_ble_eq_true rfl) ⟨by decide, by decide, by show _ ≤ 600002; omega, by show _ ≤ 7302232; omega⟩ dL_law_821 rfl (fun sz => ?_)
  refine zs (fun _ _ => lv_istore (lv' := [(6, .int bv), (5, .int kc), (0, .ref b), (1, .ref xa), (2, .ref r), (3, .ref w), (4, .int (nI i))]) hx hb dL_law_824 hl (by decide) rfl) (fun ls hl => ?_)
  refine zz (fun _ _ => lv_aload_n hx hb dL_law_826 rfl (lv_at hl 4 rfl)) ?_
  refine zdV (As := []) (rest := []) (st' := [.int tv]) C hl.1 lk_L_68 (hT _) hr2 rfl rfl rfl (Nat.le_of_ble_eq_true rfl) ⟨by decide, by decide, by show _ ≤ 600002; omega, by show _ ≤ 7302232; omega⟩ dL_law_827 rfl (fun sz => ?_)
  refine zz (fun _ _ => lv_iload hx hb dL_law_830 (lv_at hl 1 rfl)) ?_
  refine zb (fun _ _ => lv_icmp_eq (tgt := 837) hx hb dL_law_832 (by decide)) (fun c_2 => ?_) (fun c_2 => ?_)
  rotate_left
  · exact absurd e1 c_2
  refine zz (fun _ _ => lv_iload hx hb dL_law_837 (lv_at hl 1 rfl)) ?_
  refine zbn (fun _ _ => lv_if_ne (tgt := 854) hx hb dL_law_839 (by decide)) (fun c_3 => ?_) (fun c_3 => ?_)
  · refine zz (fun _ _ => lv_goto (tgt := 1136) hx hb dL_law_854 (by decide)) ?_
    exact kk _ _ (lv_sub hl [2, 3, 4, 5, 6] rfl)
  refine zz (fun _ _ => lv_aload_n hx hb dL_law_842 rfl (lv_at hl 5 rfl)) ?_
  refine zz (fun _ _ => lv_iconst (v := nI 0) hx hb dL_law_843 (by decide)) ?_
  refine z_lald C hw (in_nI (j := 0) rfl (by decide) (by decide)) dL_law_844 ?_
  refine zz (fun _ _ => lv_iload hx hb dL_law_845 (lv_at hl 0 rfl)) ?_
  refine zz (fun _ _ => lv_i2l (v := bv.toInt64) hx hb dL_law_847 rfl) ?_
  refine zz (fun _ _ => lv_lcmp_eq hx hb (e2 c_3) dL_law_848) ?_
  refine zb (fun _ _ => lv_if_eq (tgt := 854) hx hb dL_law_849 (by decide)) (fun _ => ?_) (fun c_4 => absurd rfl c_4)
  refine zz (fun _ _ => lv_goto (tgt := 1136) hx hb dL_law_854 (by decide)) ?_
  exact kk _ _ (lv_sub hl [2, 3, 4, 5, 6] rfl)
theorem wk_has : zLkW RL 109 yL_has cL_has 7 (some .int) [(0, 21, 24, 21)] 6 := ⟨⟨by decide +kernel, by decide +kernel, by decide +kernel⟩, (zWi 714 (by decide +kernel) rfl), (zWi 48 (by decide +kernel) rfl), ml_L_109, (zWi 713 (by decide +kernel) rfl)⟩
set_option maxHeartbeats 1000000 in
set_option maxRecDepth 10000 in
theorem lc_has {p : Program} {l : Launch} {e : Env} {s : State} {m : MethodId} {args : Array Value} {below : List Frame} {meth : Method} {c : Code} {D : va_G} {aC : Nat → ClassId} {b0 b L i xa r w sz cells slots : Nat} {Q : State → Prop} {xs : Nat → Int32} {M M1 M2 : ZM} {kc bv tv : Int32} {fs fs1 fs2 : List Value} {g : Nat → Int64} {ls : Array Slot} (C : zC p l s m c D aC b0 RL cL_law 7) (hX : va_X b L xs s s.heap) (hbl : b < s.heap.size) (hbA : b < b0) (hi : i + 6 ≤ L) (hLb : L < 2 ^ 31) (hW : CtW l D aC b0 yL_has cL_has 7 (some .int) [(0, 21, 24, 21)] 3 1 6 [.ref xa, .int (xs (i + 1)), .int (xs (i + 2)), .int (xs (i + 3)), .int (xs (i + 4)), .ref w] M sz (zd (some (.int kc)) M1)) (hR : ∀ sz, Ct l D aC b0 yX9_has cX9_has 5 (some .boolean) 1 0 0 [.ref r, .int (xs (i + 1)), .int (xs (i + 2)), .int (xs (i + 3)), .int (xs (i + 4))] M1 sz (zd (some (.int bv)) M2)) (hr1 : M1 r = some (.inr (9, fs1))) (hT : ∀ sz, Ct l D aC b0 yX9_thrown cX9_thrown 1 (some .int) 0 0 0 [.ref r] M2 sz (zd (some (.int tv)) M2)) (hr2 : M2 r = some (.inr (9, fs2))) (hw : M2 w = some (.inl (aC 6, 1, .inr (.inl g)))) (e1 : tv = kc) (e2 : kc = 0 → g (Int32.toNatClampNeg (nI 0)) = (if bv = 0 then 0 else 1)) (hc : cells + 2 ≤ 600002) (hs : slots + 12 ≤ 7302232) (hl : lv_has ls 7 [(0, .ref b), (1, .ref xa), (2, .ref r), (3, .ref w), (4, .int (nI i))]) (kk : ∀ (sz : Nat) (ls : Array Slot), lv_has ls 7 [(0, .ref b), (1, .ref xa), (2, .ref r), (3, .ref w), (4, .int (nI i))] → Z p l e room_1 s m args below meth c D b0 M2 sz (cells + 1) (slots + 6) Q (F0 m 1136 ls [])) : Z p l e room_1 s m args below meth c D b0 M sz cells slots Q (F0 m 857 ls []) := by
  obtain ⟨hx, hb, -, -, -⟩ := id C
  refine zz (fun _ _ => lv_aload_n hx hb dL_law_857 rfl (lv_at hl 1 rfl)) ?_
  refine zz (fun _ _ => lv_aload_n hx hb dL_law_858 rfl (lv_at hl 0 rfl)) ?_
  refine zz (fun _ _ => lv_iload hx hb dL_law_859 (lv_at hl 4 rfl)) ?_
  refine zz (fun _ _ => lv_iconst (v := nI 1) hx hb dL_law_861 (by decide)) ?_
  refine zz (fun _ _ => lv_iadd hx hb dL_law_862) ?_
  refine zval (v' := .int (nI (i + 1))) (congrArg Value.int (nI_addk i 1)) ?_
  refine z_sld C hX hbl hbA (i := i + 1) (by omega) hLb dL_law_863 ?_
  refine zz (fun _ _ => lv_aload_n hx hb dL_law_864 rfl (lv_at hl 0 rfl)) ?_
  refine zz (fun _ _ => lv_iload hx hb dL_law_865 (lv_at hl 4 rfl)) ?_
  refine zz (fun _ _ => lv_iconst (v := nI 2) hx hb dL_law_867 (by decide)) ?_
  refine zz (fun _ _ => lv_iadd hx hb dL_law_868) ?_
  refine zval (v' := .int (nI (i + 2))) (congrArg Value.int (nI_addk i 2)) ?_
  refine z_sld C hX hbl hbA (i := i + 2) (by omega) hLb dL_law_869 ?_
  refine zz (fun _ _ => lv_aload_n hx hb dL_law_870 rfl (lv_at hl 0 rfl)) ?_
  refine zz (fun _ _ => lv_iload hx hb dL_law_871 (lv_at hl 4 rfl)) ?_
  refine zz (fun _ _ => lv_iconst (v := nI 3) hx hb dL_law_873 (by decide)) ?_
  refine zz (fun _ _ => lv_iadd hx hb dL_law_874) ?_
  refine zval (v' := .int (nI (i + 3))) (congrArg Value.int (nI_addk i 3)) ?_
  refine z_sld C hX hbl hbA (i := i + 3) (by omega) hLb dL_law_875 ?_
  refine zz (fun _ _ => lv_aload_n hx hb dL_law_876 rfl (lv_at hl 0 rfl)) ?_
  refine zz (fun _ _ => lv_iload hx hb dL_law_877 (lv_at hl 4 rfl)) ?_
  refine zz (fun _ _ => lv_iconst (v := nI 4) hx hb dL_law_879 (by decide)) ?_
  refine zz (fun _ _ => lv_iadd hx hb dL_law_880) ?_
  refine zval (v' := .int (nI (i + 4))) (congrArg Value.int (nI_addk i 4)) ?_
  refine z_sld C hX hbl hbA (i := i + 4) (by omega) hLb dL_law_881 ?_
  refine zz (fun _ _ => lv_aload_n hx hb dL_law_882 rfl (lv_at hl 3 rfl)) ?_
  refine zdSW (As := [.ref xa, .int (xs (i + 1)), .int (xs (i + 2)), .int (xs (i + 3)), .int (xs (i + 4)), .ref w]) (rest := []) (st' := [.int kc]) C hl.1 wk_has hW rfl rfl (Nat.le_of_ble_eq_true rfl) ⟨by decide, by decide, by show _ ≤ 600002; omega, by show _ ≤ 7302232; omega⟩ dL_law_883 rfl (fun sz => ?_)
  refine zs (fun _ _ => lv_istore (lv' := [(5, .int kc), (0, .ref b), (1, .ref xa), (2, .ref r), (3, .ref w), (4, .int (nI i))]) hx hb dL_law_886 hl (by decide) rfl) (fun ls hl => ?_)
  refine zz (fun _ _ => lv_aload_n hx hb dL_law_888 rfl (lv_at hl 3 rfl)) ?_
  refine zz (fun _ _ => lv_aload_n hx hb dL_law_889 rfl (lv_at hl 1 rfl)) ?_
  refine zz (fun _ _ => lv_iload hx hb dL_law_890 (lv_at hl 5 rfl)) ?_
  refine zz (fun _ _ => lv_iconst (v := nI 1) hx hb dL_law_892 (by decide)) ?_
  refine zz (fun _ _ => lv_iadd hx hb dL_law_893) ?_
  refine zval (v' := .int (nI (i + 1))) (congrArg Value.int (nI_addk i 1)) ?_
  refine z_sld C hX hbl hbA (i := i + 1) (by omega) hLb dL_law_894 ?_
  refine zz (fun _ _ => lv_aload_n hx hb dL_law_895 rfl (lv_at hl 1 rfl)) ?_
  refine zz (fun _ _ => lv_iload hx hb dL_law_896 (lv_at hl 5 rfl)) ?_
  refine zz (fun _ _ => lv_iconst (v := nI 2) hx hb dL_law_898 (by decide)) ?_
  refine zz (fun _ _ => lv_iadd hx hb dL_law_899) ?_
  refine zval (v' := .int (nI (i + 2))) (congrArg Value.int (nI_addk i 2)) ?_
  refine z_sld C hX hbl hbA (i := i + 2) (by omega) hLb dL_law_900 ?_
  refine zz (fun _ _ => lv_aload_n hx hb dL_law_901 rfl (lv_at hl 1 rfl)) ?_
  refine zz (fun _ _ => lv_iload hx hb dL_law_902 (lv_at hl 5 rfl)) ?_
  refine zz (fun _ _ => lv_iconst (v := nI 3) hx hb dL_law_904 (by decide)) ?_
  refine zz (fun _ _ => lv_iadd hx hb dL_law_905) ?_
  refine zval (v' := .int (nI (i + 3))) (congrArg Value.int (nI_addk i 3)) ?_
  refine z_sld C hX hbl hbA (i := i + 3) (by omega) hLb dL_law_906 ?_
  refine zz (fun _ _ => lv_aload_n hx hb dL_law_907 rfl (lv_at hl 1 rfl)) ?_
  refine zz (fun _ _ => lv_iload hx hb dL_law_908 (lv_at hl 5 rfl)) ?_
  refine zz (fun _ _ => lv_iconst (v := nI 4) hx hb dL_law_910 (by decide)) ?_
  refine zz (fun _ _ => lv_iadd hx hb dL_law_911) ?_
  refine zval (v' := .int (nI (i + 4))) (congrArg Value.int (nI_addk i 4)) ?_
  refine z_sld C hX hbl hbA (i := i + 4) (by omega) hLb dL_law_912 ?_
  refine zdV (As := [.int (xs (i + 1)), .int (xs (i + 2)), .int (xs (i + 3)), .int (xs (i + 4))]) (rest := []) (st' := [.int bv]) C hl.1 lk_L_111 (hR _) hr1 rfl rfl rfl (Nat.le_of_ble_eq_true rfl) ⟨by decide, by decide, by show _ ≤ 600002; omega, by show _ ≤ 7302232; omega⟩ dL_law_913 rfl (fun sz => ?_)
  refine zs (fun _ _ => lv_istore (lv' := [(6, .int bv), (5, .int kc), (0, .ref b), (1, .ref xa), (2, .ref r), (3, .ref w), (4, .int (nI i))]) hx hb dL_law_916 hl (by decide) rfl) (fun ls hl => ?_)
  refine zz (fun _ _ => lv_aload_n hx hb dL_law_918 rfl (lv_at hl 4 rfl)) ?_
  refine zdV (As := []) (rest := []) (st' := [.int tv]) C hl.1 lk_L_68 (hT _) hr2 rfl rfl rfl (Nat.le_of_ble_eq_true rfl) ⟨by decide, by decide, by show _ ≤ 600002; omega, by show _ ≤ 7302232; omega⟩ dL_law_919 rfl (fun sz => ?_)
  refine zz (fun _ _ => lv_iload hx hb dL_law_922 (lv_at hl 1 rfl)) ?_
  refine zb (fun _ _ => lv_icmp_eq (tgt := 929) hx hb dL_law_924 (by decide)) (fun c_2 => ?_) (fun c_2 => ?_)
  rotate_left
  · exact absurd e1 c_2
  refine zz (fun _ _ => lv_iload hx hb dL_law_929 (lv_at hl 1 rfl)) ?_
  refine zbn (fun _ _ => lv_if_ne (tgt := 953) hx hb dL_law_931 (by decide)) (fun c_3 => ?_) (fun c_3 => ?_)
  · refine zz (fun _ _ => lv_goto (tgt := 1136) hx hb dL_law_953 (by decide)) ?_
    exact kk _ _ (lv_sub hl [2, 3, 4, 5, 6] rfl)
  refine zz (fun _ _ => lv_aload_n hx hb dL_law_934 rfl (lv_at hl 5 rfl)) ?_
  refine zz (fun _ _ => lv_iconst (v := nI 0) hx hb dL_law_935 (by decide)) ?_
  refine z_lald C hw (in_nI (j := 0) rfl (by decide) (by decide)) dL_law_936 ?_
  refine zz (fun _ _ => lv_iload hx hb dL_law_937 (lv_at hl 0 rfl)) ?_
  refine zb (fun _ _ => lv_if_eq (tgt := 946) hx hb dL_law_939 (by decide)) (fun c_5 => ?_) (fun c_5 => ?_)
  · refine zz (fun _ _ => lv_lconst (v := 0) hx hb dL_law_946 (by decide)) ?_
    refine zz (fun _ _ => lv_lcmp_eq hx hb (by rw [e2 c_3, if_pos c_5]) dL_law_947) ?_
    refine zb (fun _ _ => lv_if_eq (tgt := 953) hx hb dL_law_948 (by decide)) (fun _ => ?_) (fun c_4 => absurd rfl c_4)
    refine zz (fun _ _ => lv_goto (tgt := 1136) hx hb dL_law_953 (by decide)) ?_
    exact kk _ _ (lv_sub hl [2, 3, 4, 5, 6] rfl)
  · refine zz (fun _ _ => lv_lconst (v := 1) hx hb dL_law_942 (by decide)) ?_
    refine zz (fun _ _ => lv_goto (tgt := 947) hx hb dL_law_943 (by decide)) ?_
    refine zz (fun _ _ => lv_lcmp_eq hx hb (by rw [e2 c_3, if_neg c_5]) dL_law_947) ?_
    refine zb (fun _ _ => lv_if_eq (tgt := 953) hx hb dL_law_948 (by decide)) (fun _ => ?_) (fun c_4 => absurd rfl c_4)
    refine zz (fun _ _ => lv_goto (tgt := 1136) hx hb dL_law_953 (by decide)) ?_
    exact kk _ _ (lv_sub hl [2, 3, 4, 5, 6] rfl)
theorem wk_changed : zLkW RL 112 yL_changed cL_changed 5 (some .int) [(0, 10, 13, 21), (0, 10, 17, 13)] 4 := ⟨⟨by decide +kernel, by decide +kernel, by decide +kernel⟩, (zWi 726 (by decide +kernel) rfl), (zWi 48 (by decide +kernel) rfl), ml_L_112, (zWi 725 (by decide +kernel) rfl)⟩
set_option maxHeartbeats 1000000 in
set_option maxRecDepth 10000 in
theorem lc_changed {p : Program} {l : Launch} {e : Env} {s : State} {m : MethodId} {args : Array Value} {below : List Frame} {meth : Method} {c : Code} {D : va_G} {aC : Nat → ClassId} {b0 b L i xa r w sz cells slots : Nat} {Q : State → Prop} {xs : Nat → Int32} {M M1 M2 : ZM} {kc bv tv : Int32} {fs fs1 fs2 : List Value} {g : Nat → Int64} {ls : Array Slot} (C : zC p l s m c D aC b0 RL cL_law 7) (hX : va_X b L xs s s.heap) (hbl : b < s.heap.size) (hbA : b < b0) (hi : i + 6 ≤ L) (hLb : L < 2 ^ 31) (hW : CtW l D aC b0 yL_changed cL_changed 5 (some .int) [(0, 10, 13, 21), (0, 10, 17, 13)] 2 1 6 [.ref xa, .int (xs (i + 1)), .int (xs (i + 2)), .ref w] M sz (zd (some (.int kc)) M1)) (hR : ∀ sz, Ct l D aC b0 yX9_changed cX9_changed 3 (some .int) 1 0 0 [.ref r, .int (xs (i + 1)), .int (xs (i + 2))] M1 sz (zd (some (.int bv)) M2)) (hr1 : M1 r = some (.inr (9, fs1))) (hT : ∀ sz, Ct l D aC b0 yX9_thrown cX9_thrown 1 (some .int) 0 0 0 [.ref r] M2 sz (zd (some (.int tv)) M2)) (hr2 : M2 r = some (.inr (9, fs2))) (hw : M2 w = some (.inl (aC 6, 1, .inr (.inl g)))) (e1 : tv = kc) (e2 : kc = 0 → g (Int32.toNatClampNeg (nI 0)) = bv.toInt64) (hc : cells + 2 ≤ 600002) (hs : slots + 12 ≤ 7302232) (hl : lv_has ls 7 [(0, .ref b), (1, .ref xa), (2, .ref r), (3, .ref w), (4, .int (nI i))]) (kk : ∀ (sz : Nat) (ls : Array Slot), lv_has ls 7 [(0, .ref b), (1, .ref xa), (2, .ref r), (3, .ref w), (4, .int (nI i))] → Z p l e room_1 s m args below meth c D b0 M2 sz (cells + 1) (slots + 6) Q (F0 m 1136 ls [])) : Z p l e room_1 s m args below meth c D b0 M sz cells slots Q (F0 m 956 ls []) := by
  obtain ⟨hx, hb, -, -, -⟩ := id C
  refine zz (fun _ _ => lv_aload_n hx hb dL_law_956 rfl (lv_at hl 1 rfl)) ?_
  refine zz (fun _ _ => lv_aload_n hx hb dL_law_957 rfl (lv_at hl 0 rfl)) ?_
  refine zz (fun _ _ => lv_iload hx hb dL_law_958 (lv_at hl 4 rfl)) ?_
  refine zz (fun _ _ => lv_iconst (v := nI 1) hx hb dL_law_960 (by decide)) ?_
  refine zz (fun _ _ => lv_iadd hx hb dL_law_961) ?_
  refine zval (v' := .int (nI (i + 1))) (congrArg Value.int (nI_addk i 1)) ?_
  refine z_sld C hX hbl hbA (i := i + 1) (by omega) hLb dL_law_962 ?_
  refine zz (fun _ _ => lv_aload_n hx hb dL_law_963 rfl (lv_at hl 0 rfl)) ?_
  refine zz (fun _ _ => lv_iload hx hb dL_law_964 (lv_at hl 4 rfl)) ?_
  refine zz (fun _ _ => lv_iconst (v := nI 2) hx hb dL_law_966 (by decide)) ?_
  refine zz (fun _ _ => lv_iadd hx hb dL_law_967) ?_
  refine zval (v' := .int (nI (i + 2))) (congrArg Value.int (nI_addk i 2)) ?_
  refine z_sld C hX hbl hbA (i := i + 2) (by omega) hLb dL_law_968 ?_
  refine zz (fun _ _ => lv_aload_n hx hb dL_law_969 rfl (lv_at hl 3 rfl)) ?_
  refine zdSW (As := [.ref xa, .int (xs (i + 1)), .int (xs (i + 2)), .ref w]) (rest := []) (st' := [.int kc]) C hl.1 wk_changed hW rfl rfl (Nat.le_of_ble_eq_true rfl) ⟨by decide, by decide, by show _ ≤ 600002; omega, by show _ ≤ 7302232; omega⟩ dL_law_970 rfl (fun sz => ?_)
  refine zs (fun _ _ => lv_istore (lv' := [(5, .int kc), (0, .ref b), (1, .ref xa), (2, .ref r), (3, .ref w), (4, .int (nI i))]) hx hb dL_law_973 hl (by decide) rfl) (fun ls hl => ?_)
  refine zz (fun _ _ => lv_aload_n hx hb dL_law_975 rfl (lv_at hl 3 rfl)) ?_
  refine zz (fun _ _ => lv_aload_n hx hb dL_law_976 rfl (lv_at hl 1 rfl)) ?_
  refine zz (fun _ _ => lv_iload hx hb dL_law_977 (lv_at hl 5 rfl)) ?_
  refine zz (fun _ _ => lv_iconst (v := nI 1) hx hb dL_law_979 (by decide)) ?_
  refine zz (fun _ _ => lv_iadd hx hb dL_law_980) ?_
  refine zval (v' := .int (nI (i + 1))) (congrArg Value.int (nI_addk i 1)) ?_
  refine z_sld C hX hbl hbA (i := i + 1) (by omega) hLb dL_law_981 ?_
  refine zz (fun _ _ => lv_aload_n hx hb dL_law_982 rfl (lv_at hl 1 rfl)) ?_
  refine zz (fun _ _ => lv_iload hx hb dL_law_983 (lv_at hl 5 rfl)) ?_
  refine zz (fun _ _ => lv_iconst (v := nI 2) hx hb dL_law_985 (by decide)) ?_
  refine zz (fun _ _ => lv_iadd hx hb dL_law_986) ?_
  refine zval (v' := .int (nI (i + 2))) (congrArg Value.int (nI_addk i 2)) ?_
  refine z_sld C hX hbl hbA (i := i + 2) (by omega) hLb dL_law_987 ?_
  refine zdV (As := [.int (xs (i + 1)), .int (xs (i + 2))]) (rest := []) (st' := [.int bv]) C hl.1 lk_L_115 (hR _) hr1 rfl rfl rfl (Nat.le_of_ble_eq_true rfl) ⟨by decide, by decide, by show _ ≤ 600002; omega, by show _ ≤ 7302232; omega⟩ dL_law_988 rfl (fun sz => ?_)
  refine zs (fun _ _ => lv_istore (lv' := [(6, .int bv), (5, .int kc), (0, .ref b), (1, .ref xa), (2, .ref r), (3, .ref w), (4, .int (nI i))]) hx hb dL_law_991 hl (by decide) rfl) (fun ls hl => ?_)
  refine zz (fun _ _ => lv_aload_n hx hb dL_law_993 rfl (lv_at hl 4 rfl)) ?_
  refine zdV (As := []) (rest := []) (st' := [.int tv]) C hl.1 lk_L_68 (hT _) hr2 rfl rfl rfl (Nat.le_of_ble_eq_true rfl) ⟨by decide, by decide, by show _ ≤ 600002; omega, by show _ ≤ 7302232; omega⟩ dL_law_994 rfl (fun sz => ?_)
  refine zz (fun _ _ => lv_iload hx hb dL_law_997 (lv_at hl 1 rfl)) ?_
  refine zb (fun _ _ => lv_icmp_eq (tgt := 1004) hx hb dL_law_999 (by decide)) (fun c_2 => ?_) (fun c_2 => ?_)
  rotate_left
  · exact absurd e1 c_2
  refine zz (fun _ _ => lv_iload hx hb dL_law_1004 (lv_at hl 1 rfl)) ?_
  refine zbn (fun _ _ => lv_if_ne (tgt := 1021) hx hb dL_law_1006 (by decide)) (fun c_3 => ?_) (fun c_3 => ?_)
  · refine zz (fun _ _ => lv_goto (tgt := 1136) hx hb dL_law_1021 (by decide)) ?_
    exact kk _ _ (lv_sub hl [2, 3, 4, 5, 6] rfl)
  refine zz (fun _ _ => lv_aload_n hx hb dL_law_1009 rfl (lv_at hl 5 rfl)) ?_
  refine zz (fun _ _ => lv_iconst (v := nI 0) hx hb dL_law_1010 (by decide)) ?_
  refine z_lald C hw (in_nI (j := 0) rfl (by decide) (by decide)) dL_law_1011 ?_
  refine zz (fun _ _ => lv_iload hx hb dL_law_1012 (lv_at hl 0 rfl)) ?_
  refine zz (fun _ _ => lv_i2l (v := bv.toInt64) hx hb dL_law_1014 rfl) ?_
  refine zz (fun _ _ => lv_lcmp_eq hx hb (e2 c_3) dL_law_1015) ?_
  refine zb (fun _ _ => lv_if_eq (tgt := 1021) hx hb dL_law_1016 (by decide)) (fun _ => ?_) (fun c_4 => absurd rfl c_4)
  refine zz (fun _ _ => lv_goto (tgt := 1136) hx hb dL_law_1021 (by decide)) ?_
  exact kk _ _ (lv_sub hl [2, 3, 4, 5, 6] rfl)
theorem wk_solutions : zLkW RL 116 yL_solutions cL_solutions 4 (some .int) [(0, 9, 12, 21)] 3 := ⟨⟨by decide +kernel, by decide +kernel, by decide +kernel⟩, (zWi 735 (by decide +kernel) rfl), (zWi 48 (by decide +kernel) rfl), ml_L_116, (zWi 734 (by decide +kernel) rfl)⟩
set_option maxHeartbeats 1000000 in
set_option maxRecDepth 10000 in
theorem lc_solutions {p : Program} {l : Launch} {e : Env} {s : State} {m : MethodId} {args : Array Value} {below : List Frame} {meth : Method} {c : Code} {D : va_G} {aC : Nat → ClassId} {b0 b L i xa r w sz cells slots : Nat} {Q : State → Prop} {xs : Nat → Int32} {M M1 M2 : ZM} {kc bv tv : Int32} {fs fs1 fs2 : List Value} {g : Nat → Int64} {ls : Array Slot} (C : zC p l s m c D aC b0 RL cL_law 7) (hX : va_X b L xs s s.heap) (hbl : b < s.heap.size) (hbA : b < b0) (hi : i + 6 ≤ L) (hLb : L < 2 ^ 31) (hW : CtW l D aC b0 yL_solutions cL_solutions 4 (some .int) [(0, 9, 12, 21)] 2 1 6 [.ref xa, .int (xs (i + 1)), .ref w] M sz (zd (some (.int kc)) M1)) (hR : ∀ sz, Ct l D aC b0 yX9_solutions cX9_solutions 2 (some .int) 1 0 0 [.ref r, .int (xs (i + 1))] M1 sz (zd (some (.int bv)) M2)) (hr1 : M1 r = some (.inr (9, fs1))) (hT : ∀ sz, Ct l D aC b0 yX9_thrown cX9_thrown 1 (some .int) 0 0 0 [.ref r] M2 sz (zd (some (.int tv)) M2)) (hr2 : M2 r = some (.inr (9, fs2))) (hw : M2 w = some (.inl (aC 6, 1, .inr (.inl g)))) (e1 : tv = kc) (e2 : kc = 0 → g (Int32.toNatClampNeg (nI 0)) = bv.toInt64) (hc : cells + 2 ≤ 600002) (hs : slots + 12 ≤ 7302232) (hl : lv_has ls 7 [(0, .ref b), (1, .ref xa), (2, .ref r), (3, .ref w), (4, .int (nI i))]) (kk : ∀ (sz : Nat) (ls : Array Slot), lv_has ls 7 [(0, .ref b), (1, .ref xa), (2, .ref r), (3, .ref w), (4, .int (nI i))] → Z p l e room_1 s m args below meth c D b0 M2 sz (cells + 1) (slots + 6) Q (F0 m 1136 ls [])) : Z p l e room_1 s m args below meth c D b0 M sz cells slots Q (F0 m 1024 ls []) := by
  obtain ⟨hx, hb, -, -, -⟩ := id C
  refine zz (fun _ _ => lv_aload_n hx hb dL_law_1024 rfl (lv_at hl 1 rfl)) ?_
  refine zz (fun _ _ => lv_aload_n hx hb dL_law_1025 rfl (lv_at hl 0 rfl)) ?_
  refine zz (fun _ _ => lv_iload hx hb dL_law_1026 (lv_at hl 4 rfl)) ?_
  refine zz (fun _ _ => lv_iconst (v := nI 1) hx hb dL_law_1028 (by decide)) ?_
  refine zz (fun _ _ => lv_iadd hx hb dL_law_1029) ?_
  refine zval (v' := .int (nI (i + 1))) (congrArg Value.int (nI_addk i 1)) ?_
  refine z_sld C hX hbl hbA (i := i + 1) (by omega) hLb dL_law_1030 ?_
  refine zz (fun _ _ => lv_aload_n hx hb dL_law_1031 rfl (lv_at hl 3 rfl)) ?_
  refine zdSW (As := [.ref xa, .int (xs (i + 1)), .ref w]) (rest := []) (st' := [.int kc]) C hl.1 wk_solutions hW rfl rfl (Nat.le_of_ble_eq_true rfl) ⟨by decide, by decide, by show _ ≤ 600002; omega, by show _ ≤ 7302232; omega⟩ dL_law_1032 rfl (fun sz => ?_)
  refine zs (fun _ _ => lv_istore (lv' := [(5, .int kc), (0, .ref b), (1, .ref xa), (2, .ref r), (3, .ref w), (4, .int (nI i))]) hx hb dL_law_1035 hl (by decide) rfl) (fun ls hl => ?_)
  refine zz (fun _ _ => lv_aload_n hx hb dL_law_1037 rfl (lv_at hl 3 rfl)) ?_
  refine zz (fun _ _ => lv_aload_n hx hb dL_law_1038 rfl (lv_at hl 1 rfl)) ?_
  refine zz (fun _ _ => lv_iload hx hb dL_law_1039 (lv_at hl 5 rfl)) ?_
  refine zz (fun _ _ => lv_iconst (v := nI 1) hx hb dL_law_1041 (by decide)) ?_
  refine zz (fun _ _ => lv_iadd hx hb dL_law_1042) ?_
  refine zval (v' := .int (nI (i + 1))) (congrArg Value.int (nI_addk i 1)) ?_
  refine z_sld C hX hbl hbA (i := i + 1) (by omega) hLb dL_law_1043 ?_
  refine zdV (As := [.int (xs (i + 1))]) (rest := []) (st' := [.int bv]) C hl.1 lk_L_118 (hR _) hr1 rfl rfl rfl (Nat.le_of_ble_eq_true rfl) ⟨by decide, by decide, by show _ ≤ 600002; omega, by show _ ≤ 7302232; omega⟩ dL_law_1044 rfl (fun sz => ?_)
  refine zs (fun _ _ => lv_istore (lv' := [(6, .int bv), (5, .int kc), (0, .ref b), (1, .ref xa), (2, .ref r), (3, .ref w), (4, .int (nI i))]) hx hb dL_law_1047 hl (by decide) rfl) (fun ls hl => ?_)
  refine zz (fun _ _ => lv_aload_n hx hb dL_law_1049 rfl (lv_at hl 4 rfl)) ?_
  refine zdV (As := []) (rest := []) (st' := [.int tv]) C hl.1 lk_L_68 (hT _) hr2 rfl rfl rfl (Nat.le_of_ble_eq_true rfl) ⟨by decide, by decide, by show _ ≤ 600002; omega, by show _ ≤ 7302232; omega⟩ dL_law_1050 rfl (fun sz => ?_)
  refine zz (fun _ _ => lv_iload hx hb dL_law_1053 (lv_at hl 1 rfl)) ?_
  refine zb (fun _ _ => lv_icmp_eq (tgt := 1060) hx hb dL_law_1055 (by decide)) (fun c_2 => ?_) (fun c_2 => ?_)
  rotate_left
  · exact absurd e1 c_2
  refine zz (fun _ _ => lv_iload hx hb dL_law_1060 (lv_at hl 1 rfl)) ?_
  refine zbn (fun _ _ => lv_if_ne (tgt := 1077) hx hb dL_law_1062 (by decide)) (fun c_3 => ?_) (fun c_3 => ?_)
  · refine zz (fun _ _ => lv_goto (tgt := 1136) hx hb dL_law_1077 (by decide)) ?_
    exact kk _ _ (lv_sub hl [2, 3, 4, 5, 6] rfl)
  refine zz (fun _ _ => lv_aload_n hx hb dL_law_1065 rfl (lv_at hl 5 rfl)) ?_
  refine zz (fun _ _ => lv_iconst (v := nI 0) hx hb dL_law_1066 (by decide)) ?_
  refine z_lald C hw (in_nI (j := 0) rfl (by decide) (by decide)) dL_law_1067 ?_
  refine zz (fun _ _ => lv_iload hx hb dL_law_1068 (lv_at hl 0 rfl)) ?_
  refine zz (fun _ _ => lv_i2l (v := bv.toInt64) hx hb dL_law_1070 rfl) ?_
  refine zz (fun _ _ => lv_lcmp_eq hx hb (e2 c_3) dL_law_1071) ?_
  refine zb (fun _ _ => lv_if_eq (tgt := 1077) hx hb dL_law_1072 (by decide)) (fun _ => ?_) (fun c_4 => absurd rfl c_4)
  refine zz (fun _ _ => lv_goto (tgt := 1136) hx hb dL_law_1077 (by decide)) ?_
  exact kk _ _ (lv_sub hl [2, 3, 4, 5, 6] rfl)
theorem wk_told : zLkW RL 119 yL_told cL_told 4 (some .int) [(0, 9, 12, 13)] 3 := ⟨⟨by decide +kernel, by decide +kernel, by decide +kernel⟩, (zWi 742 (by decide +kernel) rfl), (zWi 48 (by decide +kernel) rfl), ml_L_119, (zWi 741 (by decide +kernel) rfl)⟩
set_option maxHeartbeats 1000000 in
set_option maxRecDepth 10000 in
theorem lc_told {p : Program} {l : Launch} {e : Env} {s : State} {m : MethodId} {args : Array Value} {below : List Frame} {meth : Method} {c : Code} {D : va_G} {aC : Nat → ClassId} {b0 b L i xa r w sz cells slots : Nat} {Q : State → Prop} {xs : Nat → Int32} {M M1 M2 : ZM} {kc bv tv : Int32} {fs fs1 fs2 : List Value} {g : Nat → Int64} {ls : Array Slot} (C : zC p l s m c D aC b0 RL cL_law 7) (hX : va_X b L xs s s.heap) (hbl : b < s.heap.size) (hbA : b < b0) (hi : i + 6 ≤ L) (hLb : L < 2 ^ 31) (hW : CtW l D aC b0 yL_told cL_told 4 (some .int) [(0, 9, 12, 13)] 2 1 6 [.ref xa, .int (xs (i + 1)), .ref w] M sz (zd (some (.int kc)) M1)) (hR : ∀ sz, Ct l D aC b0 yX9_told cX9_told 2 (some .int) 1 0 0 [.ref r, .int (xs (i + 1))] M1 sz (zd (some (.int bv)) M2)) (hr1 : M1 r = some (.inr (9, fs1))) (hT : ∀ sz, Ct l D aC b0 yX9_thrown cX9_thrown 1 (some .int) 0 0 0 [.ref r] M2 sz (zd (some (.int tv)) M2)) (hr2 : M2 r = some (.inr (9, fs2))) (hw : M2 w = some (.inl (aC 6, 1, .inr (.inl g)))) (e1 : tv = kc) (e2 : kc = 0 → g (Int32.toNatClampNeg (nI 0)) = bv.toInt64) (hc : cells + 2 ≤ 600002) (hs : slots + 12 ≤ 7302232) (hl : lv_has ls 7 [(0, .ref b), (1, .ref xa), (2, .ref r), (3, .ref w), (4, .int (nI i))]) (kk : ∀ (sz : Nat) (ls : Array Slot), lv_has ls 7 [(0, .ref b), (1, .ref xa), (2, .ref r), (3, .ref w), (4, .int (nI i))] → Z p l e room_1 s m args below meth c D b0 M2 sz (cells + 1) (slots + 6) Q (F0 m 1136 ls [])) : Z p l e room_1 s m args below meth c D b0 M sz cells slots Q (F0 m 1080 ls []) := by
  obtain ⟨hx, hb, -, -, -⟩ := id C
  refine zz (fun _ _ => lv_aload_n hx hb dL_law_1080 rfl (lv_at hl 1 rfl)) ?_
  refine zz (fun _ _ => lv_aload_n hx hb dL_law_1081 rfl (lv_at hl 0 rfl)) ?_
  refine zz (fun _ _ => lv_iload hx hb dL_law_1082 (lv_at hl 4 rfl)) ?_
  refine zz (fun _ _ => lv_iconst (v := nI 1) hx hb dL_law_1084 (by decide)) ?_
  refine zz (fun _ _ => lv_iadd hx hb dL_law_1085) ?_
  refine zval (v' := .int (nI (i + 1))) (congrArg Value.int (nI_addk i 1)) ?_
  refine z_sld C hX hbl hbA (i := i + 1) (by omega) hLb dL_law_1086 ?_
  refine zz (fun _ _ => lv_aload_n hx hb dL_law_1087 rfl (lv_at hl 3 rfl)) ?_
  refine zdSW (As := [.ref xa, .int (xs (i + 1)), .ref w]) (rest := []) (st' := [.int kc]) C hl.1 wk_told hW rfl rfl (Nat.le_of_ble_eq_true rfl) ⟨by decide, by decide, by show _ ≤ 600002; omega, by show _ ≤ 7302232; omega⟩ dL_law_1088 rfl (fun sz => ?_)
  refine zs (fun _ _ => lv_istore (lv' := [(5, .int kc), (0, .ref b), (1, .ref xa), (2, .ref r), (3, .ref w), (4, .int (nI i))]) hx hb dL_law_1091 hl (by decide) rfl) (fun ls hl => ?_)
  refine zz (fun _ _ => lv_aload_n hx hb dL_law_1093 rfl (lv_at hl 3 rfl)) ?_
  refine zz (fun _ _ => lv_aload_n hx hb dL_law_1094 rfl (lv_at hl 1 rfl)) ?_
  refine zz (fun _ _ => lv_iload hx hb dL_law_1095 (lv_at hl 5 rfl)) ?_
  refine zz (fun _ _ => lv_iconst (v := nI 1) hx hb dL_law_1097 (by decide)) ?_
  refine zz (fun _ _ => lv_iadd hx hb dL_law_1098) ?_
  refine zval (v' := .int (nI (i + 1))) (congrArg Value.int (nI_addk i 1)) ?_
  refine z_sld C hX hbl hbA (i := i + 1) (by omega) hLb dL_law_1099 ?_
  refine zdV (As := [.int (xs (i + 1))]) (rest := []) (st' := [.int bv]) C hl.1 lk_L_121 (hR _) hr1 rfl rfl rfl (Nat.le_of_ble_eq_true rfl) ⟨by decide, by decide, by show _ ≤ 600002; omega, by show _ ≤ 7302232; omega⟩ dL_law_1100 rfl (fun sz => ?_)
  refine zs (fun _ _ => lv_istore (lv' := [(6, .int bv), (5, .int kc), (0, .ref b), (1, .ref xa), (2, .ref r), (3, .ref w), (4, .int (nI i))]) hx hb dL_law_1103 hl (by decide) rfl) (fun ls hl => ?_)
  refine zz (fun _ _ => lv_aload_n hx hb dL_law_1105 rfl (lv_at hl 4 rfl)) ?_
  refine zdV (As := []) (rest := []) (st' := [.int tv]) C hl.1 lk_L_68 (hT _) hr2 rfl rfl rfl (Nat.le_of_ble_eq_true rfl) ⟨by decide, by decide, by show _ ≤ 600002; omega, by show _ ≤ 7302232; omega⟩ dL_law_1106 rfl (fun sz => ?_)
  refine zz (fun _ _ => lv_iload hx hb dL_law_1109 (lv_at hl 1 rfl)) ?_
  refine zb (fun _ _ => lv_icmp_eq (tgt := 1116) hx hb dL_law_1111 (by decide)) (fun c_2 => ?_) (fun c_2 => ?_)
  rotate_left
  · exact absurd e1 c_2
  refine zz (fun _ _ => lv_iload hx hb dL_law_1116 (lv_at hl 1 rfl)) ?_
  refine zbn (fun _ _ => lv_if_ne (tgt := 1133) hx hb dL_law_1118 (by decide)) (fun c_3 => ?_) (fun c_3 => ?_)
  · refine zz (fun _ _ => lv_goto (tgt := 1136) hx hb dL_law_1133 (by decide)) ?_
    exact kk _ _ (lv_sub hl [2, 3, 4, 5, 6] rfl)
  refine zz (fun _ _ => lv_aload_n hx hb dL_law_1121 rfl (lv_at hl 5 rfl)) ?_
  refine zz (fun _ _ => lv_iconst (v := nI 0) hx hb dL_law_1122 (by decide)) ?_
  refine z_lald C hw (in_nI (j := 0) rfl (by decide) (by decide)) dL_law_1123 ?_
  refine zz (fun _ _ => lv_iload hx hb dL_law_1124 (lv_at hl 0 rfl)) ?_
  refine zz (fun _ _ => lv_i2l (v := bv.toInt64) hx hb dL_law_1126 rfl) ?_
  refine zz (fun _ _ => lv_lcmp_eq hx hb (e2 c_3) dL_law_1127) ?_
  refine zb (fun _ _ => lv_if_eq (tgt := 1133) hx hb dL_law_1128 (by decide)) (fun _ => ?_) (fun c_4 => absurd rfl c_4)
  refine zz (fun _ _ => lv_goto (tgt := 1136) hx hb dL_law_1133 (by decide)) ?_
  exact kk _ _ (lv_sub hl [2, 3, 4, 5, 6] rfl)
