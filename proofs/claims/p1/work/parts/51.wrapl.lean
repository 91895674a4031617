set_option maxHeartbeats 2000000 in
set_option maxRecDepth 10000 in
theorem wL_step {l : Launch} {D : va_G} {aC : Nat → ClassId} {b0 sz xa w f : Nat} {v : Int32} {M M0 : ZM} {fs : List Value} {g : Nat → Int64} {a_ : Int32} {b_ : Int32} {c_ : Int32} (hM : CtX l D aC b0 yX8_step cX8_step 4 (some .int) 2 1 6 [.ref xa, .int a_, .int b_, .int c_] M sz (zdx f (some (.int v)) M0) (zxx f M0)) (hf : f = 0 ∨ f = 1 ∨ f = 2) (hxa : M xa = some (.inr (8, fs))) (hw : M0 w = some (.inl (aC 6, 1, .inr (.inl g)))) : CtW l D aC b0 yL_step cL_step 6 (some .int) [(0, 12, 15, 13), (0, 12, 19, 15)] 3 1 6 [.ref xa, .int a_, .int b_, .int c_, .ref w] M sz (zd (some (.int (if f = 0 then 0 else if f = 1 then 1 else 2))) (if f = 0 then zup M0 w (.inl (aC 6, 1, .inr (.inl (vp_updL g 0 v.toInt64)))) else M0)) := by
  refine CtW.of (by decide) (Nat.le_of_ble_eq_true rfl) ?_
  intro p e s m below meth c ls C hr hlk ht hl
  have hl : lv_has ls 6 [(0, .ref xa), (1, .int a_), (2, .int b_), (3, .int c_), (4, .ref w)] := hl
  obtain ⟨hx, hb, -, -, -⟩ := id C
  refine zz (fun _ _ => lv_aload hx hb dL_step_0 (lv_at hl 4 rfl)) ?_
  refine zz (fun _ _ => lv_iconst (v := 0) hx hb dL_step_2 (by decide)) ?_
  refine zz (fun _ _ => lv_aload_n hx hb dL_step_3 rfl (lv_at hl 0 rfl)) ?_
  refine zz (fun _ _ => lv_iload_n hx hb dL_step_4 rfl (lv_at hl 1 rfl)) ?_
  refine zz (fun _ _ => lv_iload_n hx hb dL_step_5 rfl (lv_at hl 2 rfl)) ?_
  refine zz (fun _ _ => lv_iload_n hx hb dL_step_6 rfl (lv_at hl 3 rfl)) ?_
  refine z_callVX (As := [.int a_, .int b_, .int c_]) (rest := [.int 0, .ref w]) C hl.1 lk_L_7 ml_L_7 hM hxa rfl rfl rfl (Nat.le_of_ble_eq_true rfl) ⟨by decide, by decide, by decide, by decide⟩ dL_step_7 (fun E9 M9 hp9 _ _ q9 _ a1 a2 a3 a4 a5 => ?_) (fun r9 M9 sz hp9 => ?_)
  · obtain ⟨h9, rfl, rfl⟩ := hp9
    rcases hf with h0 | h0 | h0
    · exact absurd h0 h9
    · subst h0
      refine z_catch (E := "java/lang/IllegalArgumentException") (name := "java/lang/IllegalArgumentException") C [] ⟨0, 12, 15, 13⟩ [⟨0, 12, 19, 15⟩] (ht.trans rfl) (fun _ h => nomatch h) (by decide) (by decide) (zWi 492 (by decide +kernel) rfl) (zNi 510 (by decide +kernel) rfl) a1 a2 a3 a4 a5 (fun sz9 => ?_)
      refine zs (fun _ _ => lv_astore (lv' := [(5, .ref q9), (0, .ref xa), (1, .int a_), (2, .int b_), (3, .int c_), (4, .ref w)]) hx hb dL_step_15 hl (by decide) rfl) (fun ls hl => ?_)
      refine zz (fun _ _ => lv_iconst (v := 1) hx hb dL_step_17 (by decide)) ?_
      exact zcs (by decide) (by decide) (z_iret C hr hlk dL_step_18 ⟨by decide, by simp⟩)
    · subst h0
      refine z_catch (E := "java/lang/IllegalStateException") (name := "java/lang/IllegalStateException") C [⟨0, 12, 15, 13⟩] ⟨0, 12, 19, 15⟩ [] (ht.trans rfl) (fun z hz => by
      rcases List.mem_cons.mp hz with rfl | hz
      · exact Or.inr ⟨by decide, "java/lang/IllegalArgumentException", (zWi 492 (by decide +kernel) rfl), by decide⟩
      exact nomatch hz) (by decide) (by decide) (zWi 493 (by decide +kernel) rfl) (zNi 578 (by decide +kernel) rfl) a1 a2 a3 a4 a5 (fun sz9 => ?_)
      refine zs (fun _ _ => lv_astore (lv' := [(5, .ref q9), (0, .ref xa), (1, .int a_), (2, .int b_), (3, .int c_), (4, .ref w)]) hx hb dL_step_19 hl (by decide) rfl) (fun ls hl => ?_)
      refine zz (fun _ _ => lv_iconst (v := 2) hx hb dL_step_21 (by decide)) ?_
      exact zcs (by decide) (by decide) (z_iret C hr hlk dL_step_22 ⟨by decide, by simp⟩)
  obtain ⟨rfl, rfl, rfl⟩ := hp9
  refine zst (st' := [.int v, .int 0, .ref w]) rfl ?_
  refine zz (fun _ _ => lv_i2l (v := v.toInt64) hx hb dL_step_10 rfl) ?_
  refine z_last C hw (in_nI (j := 0) rfl (by decide) (by decide)) dL_step_11 ?_
  refine zz (fun _ _ => lv_goto (tgt := 23) hx hb dL_step_12 (by decide)) ?_
  refine zz (fun _ _ => lv_iconst (v := 0) hx hb dL_step_23 (by decide)) ?_
  exact zcs (by decide) (by decide) (z_iret C hr hlk dL_step_24 ⟨rfl, rfl⟩)
set_option maxHeartbeats 2000000 in
set_option maxRecDepth 10000 in
theorem wL_silent {l : Launch} {D : va_G} {aC : Nat → ClassId} {b0 sz xa w f : Nat} {v : Int32} {M M0 : ZM} {fs : List Value} {g : Nat → Int64} {a_ : Int32} {b_ : Int32} (hM : CtX l D aC b0 yX8_silent cX8_silent 5 (some .boolean) 1 1 6 [.ref xa, .int a_, .int b_] M sz (zdx f (some (.int v)) M0) (zxx f M0)) (hf : f = 0 ∨ f = 3) (hxa : M xa = some (.inr (8, fs))) (hw : M0 w = some (.inl (aC 6, 1, .inr (.inl g)))) : CtW l D aC b0 yL_silent cL_silent 5 (some .int) [(0, 17, 20, 21)] 2 1 6 [.ref xa, .int a_, .int b_, .ref w] M sz (zd (some (.int (if f = 0 then 0 else 1))) (if f = 0 then zup M0 w (.inl (aC 6, 1, .inr (.inl (vp_updL g 0 (if v = 0 then 0 else 1))))) else M0)) := by
  refine CtW.of (by decide) (Nat.le_of_ble_eq_true rfl) ?_
  intro p e s m below meth c ls C hr hlk ht hl
  have hl : lv_has ls 5 [(0, .ref xa), (1, .int a_), (2, .int b_), (3, .ref w)] := hl
  obtain ⟨hx, hb, -, -, -⟩ := id C
  refine zz (fun _ _ => lv_aload_n hx hb dL_silent_0 rfl (lv_at hl 3 rfl)) ?_
  refine zz (fun _ _ => lv_iconst (v := 0) hx hb dL_silent_1 (by decide)) ?_
  refine zz (fun _ _ => lv_aload_n hx hb dL_silent_2 rfl (lv_at hl 0 rfl)) ?_
  refine zz (fun _ _ => lv_iload_n hx hb dL_silent_3 rfl (lv_at hl 1 rfl)) ?_
  refine zz (fun _ _ => lv_iload_n hx hb dL_silent_4 rfl (lv_at hl 2 rfl)) ?_
  refine z_callVX (As := [.int a_, .int b_]) (rest := [.int 0, .ref w]) C hl.1 lk_L_17 ml_L_17 hM hxa rfl rfl rfl (Nat.le_of_ble_eq_true rfl) ⟨by decide, by decide, by decide, by decide⟩ dL_silent_5 (fun E9 M9 hp9 _ _ q9 _ a1 a2 a3 a4 a5 => ?_) (fun r9 M9 sz hp9 => ?_)
  · obtain ⟨h9, rfl, rfl⟩ := hp9
    rcases hf with h0 | h0
    · exact absurd h0 h9
    · subst h0
      refine z_catch (E := "java/lang/IndexOutOfBoundsException") (name := "java/lang/IndexOutOfBoundsException") C [] ⟨0, 17, 20, 21⟩ [] (ht.trans rfl) (fun _ h => nomatch h) (by decide) (by decide) (zWi 599 (by decide +kernel) rfl) (zNi 610 (by decide +kernel) rfl) a1 a2 a3 a4 a5 (fun sz9 => ?_)
      refine zs (fun _ _ => lv_astore (lv' := [(4, .ref q9), (0, .ref xa), (1, .int a_), (2, .int b_), (3, .ref w)]) hx hb dL_silent_20 hl (by decide) rfl) (fun ls hl => ?_)
      refine zz (fun _ _ => lv_iconst (v := 1) hx hb dL_silent_22 (by decide)) ?_
      exact zcs (by decide) (by decide) (z_iret C hr hlk dL_silent_23 ⟨by decide, by simp⟩)
  obtain ⟨rfl, rfl, rfl⟩ := hp9
  refine zst (st' := [.int v, .int 0, .ref w]) rfl ?_
  refine zb (fun _ _ => lv_if_eq (tgt := 15) hx hb dL_silent_8 (by decide)) (fun c_1 => ?_) (fun c_1 => ?_)
  · refine zz (fun _ _ => lv_lconst (v := 0) hx hb dL_silent_15 (by decide)) ?_
    refine z_last C hw (in_nI (j := 0) rfl (by decide) (by decide)) dL_silent_16 ?_
    refine zz (fun _ _ => lv_goto (tgt := 24) hx hb dL_silent_17 (by decide)) ?_
    refine zz (fun _ _ => lv_iconst (v := 0) hx hb dL_silent_24 (by decide)) ?_
    exact zcs (by decide) (by decide) (z_iret C hr hlk dL_silent_25 ⟨rfl, by simp [c_1]⟩)
  · refine zz (fun _ _ => lv_lconst (v := 1) hx hb dL_silent_11 (by decide)) ?_
    refine zz (fun _ _ => lv_goto (tgt := 16) hx hb dL_silent_12 (by decide)) ?_
    refine z_last C hw (in_nI (j := 0) rfl (by decide) (by decide)) dL_silent_16 ?_
    refine zz (fun _ _ => lv_goto (tgt := 24) hx hb dL_silent_17 (by decide)) ?_
    refine zz (fun _ _ => lv_iconst (v := 0) hx hb dL_silent_24 (by decide)) ?_
    exact zcs (by decide) (by decide) (z_iret C hr hlk dL_silent_25 ⟨rfl, by simp [c_1]⟩)
set_option maxHeartbeats 2000000 in
set_option maxRecDepth 10000 in
theorem wL_template {l : Launch} {D : va_G} {aC : Nat → ClassId} {b0 sz xa w f : Nat} {v : Int32} {M M0 : ZM} {fs : List Value} {g : Nat → Int64} {a_ : Int32} {b_ : Int32} {c_ : Int32} {d_ : Int32} {e_ : Int32} (hM : CtX l D aC b0 yX8_template cX8_template 8 (some .int) 3 2 12 [.ref xa, .int a_, .int b_, .int c_, .int d_, .int e_] M sz (zdx f (some (.int v)) M0) (zxx f M0)) (hf : f = 0 ∨ f = 3 ∨ f = 1 ∨ f = 2) (hxa : M xa = some (.inr (8, fs))) (hw : M0 w = some (.inl (aC 6, 1, .inr (.inl g)))) : CtW l D aC b0 yL_template cL_template 8 (some .int) [(0, 16, 19, 21), (0, 16, 23, 13), (0, 16, 27, 15)] 4 2 12 [.ref xa, .int a_, .int b_, .int c_, .int d_, .int e_, .ref w] M sz (zd (some (.int (if f = 0 then 0 else if f = 3 then 1 else if f = 1 then 2 else 3))) (if f = 0 then zup M0 w (.inl (aC 6, 1, .inr (.inl (vp_updL g 0 v.toInt64)))) else M0)) := by
  refine CtW.of (by decide) (Nat.le_of_ble_eq_true rfl) ?_
  intro p e s m below meth c ls C hr hlk ht hl
  have hl : lv_has ls 8 [(0, .ref xa), (1, .int a_), (2, .int b_), (3, .int c_), (4, .int d_), (5, .int e_), (6, .ref w)] := hl
  obtain ⟨hx, hb, -, -, -⟩ := id C
  refine zz (fun _ _ => lv_aload hx hb dL_template_0 (lv_at hl 6 rfl)) ?_
  refine zz (fun _ _ => lv_iconst (v := 0) hx hb dL_template_2 (by decide)) ?_
  refine zz (fun _ _ => lv_aload_n hx hb dL_template_3 rfl (lv_at hl 0 rfl)) ?_
  refine zz (fun _ _ => lv_iload_n hx hb dL_template_4 rfl (lv_at hl 1 rfl)) ?_
  refine zz (fun _ _ => lv_iload_n hx hb dL_template_5 rfl (lv_at hl 2 rfl)) ?_
  refine zz (fun _ _ => lv_iload_n hx hb dL_template_6 rfl (lv_at hl 3 rfl)) ?_
  refine zz (fun _ _ => lv_iload hx hb dL_template_7 (lv_at hl 4 rfl)) ?_
  refine zz (fun _ _ => lv_iload hx hb dL_template_9 (lv_at hl 5 rfl)) ?_
  refine z_callVX (As := [.int a_, .int b_, .int c_, .int d_, .int e_]) (rest := [.int 0, .ref w]) C hl.1 lk_L_23 ml_L_23 hM hxa rfl rfl rfl (Nat.le_of_ble_eq_true rfl) ⟨by decide, by decide, by decide, by decide⟩ dL_template_11 (fun E9 M9 hp9 _ _ q9 _ a1 a2 a3 a4 a5 => ?_) (fun r9 M9 sz hp9 => ?_)
  · obtain ⟨h9, rfl, rfl⟩ := hp9
    rcases hf with h0 | h0 | h0 | h0
    · exact absurd h0 h9
    · subst h0
      refine z_catch (E := "java/lang/IndexOutOfBoundsException") (name := "java/lang/IndexOutOfBoundsException") C [] ⟨0, 16, 19, 21⟩ [⟨0, 16, 23, 13⟩, ⟨0, 16, 27, 15⟩] (ht.trans rfl) (fun _ h => nomatch h) (by decide) (by decide) (zWi 599 (by decide +kernel) rfl) (zNi 610 (by decide +kernel) rfl) a1 a2 a3 a4 a5 (fun sz9 => ?_)
      refine zs (fun _ _ => lv_astore (lv' := [(7, .ref q9), (0, .ref xa), (1, .int a_), (2, .int b_), (3, .int c_), (4, .int d_), (5, .int e_), (6, .ref w)]) hx hb dL_template_19 hl (by decide) rfl) (fun ls hl => ?_)
      refine zz (fun _ _ => lv_iconst (v := 1) hx hb dL_template_21 (by decide)) ?_
      exact zcs (by decide) (by decide) (z_iret C hr hlk dL_template_22 ⟨by decide, by simp⟩)
    · subst h0
      refine z_catch (E := "java/lang/IllegalArgumentException") (name := "java/lang/IllegalArgumentException") C [⟨0, 16, 19, 21⟩] ⟨0, 16, 23, 13⟩ [⟨0, 16, 27, 15⟩] (ht.trans rfl) (fun z hz => by
      rcases List.mem_cons.mp hz with rfl | hz
      · exact Or.inr ⟨by decide, "java/lang/IndexOutOfBoundsException", (zWi 599 (by decide +kernel) rfl), by decide⟩
      exact nomatch hz) (by decide) (by decide) (zWi 492 (by decide +kernel) rfl) (zNi 510 (by decide +kernel) rfl) a1 a2 a3 a4 a5 (fun sz9 => ?_)
      refine zs (fun _ _ => lv_astore (lv' := [(7, .ref q9), (0, .ref xa), (1, .int a_), (2, .int b_), (3, .int c_), (4, .int d_), (5, .int e_), (6, .ref w)]) hx hb dL_template_23 hl (by decide) rfl) (fun ls hl => ?_)
      refine zz (fun _ _ => lv_iconst (v := 2) hx hb dL_template_25 (by decide)) ?_
      exact zcs (by decide) (by decide) (z_iret C hr hlk dL_template_26 ⟨by decide, by simp⟩)
    · subst h0
      refine z_catch (E := "java/lang/IllegalStateException") (name := "java/lang/IllegalStateException") C [⟨0, 16, 19, 21⟩, ⟨0, 16, 23, 13⟩] ⟨0, 16, 27, 15⟩ [] (ht.trans rfl) (fun z hz => by
      rcases List.mem_cons.mp hz with rfl | hz
      · exact Or.inr ⟨by decide, "java/lang/IndexOutOfBoundsException", (zWi 599 (by decide +kernel) rfl), by decide⟩
      rcases List.mem_cons.mp hz with rfl | hz
      · exact Or.inr ⟨by decide, "java/lang/IllegalArgumentException", (zWi 492 (by decide +kernel) rfl), by decide⟩
      exact nomatch hz) (by decide) (by decide) (zWi 493 (by decide +kernel) rfl) (zNi 578 (by decide +kernel) rfl) a1 a2 a3 a4 a5 (fun sz9 => ?_)
      refine zs (fun _ _ => lv_astore (lv' := [(7, .ref q9), (0, .ref xa), (1, .int a_), (2, .int b_), (3, .int c_), (4, .int d_), (5, .int e_), (6, .ref w)]) hx hb dL_template_27 hl (by decide) rfl) (fun ls hl => ?_)
      refine zz (fun _ _ => lv_iconst (v := 3) hx hb dL_template_29 (by decide)) ?_
      exact zcs (by decide) (by decide) (z_iret C hr hlk dL_template_30 ⟨by decide, by simp⟩)
  obtain ⟨rfl, rfl, rfl⟩ := hp9
  refine zst (st' := [.int v, .int 0, .ref w]) rfl ?_
  refine zz (fun _ _ => lv_i2l (v := v.toInt64) hx hb dL_template_14 rfl) ?_
  refine z_last C hw (in_nI (j := 0) rfl (by decide) (by decide)) dL_template_15 ?_
  refine zz (fun _ _ => lv_goto (tgt := 31) hx hb dL_template_16 (by decide)) ?_
  refine zz (fun _ _ => lv_iconst (v := 0) hx hb dL_template_31 (by decide)) ?_
  exact zcs (by decide) (by decide) (z_iret C hr hlk dL_template_32 ⟨rfl, rfl⟩)
set_option maxHeartbeats 2000000 in
set_option maxRecDepth 10000 in
theorem wL_pattern {l : Launch} {D : va_G} {aC : Nat → ClassId} {b0 sz xa w f : Nat} {v : Int32} {M M0 : ZM} {fs : List Value} {g : Nat → Int64} {a_ : Int32} {b_ : Int32} {c_ : Int32} {d_ : Int32} (hM : CtX l D aC b0 yX8_pattern cX8_pattern 6 (some .int) 2 2 12 [.ref xa, .int a_, .int b_, .int c_, .int d_] M sz (zdx f (some (.int v)) M0) (zxx f M0)) (hf : f = 0 ∨ f = 3 ∨ f = 1 ∨ f = 2) (hxa : M xa = some (.inr (8, fs))) (hw : M0 w = some (.inl (aC 6, 1, .inr (.inl g)))) : CtW l D aC b0 yL_pattern cL_pattern 7 (some .int) [(0, 14, 17, 21), (0, 14, 21, 13), (0, 14, 25, 15)] 3 2 12 [.ref xa, .int a_, .int b_, .int c_, .int d_, .ref w] M sz (zd (some (.int (if f = 0 then 0 else if f = 3 then 1 else if f = 1 then 2 else 3))) (if f = 0 then zup M0 w (.inl (aC 6, 1, .inr (.inl (vp_updL g 0 v.toInt64)))) else M0)) := by
  refine CtW.of (by decide) (Nat.le_of_ble_eq_true rfl) ?_
  intro p e s m below meth c ls C hr hlk ht hl
  have hl : lv_has ls 7 [(0, .ref xa), (1, .int a_), (2, .int b_), (3, .int c_), (4, .int d_), (5, .ref w)] := hl
  obtain ⟨hx, hb, -, -, -⟩ := id C
  refine zz (fun _ _ => lv_aload hx hb dL_pattern_0 (lv_at hl 5 rfl)) ?_
  refine zz (fun _ _ => lv_iconst (v := 0) hx hb dL_pattern_2 (by decide)) ?_
  refine zz (fun _ _ => lv_aload_n hx hb dL_pattern_3 rfl (lv_at hl 0 rfl)) ?_
  refine zz (fun _ _ => lv_iload_n hx hb dL_pattern_4 rfl (lv_at hl 1 rfl)) ?_
  refine zz (fun _ _ => lv_iload_n hx hb dL_pattern_5 rfl (lv_at hl 2 rfl)) ?_
  refine zz (fun _ _ => lv_iload_n hx hb dL_pattern_6 rfl (lv_at hl 3 rfl)) ?_
  refine zz (fun _ _ => lv_iload hx hb dL_pattern_7 (lv_at hl 4 rfl)) ?_
  refine z_callVX (As := [.int a_, .int b_, .int c_, .int d_]) (rest := [.int 0, .ref w]) C hl.1 lk_L_27 ml_L_27 hM hxa rfl rfl rfl (Nat.le_of_ble_eq_true rfl) ⟨by decide, by decide, by decide, by decide⟩ dL_pattern_9 (fun E9 M9 hp9 _ _ q9 _ a1 a2 a3 a4 a5 => ?_) (fun r9 M9 sz hp9 => ?_)
  · obtain ⟨h9, rfl, rfl⟩ := hp9
    rcases hf with h0 | h0 | h0 | h0
    · exact absurd h0 h9
    · subst h0
      refine z_catch (E := "java/lang/IndexOutOfBoundsException") (name := "java/lang/IndexOutOfBoundsException") C [] ⟨0, 14, 17, 21⟩ [⟨0, 14, 21, 13⟩, ⟨0, 14, 25, 15⟩] (ht.trans rfl) (fun _ h => nomatch h) (by decide) (by decide) (zWi 599 (by decide +kernel) rfl) (zNi 610 (by decide +kernel) rfl) a1 a2 a3 a4 a5 (fun sz9 => ?_)
      refine zs (fun _ _ => lv_astore (lv' := [(6, .ref q9), (0, .ref xa), (1, .int a_), (2, .int b_), (3, .int c_), (4, .int d_), (5, .ref w)]) hx hb dL_pattern_17 hl (by decide) rfl) (fun ls hl => ?_)
      refine zz (fun _ _ => lv_iconst (v := 1) hx hb dL_pattern_19 (by decide)) ?_
      exact zcs (by decide) (by decide) (z_iret C hr hlk dL_pattern_20 ⟨by decide, by simp⟩)
    · subst h0
      refine z_catch (E := "java/lang/IllegalArgumentException") (name := "java/lang/IllegalArgumentException") C [⟨0, 14, 17, 21⟩] ⟨0, 14, 21, 13⟩ [⟨0, 14, 25, 15⟩] (ht.trans rfl) (fun z hz => by
      rcases List.mem_cons.mp hz with rfl | hz
      · exact Or.inr ⟨by decide, "java/lang/IndexOutOfBoundsException", (zWi 599 (by decide +kernel) rfl), by decide⟩
      exact nomatch hz) (by decide) (by decide) (zWi 492 (by decide +kernel) rfl) (zNi 510 (by decide +kernel) rfl) a1 a2 a3 a4 a5 (fun sz9 => ?_)
      refine zs (fun _ _ => lv_astore (lv' := [(6, .ref q9), (0, .ref xa), (1, .int a_), (2, .int b_), (3, .int c_), (4, .int d_), (5, .ref w)]) hx hb dL_pattern_21 hl (by decide) rfl) (fun ls hl => ?_)
      refine zz (fun _ _ => lv_iconst (v := 2) hx hb dL_pattern_23 (by decide)) ?_
      exact zcs (by decide) (by decide) (z_iret C hr hlk dL_pattern_24 ⟨by decide, by simp⟩)
    · subst h0
      refine z_catch (E := "java/lang/IllegalStateException") (name := "java/lang/IllegalStateException") C [⟨0, 14, 17, 21⟩, ⟨0, 14, 21, 13⟩] ⟨0, 14, 25, 15⟩ [] (ht.trans rfl) (fun z hz => by
      rcases List.mem_cons.mp hz with rfl | hz
      · exact Or.inr ⟨by decide, "java/lang/IndexOutOfBoundsException", (zWi 599 (by decide +kernel) rfl), by decide⟩
      rcases List.mem_cons.mp hz with rfl | hz
      · exact Or.inr ⟨by decide, "java/lang/IllegalArgumentException", (zWi 492 (by decide +kernel) rfl), by decide⟩
      exact nomatch hz) (by decide) (by decide) (zWi 493 (by decide +kernel) rfl) (zNi 578 (by decide +kernel) rfl) a1 a2 a3 a4 a5 (fun sz9 => ?_)
      refine zs (fun _ _ => lv_astore (lv' := [(6, .ref q9), (0, .ref xa), (1, .int a_), (2, .int b_), (3, .int c_), (4, .int d_), (5, .ref w)]) hx hb dL_pattern_25 hl (by decide) rfl) (fun ls hl => ?_)
      refine zz (fun _ _ => lv_iconst (v := 3) hx hb dL_pattern_27 (by decide)) ?_
      exact zcs (by decide) (by decide) (z_iret C hr hlk dL_pattern_28 ⟨by decide, by simp⟩)
  obtain ⟨rfl, rfl, rfl⟩ := hp9
  refine zst (st' := [.int v, .int 0, .ref w]) rfl ?_
  refine zz (fun _ _ => lv_i2l (v := v.toInt64) hx hb dL_pattern_12 rfl) ?_
  refine z_last C hw (in_nI (j := 0) rfl (by decide) (by decide)) dL_pattern_13 ?_
  refine zz (fun _ _ => lv_goto (tgt := 29) hx hb dL_pattern_14 (by decide)) ?_
  refine zz (fun _ _ => lv_iconst (v := 0) hx hb dL_pattern_29 (by decide)) ?_
  exact zcs (by decide) (by decide) (z_iret C hr hlk dL_pattern_30 ⟨rfl, rfl⟩)
set_option maxHeartbeats 2000000 in
set_option maxRecDepth 10000 in
theorem wL_file {l : Launch} {D : va_G} {aC : Nat → ClassId} {b0 sz xa w f : Nat} {v : Int32} {M M0 : ZM} {fs : List Value} {g : Nat → Int64} {a_ : Int32} {b_ : Int32} {c_ : Int32} {d_ : Int32} (hM : CtX l D aC b0 yX8_file cX8_file 6 (some .int) 2 2 12 [.ref xa, .int a_, .int b_, .int c_, .int d_] M sz (zdx f (some (.int v)) M0) (zxx f M0)) (hf : f = 0 ∨ f = 3 ∨ f = 1 ∨ f = 2) (hxa : M xa = some (.inr (8, fs))) (hw : M0 w = some (.inl (aC 6, 1, .inr (.inl g)))) : CtW l D aC b0 yL_file cL_file 7 (some .int) [(0, 14, 17, 21), (0, 14, 21, 13), (0, 14, 25, 15)] 3 2 12 [.ref xa, .int a_, .int b_, .int c_, .int d_, .ref w] M sz (zd (some (.int (if f = 0 then 0 else if f = 3 then 1 else if f = 1 then 2 else 3))) (if f = 0 then zup M0 w (.inl (aC 6, 1, .inr (.inl (vp_updL g 0 v.toInt64)))) else M0)) := by
  refine CtW.of (by decide) (Nat.le_of_ble_eq_true rfl) ?_
  intro p e s m below meth c ls C hr hlk ht hl
  have hl : lv_has ls 7 [(0, .ref xa), (1, .int a_), (2, .int b_), (3, .int c_), (4, .int d_), (5, .ref w)] := hl
  obtain ⟨hx, hb, -, -, -⟩ := id C
  refine zz (fun _ _ => lv_aload hx hb dL_file_0 (lv_at hl 5 rfl)) ?_
  refine zz (fun _ _ => lv_iconst (v := 0) hx hb dL_file_2 (by decide)) ?_
  refine zz (fun _ _ => lv_aload_n hx hb dL_file_3 rfl (lv_at hl 0 rfl)) ?_
  refine zz (fun _ _ => lv_iload_n hx hb dL_file_4 rfl (lv_at hl 1 rfl)) ?_
  refine zz (fun _ _ => lv_iload_n hx hb dL_file_5 rfl (lv_at hl 2 rfl)) ?_
  refine zz (fun _ _ => lv_iload_n hx hb dL_file_6 rfl (lv_at hl 3 rfl)) ?_
  refine zz (fun _ _ => lv_iload hx hb dL_file_7 (lv_at hl 4 rfl)) ?_
  refine z_callVX (As := [.int a_, .int b_, .int c_, .int d_]) (rest := [.int 0, .ref w]) C hl.1 lk_L_31 ml_L_31 hM hxa rfl rfl rfl (Nat.le_of_ble_eq_true rfl) ⟨by decide, by decide, by decide, by decide⟩ dL_file_9 (fun E9 M9 hp9 _ _ q9 _ a1 a2 a3 a4 a5 => ?_) (fun r9 M9 sz hp9 => ?_)
  · obtain ⟨h9, rfl, rfl⟩ := hp9
    rcases hf with h0 | h0 | h0 | h0
    · exact absurd h0 h9
    · subst h0
      refine z_catch (E := "java/lang/IndexOutOfBoundsException") (name := "java/lang/IndexOutOfBoundsException") C [] ⟨0, 14, 17, 21⟩ [⟨0, 14, 21, 13⟩, ⟨0, 14, 25, 15⟩] (ht.trans rfl) (fun _ h => nomatch h) (by decide) (by decide) (zWi 599 (by decide +kernel) rfl) (zNi 610 (by decide +kernel) rfl) a1 a2 a3 a4 a5 (fun sz9 => ?_)
      refine zs (fun _ _ => lv_astore (lv' := [(6, .ref q9), (0, .ref xa), (1, .int a_), (2, .int b_), (3, .int c_), (4, .int d_), (5, .ref w)]) hx hb dL_file_17 hl (by decide) rfl) (fun ls hl => ?_)
      refine zz (fun _ _ => lv_iconst (v := 1) hx hb dL_file_19 (by decide)) ?_
      exact zcs (by decide) (by decide) (z_iret C hr hlk dL_file_20 ⟨by decide, by simp⟩)
    · subst h0
      refine z_catch (E := "java/lang/IllegalArgumentException") (name := "java/lang/IllegalArgumentException") C [⟨0, 14, 17, 21⟩] ⟨0, 14, 21, 13⟩ [⟨0, 14, 25, 15⟩] (ht.trans rfl) (fun z hz => by
      rcases List.mem_cons.mp hz with rfl | hz
      · exact Or.inr ⟨by decide, "java/lang/IndexOutOfBoundsException", (zWi 599 (by decide +kernel) rfl), by decide⟩
      exact nomatch hz) (by decide) (by decide) (zWi 492 (by decide +kernel) rfl) (zNi 510 (by decide +kernel) rfl) a1 a2 a3 a4 a5 (fun sz9 => ?_)
      refine zs (fun _ _ => lv_astore (lv' := [(6, .ref q9), (0, .ref xa), (1, .int a_), (2, .int b_), (3, .int c_), (4, .int d_), (5, .ref w)]) hx hb dL_file_21 hl (by decide) rfl) (fun ls hl => ?_)
      refine zz (fun _ _ => lv_iconst (v := 2) hx hb dL_file_23 (by decide)) ?_
      exact zcs (by decide) (by decide) (z_iret C hr hlk dL_file_24 ⟨by decide, by simp⟩)
    · subst h0
      refine z_catch (E := "java/lang/IllegalStateException") (name := "java/lang/IllegalStateException") C [⟨0, 14, 17, 21⟩, ⟨0, 14, 21, 13⟩] ⟨0, 14, 25, 15⟩ [] (ht.trans rfl) (fun z hz => by
      rcases List.mem_cons.mp hz with rfl | hz
      · exact Or.inr ⟨by decide, "java/lang/IndexOutOfBoundsException", (zWi 599 (by decide +kernel) rfl), by decide⟩
      rcases List.mem_cons.mp hz with rfl | hz
      · exact Or.inr ⟨by decide, "java/lang/IllegalArgumentException", (zWi 492 (by decide +kernel) rfl), by decide⟩
      exact nomatch hz) (by decide) (by decide) (zWi 493 (by decide +kernel) rfl) (zNi 578 (by decide +kernel) rfl) a1 a2 a3 a4 a5 (fun sz9 => ?_)
      refine zs (fun _ _ => lv_astore (lv' := [(6, .ref q9), (0, .ref xa), (1, .int a_), (2, .int b_), (3, .int c_), (4, .int d_), (5, .ref w)]) hx hb dL_file_25 hl (by decide) rfl) (fun ls hl => ?_)
      refine zz (fun _ _ => lv_iconst (v := 3) hx hb dL_file_27 (by decide)) ?_
      exact zcs (by decide) (by decide) (z_iret C hr hlk dL_file_28 ⟨by decide, by simp⟩)
  obtain ⟨rfl, rfl, rfl⟩ := hp9
  refine zst (st' := [.int v, .int 0, .ref w]) rfl ?_
  refine zz (fun _ _ => lv_i2l (v := v.toInt64) hx hb dL_file_12 rfl) ?_
  refine z_last C hw (in_nI (j := 0) rfl (by decide) (by decide)) dL_file_13 ?_
  refine zz (fun _ _ => lv_goto (tgt := 29) hx hb dL_file_14 (by decide)) ?_
  refine zz (fun _ _ => lv_iconst (v := 0) hx hb dL_file_29 (by decide)) ?_
  exact zcs (by decide) (by decide) (z_iret C hr hlk dL_file_30 ⟨rfl, rfl⟩)
set_option maxHeartbeats 2000000 in
set_option maxRecDepth 10000 in
theorem wL_torn {l : Launch} {D : va_G} {aC : Nat → ClassId} {b0 sz xa w f : Nat} {v : Int32} {M M0 : ZM} {fs : List Value} {g : Nat → Int64} {a_ : Int32} {b_ : Int32} (hM : CtX l D aC b0 yX8_torn cX8_torn 5 (some .boolean) 1 1 6 [.ref xa, .int a_, .int b_] M sz (zdx f (some (.int v)) M0) (zxx f M0)) (hf : f = 0 ∨ f = 3) (hxa : M xa = some (.inr (8, fs))) (hw : M0 w = some (.inl (aC 6, 1, .inr (.inl g)))) : CtW l D aC b0 yL_torn cL_torn 5 (some .int) [(0, 17, 20, 21)] 2 1 6 [.ref xa, .int a_, .int b_, .ref w] M sz (zd (some (.int (if f = 0 then 0 else 1))) (if f = 0 then zup M0 w (.inl (aC 6, 1, .inr (.inl (vp_updL g 0 (if v = 0 then 0 else 1))))) else M0)) := by
  refine CtW.of (by decide) (Nat.le_of_ble_eq_true rfl) ?_
  intro p e s m below meth c ls C hr hlk ht hl
  have hl : lv_has ls 5 [(0, .ref xa), (1, .int a_), (2, .int b_), (3, .ref w)] := hl
  obtain ⟨hx, hb, -, -, -⟩ := id C
  refine zz (fun _ _ => lv_aload_n hx hb dL_torn_0 rfl (lv_at hl 3 rfl)) ?_
  refine zz (fun _ _ => lv_iconst (v := 0) hx hb dL_torn_1 (by decide)) ?_
  refine zz (fun _ _ => lv_aload_n hx hb dL_torn_2 rfl (lv_at hl 0 rfl)) ?_
  refine zz (fun _ _ => lv_iload_n hx hb dL_torn_3 rfl (lv_at hl 1 rfl)) ?_
  refine zz (fun _ _ => lv_iload_n hx hb dL_torn_4 rfl (lv_at hl 2 rfl)) ?_
  refine z_callVX (As := [.int a_, .int b_]) (rest := [.int 0, .ref w]) C hl.1 lk_L_34 ml_L_34 hM hxa rfl rfl rfl (Nat.le_of_ble_eq_true rfl) ⟨by decide, by decide, by decide, by decide⟩ dL_torn_5 (fun E9 M9 hp9 _ _ q9 _ a1 a2 a3 a4 a5 => ?_) (fun r9 M9 sz hp9 => ?_)
  · obtain ⟨h9, rfl, rfl⟩ := hp9
    rcases hf with h0 | h0
    · exact absurd h0 h9
    · subst h0
      refine z_catch (E := "java/lang/IndexOutOfBoundsException") (name := "java/lang/IndexOutOfBoundsException") C [] ⟨0, 17, 20, 21⟩ [] (ht.trans rfl) (fun _ h => nomatch h) (by decide) (by decide) (zWi 599 (by decide +kernel) rfl) (zNi 610 (by decide +kernel) rfl) a1 a2 a3 a4 a5 (fun sz9 => ?_)
      refine zs (fun _ _ => lv_astore (lv' := [(4, .ref q9), (0, .ref xa), (1, .int a_), (2, .int b_), (3, .ref w)]) hx hb dL_torn_20 hl (by decide) rfl) (fun ls hl => ?_)
      refine zz (fun _ _ => lv_iconst (v := 1) hx hb dL_torn_22 (by decide)) ?_
      exact zcs (by decide) (by decide) (z_iret C hr hlk dL_torn_23 ⟨by decide, by simp⟩)
  obtain ⟨rfl, rfl, rfl⟩ := hp9
  refine zst (st' := [.int v, .int 0, .ref w]) rfl ?_
  refine zb (fun _ _ => lv_if_eq (tgt := 15) hx hb dL_torn_8 (by decide)) (fun c_1 => ?_) (fun c_1 => ?_)
  · refine zz (fun _ _ => lv_lconst (v := 0) hx hb dL_torn_15 (by decide)) ?_
    refine z_last C hw (in_nI (j := 0) rfl (by decide) (by decide)) dL_torn_16 ?_
    refine zz (fun _ _ => lv_goto (tgt := 24) hx hb dL_torn_17 (by decide)) ?_
    refine zz (fun _ _ => lv_iconst (v := 0) hx hb dL_torn_24 (by decide)) ?_
    exact zcs (by decide) (by decide) (z_iret C hr hlk dL_torn_25 ⟨rfl, by simp [c_1]⟩)
  · refine zz (fun _ _ => lv_lconst (v := 1) hx hb dL_torn_11 (by decide)) ?_
    refine zz (fun _ _ => lv_goto (tgt := 16) hx hb dL_torn_12 (by decide)) ?_
    refine z_last C hw (in_nI (j := 0) rfl (by decide) (by decide)) dL_torn_16 ?_
    refine zz (fun _ _ => lv_goto (tgt := 24) hx hb dL_torn_17 (by decide)) ?_
    refine zz (fun _ _ => lv_iconst (v := 0) hx hb dL_torn_24 (by decide)) ?_
    exact zcs (by decide) (by decide) (z_iret C hr hlk dL_torn_25 ⟨rfl, by simp [c_1]⟩)
set_option maxHeartbeats 2000000 in
set_option maxRecDepth 10000 in
theorem wL_many {l : Launch} {D : va_G} {aC : Nat → ClassId} {b0 sz xa w f : Nat} {v : Int32} {M M0 : ZM} {fs : List Value} {g : Nat → Int64} {a_ : Int32} (hM : CtX l D aC b0 yX8_many cX8_many 3 (some .int) 2 1 6 [.ref xa, .int a_] M sz (zdx f (some (.int v)) M0) (zxx f M0)) (hf : f = 0 ∨ f = 3) (hxa : M xa = some (.inr (8, fs))) (hw : M0 w = some (.inl (aC 6, 1, .inr (.inl g)))) : CtW l D aC b0 yL_many cL_many 4 (some .int) [(0, 9, 12, 21)] 3 1 6 [.ref xa, .int a_, .ref w] M sz (zd (some (.int (if f = 0 then 0 else 1))) (if f = 0 then zup M0 w (.inl (aC 6, 1, .inr (.inl (vp_updL g 0 v.toInt64)))) else M0)) := by
  refine CtW.of (by decide) (Nat.le_of_ble_eq_true rfl) ?_
  intro p e s m below meth c ls C hr hlk ht hl
  have hl : lv_has ls 4 [(0, .ref xa), (1, .int a_), (2, .ref w)] := hl
  obtain ⟨hx, hb, -, -, -⟩ := id C
  refine zz (fun _ _ => lv_aload_n hx hb dL_many_0 rfl (lv_at hl 2 rfl)) ?_
  refine zz (fun _ _ => lv_iconst (v := 0) hx hb dL_many_1 (by decide)) ?_
  refine zz (fun _ _ => lv_aload_n hx hb dL_many_2 rfl (lv_at hl 0 rfl)) ?_
  refine zz (fun _ _ => lv_iload_n hx hb dL_many_3 rfl (lv_at hl 1 rfl)) ?_
  refine z_callVX (As := [.int a_]) (rest := [.int 0, .ref w]) C hl.1 lk_L_37 ml_L_37 hM hxa rfl rfl rfl (Nat.le_of_ble_eq_true rfl) ⟨by decide, by decide, by decide, by decide⟩ dL_many_4 (fun E9 M9 hp9 _ _ q9 _ a1 a2 a3 a4 a5 => ?_) (fun r9 M9 sz hp9 => ?_)
  · obtain ⟨h9, rfl, rfl⟩ := hp9
    rcases hf with h0 | h0
    · exact absurd h0 h9
    · subst h0
      refine z_catch (E := "java/lang/IndexOutOfBoundsException") (name := "java/lang/IndexOutOfBoundsException") C [] ⟨0, 9, 12, 21⟩ [] (ht.trans rfl) (fun _ h => nomatch h) (by decide) (by decide) (zWi 599 (by decide +kernel) rfl) (zNi 610 (by decide +kernel) rfl) a1 a2 a3 a4 a5 (fun sz9 => ?_)
      refine zs (fun _ _ => lv_astore_n (lv' := [(3, .ref q9), (0, .ref xa), (1, .int a_), (2, .ref w)]) hx hb dL_many_12 rfl hl (by decide) rfl) (fun ls hl => ?_)
      refine zz (fun _ _ => lv_iconst (v := 1) hx hb dL_many_13 (by decide)) ?_
      exact zcs (by decide) (by decide) (z_iret C hr hlk dL_many_14 ⟨by decide, by simp⟩)
  obtain ⟨rfl, rfl, rfl⟩ := hp9
  refine zst (st' := [.int v, .int 0, .ref w]) rfl ?_
  refine zz (fun _ _ => lv_i2l (v := v.toInt64) hx hb dL_many_7 rfl) ?_
  refine z_last C hw (in_nI (j := 0) rfl (by decide) (by decide)) dL_many_8 ?_
  refine zz (fun _ _ => lv_goto (tgt := 15) hx hb dL_many_9 (by decide)) ?_
  refine zz (fun _ _ => lv_iconst (v := 0) hx hb dL_many_15 (by decide)) ?_
  exact zcs (by decide) (by decide) (z_iret C hr hlk dL_many_16 ⟨rfl, rfl⟩)
set_option maxHeartbeats 2000000 in
set_option maxRecDepth 10000 in
theorem wL_at {l : Launch} {D : va_G} {aC : Nat → ClassId} {b0 sz xa w f : Nat} {v : Int32} {M M0 : ZM} {fs : List Value} {g : Nat → Int64} {a_ : Int32} {b_ : Int32} {c_ : Int32} (hM : CtX l D aC b0 yX8_at cX8_at 5 (some .int) 2 2 12 [.ref xa, .int a_, .int b_, .int c_] M sz (zdx f (some (.int v)) M0) (zxx f M0)) (hf : f = 0 ∨ f = 3 ∨ f = 1) (hxa : M xa = some (.inr (8, fs))) (hw : M0 w = some (.inl (aC 6, 1, .inr (.inl g)))) : CtW l D aC b0 yL_at cL_at 6 (some .int) [(0, 12, 15, 21), (0, 12, 19, 13)] 3 2 12 [.ref xa, .int a_, .int b_, .int c_, .ref w] M sz (zd (some (.int (if f = 0 then 0 else if f = 3 then 1 else 2))) (if f = 0 then zup M0 w (.inl (aC 6, 1, .inr (.inl (vp_updL g 0 v.toInt64)))) else M0)) := by
  refine CtW.of (by decide) (Nat.le_of_ble_eq_true rfl) ?_
  intro p e s m below meth c ls C hr hlk ht hl
  have hl : lv_has ls 6 [(0, .ref xa), (1, .int a_), (2, .int b_), (3, .int c_), (4, .ref w)] := hl
  obtain ⟨hx, hb, -, -, -⟩ := id C
  refine zz (fun _ _ => lv_aload hx hb dL_at_0 (lv_at hl 4 rfl)) ?_
  refine zz (fun _ _ => lv_iconst (v := 0) hx hb dL_at_2 (by decide)) ?_
  refine zz (fun _ _ => lv_aload_n hx hb dL_at_3 rfl (lv_at hl 0 rfl)) ?_
  refine zz (fun _ _ => lv_iload_n hx hb dL_at_4 rfl (lv_at hl 1 rfl)) ?_
  refine zz (fun _ _ => lv_iload_n hx hb dL_at_5 rfl (lv_at hl 2 rfl)) ?_
  refine zz (fun _ _ => lv_iload_n hx hb dL_at_6 rfl (lv_at hl 3 rfl)) ?_
  refine z_callVX (As := [.int a_, .int b_, .int c_]) (rest := [.int 0, .ref w]) C hl.1 lk_L_41 ml_L_41 hM hxa rfl rfl rfl (Nat.le_of_ble_eq_true rfl) ⟨by decide, by decide, by decide, by decide⟩ dL_at_7 (fun E9 M9 hp9 _ _ q9 _ a1 a2 a3 a4 a5 => ?_) (fun r9 M9 sz hp9 => ?_)
  · obtain ⟨h9, rfl, rfl⟩ := hp9
    rcases hf with h0 | h0 | h0
    · exact absurd h0 h9
    · subst h0
      refine z_catch (E := "java/lang/IndexOutOfBoundsException") (name := "java/lang/IndexOutOfBoundsException") C [] ⟨0, 12, 15, 21⟩ [⟨0, 12, 19, 13⟩] (ht.trans rfl) (fun _ h => nomatch h) (by decide) (by decide) (zWi 599 (by decide +kernel) rfl) (zNi 610 (by decide +kernel) rfl) a1 a2 a3 a4 a5 (fun sz9 => ?_)
      refine zs (fun _ _ => lv_astore (lv' := [(5, .ref q9), (0, .ref xa), (1, .int a_), (2, .int b_), (3, .int c_), (4, .ref w)]) hx hb dL_at_15 hl (by decide) rfl) (fun ls hl => ?_)
      refine zz (fun _ _ => lv_iconst (v := 1) hx hb dL_at_17 (by decide)) ?_
      exact zcs (by decide) (by decide) (z_iret C hr hlk dL_at_18 ⟨by decide, by simp⟩)
    · subst h0
      refine z_catch (E := "java/lang/IllegalArgumentException") (name := "java/lang/IllegalArgumentException") C [⟨0, 12, 15, 21⟩] ⟨0, 12, 19, 13⟩ [] (ht.trans rfl) (fun z hz => by
      rcases List.mem_cons.mp hz with rfl | hz
      · exact Or.inr ⟨by decide, "java/lang/IndexOutOfBoundsException", (zWi 599 (by decide +kernel) rfl), by decide⟩
      exact nomatch hz) (by decide) (by decide) (zWi 492 (by decide +kernel) rfl) (zNi 510 (by decide +kernel) rfl) a1 a2 a3 a4 a5 (fun sz9 => ?_)
      refine zs (fun _ _ => lv_astore (lv' := [(5, .ref q9), (0, .ref xa), (1, .int a_), (2, .int b_), (3, .int c_), (4, .ref w)]) hx hb dL_at_19 hl (by decide) rfl) (fun ls hl => ?_)
      refine zz (fun _ _ => lv_iconst (v := 2) hx hb dL_at_21 (by decide)) ?_
      exact zcs (by decide) (by decide) (z_iret C hr hlk dL_at_22 ⟨by decide, by simp⟩)
  obtain ⟨rfl, rfl, rfl⟩ := hp9
  refine zst (st' := [.int v, .int 0, .ref w]) rfl ?_
  refine zz (fun _ _ => lv_i2l (v := v.toInt64) hx hb dL_at_10 rfl) ?_
  refine z_last C hw (in_nI (j := 0) rfl (by decide) (by decide)) dL_at_11 ?_
  refine zz (fun _ _ => lv_goto (tgt := 23) hx hb dL_at_12 (by decide)) ?_
  refine zz (fun _ _ => lv_iconst (v := 0) hx hb dL_at_23 (by decide)) ?_
  exact zcs (by decide) (by decide) (z_iret C hr hlk dL_at_24 ⟨rfl, rfl⟩)
set_option maxHeartbeats 2000000 in
set_option maxRecDepth 10000 in
theorem wL_has {l : Launch} {D : va_G} {aC : Nat → ClassId} {b0 sz xa w f : Nat} {v : Int32} {M M0 : ZM} {fs : List Value} {g : Nat → Int64} {a_ : Int32} {b_ : Int32} {c_ : Int32} {d_ : Int32} (hM : CtX l D aC b0 yX8_has cX8_has 6 (some .boolean) 2 1 6 [.ref xa, .int a_, .int b_, .int c_, .int d_] M sz (zdx f (some (.int v)) M0) (zxx f M0)) (hf : f = 0 ∨ f = 3) (hxa : M xa = some (.inr (8, fs))) (hw : M0 w = some (.inl (aC 6, 1, .inr (.inl g)))) : CtW l D aC b0 yL_has cL_has 7 (some .int) [(0, 21, 24, 21)] 3 1 6 [.ref xa, .int a_, .int b_, .int c_, .int d_, .ref w] M sz (zd (some (.int (if f = 0 then 0 else 1))) (if f = 0 then zup M0 w (.inl (aC 6, 1, .inr (.inl (vp_updL g 0 (if v = 0 then 0 else 1))))) else M0)) := by
  refine CtW.of (by decide) (Nat.le_of_ble_eq_true rfl) ?_
  intro p e s m below meth c ls C hr hlk ht hl
  have hl : lv_has ls 7 [(0, .ref xa), (1, .int a_), (2, .int b_), (3, .int c_), (4, .int d_), (5, .ref w)] := hl
  obtain ⟨hx, hb, -, -, -⟩ := id C
  refine zz (fun _ _ => lv_aload hx hb dL_has_0 (lv_at hl 5 rfl)) ?_
  refine zz (fun _ _ => lv_iconst (v := 0) hx hb dL_has_2 (by decide)) ?_
  refine zz (fun _ _ => lv_aload_n hx hb dL_has_3 rfl (lv_at hl 0 rfl)) ?_
  refine zz (fun _ _ => lv_iload_n hx hb dL_has_4 rfl (lv_at hl 1 rfl)) ?_
  refine zz (fun _ _ => lv_iload_n hx hb dL_has_5 rfl (lv_at hl 2 rfl)) ?_
  refine zz (fun _ _ => lv_iload_n hx hb dL_has_6 rfl (lv_at hl 3 rfl)) ?_
  refine zz (fun _ _ => lv_iload hx hb dL_has_7 (lv_at hl 4 rfl)) ?_
  refine z_callVX (As := [.int a_, .int b_, .int c_, .int d_]) (rest := [.int 0, .ref w]) C hl.1 lk_L_44 ml_L_44 hM hxa rfl rfl rfl (Nat.le_of_ble_eq_true rfl) ⟨by decide, by decide, by decide, by decide⟩ dL_has_9 (fun E9 M9 hp9 _ _ q9 _ a1 a2 a3 a4 a5 => ?_) (fun r9 M9 sz hp9 => ?_)
  · obtain ⟨h9, rfl, rfl⟩ := hp9
    rcases hf with h0 | h0
    · exact absurd h0 h9
    · subst h0
      refine z_catch (E := "java/lang/IndexOutOfBoundsException") (name := "java/lang/IndexOutOfBoundsException") C [] ⟨0, 21, 24, 21⟩ [] (ht.trans rfl) (fun _ h => nomatch h) (by decide) (by decide) (zWi 599 (by decide +kernel) rfl) (zNi 610 (by decide +kernel) rfl) a1 a2 a3 a4 a5 (fun sz9 => ?_)
      refine zs (fun _ _ => lv_astore (lv' := [(6, .ref q9), (0, .ref xa), (1, .int a_), (2, .int b_), (3, .int c_), (4, .int d_), (5, .ref w)]) hx hb dL_has_24 hl (by decide) rfl) (fun ls hl => ?_)
      refine zz (fun _ _ => lv_iconst (v := 1) hx hb dL_has_26 (by decide)) ?_
      exact zcs (by decide) (by decide) (z_iret C hr hlk dL_has_27 ⟨by decide, by simp⟩)
  obtain ⟨rfl, rfl, rfl⟩ := hp9
  refine zst (st' := [.int v, .int 0, .ref w]) rfl ?_
  refine zb (fun _ _ => lv_if_eq (tgt := 19) hx hb dL_has_12 (by decide)) (fun c_1 => ?_) (fun c_1 => ?_)
  · refine zz (fun _ _ => lv_lconst (v := 0) hx hb dL_has_19 (by decide)) ?_
    refine z_last C hw (in_nI (j := 0) rfl (by decide) (by decide)) dL_has_20 ?_
    refine zz (fun _ _ => lv_goto (tgt := 28) hx hb dL_has_21 (by decide)) ?_
    refine zz (fun _ _ => lv_iconst (v := 0) hx hb dL_has_28 (by decide)) ?_
    exact zcs (by decide) (by decide) (z_iret C hr hlk dL_has_29 ⟨rfl, by simp [c_1]⟩)
  · refine zz (fun _ _ => lv_lconst (v := 1) hx hb dL_has_15 (by decide)) ?_
    refine zz (fun _ _ => lv_goto (tgt := 20) hx hb dL_has_16 (by decide)) ?_
    refine z_last C hw (in_nI (j := 0) rfl (by decide) (by decide)) dL_has_20 ?_
    refine zz (fun _ _ => lv_goto (tgt := 28) hx hb dL_has_21 (by decide)) ?_
    refine zz (fun _ _ => lv_iconst (v := 0) hx hb dL_has_28 (by decide)) ?_
    exact zcs (by decide) (by decide) (z_iret C hr hlk dL_has_29 ⟨rfl, by simp [c_1]⟩)
set_option maxHeartbeats 2000000 in
set_option maxRecDepth 10000 in
theorem wL_changed {l : Launch} {D : va_G} {aC : Nat → ClassId} {b0 sz xa w f : Nat} {v : Int32} {M M0 : ZM} {fs : List Value} {g : Nat → Int64} {a_ : Int32} {b_ : Int32} (hM : CtX l D aC b0 yX8_changed cX8_changed 3 (some .int) 1 1 6 [.ref xa, .int a_, .int b_] M sz (zdx f (some (.int v)) M0) (zxx f M0)) (hf : f = 0 ∨ f = 3 ∨ f = 1) (hxa : M xa = some (.inr (8, fs))) (hw : M0 w = some (.inl (aC 6, 1, .inr (.inl g)))) : CtW l D aC b0 yL_changed cL_changed 5 (some .int) [(0, 10, 13, 21), (0, 10, 17, 13)] 2 1 6 [.ref xa, .int a_, .int b_, .ref w] M sz (zd (some (.int (if f = 0 then 0 else if f = 3 then 1 else 2))) (if f = 0 then zup M0 w (.inl (aC 6, 1, .inr (.inl (vp_updL g 0 v.toInt64)))) else M0)) := by
  refine CtW.of (by decide) (Nat.le_of_ble_eq_true rfl) ?_
  intro p e s m below meth c ls C hr hlk ht hl
  have hl : lv_has ls 5 [(0, .ref xa), (1, .int a_), (2, .int b_), (3, .ref w)] := hl
  obtain ⟨hx, hb, -, -, -⟩ := id C
  refine zz (fun _ _ => lv_aload_n hx hb dL_changed_0 rfl (lv_at hl 3 rfl)) ?_
  refine zz (fun _ _ => lv_iconst (v := 0) hx hb dL_changed_1 (by decide)) ?_
  refine zz (fun _ _ => lv_aload_n hx hb dL_changed_2 rfl (lv_at hl 0 rfl)) ?_
  refine zz (fun _ _ => lv_iload_n hx hb dL_changed_3 rfl (lv_at hl 1 rfl)) ?_
  refine zz (fun _ _ => lv_iload_n hx hb dL_changed_4 rfl (lv_at hl 2 rfl)) ?_
  refine z_callVX (As := [.int a_, .int b_]) (rest := [.int 0, .ref w]) C hl.1 lk_L_48 ml_L_48 hM hxa rfl rfl rfl (Nat.le_of_ble_eq_true rfl) ⟨by decide, by decide, by decide, by decide⟩ dL_changed_5 (fun E9 M9 hp9 _ _ q9 _ a1 a2 a3 a4 a5 => ?_) (fun r9 M9 sz hp9 => ?_)
  · obtain ⟨h9, rfl, rfl⟩ := hp9
    rcases hf with h0 | h0 | h0
    · exact absurd h0 h9
    · subst h0
      refine z_catch (E := "java/lang/IndexOutOfBoundsException") (name := "java/lang/IndexOutOfBoundsException") C [] ⟨0, 10, 13, 21⟩ [⟨0, 10, 17, 13⟩] (ht.trans rfl) (fun _ h => nomatch h) (by decide) (by decide) (zWi 599 (by decide +kernel) rfl) (zNi 610 (by decide +kernel) rfl) a1 a2 a3 a4 a5 (fun sz9 => ?_)
      refine zs (fun _ _ => lv_astore (lv' := [(4, .ref q9), (0, .ref xa), (1, .int a_), (2, .int b_), (3, .ref w)]) hx hb dL_changed_13 hl (by decide) rfl) (fun ls hl => ?_)
      refine zz (fun _ _ => lv_iconst (v := 1) hx hb dL_changed_15 (by decide)) ?_
      exact zcs (by decide) (by decide) (z_iret C hr hlk dL_changed_16 ⟨by decide, by simp⟩)
    · subst h0
      refine z_catch (E := "java/lang/IllegalArgumentException") (name := "java/lang/IllegalArgumentException") C [⟨0, 10, 13, 21⟩] ⟨0, 10, 17, 13⟩ [] (ht.trans rfl) (fun z hz => by
      rcases List.mem_cons.mp hz with rfl | hz
      · exact Or.inr ⟨by decide, "java/lang/IndexOutOfBoundsException", (zWi 599 (by decide +kernel) rfl), by decide⟩
      exact nomatch hz) (by decide) (by decide) (zWi 492 (by decide +kernel) rfl) (zNi 510 (by decide +kernel) rfl) a1 a2 a3 a4 a5 (fun sz9 => ?_)
      refine zs (fun _ _ => lv_astore (lv' := [(4, .ref q9), (0, .ref xa), (1, .int a_), (2, .int b_), (3, .ref w)]) hx hb dL_changed_17 hl (by decide) rfl) (fun ls hl => ?_)
      refine zz (fun _ _ => lv_iconst (v := 2) hx hb dL_changed_19 (by decide)) ?_
      exact zcs (by decide) (by decide) (z_iret C hr hlk dL_changed_20 ⟨by decide, by simp⟩)
  obtain ⟨rfl, rfl, rfl⟩ := hp9
  refine zst (st' := [.int v, .int 0, .ref w]) rfl ?_
  refine zz (fun _ _ => lv_i2l (v := v.toInt64) hx hb dL_changed_8 rfl) ?_
  refine z_last C hw (in_nI (j := 0) rfl (by decide) (by decide)) dL_changed_9 ?_
  refine zz (fun _ _ => lv_goto (tgt := 21) hx hb dL_changed_10 (by decide)) ?_
  refine zz (fun _ _ => lv_iconst (v := 0) hx hb dL_changed_21 (by decide)) ?_
  exact zcs (by decide) (by decide) (z_iret C hr hlk dL_changed_22 ⟨rfl, rfl⟩)
set_option maxHeartbeats 2000000 in
set_option maxRecDepth 10000 in
theorem wL_solutions {l : Launch} {D : va_G} {aC : Nat → ClassId} {b0 sz xa w f : Nat} {v : Int32} {M M0 : ZM} {fs : List Value} {g : Nat → Int64} {a_ : Int32} (hM : CtX l D aC b0 yX8_solutions cX8_solutions 2 (some .int) 1 1 6 [.ref xa, .int a_] M sz (zdx f (some (.int v)) M0) (zxx f M0)) (hf : f = 0 ∨ f = 3) (hxa : M xa = some (.inr (8, fs))) (hw : M0 w = some (.inl (aC 6, 1, .inr (.inl g)))) : CtW l D aC b0 yL_solutions cL_solutions 4 (some .int) [(0, 9, 12, 21)] 2 1 6 [.ref xa, .int a_, .ref w] M sz (zd (some (.int (if f = 0 then 0 else 1))) (if f = 0 then zup M0 w (.inl (aC 6, 1, .inr (.inl (vp_updL g 0 v.toInt64)))) else M0)) := by
  refine CtW.of (by decide) (Nat.le_of_ble_eq_true rfl) ?_
  intro p e s m below meth c ls C hr hlk ht hl
  have hl : lv_has ls 4 [(0, .ref xa), (1, .int a_), (2, .ref w)] := hl
  obtain ⟨hx, hb, -, -, -⟩ := id C
  refine zz (fun _ _ => lv_aload_n hx hb dL_solutions_0 rfl (lv_at hl 2 rfl)) ?_
  refine zz (fun _ _ => lv_iconst (v := 0) hx hb dL_solutions_1 (by decide)) ?_
  refine zz (fun _ _ => lv_aload_n hx hb dL_solutions_2 rfl (lv_at hl 0 rfl)) ?_
  refine zz (fun _ _ => lv_iload_n hx hb dL_solutions_3 rfl (lv_at hl 1 rfl)) ?_
  refine z_callVX (As := [.int a_]) (rest := [.int 0, .ref w]) C hl.1 lk_L_52 ml_L_52 hM hxa rfl rfl rfl (Nat.le_of_ble_eq_true rfl) ⟨by decide, by decide, by decide, by decide⟩ dL_solutions_4 (fun E9 M9 hp9 _ _ q9 _ a1 a2 a3 a4 a5 => ?_) (fun r9 M9 sz hp9 => ?_)
  · obtain ⟨h9, rfl, rfl⟩ := hp9
    rcases hf with h0 | h0
    · exact absurd h0 h9
    · subst h0
      refine z_catch (E := "java/lang/IndexOutOfBoundsException") (name := "java/lang/IndexOutOfBoundsException") C [] ⟨0, 9, 12, 21⟩ [] (ht.trans rfl) (fun _ h => nomatch h) (by decide) (by decide) (zWi 599 (by decide +kernel) rfl) (zNi 610 (by decide +kernel) rfl) a1 a2 a3 a4 a5 (fun sz9 => ?_)
      refine zs (fun _ _ => lv_astore_n (lv' := [(3, .ref q9), (0, .ref xa), (1, .int a_), (2, .ref w)]) hx hb dL_solutions_12 rfl hl (by decide) rfl) (fun ls hl => ?_)
      refine zz (fun _ _ => lv_iconst (v := 1) hx hb dL_solutions_13 (by decide)) ?_
      exact zcs (by decide) (by decide) (z_iret C hr hlk dL_solutions_14 ⟨by decide, by simp⟩)
  obtain ⟨rfl, rfl, rfl⟩ := hp9
  refine zst (st' := [.int v, .int 0, .ref w]) rfl ?_
  refine zz (fun _ _ => lv_i2l (v := v.toInt64) hx hb dL_solutions_7 rfl) ?_
  refine z_last C hw (in_nI (j := 0) rfl (by decide) (by decide)) dL_solutions_8 ?_
  refine zz (fun _ _ => lv_goto (tgt := 15) hx hb dL_solutions_9 (by decide)) ?_
  refine zz (fun _ _ => lv_iconst (v := 0) hx hb dL_solutions_15 (by decide)) ?_
  exact zcs (by decide) (by decide) (z_iret C hr hlk dL_solutions_16 ⟨rfl, rfl⟩)
set_option maxHeartbeats 2000000 in
set_option maxRecDepth 10000 in
theorem wL_told {l : Launch} {D : va_G} {aC : Nat → ClassId} {b0 sz xa w f : Nat} {v : Int32} {M M0 : ZM} {fs : List Value} {g : Nat → Int64} {a_ : Int32} (hM : CtX l D aC b0 yX8_told cX8_told 2 (some .int) 1 1 6 [.ref xa, .int a_] M sz (zdx f (some (.int v)) M0) (zxx f M0)) (hf : f = 0 ∨ f = 1) (hxa : M xa = some (.inr (8, fs))) (hw : M0 w = some (.inl (aC 6, 1, .inr (.inl g)))) : CtW l D aC b0 yL_told cL_told 4 (some .int) [(0, 9, 12, 13)] 2 1 6 [.ref xa, .int a_, .ref w] M sz (zd (some (.int (if f = 0 then 0 else 1))) (if f = 0 then zup M0 w (.inl (aC 6, 1, .inr (.inl (vp_updL g 0 v.toInt64)))) else M0)) := by
  refine CtW.of (by decide) (Nat.le_of_ble_eq_true rfl) ?_
  intro p e s m below meth c ls C hr hlk ht hl
  have hl : lv_has ls 4 [(0, .ref xa), (1, .int a_), (2, .ref w)] := hl
  obtain ⟨hx, hb, -, -, -⟩ := id C
  refine zz (fun _ _ => lv_aload_n hx hb dL_told_0 rfl (lv_at hl 2 rfl)) ?_
  refine zz (fun _ _ => lv_iconst (v := 0) hx hb dL_told_1 (by decide)) ?_
  refine zz (fun _ _ => lv_aload_n hx hb dL_told_2 rfl (lv_at hl 0 rfl)) ?_
  refine zz (fun _ _ => lv_iload_n hx hb dL_told_3 rfl (lv_at hl 1 rfl)) ?_
  refine z_callVX (As := [.int a_]) (rest := [.int 0, .ref w]) C hl.1 lk_L_55 ml_L_55 hM hxa rfl rfl rfl (Nat.le_of_ble_eq_true rfl) ⟨by decide, by decide, by decide, by decide⟩ dL_told_4 (fun E9 M9 hp9 _ _ q9 _ a1 a2 a3 a4 a5 => ?_) (fun r9 M9 sz hp9 => ?_)
  · obtain ⟨h9, rfl, rfl⟩ := hp9
    rcases hf with h0 | h0
    · exact absurd h0 h9
    · subst h0
      refine z_catch (E := "java/lang/IllegalArgumentException") (name := "java/lang/IllegalArgumentException") C [] ⟨0, 9, 12, 13⟩ [] (ht.trans rfl) (fun _ h => nomatch h) (by decide) (by decide) (zWi 492 (by decide +kernel) rfl) (zNi 510 (by decide +kernel) rfl) a1 a2 a3 a4 a5 (fun sz9 => ?_)
      refine zs (fun _ _ => lv_astore_n (lv' := [(3, .ref q9), (0, .ref xa), (1, .int a_), (2, .ref w)]) hx hb dL_told_12 rfl hl (by decide) rfl) (fun ls hl => ?_)
      refine zz (fun _ _ => lv_iconst (v := 1) hx hb dL_told_13 (by decide)) ?_
      exact zcs (by decide) (by decide) (z_iret C hr hlk dL_told_14 ⟨by decide, by simp⟩)
  obtain ⟨rfl, rfl, rfl⟩ := hp9
  refine zst (st' := [.int v, .int 0, .ref w]) rfl ?_
  refine zz (fun _ _ => lv_i2l (v := v.toInt64) hx hb dL_told_7 rfl) ?_
  refine z_last C hw (in_nI (j := 0) rfl (by decide) (by decide)) dL_told_8 ?_
  refine zz (fun _ _ => lv_goto (tgt := 15) hx hb dL_told_9 (by decide)) ?_
  refine zz (fun _ _ => lv_iconst (v := 0) hx hb dL_told_15 (by decide)) ?_
  exact zcs (by decide) (by decide) (z_iret C hr hlk dL_told_16 ⟨rfl, rfl⟩)
