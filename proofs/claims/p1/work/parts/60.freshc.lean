theorem pf_step (a_ b_ c_ : Int32) : ∃ f : Nat, (fX8_step iv0 av0 a_ b_ c_).1 = f ∧ (f = 0 ∨ f = 1 ∨ f = 2) ∧ (fX9_step vM0 AM0 a_ b_ c_).2.1 0 = (if f = 0 then 0 else if f = 1 then 1 else 2) ∧ (f = 0 → (fX8_step iv0 av0 a_ b_ c_).2.1 = (fX9_step vM0 AM0 a_ b_ c_).1) := pe_step a_ b_ c_
theorem lf_step {p : Program} {l : Launch} {e : Env} {s : State} {m : MethodId} {args : Array Value} {below : List Frame} {meth : Method} {c : Code} {D : va_G} {aC : Nat → ClassId} {b0 b L i x r w sz cells slots : Nat} {Q : State → Prop} {xs : Nat → Int32} {R : ZM} {g : Nat → Int64} {ls : Array Slot} (C : zC p l s m c D aC b0 RL cL_law 7) (hX : va_X b L xs s s.heap) (hbl : b < s.heap.size) (hbA : b < b0) (hi : i + 6 ≤ L) (hLb : L < 2 ^ 31) (hr0 : x + 133 ≤ r) (hw0 : r + 39 ≤ w) (hc : cells + 2 ≤ 600002) (hs : slots + 12 ≤ 7302232) (hl : lv_has ls 7 [(0, .ref b), (1, .ref (x + 0)), (2, .ref r), (3, .ref w), (4, .int (nI i))]) (kk : ∀ (M2 : ZM) (sz cl sl : Nat) (ls : Array Slot), cl ≤ cells + 2 → sl ≤ slots + 12 → lv_has ls 7 [(0, .ref b), (1, .ref (x + 0)), (2, .ref r), (3, .ref w), (4, .int (nI i))] → Z p l e room_1 s m args below meth c D b0 M2 sz cl sl Q (F0 m 1136 ls [])) : Z p l e room_1 s m args below meth c D b0 (cm aC x iv0 av0 (mm aC r vM0 AM0 (zup R w (LA aC g)))) sz cells slots Q (F0 m 116 ls []) := by
  obtain ⟨f, hf, hr, e1, e2⟩ := pf_step (xs (i + 1)) (xs (i + 2)) (xs (i + 3))
  have hC := ctX8_step (l := l) (D := D) (aC := aC) (b0 := b0) (sz := sz) (x := x) (iv := iv0) (av := av0) (R := (mm aC r vM0 AM0 (zup R w (LA aC g)))) (a_ := (xs (i + 1))) (b_ := (xs (i + 2))) (c_ := (xs (i + 3))) (n_ := 0) iv0_05 (by decide)
  rw [hf] at hC
  have hW := CtW.post (wL_step (w := w) (g := g) hC hr (rd_1 (k := 0) (by decide)) (wm_c hr0 hw0)) (wm_if hr0 hw0)
  refine lc_step (fs := []) (M2 := mm aC r (fX9_step vM0 AM0 (xs (i + 1)) (xs (i + 2)) (xs (i + 3))).2.1 (fX9_step vM0 AM0 (xs (i + 1)) (xs (i + 2)) (xs (i + 3))).2.2 (cm aC x (fX8_step iv0 av0 (xs (i + 1)) (xs (i + 2)) (xs (i + 3))).2.2.1 (fX8_step iv0 av0 (xs (i + 1)) (xs (i + 2)) (xs (i + 3))).2.2.2 (zup R w (LA aC (if f = 0 then (vp_updL g 0 ((fX8_step iv0 av0 (xs (i + 1)) (xs (i + 2)) (xs (i + 3))).2.1).toInt64) else g))))) (bv := (fX9_step vM0 AM0 (xs (i + 1)) (xs (i + 2)) (xs (i + 3))).1) C hX hbl hbA hi hLb hW (fun sz => ctX9_step (n_ := 0) (vM0_0 (by decide)) (by decide)) rm_0 (fun sz => ctX9_thrown) rm_0 (wm_w hr0 hw0) e1 ?_ hc hs hl (fun sz ls hl => kk _ _ _ _ _ (by omega) (by omega) hl)
  intro hk
  have f0 : f = 0 := by
    rcases hr with h | h | h
    · exact h
    all_goals (subst h; exact absurd hk (by decide))
  rw [if_pos f0, updL0, e2 f0]
theorem pf_silent (a_ b_ : Int32) : ∃ f : Nat, (fX8_silent iv0 av0 a_ b_).1 = f ∧ (f = 0 ∨ f = 3) ∧ (fX9_silent vM0 AM0 a_ b_).2.1 0 = (if f = 0 then 0 else 1) ∧ (f = 0 → (fX8_silent iv0 av0 a_ b_).2.1 = (fX9_silent vM0 AM0 a_ b_).1) := by
  obtain ⟨h1, h2⟩ := pe_silent a_ b_
  exact ⟨3, h1, by decide, h2, fun h => absurd h (by decide)⟩
theorem lf_silent {p : Program} {l : Launch} {e : Env} {s : State} {m : MethodId} {args : Array Value} {below : List Frame} {meth : Method} {c : Code} {D : va_G} {aC : Nat → ClassId} {b0 b L i x r w sz cells slots : Nat} {Q : State → Prop} {xs : Nat → Int32} {R : ZM} {g : Nat → Int64} {ls : Array Slot} (C : zC p l s m c D aC b0 RL cL_law 7) (hX : va_X b L xs s s.heap) (hbl : b < s.heap.size) (hbA : b < b0) (hi : i + 6 ≤ L) (hLb : L < 2 ^ 31) (hr0 : x + 133 ≤ r) (hw0 : r + 39 ≤ w) (hc : cells + 2 ≤ 600002) (hs : slots + 12 ≤ 7302232) (hl : lv_has ls 7 [(0, .ref b), (1, .ref (x + 0)), (2, .ref r), (3, .ref w), (4, .int (nI i))]) (kk : ∀ (M2 : ZM) (sz cl sl : Nat) (ls : Array Slot), cl ≤ cells + 2 → sl ≤ slots + 12 → lv_has ls 7 [(0, .ref b), (1, .ref (x + 0)), (2, .ref r), (3, .ref w), (4, .int (nI i))] → Z p l e room_1 s m args below meth c D b0 M2 sz cl sl Q (F0 m 1136 ls [])) : Z p l e room_1 s m args below meth c D b0 (cm aC x iv0 av0 (mm aC r vM0 AM0 (zup R w (LA aC g)))) sz cells slots Q (F0 m 196 ls []) := by
  obtain ⟨f, hf, hr, e1, e2⟩ := pf_silent (xs (i + 1)) (if xs (i + 2) = 0 then 0 else 1)
  have hC := ctX8_silent (l := l) (D := D) (aC := aC) (b0 := b0) (sz := sz) (x := x) (iv := iv0) (av := av0) (R := (mm aC r vM0 AM0 (zup R w (LA aC g)))) (a_ := (xs (i + 1))) (b_ := (if xs (i + 2) = 0 then 0 else 1)) (n_ := 0) iv0_05 (by decide) (b01 _) iv0_S
  rw [hf] at hC
  have hW := CtW.post (wL_silent (w := w) (g := g) hC hr (rd_1 (k := 0) (by decide)) (wm_c hr0 hw0)) (wm_if hr0 hw0)
  refine lc_silent (fs := []) (M2 := mm aC r (fX9_silent vM0 AM0 (xs (i + 1)) (if xs (i + 2) = 0 then 0 else 1)).2.1 (fX9_silent vM0 AM0 (xs (i + 1)) (if xs (i + 2) = 0 then 0 else 1)).2.2 (cm aC x (fX8_silent iv0 av0 (xs (i + 1)) (if xs (i + 2) = 0 then 0 else 1)).2.2.1 (fX8_silent iv0 av0 (xs (i + 1)) (if xs (i + 2) = 0 then 0 else 1)).2.2.2 (zup R w (LA aC (if f = 0 then (vp_updL g 0 (if (fX8_silent iv0 av0 (xs (i + 1)) (if xs (i + 2) = 0 then 0 else 1)).2.1 = 0 then 0 else 1)) else g))))) (bv := (fX9_silent vM0 AM0 (xs (i + 1)) (if xs (i + 2) = 0 then 0 else 1)).1) C hX hbl hbA hi hLb hW (fun sz => ctX9_silent (n_ := 0) (vM0_0 (by decide)) (by decide) (b01 _) (fun j _ => Or.inl (by rw [AM0_0 (by decide) (by decide)]))) rm_0 (fun sz => ctX9_thrown) rm_0 (wm_w hr0 hw0) e1 ?_ hc hs hl (fun sz ls hl => kk _ _ _ _ _ (by omega) (by omega) hl)
  intro hk
  have f0 : f = 0 := by
    rcases hr with h | h
    · exact h
    all_goals (subst h; exact absurd hk (by decide))
  rw [if_pos f0, updL0, e2 f0]
theorem pf_template (a_ b_ c_ d_ e_ : Int32) : ∃ f : Nat, (fX8_template iv0 av0 a_ b_ c_ d_ e_).1 = f ∧ (f = 0 ∨ f = 3 ∨ f = 1 ∨ f = 2) ∧ (fX9_template vM0 AM0 a_ b_ c_ d_ e_).2.1 0 = (if f = 0 then 0 else if f = 3 then 1 else if f = 1 then 2 else 3) ∧ (f = 0 → (fX8_template iv0 av0 a_ b_ c_ d_ e_).2.1 = (fX9_template vM0 AM0 a_ b_ c_ d_ e_).1) := by
  obtain ⟨h1, h2⟩ := pe_template a_ b_ c_ d_ e_
  exact ⟨3, h1, by decide, h2, fun h => absurd h (by decide)⟩
theorem lf_template {p : Program} {l : Launch} {e : Env} {s : State} {m : MethodId} {args : Array Value} {below : List Frame} {meth : Method} {c : Code} {D : va_G} {aC : Nat → ClassId} {b0 b L i x r w sz cells slots : Nat} {Q : State → Prop} {xs : Nat → Int32} {R : ZM} {g : Nat → Int64} {ls : Array Slot} (C : zC p l s m c D aC b0 RL cL_law 7) (hX : va_X b L xs s s.heap) (hbl : b < s.heap.size) (hbA : b < b0) (hi : i + 6 ≤ L) (hLb : L < 2 ^ 31) (hr0 : x + 133 ≤ r) (hw0 : r + 39 ≤ w) (hc : cells + 2 ≤ 600002) (hs : slots + 12 ≤ 7302232) (hl : lv_has ls 7 [(0, .ref b), (1, .ref (x + 0)), (2, .ref r), (3, .ref w), (4, .int (nI i))]) (kk : ∀ (M2 : ZM) (sz cl sl : Nat) (ls : Array Slot), cl ≤ cells + 2 → sl ≤ slots + 12 → lv_has ls 7 [(0, .ref b), (1, .ref (x + 0)), (2, .ref r), (3, .ref w), (4, .int (nI i))] → Z p l e room_1 s m args below meth c D b0 M2 sz cl sl Q (F0 m 1136 ls [])) : Z p l e room_1 s m args below meth c D b0 (cm aC x iv0 av0 (mm aC r vM0 AM0 (zup R w (LA aC g)))) sz cells slots Q (F0 m 287 ls []) := by
  obtain ⟨f, hf, hr, e1, e2⟩ := pf_template (xs (i + 1)) (xs (i + 2)) (xs (i + 3)) (xs (i + 4)) (if xs (i + 5) = 0 then 0 else 1)
  have hC := ctX8_template (l := l) (D := D) (aC := aC) (b0 := b0) (sz := sz) (x := x) (iv := iv0) (av := av0) (R := (mm aC r vM0 AM0 (zup R w (LA aC g)))) (a_ := (xs (i + 1))) (b_ := (xs (i + 2))) (c_ := (xs (i + 3))) (d_ := (xs (i + 4))) (e_ := (if xs (i + 5) = 0 then 0 else 1)) (n_ := 0) iv0_05 (by decide) (b01 _) (fun j hj => ⟨0, by decide, iv0_T j hj⟩)
  rw [hf] at hC
  have hW := CtW.post (wL_template (w := w) (g := g) hC hr (rd_1 (k := 0) (by decide)) (wm_c hr0 hw0)) (wm_if hr0 hw0)
  refine lc_template (fs := []) (M2 := mm aC r (fX9_template vM0 AM0 (xs (i + 1)) (xs (i + 2)) (xs (i + 3)) (xs (i + 4)) (if xs (i + 5) = 0 then 0 else 1)).2.1 (fX9_template vM0 AM0 (xs (i + 1)) (xs (i + 2)) (xs (i + 3)) (xs (i + 4)) (if xs (i + 5) = 0 then 0 else 1)).2.2 (cm aC x (fX8_template iv0 av0 (xs (i + 1)) (xs (i + 2)) (xs (i + 3)) (xs (i + 4)) (if xs (i + 5) = 0 then 0 else 1)).2.2.1 (fX8_template iv0 av0 (xs (i + 1)) (xs (i + 2)) (xs (i + 3)) (xs (i + 4)) (if xs (i + 5) = 0 then 0 else 1)).2.2.2 (zup R w (LA aC (if f = 0 then (vp_updL g 0 ((fX8_template iv0 av0 (xs (i + 1)) (xs (i + 2)) (xs (i + 3)) (xs (i + 4)) (if xs (i + 5) = 0 then 0 else 1)).2.1).toInt64) else g))))) (bv := (fX9_template vM0 AM0 (xs (i + 1)) (xs (i + 2)) (xs (i + 3)) (xs (i + 4)) (if xs (i + 5) = 0 then 0 else 1)).1) C hX hbl hbA hi hLb hW (fun sz => ctX9_template (n_ := 0) (vM0_0 (by decide)) (by decide) (b01 _) (fun j _ => ⟨0, by decide, by rw [AM0_0 (by decide) (by decide)]; rfl⟩)) rm_0 (fun sz => ctX9_thrown) rm_0 (wm_w hr0 hw0) e1 ?_ hc hs hl (fun sz ls hl => kk _ _ _ _ _ (by omega) (by omega) hl)
  intro hk
  have f0 : f = 0 := by
    rcases hr with h | h | h | h
    · exact h
    all_goals (subst h; exact absurd hk (by decide))
  rw [if_pos f0, updL0, e2 f0]
theorem pf_pattern (a_ b_ c_ d_ : Int32) : ∃ f : Nat, (fX8_pattern iv0 av0 a_ b_ c_ d_).1 = f ∧ (f = 0 ∨ f = 3 ∨ f = 1 ∨ f = 2) ∧ (fX9_pattern vM0 AM0 a_ b_ c_ d_).2.1 0 = (if f = 0 then 0 else if f = 3 then 1 else if f = 1 then 2 else 3) ∧ (f = 0 → (fX8_pattern iv0 av0 a_ b_ c_ d_).2.1 = (fX9_pattern vM0 AM0 a_ b_ c_ d_).1) := by
  obtain ⟨h1, h2⟩ := pe_pattern a_ b_ c_ d_
  exact ⟨3, h1, by decide, h2, fun h => absurd h (by decide)⟩
theorem lf_pattern {p : Program} {l : Launch} {e : Env} {s : State} {m : MethodId} {args : Array Value} {below : List Frame} {meth : Method} {c : Code} {D : va_G} {aC : Nat → ClassId} {b0 b L i x r w sz cells slots : Nat} {Q : State → Prop} {xs : Nat → Int32} {R : ZM} {g : Nat → Int64} {ls : Array Slot} (C : zC p l s m c D aC b0 RL cL_law 7) (hX : va_X b L xs s s.heap) (hbl : b < s.heap.size) (hbA : b < b0) (hi : i + 6 ≤ L) (hLb : L < 2 ^ 31) (hr0 : x + 133 ≤ r) (hw0 : r + 39 ≤ w) (hc : cells + 2 ≤ 600002) (hs : slots + 12 ≤ 7302232) (hl : lv_has ls 7 [(0, .ref b), (1, .ref (x + 0)), (2, .ref r), (3, .ref w), (4, .int (nI i))]) (kk : ∀ (M2 : ZM) (sz cl sl : Nat) (ls : Array Slot), cl ≤ cells + 2 → sl ≤ slots + 12 → lv_has ls 7 [(0, .ref b), (1, .ref (x + 0)), (2, .ref r), (3, .ref w), (4, .int (nI i))] → Z p l e room_1 s m args below meth c D b0 M2 sz cl sl Q (F0 m 1136 ls [])) : Z p l e room_1 s m args below meth c D b0 (cm aC x iv0 av0 (mm aC r vM0 AM0 (zup R w (LA aC g)))) sz cells slots Q (F0 m 407 ls []) := by
  obtain ⟨f, hf, hr, e1, e2⟩ := pf_pattern (xs (i + 1)) (xs (i + 2)) (xs (i + 3)) (xs (i + 4))
  have hC := ctX8_pattern (l := l) (D := D) (aC := aC) (b0 := b0) (sz := sz) (x := x) (iv := iv0) (av := av0) (R := (mm aC r vM0 AM0 (zup R w (LA aC g)))) (a_ := (xs (i + 1))) (b_ := (xs (i + 2))) (c_ := (xs (i + 3))) (d_ := (xs (i + 4))) (n_ := 0) iv0_05 (by decide) (fun j hj => ⟨0, by decide, iv0_P j hj⟩)
  rw [hf] at hC
  have hW := CtW.post (wL_pattern (w := w) (g := g) hC hr (rd_1 (k := 0) (by decide)) (wm_c hr0 hw0)) (wm_if hr0 hw0)
  refine lc_pattern (fs := []) (M2 := mm aC r (fX9_pattern vM0 AM0 (xs (i + 1)) (xs (i + 2)) (xs (i + 3)) (xs (i + 4))).2.1 (fX9_pattern vM0 AM0 (xs (i + 1)) (xs (i + 2)) (xs (i + 3)) (xs (i + 4))).2.2 (cm aC x (fX8_pattern iv0 av0 (xs (i + 1)) (xs (i + 2)) (xs (i + 3)) (xs (i + 4))).2.2.1 (fX8_pattern iv0 av0 (xs (i + 1)) (xs (i + 2)) (xs (i + 3)) (xs (i + 4))).2.2.2 (zup R w (LA aC (if f = 0 then (vp_updL g 0 ((fX8_pattern iv0 av0 (xs (i + 1)) (xs (i + 2)) (xs (i + 3)) (xs (i + 4))).2.1).toInt64) else g))))) (bv := (fX9_pattern vM0 AM0 (xs (i + 1)) (xs (i + 2)) (xs (i + 3)) (xs (i + 4))).1) C hX hbl hbA hi hLb hW (fun sz => ctX9_pattern (n_ := 0) (vM0_0 (by decide)) (by decide) (fun j _ => ⟨0, by decide, by rw [AM0_0 (by decide) (by decide)]; rfl⟩)) rm_0 (fun sz => ctX9_thrown) rm_0 (wm_w hr0 hw0) e1 ?_ hc hs hl (fun sz ls hl => kk _ _ _ _ _ (by omega) (by omega) hl)
  intro hk
  have f0 : f = 0 := by
    rcases hr with h | h | h | h
    · exact h
    all_goals (subst h; exact absurd hk (by decide))
  rw [if_pos f0, updL0, e2 f0]
theorem pf_file (a_ b_ c_ d_ : Int32) : ∃ f : Nat, (fX8_file iv0 av0 a_ b_ c_ d_).1 = f ∧ (f = 0 ∨ f = 3 ∨ f = 1 ∨ f = 2) ∧ (fX9_file vM0 AM0 a_ b_ c_ d_).2.1 0 = (if f = 0 then 0 else if f = 3 then 1 else if f = 1 then 2 else 3) ∧ (f = 0 → (fX8_file iv0 av0 a_ b_ c_ d_).2.1 = (fX9_file vM0 AM0 a_ b_ c_ d_).1) := pe_file a_ b_ c_ d_
theorem lf_file {p : Program} {l : Launch} {e : Env} {s : State} {m : MethodId} {args : Array Value} {below : List Frame} {meth : Method} {c : Code} {D : va_G} {aC : Nat → ClassId} {b0 b L i x r w sz cells slots : Nat} {Q : State → Prop} {xs : Nat → Int32} {R : ZM} {g : Nat → Int64} {ls : Array Slot} (C : zC p l s m c D aC b0 RL cL_law 7) (hX : va_X b L xs s s.heap) (hbl : b < s.heap.size) (hbA : b < b0) (hi : i + 6 ≤ L) (hLb : L < 2 ^ 31) (hr0 : x + 133 ≤ r) (hw0 : r + 39 ≤ w) (hc : cells + 2 ≤ 600002) (hs : slots + 12 ≤ 7302232) (hl : lv_has ls 7 [(0, .ref b), (1, .ref (x + 0)), (2, .ref r), (3, .ref w), (4, .int (nI i))]) (kk : ∀ (M2 : ZM) (sz cl sl : Nat) (ls : Array Slot), cl ≤ cells + 2 → sl ≤ slots + 12 → lv_has ls 7 [(0, .ref b), (1, .ref (x + 0)), (2, .ref r), (3, .ref w), (4, .int (nI i))] → Z p l e room_1 s m args below meth c D b0 M2 sz cl sl Q (F0 m 1136 ls [])) : Z p l e room_1 s m args below meth c D b0 (cm aC x iv0 av0 (mm aC r vM0 AM0 (zup R w (LA aC g)))) sz cells slots Q (F0 m 499 ls []) := by
  obtain ⟨f, hf, hr, e1, e2⟩ := pf_file (xs (i + 1)) (xs (i + 2)) (xs (i + 3)) (xs (i + 4))
  have hC := ctX8_file (l := l) (D := D) (aC := aC) (b0 := b0) (sz := sz) (x := x) (iv := iv0) (av := av0) (R := (mm aC r vM0 AM0 (zup R w (LA aC g)))) (a_ := (xs (i + 1))) (b_ := (xs (i + 2))) (c_ := (xs (i + 3))) (d_ := (xs (i + 4))) (fun j hj => ⟨0, by decide, iv0_R j hj⟩)
  rw [hf] at hC
  have hW := CtW.post (wL_file (w := w) (g := g) hC hr (rd_1 (k := 0) (by decide)) (wm_c hr0 hw0)) (wm_if hr0 hw0)
  refine lc_file (fs := []) (M2 := mm aC r (fX9_file vM0 AM0 (xs (i + 1)) (xs (i + 2)) (xs (i + 3)) (xs (i + 4))).2.1 (fX9_file vM0 AM0 (xs (i + 1)) (xs (i + 2)) (xs (i + 3)) (xs (i + 4))).2.2 (cm aC x (fX8_file iv0 av0 (xs (i + 1)) (xs (i + 2)) (xs (i + 3)) (xs (i + 4))).2.2.1 (fX8_file iv0 av0 (xs (i + 1)) (xs (i + 2)) (xs (i + 3)) (xs (i + 4))).2.2.2 (zup R w (LA aC (if f = 0 then (vp_updL g 0 ((fX8_file iv0 av0 (xs (i + 1)) (xs (i + 2)) (xs (i + 3)) (xs (i + 4))).2.1).toInt64) else g))))) (bv := (fX9_file vM0 AM0 (xs (i + 1)) (xs (i + 2)) (xs (i + 3)) (xs (i + 4))).1) C hX hbl hbA hi hLb hW (fun sz => ctX9_file (fun j _ => ⟨0, by decide, by rw [AM0_0 (by decide) (by decide)]; rfl⟩)) rm_0 (fun sz => ctX9_thrown) rm_0 (wm_w hr0 hw0) e1 ?_ hc hs hl (fun sz ls hl => kk _ _ _ _ _ (by omega) (by omega) hl)
  intro hk
  have f0 : f = 0 := by
    rcases hr with h | h | h | h
    · exact h
    all_goals (subst h; exact absurd hk (by decide))
  rw [if_pos f0, updL0, e2 f0]
theorem pf_torn (a_ b_ : Int32) : ∃ f : Nat, (fX8_torn iv0 av0 a_ b_).1 = f ∧ (f = 0 ∨ f = 3) ∧ (fX9_torn vM0 AM0 a_ b_).2.1 0 = (if f = 0 then 0 else 1) ∧ (f = 0 → (fX8_torn iv0 av0 a_ b_).2.1 = (fX9_torn vM0 AM0 a_ b_).1) := by
  obtain ⟨h1, h2, h3⟩ := pe_torn a_ b_
  refine ⟨_, rfl, ?_, ?_, h3⟩
  · rw [h1]; split
    · exact Or.inr rfl
    · exact Or.inl rfl
  · rw [h2, h1]; split <;> simp [*]
theorem lf_torn {p : Program} {l : Launch} {e : Env} {s : State} {m : MethodId} {args : Array Value} {below : List Frame} {meth : Method} {c : Code} {D : va_G} {aC : Nat → ClassId} {b0 b L i x r w sz cells slots : Nat} {Q : State → Prop} {xs : Nat → Int32} {R : ZM} {g : Nat → Int64} {ls : Array Slot} (C : zC p l s m c D aC b0 RL cL_law 7) (hX : va_X b L xs s s.heap) (hbl : b < s.heap.size) (hbA : b < b0) (hi : i + 6 ≤ L) (hLb : L < 2 ^ 31) (hr0 : x + 133 ≤ r) (hw0 : r + 39 ≤ w) (hc : cells + 2 ≤ 600002) (hs : slots + 12 ≤ 7302232) (hl : lv_has ls 7 [(0, .ref b), (1, .ref (x + 0)), (2, .ref r), (3, .ref w), (4, .int (nI i))]) (kk : ∀ (M2 : ZM) (sz cl sl : Nat) (ls : Array Slot), cl ≤ cells + 2 → sl ≤ slots + 12 → lv_has ls 7 [(0, .ref b), (1, .ref (x + 0)), (2, .ref r), (3, .ref w), (4, .int (nI i))] → Z p l e room_1 s m args below meth c D b0 M2 sz cl sl Q (F0 m 1136 ls [])) : Z p l e room_1 s m args below meth c D b0 (cm aC x iv0 av0 (mm aC r vM0 AM0 (zup R w (LA aC g)))) sz cells slots Q (F0 m 591 ls []) := by
  obtain ⟨f, hf, hr, e1, e2⟩ := pf_torn (xs (i + 1)) (if xs (i + 2) = 0 then 0 else 1)
  have hC := ctX8_torn (l := l) (D := D) (aC := aC) (b0 := b0) (sz := sz) (x := x) (iv := iv0) (av := av0) (R := (mm aC r vM0 AM0 (zup R w (LA aC g)))) (a_ := (xs (i + 1))) (b_ := (if xs (i + 2) = 0 then 0 else 1)) (b01 _) (fun j hj => Or.inl (iv0_F j hj))
  rw [hf] at hC
  have hW := CtW.post (wL_torn (w := w) (g := g) hC hr (rd_1 (k := 0) (by decide)) (wm_c hr0 hw0)) (wm_if hr0 hw0)
  refine lc_torn (fs := []) (M2 := mm aC r (fX9_torn vM0 AM0 (xs (i + 1)) (if xs (i + 2) = 0 then 0 else 1)).2.1 (fX9_torn vM0 AM0 (xs (i + 1)) (if xs (i + 2) = 0 then 0 else 1)).2.2 (cm aC x (fX8_torn iv0 av0 (xs (i + 1)) (if xs (i + 2) = 0 then 0 else 1)).2.2.1 (fX8_torn iv0 av0 (xs (i + 1)) (if xs (i + 2) = 0 then 0 else 1)).2.2.2 (zup R w (LA aC (if f = 0 then (vp_updL g 0 (if (fX8_torn iv0 av0 (xs (i + 1)) (if xs (i + 2) = 0 then 0 else 1)).2.1 = 0 then 0 else 1)) else g))))) (bv := (fX9_torn vM0 AM0 (xs (i + 1)) (if xs (i + 2) = 0 then 0 else 1)).1) C hX hbl hbA hi hLb hW (fun sz => ctX9_torn (b01 _) (fun j _ => Or.inl (by rw [AM0_0 (by decide) (by decide)]))) rm_0 (fun sz => ctX9_thrown) rm_0 (wm_w hr0 hw0) e1 ?_ hc hs hl (fun sz ls hl => kk _ _ _ _ _ (by omega) (by omega) hl)
  intro hk
  have f0 : f = 0 := by
    rcases hr with h | h
    · exact h
    all_goals (subst h; exact absurd hk (by decide))
  rw [if_pos f0, updL0, e2 f0]
theorem lf_run {p : Program} {l : Launch} {e : Env} {s : State} {m : MethodId} {args : Array Value} {below : List Frame} {meth : Method} {c : Code} {D : va_G} {aC : Nat → ClassId} {b0 b L i x r w sz cells slots : Nat} {Q : State → Prop} {xs : Nat → Int32} {R : ZM} {g : Nat → Int64} {ls : Array Slot} (C : zC p l s m c D aC b0 RL cL_law 7) (hX : va_X b L xs s s.heap) (hbl : b < s.heap.size) (hbA : b < b0) (hi : i + 6 ≤ L) (hLb : L < 2 ^ 31) (hr0 : x + 133 ≤ r) (hw0 : r + 39 ≤ w) (hc : cells + 2 ≤ 600002) (hs : slots + 12 ≤ 7302232) (hl : lv_has ls 7 [(0, .ref b), (1, .ref (x + 0)), (2, .ref r), (3, .ref w), (4, .int (nI i))]) (kk : ∀ (M2 : ZM) (sz cl sl : Nat) (ls : Array Slot), cl ≤ cells + 2 → sl ≤ slots + 12 → lv_has ls 7 [(0, .ref b), (1, .ref (x + 0)), (2, .ref r), (3, .ref w), (4, .int (nI i))] → Z p l e room_1 s m args below meth c D b0 M2 sz cl sl Q (F0 m 1136 ls [])) : Z p l e room_1 s m args below meth c D b0 (cm aC x iv0 av0 (mm aC r vM0 AM0 (zup R w (LA aC g)))) sz cells slots Q (F0 m 682 ls []) := by
  refine lc_run (tv := 0) (fs2 := []) (g := g) (w := w) (kc := (fX8_run0 iv0 av0).1) (bv := (fX9_run0 vM0 AM0).1) C hX hbl hbA hi hLb (fun sz => Ct.post (ctX8_run0 (x := x) (iv := iv0) (av := av0) (R := (mm aC r vM0 AM0 (zup R w (LA aC g)))) iv0_05 iv0_sz iv0_tz) (cm_mm hr0)) (rd_1 (k := 0) (by decide)) (fun sz => ctX9_run0 (r := r) (v := vM0) (A := AM0) (R := cm aC x (fX8_run0 iv0 av0).2.1 (fX8_run0 iv0 av0).2.2 (zup R w (LA aC g))) (vM0_0 (by decide)) (vM0_0 (by decide)) AM0_23) rm_0 pe_run hc hs hl (fun sz ls hl => kk _ _ _ _ _ (by omega) (by omega) hl)
theorem lf_fails {p : Program} {l : Launch} {e : Env} {s : State} {m : MethodId} {args : Array Value} {below : List Frame} {meth : Method} {c : Code} {D : va_G} {aC : Nat → ClassId} {b0 b L i x r w sz cells slots : Nat} {Q : State → Prop} {xs : Nat → Int32} {R : ZM} {g : Nat → Int64} {ls : Array Slot} (C : zC p l s m c D aC b0 RL cL_law 7) (hX : va_X b L xs s s.heap) (hbl : b < s.heap.size) (hbA : b < b0) (hi : i + 6 ≤ L) (hLb : L < 2 ^ 31) (hr0 : x + 133 ≤ r) (hw0 : r + 39 ≤ w) (hc : cells + 2 ≤ 600002) (hs : slots + 12 ≤ 7302232) (hl : lv_has ls 7 [(0, .ref b), (1, .ref (x + 0)), (2, .ref r), (3, .ref w), (4, .int (nI i))]) (kk : ∀ (M2 : ZM) (sz cl sl : Nat) (ls : Array Slot), cl ≤ cells + 2 → sl ≤ slots + 12 → lv_has ls 7 [(0, .ref b), (1, .ref (x + 0)), (2, .ref r), (3, .ref w), (4, .int (nI i))] → Z p l e room_1 s m args below meth c D b0 M2 sz cl sl Q (F0 m 1136 ls [])) : Z p l e room_1 s m args below meth c D b0 (cm aC x iv0 av0 (mm aC r vM0 AM0 (zup R w (LA aC g)))) sz cells slots Q (F0 m 695 ls []) := by
  refine lc_fails (tv := 0) (fs2 := []) (g := g) (w := w) (kc := (fX8_fails iv0)) (bv := (fX9_fails vM0 AM0).1) C hX hbl hbA hi hLb (fun sz => Ct.post (ctX8_fails (x := x) (iv := iv0) (av := av0) (R := (mm aC r vM0 AM0 (zup R w (LA aC g)))) ) (cm_mm hr0)) (rd_1 (k := 0) (by decide)) (fun sz => ctX9_fails (r := r) (v := vM0) (A := AM0) (R := cm aC x iv0 av0 (zup R w (LA aC g))) ) rm_0 pe_fails hc hs hl (fun sz ls hl => kk _ _ _ _ _ (by omega) (by omega) hl)
theorem lf_clear {p : Program} {l : Launch} {e : Env} {s : State} {m : MethodId} {args : Array Value} {below : List Frame} {meth : Method} {c : Code} {D : va_G} {aC : Nat → ClassId} {b0 b L i x r w sz cells slots : Nat} {Q : State → Prop} {xs : Nat → Int32} {R : ZM} {g : Nat → Int64} {ls : Array Slot} (C : zC p l s m c D aC b0 RL cL_law 7) (hX : va_X b L xs s s.heap) (hbl : b < s.heap.size) (hbA : b < b0) (hi : i + 6 ≤ L) (hLb : L < 2 ^ 31) (hr0 : x + 133 ≤ r) (hw0 : r + 39 ≤ w) (hc : cells + 2 ≤ 600002) (hs : slots + 12 ≤ 7302232) (hl : lv_has ls 7 [(0, .ref b), (1, .ref (x + 0)), (2, .ref r), (3, .ref w), (4, .int (nI i))]) (kk : ∀ (M2 : ZM) (sz cl sl : Nat) (ls : Array Slot), cl ≤ cells + 2 → sl ≤ slots + 12 → lv_has ls 7 [(0, .ref b), (1, .ref (x + 0)), (2, .ref r), (3, .ref w), (4, .int (nI i))] → Z p l e room_1 s m args below meth c D b0 M2 sz cl sl Q (F0 m 1136 ls [])) : Z p l e room_1 s m args below meth c D b0 (cm aC x iv0 av0 (mm aC r vM0 AM0 (zup R w (LA aC g)))) sz cells slots Q (F0 m 708 ls []) := by
  refine lc_clear (tv := 0) (fs2 := []) (g := g) (w := w) (kc := (fX8_clear iv0 av0).1) (bv := (fX9_clear vM0 AM0).1) C hX hbl hbA hi hLb (fun sz => Ct.post (ctX8_clear (x := x) (iv := iv0) (av := av0) (R := (mm aC r vM0 AM0 (zup R w (LA aC g)))) ) (cm_mm hr0)) (rd_1 (k := 0) (by decide)) (fun sz => ctX9_clear (r := r) (v := vM0) (A := AM0) (R := cm aC x (fX8_clear iv0 av0).2.1 (fX8_clear iv0 av0).2.2 (zup R w (LA aC g))) ) rm_0 pe_clear hc hs hl (fun sz ls hl => kk _ _ _ _ _ (by omega) (by omega) hl)
theorem pf_many (a_ : Int32) : ∃ f : Nat, (fX8_many iv0 a_).1 = f ∧ (f = 0 ∨ f = 3) ∧ (fX9_many vM0 AM0 a_).2.1 0 = (if f = 0 then 0 else 1) ∧ (f = 0 → (fX8_many iv0 a_).2 = (fX9_many vM0 AM0 a_).1) := by
  obtain ⟨h1, h2, h3⟩ := pe_many a_
  refine ⟨_, rfl, ?_, ?_, h3⟩
  · rw [h1]; split
    · exact Or.inr rfl
    · exact Or.inl rfl
  · rw [h2, h1]; split <;> simp [*]
theorem lf_many {p : Program} {l : Launch} {e : Env} {s : State} {m : MethodId} {args : Array Value} {below : List Frame} {meth : Method} {c : Code} {D : va_G} {aC : Nat → ClassId} {b0 b L i x r w sz cells slots : Nat} {Q : State → Prop} {xs : Nat → Int32} {R : ZM} {g : Nat → Int64} {ls : Array Slot} (C : zC p l s m c D aC b0 RL cL_law 7) (hX : va_X b L xs s s.heap) (hbl : b < s.heap.size) (hbA : b < b0) (hi : i + 6 ≤ L) (hLb : L < 2 ^ 31) (hr0 : x + 133 ≤ r) (hw0 : r + 39 ≤ w) (hc : cells + 2 ≤ 600002) (hs : slots + 12 ≤ 7302232) (hl : lv_has ls 7 [(0, .ref b), (1, .ref (x + 0)), (2, .ref r), (3, .ref w), (4, .int (nI i))]) (kk : ∀ (M2 : ZM) (sz cl sl : Nat) (ls : Array Slot), cl ≤ cells + 2 → sl ≤ slots + 12 → lv_has ls 7 [(0, .ref b), (1, .ref (x + 0)), (2, .ref r), (3, .ref w), (4, .int (nI i))] → Z p l e room_1 s m args below meth c D b0 M2 sz cl sl Q (F0 m 1136 ls [])) : Z p l e room_1 s m args below meth c D b0 (cm aC x iv0 av0 (mm aC r vM0 AM0 (zup R w (LA aC g)))) sz cells slots Q (F0 m 721 ls []) := by
  obtain ⟨f, hf, hr, e1, e2⟩ := pf_many (xs (i + 1))
  have hC := ctX8_many (l := l) (D := D) (aC := aC) (b0 := b0) (sz := sz) (x := x) (iv := iv0) (av := av0) (R := (mm aC r vM0 AM0 (zup R w (LA aC g)))) (a_ := (xs (i + 1))) 
  rw [hf] at hC
  have hW := CtW.post (wL_many (w := w) (g := g) hC hr (rd_1 (k := 0) (by decide)) (wm_c hr0 hw0)) (wm_if hr0 hw0)
  refine lc_many (fs := []) (M2 := mm aC r (fX9_many vM0 AM0 (xs (i + 1))).2.1 (fX9_many vM0 AM0 (xs (i + 1))).2.2 (cm aC x iv0 av0 (zup R w (LA aC (if f = 0 then (vp_updL g 0 ((fX8_many iv0 (xs (i + 1))).2).toInt64) else g))))) (bv := (fX9_many vM0 AM0 (xs (i + 1))).1) C hX hbl hbA hi hLb hW (fun sz => ctX9_many (n_ := 0) (vM0_0 (by decide)) (by decide)) rm_0 (fun sz => ctX9_thrown) rm_0 (wm_w hr0 hw0) e1 ?_ hc hs hl (fun sz ls hl => kk _ _ _ _ _ (by omega) (by omega) hl)
  intro hk
  have f0 : f = 0 := by
    rcases hr with h | h
    · exact h
    all_goals (subst h; exact absurd hk (by decide))
  rw [if_pos f0, updL0, e2 f0]
theorem pf_at (a_ b_ c_ : Int32) : ∃ f : Nat, (fX8_at iv0 av0 a_ b_ c_).1 = f ∧ (f = 0 ∨ f = 3 ∨ f = 1) ∧ (fX9_at vM0 AM0 a_ b_ c_).2.1 0 = (if f = 0 then 0 else if f = 3 then 1 else 2) ∧ (f = 0 → (fX8_at iv0 av0 a_ b_ c_).2 = (fX9_at vM0 AM0 a_ b_ c_).1) := by
  obtain ⟨h1, h2⟩ := pe_at a_ b_ c_
  exact ⟨3, h1, by decide, h2, fun h => absurd h (by decide)⟩
theorem lf_at {p : Program} {l : Launch} {e : Env} {s : State} {m : MethodId} {args : Array Value} {below : List Frame} {meth : Method} {c : Code} {D : va_G} {aC : Nat → ClassId} {b0 b L i x r w sz cells slots : Nat} {Q : State → Prop} {xs : Nat → Int32} {R : ZM} {g : Nat → Int64} {ls : Array Slot} (C : zC p l s m c D aC b0 RL cL_law 7) (hX : va_X b L xs s s.heap) (hbl : b < s.heap.size) (hbA : b < b0) (hi : i + 6 ≤ L) (hLb : L < 2 ^ 31) (hr0 : x + 133 ≤ r) (hw0 : r + 39 ≤ w) (hc : cells + 2 ≤ 600002) (hs : slots + 12 ≤ 7302232) (hl : lv_has ls 7 [(0, .ref b), (1, .ref (x + 0)), (2, .ref r), (3, .ref w), (4, .int (nI i))]) (kk : ∀ (M2 : ZM) (sz cl sl : Nat) (ls : Array Slot), cl ≤ cells + 2 → sl ≤ slots + 12 → lv_has ls 7 [(0, .ref b), (1, .ref (x + 0)), (2, .ref r), (3, .ref w), (4, .int (nI i))] → Z p l e room_1 s m args below meth c D b0 M2 sz cl sl Q (F0 m 1136 ls [])) : Z p l e room_1 s m args below meth c D b0 (cm aC x iv0 av0 (mm aC r vM0 AM0 (zup R w (LA aC g)))) sz cells slots Q (F0 m 777 ls []) := by
  obtain ⟨f, hf, hr, e1, e2⟩ := pf_at (xs (i + 1)) (xs (i + 2)) (xs (i + 3))
  have hC := ctX8_at (l := l) (D := D) (aC := aC) (b0 := b0) (sz := sz) (x := x) (iv := iv0) (av := av0) (R := (mm aC r vM0 AM0 (zup R w (LA aC g)))) (a_ := (xs (i + 1))) (b_ := (xs (i + 2))) (c_ := (xs (i + 3))) (fun j hj => ⟨0, by decide, iv0_sz j hj⟩)
  rw [hf] at hC
  have hW := CtW.post (wL_at (w := w) (g := g) hC hr (rd_1 (k := 0) (by decide)) (wm_c hr0 hw0)) (wm_if hr0 hw0)
  refine lc_at (fs := []) (M2 := mm aC r (fX9_at vM0 AM0 (xs (i + 1)) (xs (i + 2)) (xs (i + 3))).2.1 (fX9_at vM0 AM0 (xs (i + 1)) (xs (i + 2)) (xs (i + 3))).2.2 (cm aC x iv0 av0 (zup R w (LA aC (if f = 0 then (vp_updL g 0 ((fX8_at iv0 av0 (xs (i + 1)) (xs (i + 2)) (xs (i + 3))).2).toInt64) else g))))) (bv := (fX9_at vM0 AM0 (xs (i + 1)) (xs (i + 2)) (xs (i + 3))).1) C hX hbl hbA hi hLb hW (fun sz => ctX9_at (n_ := 0) (vM0_0 (by decide)) (by decide) (fun j _ => ⟨0, by decide, by rw [AM0_0 (by decide) (by decide)]; rfl⟩)) rm_0 (fun sz => ctX9_thrown) rm_0 (wm_w hr0 hw0) e1 ?_ hc hs hl (fun sz ls hl => kk _ _ _ _ _ (by omega) (by omega) hl)
  intro hk
  have f0 : f = 0 := by
    rcases hr with h | h | h
    · exact h
    all_goals (subst h; exact absurd hk (by decide))
  rw [if_pos f0, updL0, e2 f0]
theorem pf_has (a_ b_ c_ d_ : Int32) : ∃ f : Nat, (fX8_has iv0 av0 a_ b_ c_ d_).1 = f ∧ (f = 0 ∨ f = 3) ∧ (fX9_has vM0 AM0 a_ b_ c_ d_).2.1 0 = (if f = 0 then 0 else 1) ∧ (f = 0 → (fX8_has iv0 av0 a_ b_ c_ d_).2 = (fX9_has vM0 AM0 a_ b_ c_ d_).1) := by
  obtain ⟨h1, h2, h3⟩ := pe_has a_ b_ c_ d_
  refine ⟨_, rfl, ?_, ?_, h3⟩
  · rw [h1]; split
    · exact Or.inr rfl
    · exact Or.inl rfl
  · rw [h2, h1]; split <;> simp [*]
theorem lf_has {p : Program} {l : Launch} {e : Env} {s : State} {m : MethodId} {args : Array Value} {below : List Frame} {meth : Method} {c : Code} {D : va_G} {aC : Nat → ClassId} {b0 b L i x r w sz cells slots : Nat} {Q : State → Prop} {xs : Nat → Int32} {R : ZM} {g : Nat → Int64} {ls : Array Slot} (C : zC p l s m c D aC b0 RL cL_law 7) (hX : va_X b L xs s s.heap) (hbl : b < s.heap.size) (hbA : b < b0) (hi : i + 6 ≤ L) (hLb : L < 2 ^ 31) (hr0 : x + 133 ≤ r) (hw0 : r + 39 ≤ w) (hc : cells + 2 ≤ 600002) (hs : slots + 12 ≤ 7302232) (hl : lv_has ls 7 [(0, .ref b), (1, .ref (x + 0)), (2, .ref r), (3, .ref w), (4, .int (nI i))]) (kk : ∀ (M2 : ZM) (sz cl sl : Nat) (ls : Array Slot), cl ≤ cells + 2 → sl ≤ slots + 12 → lv_has ls 7 [(0, .ref b), (1, .ref (x + 0)), (2, .ref r), (3, .ref w), (4, .int (nI i))] → Z p l e room_1 s m args below meth c D b0 M2 sz cl sl Q (F0 m 1136 ls [])) : Z p l e room_1 s m args below meth c D b0 (cm aC x iv0 av0 (mm aC r vM0 AM0 (zup R w (LA aC g)))) sz cells slots Q (F0 m 857 ls []) := by
  obtain ⟨f, hf, hr, e1, e2⟩ := pf_has (xs (i + 1)) (xs (i + 2)) (xs (i + 3)) (xs (i + 4))
  have hC := ctX8_has (l := l) (D := D) (aC := aC) (b0 := b0) (sz := sz) (x := x) (iv := iv0) (av := av0) (R := (mm aC r vM0 AM0 (zup R w (LA aC g)))) (a_ := (xs (i + 1))) (b_ := (xs (i + 2))) (c_ := (xs (i + 3))) (d_ := (xs (i + 4))) (fun j hj => ⟨0, by decide, iv0_sz j hj⟩)
  rw [hf] at hC
  have hW := CtW.post (wL_has (w := w) (g := g) hC hr (rd_1 (k := 0) (by decide)) (wm_c hr0 hw0)) (wm_if hr0 hw0)
  refine lc_has (fs := []) (M2 := mm aC r (fX9_has vM0 AM0 (xs (i + 1)) (xs (i + 2)) (xs (i + 3)) (xs (i + 4))).2.1 (fX9_has vM0 AM0 (xs (i + 1)) (xs (i + 2)) (xs (i + 3)) (xs (i + 4))).2.2 (cm aC x iv0 av0 (zup R w (LA aC (if f = 0 then (vp_updL g 0 (if (fX8_has iv0 av0 (xs (i + 1)) (xs (i + 2)) (xs (i + 3)) (xs (i + 4))).2 = 0 then 0 else 1)) else g))))) (bv := (fX9_has vM0 AM0 (xs (i + 1)) (xs (i + 2)) (xs (i + 3)) (xs (i + 4))).1) C hX hbl hbA hi hLb hW (fun sz => ctX9_has (n_ := 0) (vM0_0 (by decide)) (by decide)) rm_0 (fun sz => ctX9_thrown) rm_0 (wm_w hr0 hw0) e1 ?_ hc hs hl (fun sz ls hl => kk _ _ _ _ _ (by omega) (by omega) hl)
  intro hk
  have f0 : f = 0 := by
    rcases hr with h | h
    · exact h
    all_goals (subst h; exact absurd hk (by decide))
  rw [if_pos f0, updL0, e2 f0]
theorem pf_changed (a_ b_ : Int32) : ∃ f : Nat, (fX8_changed iv0 av0 a_ b_).1 = f ∧ (f = 0 ∨ f = 3 ∨ f = 1) ∧ (fX9_changed vM0 AM0 a_ b_).2.1 0 = (if f = 0 then 0 else if f = 3 then 1 else 2) ∧ (f = 0 → (fX8_changed iv0 av0 a_ b_).2 = (fX9_changed vM0 AM0 a_ b_).1) := by
  obtain ⟨h1, h2⟩ := pe_changed a_ b_
  exact ⟨3, h1, by decide, h2, fun h => absurd h (by decide)⟩
theorem lf_changed {p : Program} {l : Launch} {e : Env} {s : State} {m : MethodId} {args : Array Value} {below : List Frame} {meth : Method} {c : Code} {D : va_G} {aC : Nat → ClassId} {b0 b L i x r w sz cells slots : Nat} {Q : State → Prop} {xs : Nat → Int32} {R : ZM} {g : Nat → Int64} {ls : Array Slot} (C : zC p l s m c D aC b0 RL cL_law 7) (hX : va_X b L xs s s.heap) (hbl : b < s.heap.size) (hbA : b < b0) (hi : i + 6 ≤ L) (hLb : L < 2 ^ 31) (hr0 : x + 133 ≤ r) (hw0 : r + 39 ≤ w) (hc : cells + 2 ≤ 600002) (hs : slots + 12 ≤ 7302232) (hl : lv_has ls 7 [(0, .ref b), (1, .ref (x + 0)), (2, .ref r), (3, .ref w), (4, .int (nI i))]) (kk : ∀ (M2 : ZM) (sz cl sl : Nat) (ls : Array Slot), cl ≤ cells + 2 → sl ≤ slots + 12 → lv_has ls 7 [(0, .ref b), (1, .ref (x + 0)), (2, .ref r), (3, .ref w), (4, .int (nI i))] → Z p l e room_1 s m args below meth c D b0 M2 sz cl sl Q (F0 m 1136 ls [])) : Z p l e room_1 s m args below meth c D b0 (cm aC x iv0 av0 (mm aC r vM0 AM0 (zup R w (LA aC g)))) sz cells slots Q (F0 m 956 ls []) := by
  obtain ⟨f, hf, hr, e1, e2⟩ := pf_changed (xs (i + 1)) (xs (i + 2))
  have hC := ctX8_changed (l := l) (D := D) (aC := aC) (b0 := b0) (sz := sz) (x := x) (iv := iv0) (av := av0) (R := (mm aC r vM0 AM0 (zup R w (LA aC g)))) (a_ := (xs (i + 1))) (b_ := (xs (i + 2))) (n_ := 0) iv0_57 (by decide)
  rw [hf] at hC
  have hW := CtW.post (wL_changed (w := w) (g := g) hC hr (rd_1 (k := 0) (by decide)) (wm_c hr0 hw0)) (wm_if hr0 hw0)
  refine lc_changed (fs := []) (M2 := mm aC r (fX9_changed vM0 AM0 (xs (i + 1)) (xs (i + 2))).2.1 (fX9_changed vM0 AM0 (xs (i + 1)) (xs (i + 2))).2.2 (cm aC x iv0 av0 (zup R w (LA aC (if f = 0 then (vp_updL g 0 ((fX8_changed iv0 av0 (xs (i + 1)) (xs (i + 2))).2).toInt64) else g))))) (bv := (fX9_changed vM0 AM0 (xs (i + 1)) (xs (i + 2))).1) C hX hbl hbA hi hLb hW (fun sz => ctX9_changed (n_ := 0) (vM0_0 (by decide)) (by decide)) rm_0 (fun sz => ctX9_thrown) rm_0 (wm_w hr0 hw0) e1 ?_ hc hs hl (fun sz ls hl => kk _ _ _ _ _ (by omega) (by omega) hl)
  intro hk
  have f0 : f = 0 := by
    rcases hr with h | h | h
    · exact h
    all_goals (subst h; exact absurd hk (by decide))
  rw [if_pos f0, updL0, e2 f0]
theorem pf_solutions (a_ : Int32) : ∃ f : Nat, (fX8_solutions iv0 a_).1 = f ∧ (f = 0 ∨ f = 3) ∧ (fX9_solutions vM0 AM0 a_).2.1 0 = (if f = 0 then 0 else 1) ∧ (f = 0 → (fX8_solutions iv0 a_).2 = (fX9_solutions vM0 AM0 a_).1) := by
  obtain ⟨h1, h2⟩ := pe_solutions a_
  exact ⟨3, h1, by decide, h2, fun h => absurd h (by decide)⟩
theorem lf_solutions {p : Program} {l : Launch} {e : Env} {s : State} {m : MethodId} {args : Array Value} {below : List Frame} {meth : Method} {c : Code} {D : va_G} {aC : Nat → ClassId} {b0 b L i x r w sz cells slots : Nat} {Q : State → Prop} {xs : Nat → Int32} {R : ZM} {g : Nat → Int64} {ls : Array Slot} (C : zC p l s m c D aC b0 RL cL_law 7) (hX : va_X b L xs s s.heap) (hbl : b < s.heap.size) (hbA : b < b0) (hi : i + 6 ≤ L) (hLb : L < 2 ^ 31) (hr0 : x + 133 ≤ r) (hw0 : r + 39 ≤ w) (hc : cells + 2 ≤ 600002) (hs : slots + 12 ≤ 7302232) (hl : lv_has ls 7 [(0, .ref b), (1, .ref (x + 0)), (2, .ref r), (3, .ref w), (4, .int (nI i))]) (kk : ∀ (M2 : ZM) (sz cl sl : Nat) (ls : Array Slot), cl ≤ cells + 2 → sl ≤ slots + 12 → lv_has ls 7 [(0, .ref b), (1, .ref (x + 0)), (2, .ref r), (3, .ref w), (4, .int (nI i))] → Z p l e room_1 s m args below meth c D b0 M2 sz cl sl Q (F0 m 1136 ls [])) : Z p l e room_1 s m args below meth c D b0 (cm aC x iv0 av0 (mm aC r vM0 AM0 (zup R w (LA aC g)))) sz cells slots Q (F0 m 1024 ls []) := by
  obtain ⟨f, hf, hr, e1, e2⟩ := pf_solutions (xs (i + 1))
  have hC := ctX8_solutions (l := l) (D := D) (aC := aC) (b0 := b0) (sz := sz) (x := x) (iv := iv0) (av := av0) (R := (mm aC r vM0 AM0 (zup R w (LA aC g)))) (a_ := (xs (i + 1))) (n_ := 0) iv0_05 (by decide)
  rw [hf] at hC
  have hW := CtW.post (wL_solutions (w := w) (g := g) hC hr (rd_1 (k := 0) (by decide)) (wm_c hr0 hw0)) (wm_if hr0 hw0)
  refine lc_solutions (fs := []) (M2 := mm aC r (fX9_solutions vM0 AM0 (xs (i + 1))).2.1 (fX9_solutions vM0 AM0 (xs (i + 1))).2.2 (cm aC x iv0 av0 (zup R w (LA aC (if f = 0 then (vp_updL g 0 ((fX8_solutions iv0 (xs (i + 1))).2).toInt64) else g))))) (bv := (fX9_solutions vM0 AM0 (xs (i + 1))).1) C hX hbl hbA hi hLb hW (fun sz => ctX9_solutions (n_ := 0) (vM0_0 (by decide)) (by decide)) rm_0 (fun sz => ctX9_thrown) rm_0 (wm_w hr0 hw0) e1 ?_ hc hs hl (fun sz ls hl => kk _ _ _ _ _ (by omega) (by omega) hl)
  intro hk
  have f0 : f = 0 := by
    rcases hr with h | h
    · exact h
    all_goals (subst h; exact absurd hk (by decide))
  rw [if_pos f0, updL0, e2 f0]
theorem pf_told (a_ : Int32) : ∃ f : Nat, (fX8_told iv0 a_).1 = f ∧ (f = 0 ∨ f = 1) ∧ (fX9_told vM0 AM0 a_).2.1 0 = (if f = 0 then 0 else 1) ∧ (f = 0 → (fX8_told iv0 a_).2 = (fX9_told vM0 AM0 a_).1) := pe_told a_
theorem lf_told {p : Program} {l : Launch} {e : Env} {s : State} {m : MethodId} {args : Array Value} {below : List Frame} {meth : Method} {c : Code} {D : va_G} {aC : Nat → ClassId} {b0 b L i x r w sz cells slots : Nat} {Q : State → Prop} {xs : Nat → Int32} {R : ZM} {g : Nat → Int64} {ls : Array Slot} (C : zC p l s m c D aC b0 RL cL_law 7) (hX : va_X b L xs s s.heap) (hbl : b < s.heap.size) (hbA : b < b0) (hi : i + 6 ≤ L) (hLb : L < 2 ^ 31) (hr0 : x + 133 ≤ r) (hw0 : r + 39 ≤ w) (hc : cells + 2 ≤ 600002) (hs : slots + 12 ≤ 7302232) (hl : lv_has ls 7 [(0, .ref b), (1, .ref (x + 0)), (2, .ref r), (3, .ref w), (4, .int (nI i))]) (kk : ∀ (M2 : ZM) (sz cl sl : Nat) (ls : Array Slot), cl ≤ cells + 2 → sl ≤ slots + 12 → lv_has ls 7 [(0, .ref b), (1, .ref (x + 0)), (2, .ref r), (3, .ref w), (4, .int (nI i))] → Z p l e room_1 s m args below meth c D b0 M2 sz cl sl Q (F0 m 1136 ls [])) : Z p l e room_1 s m args below meth c D b0 (cm aC x iv0 av0 (mm aC r vM0 AM0 (zup R w (LA aC g)))) sz cells slots Q (F0 m 1080 ls []) := by
  obtain ⟨f, hf, hr, e1, e2⟩ := pf_told (xs (i + 1))
  have hC := ctX8_told (l := l) (D := D) (aC := aC) (b0 := b0) (sz := sz) (x := x) (iv := iv0) (av := av0) (R := (mm aC r vM0 AM0 (zup R w (LA aC g)))) (a_ := (xs (i + 1))) 
  rw [hf] at hC
  have hW := CtW.post (wL_told (w := w) (g := g) hC hr (rd_1 (k := 0) (by decide)) (wm_c hr0 hw0)) (wm_if hr0 hw0)
  refine lc_told (fs := []) (M2 := mm aC r (fX9_told vM0 AM0 (xs (i + 1))).2.1 (fX9_told vM0 AM0 (xs (i + 1))).2.2 (cm aC x iv0 av0 (zup R w (LA aC (if f = 0 then (vp_updL g 0 ((fX8_told iv0 (xs (i + 1))).2).toInt64) else g))))) (bv := (fX9_told vM0 AM0 (xs (i + 1))).1) C hX hbl hbA hi hLb hW (fun sz => ctX9_told ) rm_0 (fun sz => ctX9_thrown) rm_0 (wm_w hr0 hw0) e1 ?_ hc hs hl (fun sz ls hl => kk _ _ _ _ _ (by omega) (by omega) hl)
  intro hk
  have f0 : f = 0 := by
    rcases hr with h | h
    · exact h
    all_goals (subst h; exact absurd hk (by decide))
  rw [if_pos f0, updL0, e2 f0]
