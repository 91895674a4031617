/-! The law's loop over the relation. -/
theorem sub6 {L : Nat} (h : L ≤ 3072) : (nI L - nI 6).toInt = (L : Int) - 6 := by
  have e6 : (nI 6).toInt = 6 := by decide
  rw [Int32.toInt_sub, nI_toInt (by omega), e6]
  unfold Int.bmod
  dsimp only
  split <;> omega
theorem lt6 {L k : Nat} (h : L ≤ 3072) (hk : k ≤ 512) : nI L - nI 6 < nI (6 * k) ↔ L < 6 * k + 6 := by
  rw [Int32.lt_iff_toInt_lt, sub6 h, nI_toInt (by omega)]
  omega
set_option maxHeartbeats 1000000 in
theorem law_loop {p : Program} {l : Launch} {e : Env} {s : State} {m : MethodId} {below : List Frame} {meth : Method} {c : Code} {D : va_G} {aC : Nat → ClassId} {b L x r w : Nat} {xs : Nat → Int32} {R : ZM} (C : zC p l s m c D aC s.heap.size RL cL_law 7) (hr : meth.sig.returnType = ret) (hlocks : meth.locks = false) (hX : va_X b L xs s s.heap) (hbl : b < s.heap.size) (hL : L ≤ 3072) (hr0 : x + 133 ≤ r) (hw0 : r + 39 ≤ w) : ∀ (n k : Nat) (iv av : Nat → Nat → Int32) (v : Nat → Int32) (A : Nat → Nat → Int32) (U : Om) (g : Nat → Int64) (sz cells slots : Nat) (ls : Array Slot), k + n = 512 → RelC iv av U → RelR v A U → cells + 2 * n + 2 ≤ 601024 → slots + 12 * n + 12 ≤ 7293034 → lv_has ls 7 [(0, .ref b), (1, .ref (x + 0)), (2, .ref r), (3, .ref w), (4, .int (nI (6 * k)))] → Z p l e room_1 s m #[Value.ref b] below meth c D s.heap.size (cm aC x iv av (mm aC r v A (zup R w (LA aC g)))) sz cells slots (lw_Z below #[Value.ref b] s) (F0 m 23 ls [])
  | 0, k, iv, av, v, A, U, g, sz, cells, slots, ls, hk, hCc, hRr, hc, hs, hl => law_tail C hr hlocks hX hbl (by omega) (by omega) ((lt6 hL (by omega)).mpr (by omega)) (lv_sub hl [0, 4] rfl)
  | n + 1, k, iv, av, v, A, U, g, sz, cells, slots, ls, hk, hCc, hRr, hc, hs, hl => by
    by_cases hi : 6 * k + 6 ≤ L
    rotate_left
    · exact law_tail C hr hlocks hX hbl (by omega) (by omega) ((lt6 hL (by omega)).mpr (by omega)) (lv_sub hl [0, 4] rfl)
    obtain ⟨hx, hb, -, -, -⟩ := id C
    have kk : ∀ (iv1 av1 : Nat → Nat → Int32) (v1 : Nat → Int32) (A1 : Nat → Nat → Int32) (U1 : Om) (g1 : Nat → Int64) (sz cl sl : Nat) (ls : Array Slot), RelC iv1 av1 U1 → RelR v1 A1 U1 → cl ≤ cells + 2 → sl ≤ slots + 12 → lv_has ls 7 [(0, .ref b), (1, .ref (x + 0)), (2, .ref r), (3, .ref w), (4, .int (nI (6 * k)))] → Z p l e room_1 s m #[Value.ref b] below meth c D s.heap.size (cm aC x iv1 av1 (mm aC r v1 A1 (zup R w (LA aC g1)))) sz cl sl (lw_Z below #[Value.ref b] s) (F0 m 807 ls []) := by
      intro iv1 av1 v1 A1 U1 g1 sz cl sl ls hC1 hR1 h1 h2 hl
      refine zs (fun _ _ => lv_iinc (v := nI (6 * k) + 6) (lv' := [(4, .int (nI (6 * k) + 6)), (0, .ref b), (1, .ref (x + 0)), (2, .ref r), (3, .ref w)]) hx hb dL_law_807 hl (k := 4) rfl rfl (by decide) rfl) (fun ls hl => ?_)
      refine zz (fun _ _ => lv_goto (tgt := 23) hx hb dL_law_810 (by decide)) ?_
      have e6 : nI (6 * k) + 6 = nI (6 * (k + 1)) := nI_add (6 * k) 6
      rw [e6] at hl
      exact law_loop C hr hlocks hX hbl hL hr0 hw0 n (k + 1) iv1 av1 v1 A1 U1 g1 sz cl sl ls (by omega) hC1 hR1 (by omega) (by omega) (lv_sub hl [1, 2, 3, 4, 0] rfl)
    refine zz (fun _ _ => lv_iload hx hb dL_law_23 (lv_at hl 4 rfl)) ?_
    refine zz (fun _ _ => lv_aload_n hx hb dL_law_25 rfl (lv_at hl 0 rfl)) ?_
    refine z_slen C hX hbl hbl dL_law_26 ?_
    refine zz (fun _ _ => lv_bipush (v := nI 6) hx hb dL_law_27 (by decide)) ?_
    refine zz (fun _ _ => lv_isub hx hb dL_law_29) ?_
    refine zb (fun _ _ => lv_icmp_gt (tgt := 813) hx hb dL_law_30 (by decide)) (fun c_1 => absurd ((lt6 hL (by omega)).mp c_1) (by omega)) (fun c_1 => ?_)
    refine zz (fun _ _ => lv_aload_n hx hb dL_law_33 rfl (lv_at hl 0 rfl)) ?_
    refine zz (fun _ _ => lv_iload hx hb dL_law_34 (lv_at hl 4 rfl)) ?_
    refine z_sld C hX hbl hbl (i := 6 * k) (by omega) (by omega) dL_law_36 ?_
    refine zz (fun _ _ => lv_bipush (v := 15) hx hb dL_law_37 (by decide)) ?_
    refine zz (fun _ _ => lv_iand hx hb dL_law_39) ?_
    generalize xs (6 * k) &&& 15 = k0
    by_cases k_0 : k0 = 0
    · refine zz (fun _ _ => lv_tableIn (tgt := 116) (off := (76)) hx hb dL_law_40 (by rw [k_0]; decide) (by rw [k_0]; decide) (by rw [k_0]; rfl) (by decide)) ?_
      exact lg_step (i := 6 * k) C hX hbl hbl hi (by omega) hr0 hw0 hCc hRr (by omega) (by omega) hl kk
    by_cases k_1 : k0 = 1
    · refine zz (fun _ _ => lv_tableIn (tgt := 168) (off := (128)) hx hb dL_law_40 (by rw [k_1]; decide) (by rw [k_1]; decide) (by rw [k_1]; rfl) (by decide)) ?_
      exact lg_silent (i := 6 * k) C hX hbl hbl hi (by omega) hr0 hw0 hCc hRr (by omega) (by omega) hl kk
    by_cases k_2 : k0 = 2
    · refine zz (fun _ _ => lv_tableIn (tgt := 224) (off := (184)) hx hb dL_law_40 (by rw [k_2]; decide) (by rw [k_2]; decide) (by rw [k_2]; rfl) (by decide)) ?_
      exact lg_template (i := 6 * k) C hX hbl hbl hi (by omega) hr0 hw0 hCc hRr (by omega) (by omega) hl kk
    by_cases k_3 : k0 = 3
    · refine zz (fun _ _ => lv_tableIn (tgt := 316) (off := (276)) hx hb dL_law_40 (by rw [k_3]; decide) (by rw [k_3]; decide) (by rw [k_3]; rfl) (by decide)) ?_
      exact lg_pattern (i := 6 * k) C hX hbl hbl hi (by omega) hr0 hw0 hCc hRr (by omega) (by omega) hl kk
    by_cases k_4 : k0 = 4
    · refine zz (fun _ _ => lv_tableIn (tgt := 380) (off := (340)) hx hb dL_law_40 (by rw [k_4]; decide) (by rw [k_4]; decide) (by rw [k_4]; rfl) (by decide)) ?_
      exact lg_file (i := 6 * k) C hX hbl hbl hi (by omega) hr0 hw0 hCc hRr (by omega) (by omega) hl kk
    by_cases k_5 : k0 = 5
    · refine zz (fun _ _ => lv_tableIn (tgt := 444) (off := (404)) hx hb dL_law_40 (by rw [k_5]; decide) (by rw [k_5]; decide) (by rw [k_5]; rfl) (by decide)) ?_
      exact lg_torn (i := 6 * k) C hX hbl hbl hi (by omega) hr0 hw0 hCc hRr (by omega) (by omega) hl kk
    by_cases k_6 : k0 = 6
    · refine zz (fun _ _ => lv_tableIn (tgt := 500) (off := (460)) hx hb dL_law_40 (by rw [k_6]; decide) (by rw [k_6]; decide) (by rw [k_6]; rfl) (by decide)) ?_
      exact lg_run (i := 6 * k) C hX hbl hbl hi (by omega) hr0 hw0 hCc hRr (by omega) (by omega) hl kk
    by_cases k_7 : k0 = 7
    · refine zz (fun _ _ => lv_tableIn (tgt := 513) (off := (473)) hx hb dL_law_40 (by rw [k_7]; decide) (by rw [k_7]; decide) (by rw [k_7]; rfl) (by decide)) ?_
      exact lg_fails (i := 6 * k) C hX hbl hbl hi (by omega) hr0 hw0 hCc hRr (by omega) (by omega) hl kk
    by_cases k_8 : k0 = 8
    · refine zz (fun _ _ => lv_tableIn (tgt := 526) (off := (486)) hx hb dL_law_40 (by rw [k_8]; decide) (by rw [k_8]; decide) (by rw [k_8]; rfl) (by decide)) ?_
      exact lg_clear (i := 6 * k) C hX hbl hbl hi (by omega) hr0 hw0 hCc hRr (by omega) (by omega) hl kk
    by_cases k_9 : k0 = 9
    · refine zz (fun _ _ => lv_tableIn (tgt := 539) (off := (499)) hx hb dL_law_40 (by rw [k_9]; decide) (by rw [k_9]; decide) (by rw [k_9]; rfl) (by decide)) ?_
      exact lg_many (i := 6 * k) C hX hbl hbl hi (by omega) hr0 hw0 hCc hRr (by omega) (by omega) hl kk
    by_cases k_10 : k0 = 10
    · refine zz (fun _ _ => lv_tableIn (tgt := 567) (off := (527)) hx hb dL_law_40 (by rw [k_10]; decide) (by rw [k_10]; decide) (by rw [k_10]; rfl) (by decide)) ?_
      exact lg_at (i := 6 * k) C hX hbl hbl hi (by omega) hr0 hw0 hCc hRr (by omega) (by omega) hl kk
    by_cases k_11 : k0 = 11
    · refine zz (fun _ _ => lv_tableIn (tgt := 619) (off := (579)) hx hb dL_law_40 (by rw [k_11]; decide) (by rw [k_11]; decide) (by rw [k_11]; rfl) (by decide)) ?_
      exact lg_has (i := 6 * k) C hX hbl hbl hi (by omega) hr0 hw0 hCc hRr (by omega) (by omega) hl kk
    by_cases k_12 : k0 = 12
    · refine zz (fun _ _ => lv_tableIn (tgt := 683) (off := (643)) hx hb dL_law_40 (by rw [k_12]; decide) (by rw [k_12]; decide) (by rw [k_12]; rfl) (by decide)) ?_
      exact lg_changed (i := 6 * k) C hX hbl hbl hi (by omega) hr0 hw0 hCc hRr (by omega) (by omega) hl kk
    by_cases k_13 : k0 = 13
    · refine zz (fun _ _ => lv_tableIn (tgt := 723) (off := (683)) hx hb dL_law_40 (by rw [k_13]; decide) (by rw [k_13]; decide) (by rw [k_13]; rfl) (by decide)) ?_
      exact lg_solutions (i := 6 * k) C hX hbl hbl hi (by omega) hr0 hw0 hCc hRr (by omega) (by omega) hl kk
    by_cases k_14 : k0 = 14
    · refine zz (fun _ _ => lv_tableIn (tgt := 751) (off := (711)) hx hb dL_law_40 (by rw [k_14]; decide) (by rw [k_14]; decide) (by rw [k_14]; rfl) (by decide)) ?_
      exact lg_told (i := 6 * k) C hX hbl hbl hi (by omega) hr0 hw0 hCc hRr (by omega) (by omega) hl kk
    refine zz (fun _ _ => lv_tableOut (tgt := 807) hx hb dL_law_40 (sw_out (fun n h1 h2 => by rcases (show n = 0 ∨ n = 1 ∨ n = 2 ∨ n = 3 ∨ n = 4 ∨ n = 5 ∨ n = 6 ∨ n = 7 ∨ n = 8 ∨ n = 9 ∨ n = 10 ∨ n = 11 ∨ n = 12 ∨ n = 13 ∨ n = 14 by omega) with rfl | rfl | rfl | rfl | rfl | rfl | rfl | rfl | rfl | rfl | rfl | rfl | rfl | rfl | rfl <;> assumption)) (by decide)) ?_
    exact kk _ _ _ _ _ _ _ _ _ _ hCc hRr (by omega) (by omega) hl
