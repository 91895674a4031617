theorem leave_20 {v : Nat → Int32} {A : Nat → Nat → Int32} {a : Int32} {n : Nat} (h : v 20 = nI (n + 1)) : (fX9_leave v A a).1 20 = nI n := by
  simp only [fX9_leave]
  simp [upd, h, ← nI_1]
/-- what empty does, from the place k on, d places left -/
def emS (a : Int32) : Nat → Nat → (Nat → Int32) → (Nat → Nat → Int32) → (Nat → Int32) × (Nat → Nat → Int32)
  | 0, _, v, A => (v, A)
  | d + 1, k, v, A => if A 19 (Int32.toNatClampNeg (nI k)) = a then emS a d k (fX9_leave v A (nI k)).1 (fX9_leave v A (nI k)).2 else emS a d (k + 1) v A
set_option maxHeartbeats 1000000 in
set_option maxRecDepth 10000 in
theorem lpX9_empty {p : Program} {l : Launch} {e : Env} {s : State} {m : MethodId} {args : Array Value} {below : List Frame} {meth : Method} {c : Code} {D : va_G} {aC : Nat → ClassId} {b0 r : Nat} {Q : State → Prop} {R : ZM} {a_ : Int32} (C : zC p l s m c D aC b0 RX9 cX9_empty 3) :
    ∀ (d k : Nat) (v : Nat → Int32) (A : Nat → Nat → Int32), v 20 = nI (k + d) → k + d ≤ 120 → ∀ (sz : Nat) (ls : Array Slot), lv_has ls 3 [(0, .ref r), (1, .int a_), (2, .int (nI k))] → (∀ (sz : Nat) (ls : Array Slot), lv_has ls 3 [(0, .ref r), (1, .int a_)] → Z p l e (rz 1 0 0) s m args below meth c D b0 (mm aC r (emS a_ d k v A).1 (emS a_ d k v A).2 R) sz 0 0 Q (F0 m 34 ls [])) → Z p l e (rz 1 0 0) s m args below meth c D b0 (mm aC r v A R) sz 0 0 Q (F0 m 2 ls []) := by
  obtain ⟨hx, hb, -, -, -⟩ := id C
  intro d
  induction d with
  | zero =>
    intro k v A h20 hle sz ls hl K
    refine zz (fun _ _ => lv_iload_n hx hb dX9_empty_2 rfl (lv_at hl 2 rfl)) ?_
    refine zz (fun _ _ => lv_aload_n hx hb dX9_empty_3 rfl (lv_at hl 0 rfl)) ?_
    refine z_get (v := .int (v 20)) C fd_X9_160 rm_0 rfl dX9_empty_4 ?_
    refine zb (fun _ _ => lv_icmp_ge (tgt := 34) hx hb dX9_empty_7 (by decide)) (fun c_1 => ?_) (fun c_1 => ?_)
    · exact K _ _ (lv_sub hl [0, 1] rfl)
    · exact absurd (by rw [h20]; exact nI_le (Nat.le_refl _) (by omega)) c_1
  | succ d ih =>
    intro k v A h20 hle sz ls hl K
    have h92 : vp_in ((v 20) - (1)) 120 := by
      rw [h20, show nI (k + (d + 1)) - 1 = nI (k + d) by rw [show k + (d + 1) = k + d + 1 by omega, ← nI_1]; simp]
      exact vp_in_nI (by omega) (by decide)
    refine zz (fun _ _ => lv_iload_n hx hb dX9_empty_2 rfl (lv_at hl 2 rfl)) ?_
    refine zz (fun _ _ => lv_aload_n hx hb dX9_empty_3 rfl (lv_at hl 0 rfl)) ?_
    refine z_get (v := .int (v 20)) C fd_X9_160 rm_0 rfl dX9_empty_4 ?_
    refine zb (fun _ _ => lv_icmp_ge (tgt := 34) hx hb dX9_empty_7 (by decide)) (fun c_1 => ?_) (fun c_1 => ?_)
    · exact absurd c_1 (by rw [h20]; exact nI_ge (by omega) (by omega))
    · refine zz (fun _ _ => lv_aload_n hx hb dX9_empty_10 rfl (lv_at hl 0 rfl)) ?_
      refine z_get (v := .ref (r + 19)) C fd_X9_65 rm_0 rfl dX9_empty_11 ?_
      refine zz (fun _ _ => lv_iload_n hx hb dX9_empty_14 rfl (lv_at hl 2 rfl)) ?_
      refine z_iald (f := A 19) C rm_19 (in_nI (j := k) rfl (by omega) (by decide)) dX9_empty_15 ?_
      refine zz (fun _ _ => lv_iload_n hx hb dX9_empty_16 rfl (lv_at hl 1 rfl)) ?_
      refine zbn (fun _ _ => lv_icmp_ne (tgt := 28) hx hb dX9_empty_17 (by decide)) (fun c_2 => ?_) (fun c_2 => ?_)
      · refine zs (fun _ _ => lv_iinc (v := nI k + 1) (lv' := [(2, .int (nI k + 1)), (0, .ref (r)), (1, .int (a_))]) hx hb dX9_empty_28 hl (k := 2) rfl rfl (by decide) rfl) (fun ls hl => ?_)
        refine zz (fun _ _ => lv_goto (tgt := 2) hx hb dX9_empty_31 (by decide)) ?_
        have hl := lv_sub hl [1, 2, 0] rfl
        simp only [nI_1] at hl
        exact ih (k + 1) _ _ (by rw [h20]; congr 1; omega) (by omega) _ _ hl (by simpa only [emS, if_neg c_2] using K)
      · refine zz (fun _ _ => lv_aload_n hx hb dX9_empty_20 rfl (lv_at hl 0 rfl)) ?_
        refine zz (fun _ _ => lv_iload_n hx hb dX9_empty_21 rfl (lv_at hl 2 rfl)) ?_
        refine zdV (As := [.int (nI k)]) (rest := []) (st' := []) C hl.1 lk_X9_167 (ctX9_leave (in_nI (j := k) rfl (by omega) (by decide)) h92) rm_0 rfl rfl rfl (Nat.le_of_ble_eq_true rfl) ⟨by decide, by decide, by decide, by decide⟩ dX9_empty_22 rfl (fun sz => ?_)
        refine zz (fun _ _ => lv_goto (tgt := 2) hx hb dX9_empty_25 (by decide)) ?_
        exact ih k _ _ (leave_20 (n := k + d) h20) (by omega) _ _ (lv_sub hl [0, 1, 2] rfl) (by simpa only [emS, if_pos c_2] using K)
def fX9_empty (v : Nat → Int32) (A : Nat → Nat → Int32) (a_ : Int32) : (Nat → Int32) × (Nat → Nat → Int32) := ((emS a_ (Int32.toNatClampNeg (v 20)) 0 v A).1, (emS a_ (Int32.toNatClampNeg (v 20)) 0 v A).2)
set_option maxHeartbeats 1000000 in
set_option maxRecDepth 10000 in
theorem ctX9_empty {l : Launch} {D : va_G} {aC : Nat → ClassId} {b0 sz : Nat} {r : Nat} {v : Nat → Int32} {A : Nat → Nat → Int32} {R : ZM} {a_ : Int32} {n_ : Nat} (hs : v 20 = nI n_) (hn : n_ ≤ 120) : Ct l D aC b0 yX9_empty cX9_empty 3 none 1 0 0 [.ref (r), .int (a_)] (mm aC r v A R) sz (zd none (mm aC r (fX9_empty v A a_).1 (fX9_empty v A a_).2 R)) := by
  refine Ct.of (by decide) (Nat.le_of_ble_eq_true rfl) ?_
  intro p e s m below meth c ls C hr hlk hnm hl
  have hl : lv_has ls 3 [(0, .ref (r)), (1, .int (a_))] := hl
  obtain ⟨hx, hb, -, -, -⟩ := id C
  refine zz (fun _ _ => lv_iconst (v := 0) hx hb dX9_empty_0 (by decide)) ?_
  refine zs (fun _ _ => lv_istore_n (lv' := [(2, .int (0)), (0, .ref (r)), (1, .int (a_))]) hx hb dX9_empty_1 rfl hl (by decide) rfl) (fun ls hl => ?_)
  refine lpX9_empty C (Int32.toNatClampNeg (v 20)) 0 v A (by rw [Nat.zero_add]; exact nI_sn hs hn (by decide)) (by rw [Nat.zero_add]; exact nI_sle hs hn (by decide)) _ _ (lv_sub hl [1, 2, 0] rfl) (fun sz ls hl => ?_)
  exact z_vret C hr hlk dX9_empty_34 (by simp only [zd, fX9_empty, and_self])
