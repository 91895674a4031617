set_option maxHeartbeats 2000000 in
set_option maxRecDepth 10000 in
theorem hX9_fits {l : Launch} {D : va_G} {aC : Nat → ClassId} {b0 sz : Nat} {r : Nat} {v : Nat → Int32} {A : Nat → Nat → Int32} {R : ZM} {a_ : Int32} {q mq : Nat} {σ : Sg} (hm : v 45 = nI mq) (hm5 : mq ≤ 5000) (hq : q < 2 ^ 31) (ha : isNm a_ ∨ isV a_) (hN : NX A mq σ) : Ct l D aC b0 yX9_fits cX9_fits 4 (some .boolean) 3 0 0 [.ref (r), .int (a_), .int (nI q)] (mm aC r v A R) sz (zpI (fun v A => mm aC r v A R) (ftP v A σ a_ q mq)) := by
  refine Ct.of (by decide) (Nat.le_of_ble_eq_true rfl) ?_
  intro p e s m below meth c ls C hr hlk hnm hl
  have hl : lv_has ls 4 [(0, .ref (r)), (1, .int (a_)), (2, .int (nI q))] := hl
  obtain ⟨hx, hb, -, -, -⟩ := id C
  refine zz (fun _ _ => lv_aload_n hx hb dX9_fits_0 rfl (lv_at hl 0 rfl)) ?_
  refine zz (fun _ _ => lv_aload_n hx hb dX9_fits_1 rfl (lv_at hl 0 rfl)) ?_
  refine z_get (v := .ref (r + 36)) C fd_X9_120 rm_0 rfl dX9_fits_2 ?_
  refine zz (fun _ _ => lv_aload_n hx hb dX9_fits_5 rfl (lv_at hl 0 rfl)) ?_
  refine z_get (v := .int (v 45)) C fd_X9_180 rm_0 rfl dX9_fits_6 ?_
  refine zval (v' := .int (nI mq)) (congrArg Value.int hm) ?_
  refine zz (fun _ _ => lv_iload_n hx hb dX9_fits_9 rfl (lv_at hl 1 rfl)) ?_
  refine zdV (As := [.ref (r + 36), .int (nI mq), .int (a_)]) (rest := []) (st' := [.int ((fX9_valueInN A (nI mq) a_))]) C hl.1 lk_X9_183 (ctX9_valueInN (vplace_in hm5)) rm_0 rfl rfl rfl (Nat.le_of_ble_eq_true rfl) ⟨by decide, by decide, by decide, by decide⟩ dX9_fits_10 rfl (fun sz => ?_)
  refine zval (v' := .int (vl σ a_)) (congrArg Value.int (vinN_s hm5 hN a_)) ?_
  refine zs (fun _ _ => lv_istore_n (lv' := [(3, .int (vl σ a_)), (0, .ref (r)), (1, .int (a_)), (2, .int (nI q))]) hx hb dX9_fits_13 rfl hl (by decide) rfl) (fun ls hl => ?_)
  refine zz (fun _ _ => lv_iload_n hx hb dX9_fits_14 rfl (lv_at hl 0 rfl)) ?_
  refine zz (fun _ _ => lv_iconst (v := (-1)) hx hb dX9_fits_15 (by decide)) ?_
  refine zbn (fun _ _ => lv_icmp_ne (tgt := 44) hx hb dX9_fits_16 (by decide)) (fun c_1 => ?_) (fun c_1 => ?_)
  · refine zz (fun _ _ => lv_iload_n hx hb dX9_fits_44 rfl (lv_at hl 0 rfl)) ?_
    refine zz (fun _ _ => lv_iload_n hx hb dX9_fits_45 rfl (lv_at hl 3 rfl)) ?_
    refine zbn (fun _ _ => lv_icmp_ne (tgt := 53) hx hb dX9_fits_46 (by decide)) (fun c_2 => ?_) (fun c_2 => ?_)
    · refine zz (fun _ _ => lv_iconst (v := 0) hx hb dX9_fits_53 (by decide)) ?_
      exact z_zret C hr rfl hlk dX9_fits_54 (zpI_mk (a := v) (b := A) (ft_ne ha (Or.inl c_1) c_2))
    · refine zz (fun _ _ => lv_iconst (v := 1) hx hb dX9_fits_49 (by decide)) ?_
      refine zz (fun _ _ => lv_goto (tgt := 54) hx hb dX9_fits_50 (by decide)) ?_
      exact z_zret C hr rfl hlk dX9_fits_54 (zpI_mk (a := v) (b := A) (ft_eq hq hN ha c_2))
  · refine zz (fun _ _ => lv_iload_n hx hb dX9_fits_19 rfl (lv_at hl 2 rfl)) ?_
    refine zdS (As := [.int (a_)]) (rest := []) (st' := [.int ((fX9_isVariable a_))]) C hl.1 lk_X9_150 (ctX9_isVariable ) rfl rfl (Nat.le_of_ble_eq_true rfl) ⟨by decide, by decide, by decide, by decide⟩ dX9_fits_20 rfl (fun sz => ?_)
    refine zb (fun _ _ => lv_if_eq (tgt := 44) hx hb dX9_fits_23 (by decide)) (fun c_3 => ?_) (fun c_3 => ?_)
    · refine zz (fun _ _ => lv_iload_n hx hb dX9_fits_44 rfl (lv_at hl 0 rfl)) ?_
      refine zz (fun _ _ => lv_iload_n hx hb dX9_fits_45 rfl (lv_at hl 3 rfl)) ?_
      refine zbn (fun _ _ => lv_icmp_ne (tgt := 53) hx hb dX9_fits_46 (by decide)) (fun c_4 => ?_) (fun c_4 => ?_)
      · refine zz (fun _ _ => lv_iconst (v := 0) hx hb dX9_fits_53 (by decide)) ?_
        exact z_zret C hr rfl hlk dX9_fits_54 (zpI_mk (a := v) (b := A) (ft_ne ha (Or.inr c_3) c_4))
      · refine zz (fun _ _ => lv_iconst (v := 1) hx hb dX9_fits_49 (by decide)) ?_
        refine zz (fun _ _ => lv_goto (tgt := 54) hx hb dX9_fits_50 (by decide)) ?_
        exact z_zret C hr rfl hlk dX9_fits_54 (zpI_mk (a := v) (b := A) (ft_eq hq hN ha c_4))
    · refine zz (fun _ _ => lv_aload_n hx hb dX9_fits_26 rfl (lv_at hl 1 rfl)) ?_
      refine z_get (v := .ref (r + 36)) C fd_X9_120 rm_0 rfl dX9_fits_27 ?_
      refine zz (fun _ _ => lv_iconst (v := 4) hx hb dX9_fits_30 (by decide)) ?_
      refine zz (fun _ _ => lv_aload_n hx hb dX9_fits_31 rfl (lv_at hl 1 rfl)) ?_
      refine z_get (v := .int (v 45)) C fd_X9_180 rm_0 rfl dX9_fits_32 ?_
      refine zval (v' := .int (nI mq)) (congrArg Value.int hm) ?_
      refine zz (fun _ _ => lv_imul hx hb dX9_fits_35) ?_
      refine zz (fun _ _ => lv_iconst (v := 1) hx hb dX9_fits_36 (by decide)) ?_
      refine zz (fun _ _ => lv_isub hx hb dX9_fits_37) ?_
      refine zz (fun _ _ => lv_iload_n hx hb dX9_fits_38 rfl (lv_at hl 2 rfl)) ?_
      refine zz (fun _ _ => lv_isub hx hb dX9_fits_39) ?_
      refine zz (fun _ _ => lv_iload_n hx hb dX9_fits_40 rfl (lv_at hl 3 rfl)) ?_
      refine z_iast (f := A 36) C rm_36 (vplace_in hm5 c_3) dX9_fits_41 ?_
      refine zeq wm_36 ?_
      refine zz (fun _ _ => lv_iconst (v := 1) hx hb dX9_fits_42 (by decide)) ?_
      exact z_zret C hr rfl hlk dX9_fits_43 (zpI_mk (a := v) (b := (u1 A 36 (upd (A 36) (Int32.toNatClampNeg ((((4) * (nI mq)) - (1)) - (a_))) (nI q)))) (ft_set hm5 hN c_1 c_3))
