section
/-! Finding, values and new blanks in the cells. -/
def flP (k : Nat) (a : Int32) (j : Nat) (iv av iv' av' : Nat → Nat → Int32) : Prop := iv' = iv ∧ (∀ q, q ≠ k → av' q = av q) ∧ ∀ i, i < j → av' k i = a
theorem fl_next {k j : Nat} {a : Int32} {iv av iv' av' : Nat → Nat → Int32} (h : flP k a j iv av iv' av') : flP k a (j + 1) iv av iv' (u1 av' k (upd (av' k) j a)) := by
  refine ⟨h.1, fun q hq => by rw [u1_k _ _ hq]; exact h.2.1 q hq, fun i hi => ?_⟩
  rw [u1_s]
  unfold upd
  split
  · rfl
  · exact h.2.2 i (by omega)
def fiP (iv av : Nat → Nat → Int32) (fs : List Nat) (ps : List Rw) (res : Int32) (iv' av' : Nat → Nat → Int32) : Prop :=
  (∀ k f, k ≠ 20 → iv' k f = iv k f) ∧ (∀ k, k < 22 ∨ 27 < k → av' k = av k) ∧ ((res = 1 ∧ SE iv' av' (sols fs ps (fun _ => -1)) (wk fs ps (fun _ => -1))) ∨ (res = 0 ∧ ¬ lim (sols fs ps (fun _ => -1)).length (wk fs ps (fun _ => -1))))
theorem fi_b {iv av iv' av' : Nat → Nat → Int32} {fs : List Nat} {ps : List Rw} {res : Int32} (h : fiP iv av fs ps res iv' av') : res = 0 ∨ res = 1 := by
  rcases h.2.2 with q | q
  · exact Or.inr q.1
  · exact Or.inl q.1
theorem fi_SE {iv av1 : Nat → Nat → Int32} : SE (u2 (u2 iv 20 2 0) 20 3 0) av1 [] 0 := ⟨by rw [u2_f _ _ _ (by decide), u2_s]; rfl, by decide, by rw [u2_s]; rfl, by decide, fun u σ hu => by simp at hu⟩
theorem fi_VA {iv av iv1 av1 : Nat → Nat → Int32} (h : flP (22 + 0) (-1) 4 iv av iv1 av1) : VA av1 0 (fun _ => -1) := fun k hk => h.2.2 k hk
theorem fi_end {iv av iv1 av1 iv2 av2 : Nat → Nat → Int32} {fs : List Nat} {ps : List Rw} {res : Int32} (h : flP (22 + 0) (-1) 4 (u2 (u2 iv 20 2 0) 20 3 0) av iv1 av1) (h2 : goP iv1 av1 0 [] 0 (sols fs (ps.drop 0) (fun _ => -1)) (wk fs (ps.drop 0) (fun _ => -1)) res iv2 av2) : fiP iv av fs ps res iv2 av2 := by
  rw [List.drop_zero] at h2
  refine ⟨fun k f hk => ?_, fun k hk => ?_, ?_⟩
  · rw [h2.1.1 k f hk, h.1, u2_k _ _ _ _ hk, u2_k _ _ _ _ hk]
  · rw [h2.1.2 k (by omega), h.2.1 k (by omega)]
  · rcases h2.2 with q | q
    · exact Or.inl ⟨q.1, by have h9 := q.2; rw [List.nil_append, Nat.zero_add] at h9; exact h9⟩
    · exact Or.inr ⟨q.1, by have h9 := q.2; rw [List.length_nil, Nat.zero_add, Nat.zero_add] at h9; exact h9⟩
theorem isVar8 {a : Int32} : fX8_isVariable a = 0 ↔ ¬ isV a := by
  unfold fX8_isVariable
  have e1 : (-1 : Int32).toInt = -1 := by decide
  have e5 : (-5 : Int32).toInt = -5 := by decide
  split
  · rename_i h; rw [Int32.lt_iff_toInt_lt] at h; exact ⟨fun _ q => by have := q.2; omega, fun _ => rfl⟩
  · rename_i h; rw [Int32.lt_iff_toInt_lt] at h
    split
    · rename_i h2; rw [Int32.le_iff_toInt_le] at h2; exact ⟨fun _ q => by have := q.1; omega, fun _ => rfl⟩
    · rename_i h2; rw [Int32.le_iff_toInt_le] at h2; exact ⟨fun q => absurd q (by decide), fun q => absurd ⟨by omega, by omega⟩ q⟩
theorem isNew8 {a : Int32} : fX8_isNewBlank a = 0 ↔ ¬ isNw a := by
  unfold fX8_isNewBlank
  have e1 : (-11 : Int32).toInt = -11 := by decide
  have e5 : (-15 : Int32).toInt = -15 := by decide
  split
  · rename_i h; rw [Int32.lt_iff_toInt_lt] at h; exact ⟨fun _ q => by have := q.2; omega, fun _ => rfl⟩
  · rename_i h; rw [Int32.lt_iff_toInt_lt] at h
    split
    · rename_i h2; rw [Int32.le_iff_toInt_le] at h2; exact ⟨fun _ q => by have := q.1; omega, fun _ => rfl⟩
    · rename_i h2; rw [Int32.le_iff_toInt_le] at h2; exact ⟨fun q => absurd q (by decide), fun q => absurd ⟨by omega, by omega⟩ q⟩
theorem isName8 {a : Int32} : fX8_isName a = 0 ↔ ¬ isNm a := by
  unfold fX8_isName
  have e1 : (0 : Int32).toInt = 0 := rfl
  have e5 : (100 : Int32).toInt = 100 := rfl
  split
  · rename_i h; rw [Int32.lt_iff_toInt_lt] at h; exact ⟨fun _ q => by have := q.1; omega, fun _ => rfl⟩
  · rename_i h; rw [Int32.lt_iff_toInt_lt] at h
    split
    · rename_i h2; rw [Int32.le_iff_toInt_le] at h2; exact ⟨fun _ q => by have := q.2; omega, fun _ => rfl⟩
    · rename_i h2; rw [Int32.le_iff_toInt_le] at h2; exact ⟨fun q => absurd q (by decide), fun q => absurd ⟨by omega, by omega⟩ q⟩
theorem vplace_c {t : Int32} (h : isV t) (u : Nat) : nI u * 4 + (-1) - t = nI (4 * u + sl t) := by
  have e := (sl_s h).2
  have e1 : nI u * (4 : Int32) = nI (u * 4) := pk_mul u 4
  rw [e1, Nat.mul_comm u 4, ← nI_add, ← e, Int32.sub_eq_add_neg, Int32.sub_eq_add_neg, Int32.add_assoc]
/-- a way's values among the solved -/
def SV (av : Nat → Nat → Int32) (u : Nat) (σ : Sg) : Prop := ∀ k, k < 4 → av 27 (4 * u + k) = σ k
def saP (iv av : Nat → Nat → Int32) (z : Int32) (w : Int32) (iv' av' : Nat → Nat → Int32) : Prop := w = z ∧ iv' = iv ∧ av' = av
/-- new blanks -/
def BL (av : Nat → Nat → Int32) (mk : Sg) : Prop := ∀ k, k < 4 → av 28 k = mk k
def wbP (iv av : Nat → Nat → Int32) (S : St) (σ mk : Sg) (t : Int32) (w : Int32) (iv' av' : Nat → Nat → Int32) : Prop :=
  FC iv av iv' av' ∧ ((blk σ S.2.2 mk t = none ∧ w = -1 ∧ SC iv' av' S ∧ BL av' mk) ∨ ∃ b1 m1 y, blk σ S.2.2 mk t = some (b1, m1, y) ∧ y < 160 ∧ w = nI y ∧ SC iv' av' (S.1, S.2.1, b1) ∧ BL av' m1 ∧ okm m1)
theorem SC_b {iv av : Nat → Nat → Int32} {S : St} (h : SC iv av S) : iv 3 1 = nI S.2.2 ∧ S.2.2 ≤ 60 := ⟨h.2.2, h.1.2.2.1⟩
theorem wb_id {iv av : Nat → Nat → Int32} {S : St} {σ mk : Sg} {t : Int32} (hS : SC iv av S) (hB : BL av mk) (hok : okm mk) (hn : fX8_isNewBlank (vl σ t) = 0) (ht : ¬ isNw t) (hp : isPn (vl σ t)) : wbP iv av S σ mk t (vl σ t) iv av := by
  refine ⟨FC.refl, Or.inr ⟨S.2.2, mk, nn (vl σ t), by unfold blk; rw [if_neg ht], ?_, (nI_of_nn hp.1).symm, hS, hB, hok⟩⟩
  have := nn_lt (n := 159) hp.1 (by have := hp.2; omega) (by decide)
  omega
theorem wb_old {iv av : Nat → Nat → Int32} {S : St} {σ mk : Sg} {t : Int32} (hS : SC iv av S) (hB : BL av mk) (hok : okm mk) (ht : isNw t) (h : ¬ mk (nsl t) = -1) : wbP iv av S σ mk t (mk (nsl t)) iv av := by
  have hk := (hok _ (nsl_s ht).1).resolve_left h
  refine ⟨FC.refl, Or.inr ⟨S.2.2, mk, nn (mk (nsl t)), by unfold blk; rw [if_pos ht, if_neg h], ?_, (nI_of_nn (by omega)).symm, hS, hB, hok⟩⟩
  have := nn_lt (n := 159) (t := mk (nsl t)) (by omega) (by omega) (by decide)
  omega
theorem mb_s {iv av : Nat → Nat → Int32} {S : St} (hS : SC iv av S) : (S.2.2 < 60 ∧ fX6_makeBlank iv av 3 = (nI (100 + S.2.2), u2 iv 3 1 (nI (S.2.2 + 1)), av)) ∨ (¬ S.2.2 < 60 ∧ fX6_makeBlank iv av 3 = (-1, iv, av)) := by
  have hb := SC_b hS
  unfold fX6_makeBlank
  by_cases q : S.2.2 < 60
  · rw [if_pos (by rw [hb.1]; exact nI_lt (b := 60) q (by decide)), hb.1, nI_1]
    have e : (100 : Int32) + nI (S.2.2 + 1) - 1 = nI (100 + S.2.2) := by
      rw [show (100 : Int32) + nI (S.2.2 + 1) = nI (100 + S.2.2 + 1) from nI_add 100 _]
      exact nI_p1 _
    rw [e]
    exact Or.inl ⟨q, rfl⟩
  · rw [if_neg (by rw [hb.1]; exact nI_nlt (b := 60) (by omega) (by omega))]
    exact Or.inr ⟨q, rfl⟩
theorem wb_new {iv av : Nat → Nat → Int32} {S : St} {σ mk : Sg} {t : Int32} (hS : SC iv av S) (hB : BL av mk) (hok : okm mk) (ht : isNw t) (h : mk (nsl t) = -1) :
    wbP iv av S σ mk t (upd ((fX6_makeBlank iv av 3).2.2 28) (nsl t) (fX6_makeBlank iv av 3).1 (nsl t)) (fX6_makeBlank iv av 3).2.1 (u1 (fX6_makeBlank iv av 3).2.2 28 (upd ((fX6_makeBlank iv av 3).2.2 28) (nsl t) (fX6_makeBlank iv av 3).1)) := by
  have hs := (nsl_s ht).1
  have e0 : ∀ (f : Nat → Int32) (z : Int32), upd f (nsl t) z (nsl t) = z := fun f z => by simp [upd]
  rw [e0]
  rcases mb_s hS with ⟨q, e⟩ | ⟨q, e⟩
  · rw [e]
    dsimp only
    refine ⟨⟨fun k f hk => u2_k _ _ _ _ (by omega), fun k hk => u1_k _ _ (by omega)⟩, Or.inr ⟨S.2.2 + 1, upd mk (nsl t) (nI (100 + S.2.2)), 100 + S.2.2, by unfold blk; rw [if_pos ht, if_pos h, if_pos q], by have := (SC_b hS).2; omega, rfl, ?_, ?_, ?_⟩⟩
    · refine ⟨okS_blk hS.1 (by omega), fun g hg => (hS.2.1 g hg).kept (u2_k _ _ _ _ (by omega)) (u2_k _ _ _ _ (by omega)) (u1_k _ _ (by omega)), u2_s _ _ _ _⟩
    · intro k hk
      rw [u1_s]
      unfold upd
      split
      · rfl
      · exact hB k hk
    · intro k hk
      unfold upd
      split
      · rw [nI_toInt (by omega)]; exact Or.inr ⟨by omega, by omega⟩
      · exact hok k hk
  · rw [e]
    dsimp only
    refine ⟨⟨fun _ _ _ => rfl, fun k hk => u1_k _ _ (by omega)⟩, Or.inl ⟨by unfold blk; rw [if_pos ht, if_pos h, if_neg q], rfl, ?_, ?_⟩⟩
    · exact ⟨hS.1, fun g hg => (hS.2.1 g hg).kept rfl rfl (u1_k _ _ (by omega)), hS.2.2⟩
    · intro k hk
      rw [u1_s]
      unfold upd
      split
      · rename_i e2; rw [e2, h]
      · exact hB k hk
end
section
set_option maxHeartbeats 2000000 in
set_option maxRecDepth 10000 in
theorem hJ7_fill_53178 {l : Launch} {D : va_G} {aC : Nat → ClassId} {b0 sz : Nat} {x : Nat} {iv av : Nat → Nat → Int32} {R : ZM} {k9 : Nat} {a_ : Int32} (hk : ck k9 = 11) : Ct l D aC b0 yJ7_fill_53178 cJ7_fill_53178 4 none 0 0 0 [.ref (x + k9), .int (a_)] (cm aC x iv av R) sz (zpN (fun iv av => cm aC x iv av R) (flP k9 a_ 4 iv av)) := by
  refine Ct.of (by decide) (Nat.le_of_ble_eq_true rfl) ?_
  intro p e s m below meth c ls C hr hlk hnm hl
  have hl : lv_has ls 4 [(0, .ref (x + k9)), (1, .int (a_))] := hl
  obtain ⟨hx, hb, -, -, -⟩ := id C
  refine zz (fun _ _ => lv_iconst (v := 0) hx hb dJ7_fill_53178_0 (by decide)) ?_
  refine zs (fun _ _ => lv_istore_n (lv' := [(2, .int (0)), (0, .ref (x + k9)), (1, .int (a_))]) hx hb dJ7_fill_53178_1 rfl hl (by decide) rfl) (fun ls hl => ?_)
  refine zz (fun _ _ => lv_aload_n hx hb dJ7_fill_53178_2 rfl (lv_at hl 1 rfl)) ?_
  refine z_alen C 0 rfl (rd_11 hk) (v := nI 4) rfl dJ7_fill_53178_3 ?_
  refine zs (fun _ _ => lv_istore_n (lv' := [(3, .int (nI 4)), (2, .int (0)), (0, .ref (x + k9)), (1, .int (a_))]) hx hb dJ7_fill_53178_4 rfl hl (by decide) rfl) (fun ls hl => ?_)
  have hl0 := lv_sub hl [2, 3, 1, 0] rfl
  refine z_loop (γ := (Nat → Nat → Int32) × (Nat → Nat → Int32)) (G := fun a => cm aC x a.1 a.2 R) (I := fun j a => flP k9 a_ j iv av a.1 a.2) (lv := fun j a => [(0, .ref (x + k9)), (1, .int (a_)), (2, .int (nI (j))), (3, .int (nI 4))]) (4) ?_ ?_ (iv, av) _ _ ⟨rfl, fun _ _ => rfl, fun i hi => absurd hi (Nat.not_lt_zero _)⟩ hl0
  · intro j1 a1 sz ls hj1 hI1 hl ih1
    obtain ⟨iv1, av1⟩ := a1
    dsimp only at hI1 hl ih1
    refine zeq (M' := (cm aC x iv1 av1 R)) rfl ?_
    refine zz (fun _ _ => lv_iload_n hx hb dJ7_fill_53178_5 rfl (lv_at hl 2 rfl)) ?_
    refine zz (fun _ _ => lv_iload_n hx hb dJ7_fill_53178_6 rfl (lv_at hl 3 rfl)) ?_
    refine zb (fun _ _ => lv_icmp_ge (tgt := 20) hx hb dJ7_fill_53178_7 (by decide)) (fun c_2 => ?_) (fun c_2 => ?_)
    · exact absurd c_2 (nI_ge (by omega) (by omega))
    · refine zz (fun _ _ => lv_aload_n hx hb dJ7_fill_53178_10 rfl (lv_at hl 0 rfl)) ?_
      refine zz (fun _ _ => lv_iload_n hx hb dJ7_fill_53178_11 rfl (lv_at hl 2 rfl)) ?_
      refine zz (fun _ _ => lv_iload_n hx hb dJ7_fill_53178_12 rfl (lv_at hl 1 rfl)) ?_
      refine z_iast (f := av1 k9) C (rd_11 hk) (by first | assumption | (apply vp_in_nI <;> omega)) dJ7_fill_53178_13 ?_
      refine zeq (wr_11 hk) ?_
      refine zs (fun _ _ => lv_iinc (v := nI (j1) + 1) (lv' := [(2, .int (nI (j1) + 1)), (0, .ref (x + k9)), (1, .int (a_)), (3, .int (nI 4))]) hx hb dJ7_fill_53178_14 hl (k := 2) rfl rfl (by decide) rfl) (fun ls hl => ?_)
      refine zz (fun _ _ => lv_goto (tgt := 5) hx hb dJ7_fill_53178_17 (by decide)) ?_
      have hl := lv_sub hl [1, 2, 0, 3] rfl
      try simp only [nI_1] at hl
      exact ih1 (iv1, (u1 av1 k9 (upd (av1 k9) (Int32.toNatClampNeg (nI (j1))) (a_)))) _ _ (by dsimp only; rw [nI_clamp (n := j1) (by omega)]; exact fl_next hI1) hl
  · intro a1 sz ls hI1 hl
    obtain ⟨iv1, av1⟩ := a1
    dsimp only at hI1 hl
    refine zeq (M' := (cm aC x iv1 av1 R)) rfl ?_
    refine zz (fun _ _ => lv_iload_n hx hb dJ7_fill_53178_5 rfl (lv_at hl 2 rfl)) ?_
    refine zz (fun _ _ => lv_iload_n hx hb dJ7_fill_53178_6 rfl (lv_at hl 3 rfl)) ?_
    refine zb (fun _ _ => lv_icmp_ge (tgt := 20) hx hb dJ7_fill_53178_7 (by decide)) (fun c_3 => ?_) (fun c_3 => ?_)
    · exact z_vret C hr hlk dJ7_fill_53178_20 (zpN_mk (a := iv1) (b := av1) hI1)
    · exact absurd (nI_le (Nat.le_refl _) (by omega)) c_3
set_option maxHeartbeats 2000000 in
set_option maxRecDepth 10000 in
theorem hX4_find {l : Launch} {D : va_G} {aC : Nat → ClassId} {b0 sz : Nat} {x : Nat} {iv av : Nat → Nat → Int32} {R : ZM} {i g9 : Nat} {ps : List Rw} {p9 : Nat → Bool} {t9 : Bool} (hi : i < 12) (hP : PRc iv av i ps) (hg : g9 < 7) (hG : GC iv av (4 + 1 + 2 * g9) p9 t9) (hop : ∀ c, p9 c = true → okc c) (hlen : (cds p9).length ≤ 120) : Ct l D aC b0 yX4_find cX4_find 3 (some .boolean) 10 0 0 [.ref (x + 20), .ref (x + ((61 + 6 * i) + 4)), .ref (x + (4 + 1 + 2 * g9))] (cm aC x iv av R) sz (zpI (fun iv av => cm aC x iv av R) (fiP iv av (cds p9) ps)) := by
  refine Ct.of (by decide) (Nat.le_of_ble_eq_true rfl) ?_
  intro p e s m below meth c ls C hr hlk hnm hl
  have hl : lv_has ls 3 [(0, .ref (x + 20)), (1, .ref (x + ((61 + 6 * i) + 4))), (2, .ref (x + (4 + 1 + 2 * g9)))] := hl
  obtain ⟨hx, hb, -, -, -⟩ := id C
  have hp4 := hP.2.1
  refine zz (fun _ _ => lv_aload_n hx hb dX4_find_0 rfl (lv_at hl 0 rfl)) ?_
  refine zz (fun _ _ => lv_iconst (v := 0) hx hb dX4_find_1 (by decide)) ?_
  refine z_put C fp_X4_20 (fun h => by cases h) (rd_9 (by decide)) (Nat.le_of_ble_eq_true rfl) rfl rfl dX4_find_2 ?_
  refine zeq (wr_9_2 (by decide)) ?_
  refine zz (fun _ _ => lv_aload_n hx hb dX4_find_5 rfl (lv_at hl 0 rfl)) ?_
  refine zz (fun _ _ => lv_iconst (v := 0) hx hb dX4_find_6 (by decide)) ?_
  refine z_put C fp_X4_24 (fun h => by cases h) (rd_9 (by decide)) (Nat.le_of_ble_eq_true rfl) rfl rfl dX4_find_7 ?_
  refine zeq (wr_9_3 (by decide)) ?_
  refine zz (fun _ _ => lv_aload_n hx hb dX4_find_10 rfl (lv_at hl 0 rfl)) ?_
  refine z_get (v := .ref (x + 21)) C fd_X4_11 (rd_9 (by decide)) rfl dX4_find_11 ?_
  refine zz (fun _ _ => lv_iconst (v := 0) hx hb dX4_find_14 (by decide)) ?_
  refine zval (v' := .int (nI 0)) (congrArg Value.int rfl) ?_
  refine z_aaldA C (rd_10 (by decide)) (by first | assumption | (apply vp_in_nI <;> omega)) (v := .ref (x + (22 + 0))) (rf_if (f := fun q => x + (22 + q)) (n := 5) rfl (show 0 < 5 by decide) (by decide)) dX4_find_15 ?_
  refine zz (fun _ _ => lv_iconst (v := (-1)) hx hb dX4_find_16 (by decide)) ?_
  refine zqSN (As := [.ref (x + (22 + 0)), .int ((-1))]) (rest := []) C hl.1 lk_X4_27 (hJ7_fill_53178 (kp_10 (by decide))) rfl rfl (Nat.le_of_ble_eq_true rfl) ⟨by decide, by decide, by decide, by decide⟩ dX4_find_17 (fun iv1 av1 sz h1 => ?_)
  refine zeq (M' := (cm aC x iv1 av1 R)) rfl ?_
  have hS9 : SE iv1 av1 [] 0 := by rw [h1.1]; exact fi_SE
  have hV9 := fi_VA h1
  have hP9 : PRc iv1 av1 i ps := by unfold PRc at hP ⊢; rw [h1.1, u2_k _ _ _ _ (by omega), u2_k _ _ _ _ (by omega), h1.2.1 _ (by omega)]; exact hP
  have hG9 : GC iv1 av1 (4 + 1 + 2 * g9) p9 t9 := hG.kept (by rw [h1.1, u2_k _ _ _ _ (by omega), u2_k _ _ _ _ (by omega)]) (by rw [h1.1, u2_k _ _ _ _ (by omega), u2_k _ _ _ _ (by omega)]) (h1.2.1 _ (by omega))
  refine zz (fun _ _ => lv_aload_n hx hb dX4_find_20 rfl (lv_at hl 0 rfl)) ?_
  refine zz (fun _ _ => lv_aload_n hx hb dX4_find_21 rfl (lv_at hl 1 rfl)) ?_
  refine zz (fun _ _ => lv_aload_n hx hb dX4_find_22 rfl (lv_at hl 2 rfl)) ?_
  refine zz (fun _ _ => lv_iconst (v := 0) hx hb dX4_find_23 (by decide)) ?_
  refine zval (v' := .int (nI 0)) (congrArg Value.int rfl) ?_
  rcases (show ps.length = 0 ∨ ps.length = 1 ∨ ps.length = 2 ∨ ps.length = 3 ∨ ps.length = 4 by omega) with h9 | h9 | h9 | h9 | h9
  · refine zqVI (As := [.ref (x + ((61 + 6 * i) + 4)), .ref (x + (4 + 1 + 2 * g9)), .int (nI 0)]) (rest := []) C hl.1 lk_X4_33 (hX4_goOn_0 hi hP9 hg hG9 hop hlen hS9 hV9 (by omega)) (rd_9 (by decide)) rfl rfl rfl (Nat.le_of_ble_eq_true rfl) ⟨by decide, by decide, by decide, by decide⟩ dX4_find_24 (fun w2 iv2 av2 sz h2 => ?_)
    refine zeq (M' := (cm aC x iv2 av2 R)) rfl ?_
    exact z_zret C hr (bz (goP_b h2)) hlk dX4_find_27 (zpI_mk (a := iv2) (b := av2) (fi_end h1 h2))
  · refine zqVI (As := [.ref (x + ((61 + 6 * i) + 4)), .ref (x + (4 + 1 + 2 * g9)), .int (nI 0)]) (rest := []) C hl.1 lk_X4_33 (hX4_goOn_1 hi hP9 hg hG9 hop hlen hS9 hV9 (by omega)) (rd_9 (by decide)) rfl rfl rfl (Nat.le_of_ble_eq_true rfl) ⟨by decide, by decide, by decide, by decide⟩ dX4_find_24 (fun w3 iv3 av3 sz h3 => ?_)
    refine zeq (M' := (cm aC x iv3 av3 R)) rfl ?_
    exact z_zret C hr (bz (goP_b h3)) hlk dX4_find_27 (zpI_mk (a := iv3) (b := av3) (fi_end h1 h3))
  · refine zqVI (As := [.ref (x + ((61 + 6 * i) + 4)), .ref (x + (4 + 1 + 2 * g9)), .int (nI 0)]) (rest := []) C hl.1 lk_X4_33 (hX4_goOn_2 hi hP9 hg hG9 hop hlen hS9 hV9 (by omega)) (rd_9 (by decide)) rfl rfl rfl (Nat.le_of_ble_eq_true rfl) ⟨by decide, by decide, by decide, by decide⟩ dX4_find_24 (fun w4 iv4 av4 sz h4 => ?_)
    refine zeq (M' := (cm aC x iv4 av4 R)) rfl ?_
    exact z_zret C hr (bz (goP_b h4)) hlk dX4_find_27 (zpI_mk (a := iv4) (b := av4) (fi_end h1 h4))
  · refine zqVI (As := [.ref (x + ((61 + 6 * i) + 4)), .ref (x + (4 + 1 + 2 * g9)), .int (nI 0)]) (rest := []) C hl.1 lk_X4_33 (hX4_goOn_3 hi hP9 hg hG9 hop hlen hS9 hV9 (by omega)) (rd_9 (by decide)) rfl rfl rfl (Nat.le_of_ble_eq_true rfl) ⟨by decide, by decide, by decide, by decide⟩ dX4_find_24 (fun w5 iv5 av5 sz h5 => ?_)
    refine zeq (M' := (cm aC x iv5 av5 R)) rfl ?_
    exact z_zret C hr (bz (goP_b h5)) hlk dX4_find_27 (zpI_mk (a := iv5) (b := av5) (fi_end h1 h5))
  · refine zqVI (As := [.ref (x + ((61 + 6 * i) + 4)), .ref (x + (4 + 1 + 2 * g9)), .int (nI 0)]) (rest := []) C hl.1 lk_X4_33 (hX4_goOn_4 hi hP9 hg hG9 hop hlen hS9 hV9 (by omega)) (rd_9 (by decide)) rfl rfl rfl (Nat.le_of_ble_eq_true rfl) ⟨by decide, by decide, by decide, by decide⟩ dX4_find_24 (fun w6 iv6 av6 sz h6 => ?_)
    refine zeq (M' := (cm aC x iv6 av6 R)) rfl ?_
    exact z_zret C hr (bz (goP_b h6)) hlk dX4_find_27 (zpI_mk (a := iv6) (b := av6) (fi_end h1 h6))
set_option maxHeartbeats 2000000 in
set_option maxRecDepth 10000 in
theorem hX4_valueIn {l : Launch} {D : va_G} {aC : Nat → ClassId} {b0 sz : Nat} {x : Nat} {iv av : Nat → Nat → Int32} {R : ZM} {u9 : Nat} {a_ : Int32} {σ : Sg} (hu : u9 < 100) (hv : isV a_) (hV : SV av u9 σ) : Ct l D aC b0 yX4_valueIn cX4_valueIn 3 (some .int) 0 0 0 [.ref (x + 20), .int (nI u9), .int (a_)] (cm aC x iv av R) sz (zpI (fun iv av => cm aC x iv av R) (saP iv av (σ (sl a_)))) := by
  refine Ct.of (by decide) (Nat.le_of_ble_eq_true rfl) ?_
  intro p e s m below meth c ls C hr hlk hnm hl
  have hl : lv_has ls 3 [(0, .ref (x + 20)), (1, .int (nI u9)), (2, .int (a_))] := hl
  obtain ⟨hx, hb, -, -, -⟩ := id C
  have hs9 := (sl_s hv).1
  refine zz (fun _ _ => lv_aload_n hx hb dX4_valueIn_0 rfl (lv_at hl 0 rfl)) ?_
  refine z_get (v := .ref (x + 27)) C fd_X4_16 (rd_9 (by decide)) rfl dX4_valueIn_1 ?_
  refine zz (fun _ _ => lv_iload_n hx hb dX4_valueIn_4 rfl (lv_at hl 1 rfl)) ?_
  refine zz (fun _ _ => lv_iconst (v := 4) hx hb dX4_valueIn_5 (by decide)) ?_
  refine zz (fun _ _ => lv_imul hx hb dX4_valueIn_6) ?_
  refine zz (fun _ _ => lv_iconst (v := (-1)) hx hb dX4_valueIn_7 (by decide)) ?_
  refine zz (fun _ _ => lv_iadd hx hb dX4_valueIn_8) ?_
  refine zz (fun _ _ => lv_iload_n hx hb dX4_valueIn_9 rfl (lv_at hl 2 rfl)) ?_
  refine zz (fun _ _ => lv_isub hx hb dX4_valueIn_10) ?_
  refine zval (v' := .int (nI (4 * u9 + sl a_))) (congrArg Value.int (vplace_c hv u9)) ?_
  refine z_iald (f := av 27) C (rd_12 (by decide)) (by first | assumption | (apply vp_in_nI <;> omega)) dX4_valueIn_11 ?_
  refine zval (v' := .int (σ (sl a_))) (congrArg Value.int (rdI (hV _ hs9) (by omega))) ?_
  exact z_iret C hr hlk dX4_valueIn_12 (zpI_mk (a := iv) (b := av) ⟨rfl, rfl, rfl⟩)
set_option maxHeartbeats 2000000 in
set_option maxRecDepth 10000 in
theorem hX7_valueOf {l : Launch} {D : va_G} {aC : Nat → ClassId} {b0 sz : Nat} {x : Nat} {iv av : Nat → Nat → Int32} {R : ZM} {u9 : Nat} {a_ : Int32} {σ : Sg} (hu : u9 < 100) (hV : SV av u9 σ) : Ct l D aC b0 yX7_valueOf cX7_valueOf 3 (some .int) 1 0 0 [.ref (x + 2), .int (a_), .int (nI u9)] (cm aC x iv av R) sz (zpI (fun iv av => cm aC x iv av R) (saP iv av (vl σ a_))) := by
  refine Ct.of (by decide) (Nat.le_of_ble_eq_true rfl) ?_
  intro p e s m below meth c ls C hr hlk hnm hl
  have hl : lv_has ls 3 [(0, .ref (x + 2)), (1, .int (a_)), (2, .int (nI u9))] := hl
  obtain ⟨hx, hb, -, -, -⟩ := id C
  refine zz (fun _ _ => lv_iload_n hx hb dX7_valueOf_0 rfl (lv_at hl 1 rfl)) ?_
  refine zdS (As := [.int (a_)]) (rest := []) (st' := [.int ((fX8_isVariable a_))]) C hl.1 lk_X7_183 (ctX8_isVariable ) rfl rfl (Nat.le_of_ble_eq_true rfl) ⟨by decide, by decide, by decide, by decide⟩ dX7_valueOf_1 rfl (fun sz => ?_)
  refine zb (fun _ _ => lv_if_eq (tgt := 19) hx hb dX7_valueOf_4 (by decide)) (fun c_1 => ?_) (fun c_1 => ?_)
  · refine zz (fun _ _ => lv_iload_n hx hb dX7_valueOf_19 rfl (lv_at hl 1 rfl)) ?_
    exact z_iret C hr hlk dX7_valueOf_20 (zpI_mk (a := iv) (b := av) ⟨(if_neg (isVar8.mp c_1)).symm, rfl, rfl⟩)
  · refine zz (fun _ _ => lv_aload_n hx hb dX7_valueOf_7 rfl (lv_at hl 0 rfl)) ?_
    refine z_get (v := .ref (x + 20)) C fd_X7_27 (rd_3 (by decide)) rfl dX7_valueOf_8 ?_
    refine zz (fun _ _ => lv_iload_n hx hb dX7_valueOf_11 rfl (lv_at hl 2 rfl)) ?_
    refine zz (fun _ _ => lv_iload_n hx hb dX7_valueOf_12 rfl (lv_at hl 1 rfl)) ?_
    refine zqVI (As := [.int (nI u9), .int (a_)]) (rest := []) C hl.1 lk_X7_186 (hX4_valueIn hu (Classical.not_not.mp (fun q => c_1 (isVar8.mpr q))) hV) (rd_9 (by decide)) rfl rfl rfl (Nat.le_of_ble_eq_true rfl) ⟨by decide, by decide, by decide, by decide⟩ dX7_valueOf_13 (fun w2 iv2 av2 sz h2 => ?_)
    refine zeq (M' := (cm aC x iv2 av2 R)) rfl ?_
    refine zz (fun _ _ => lv_goto (tgt := 20) hx hb dX7_valueOf_16 (by decide)) ?_
    exact z_iret C hr hlk dX7_valueOf_20 (zpI_mk (a := iv2) (b := av2) ⟨h2.1.trans (if_pos (Classical.not_not.mp (fun q => c_1 (isVar8.mpr q)))).symm, h2.2.1, h2.2.2⟩)
set_option maxHeartbeats 2000000 in
set_option maxRecDepth 10000 in
theorem hX7_withBlank {l : Launch} {D : va_G} {aC : Nat → ClassId} {b0 sz : Nat} {x : Nat} {iv av : Nat → Nat → Int32} {R : ZM} {a_ t_ : Int32} {S : St} {σ mk : Sg} (hS : SC iv av S) (hB : BL av mk) (hok : okm mk) (hid : fX8_isNewBlank a_ = 0 → wbP iv av S σ mk t_ a_ iv av) (het : isNw a_ → a_ = t_) : Ct l D aC b0 yX7_withBlank cX7_withBlank 3 (some .int) 1 0 0 [.ref (x + 2), .int (a_)] (cm aC x iv av R) sz (zpI (fun iv av => cm aC x iv av R) (wbP iv av S σ mk t_)) := by
  refine Ct.of (by decide) (Nat.le_of_ble_eq_true rfl) ?_
  intro p e s m below meth c ls C hr hlk hnm hl
  have hl : lv_has ls 3 [(0, .ref (x + 2)), (1, .int (a_))] := hl
  obtain ⟨hx, hb, -, -, -⟩ := id C
  refine zz (fun _ _ => lv_iload_n hx hb dX7_withBlank_0 rfl (lv_at hl 1 rfl)) ?_
  refine zdS (As := [.int (a_)]) (rest := []) (st' := [.int ((fX8_isNewBlank a_))]) C hl.1 lk_X7_189 (ctX8_isNewBlank ) rfl rfl (Nat.le_of_ble_eq_true rfl) ⟨by decide, by decide, by decide, by decide⟩ dX7_withBlank_1 rfl (fun sz => ?_)
  refine zbn (fun _ _ => lv_if_ne (tgt := 9) hx hb dX7_withBlank_4 (by decide)) (fun c_1 => ?_) (fun c_1 => ?_)
  · have hn9 : isNw a_ := Classical.not_not.mp (fun q => c_1 (isNew8.mpr q))
    have hs9 := (nsl_s hn9).1
    refine zz (fun _ _ => lv_bipush (v := (-11)) hx hb dX7_withBlank_9 (by decide)) ?_
    refine zz (fun _ _ => lv_iload_n hx hb dX7_withBlank_11 rfl (lv_at hl 1 rfl)) ?_
    refine zz (fun _ _ => lv_isub hx hb dX7_withBlank_12) ?_
    refine zval (v' := .int (nI (nsl a_))) (congrArg Value.int (nsl_s hn9).2) ?_
    refine zs (fun _ _ => lv_istore_n (lv' := [(2, .int (nI (nsl a_))), (0, .ref (x + 2)), (1, .int (a_))]) hx hb dX7_withBlank_13 rfl hl (by decide) rfl) (fun ls hl => ?_)
    refine zz (fun _ _ => lv_aload_n hx hb dX7_withBlank_14 rfl (lv_at hl 1 rfl)) ?_
    refine z_get (v := .ref (x + 28)) C fd_X7_31 (rd_3 (by decide)) rfl dX7_withBlank_15 ?_
    refine zz (fun _ _ => lv_iload_n hx hb dX7_withBlank_18 rfl (lv_at hl 0 rfl)) ?_
    refine z_iald (f := av 28) C (rd_11 (by decide)) (by first | assumption | (apply vp_in_nI <;> omega)) dX7_withBlank_19 ?_
    refine zval (v' := .int (mk (nsl a_))) (congrArg Value.int (rdI (hB _ hs9) (by omega))) ?_
    refine zz (fun _ _ => lv_iconst (v := (-1)) hx hb dX7_withBlank_20 (by decide)) ?_
    refine zbn (fun _ _ => lv_icmp_ne (tgt := 37) hx hb dX7_withBlank_21 (by decide)) (fun c_2 => ?_) (fun c_2 => ?_)
    · refine zz (fun _ _ => lv_aload_n hx hb dX7_withBlank_37 rfl (lv_at hl 1 rfl)) ?_
      refine z_get (v := .ref (x + 28)) C fd_X7_31 (rd_3 (by decide)) rfl dX7_withBlank_38 ?_
      refine zz (fun _ _ => lv_iload_n hx hb dX7_withBlank_41 rfl (lv_at hl 0 rfl)) ?_
      refine z_iald (f := av 28) C (rd_11 (by decide)) (by first | assumption | (apply vp_in_nI <;> omega)) dX7_withBlank_42 ?_
      refine zval (v' := .int (mk (nsl a_))) (congrArg Value.int (rdI (hB _ hs9) (by omega))) ?_
      exact z_iret C hr hlk dX7_withBlank_43 (zpI_mk (a := iv) (b := av) (by rw [← het hn9]; exact (wb_old hS hB hok hn9 c_2)))
    · refine zz (fun _ _ => lv_aload_n hx hb dX7_withBlank_24 rfl (lv_at hl 1 rfl)) ?_
      refine z_get (v := .ref (x + 28)) C fd_X7_31 (rd_3 (by decide)) rfl dX7_withBlank_25 ?_
      refine zz (fun _ _ => lv_iload_n hx hb dX7_withBlank_28 rfl (lv_at hl 0 rfl)) ?_
      refine zz (fun _ _ => lv_aload_n hx hb dX7_withBlank_29 rfl (lv_at hl 1 rfl)) ?_
      refine z_get (v := .ref (x + 3)) C fd_X7_12 (rd_3 (by decide)) rfl dX7_withBlank_30 ?_
      refine zdV (As := []) (rest := [.int (nI (nsl a_)), .ref (x + 28)]) (st' := [.int ((fX6_makeBlank iv av 3).1), .int (nI (nsl a_)), .ref (x + 28)]) C hl.1 lk_X7_192 (ctX6_makeBlank (by decide)) (rd_4 (by decide)) rfl rfl rfl (Nat.le_of_ble_eq_true rfl) ⟨by decide, by decide, by decide, by decide⟩ dX7_withBlank_33 rfl (fun sz => ?_)
      refine z_iast (f := (fX6_makeBlank iv av 3).2.2 28) C (rd_11 (by decide)) (by first | assumption | (apply vp_in_nI <;> omega)) dX7_withBlank_36 ?_
      refine zeq (wr_11 (by decide)) ?_
      refine zz (fun _ _ => lv_aload_n hx hb dX7_withBlank_37 rfl (lv_at hl 1 rfl)) ?_
      refine z_get (v := .ref (x + 28)) C fd_X7_31 (rd_3 (by decide)) rfl dX7_withBlank_38 ?_
      refine zz (fun _ _ => lv_iload_n hx hb dX7_withBlank_41 rfl (lv_at hl 0 rfl)) ?_
      refine z_iald (n := 4) (f := (upd ((fX6_makeBlank iv av 3).2.2 28) (Int32.toNatClampNeg (nI (nsl a_))) ((fX6_makeBlank iv av 3).1))) C ((rd_11 (by decide)).trans (by simp [u1])) (by first | assumption | (apply vp_in_nI <;> omega)) dX7_withBlank_42 ?_
      exact z_iret C hr hlk dX7_withBlank_43 (zpI_mk (a := (fX6_makeBlank iv av 3).2.1) (b := (u1 (fX6_makeBlank iv av 3).2.2 28 (upd ((fX6_makeBlank iv av 3).2.2 28) (Int32.toNatClampNeg (nI (nsl a_))) ((fX6_makeBlank iv av 3).1)))) (by rw [← het hn9]; exact (by rw [nI_clamp (by omega)]; exact wb_new hS hB hok hn9 c_2)))
  · refine zz (fun _ _ => lv_iload_n hx hb dX7_withBlank_7 rfl (lv_at hl 1 rfl)) ?_
    exact z_iret C hr hlk dX7_withBlank_8 (zpI_mk (a := iv) (b := av) (hid c_1))
end
section
/-! A row of a template, in the cells. -/
theorem Ct.ofS {l : Launch} {D : va_G} {aC : Nat → ClassId} {b0 : Nat} {y : MethodName} {cc : ByteArray} {maxL : Nat} {ret : Option FieldType} {n mc ms : Nat} {av9 : List Value} {M : ZM} {sz x : Nat} {R : ZM} {iv av : Nat → Nat → Int32} {z : Int32} (h : Ct l D aC b0 y cc maxL ret n mc ms av9 M sz (zpI (fun iv av => cm aC x iv av R) (saP iv av z))) : Ct l D aC b0 y cc maxL ret n mc ms av9 M sz (zd (some (.int z)) (cm aC x iv av R)) :=
  h.imp (fun r M' sz' q => by obtain ⟨w, a, b, rfl, rfl, rfl, rfl, rfl⟩ := q; exact ⟨rfl, rfl⟩)
def TRc (iv av : Nat → Nat → Int32) (i : Nat) (ts : List TR) : Prop := iv (61 + 6 * i + 1) 2 = nI ts.length ∧ ts.length ≤ 6 ∧ (∀ t ∈ ts, okT t) ∧ ∀ j t, ts[j]? = some t → av (61 + 6 * i + 1 + 1) (3 * j) = t.1 ∧ av (61 + 6 * i + 1 + 1) (3 * j + 1) = t.2.1 ∧ av (61 + 6 * i + 1 + 1) (3 * j + 2) = t.2.2.1 ∧ av (61 + 6 * i + 3) j = tI t.2.2.2
theorem TRc.kept {iv av iv' av' : Nat → Nat → Int32} {i : Nat} {ts : List TR} (h : TRc iv av i ts) (hf : FK iv av iv' av') : TRc iv' av' i ts := by
  unfold TRc at h ⊢
  rw [hf.1 (61 + 6 * i + 1) 2 (by omega) (by omega), hf.2 (61 + 6 * i + 1 + 1) (by omega), hf.2 (61 + 6 * i + 3) (by omega)]
  exact h
theorem EC.T {iv av : Nat → Nat → Int32} {i : Nat} {q : Sq} (h : EC iv av i q) (hq : okQ q) : TRc iv av i q.2.2.2.2.1 := ⟨h.2.2.2.2.1, hq.2.2.2.2.2.2.2.2.1, hq.2.2.2.2.2.1, h.2.2.2.2.2.2.1⟩
theorem EC.P {iv av : Nat → Nat → Int32} {i : Nat} {q : Sq} (h : EC iv av i q) (hq : okQ q) : PRc iv av i q.2.2.2.2.2 := ⟨h.2.2.2.2.2.2.2.1, hq.2.2.2.2.2.2.2.2.2.2.1, hq.2.2.2.2.2.2.2.2.2.1, h.2.2.2.2.2.2.2.2.2⟩
theorem SV.kept {iv av iv' av' : Nat → Nat → Int32} {u : Nat} {σ : Sg} (h : SV av u σ) (hf : FC iv av iv' av') : SV av' u σ := fun k hk => by rw [hf.2 27 (by omega)]; exact h k hk
theorem lo_1 {σ : Sg} {t : TR} (h : vl σ t.1 = -1) : lo σ t := Or.inl h
theorem lo_2 {σ : Sg} {t : TR} (h : vl σ t.2.2.1 = -1) : lo σ t := Or.inr (Or.inl h)
theorem lo_3 {σ : Sg} {t : TR} (h : fX8_isName (vl σ t.2.1) = 0) : lo σ t := Or.inr (Or.inr (isName8.mp h))
theorem lo_n {σ : Sg} {t : TR} (h1 : ¬ vl σ t.1 = -1) (h2 : ¬ vl σ t.2.2.1 = -1) (h3 : ¬ fX8_isName (vl σ t.2.1) = 0) : ¬ lo σ t := by
  rintro (q | q | q)
  · exact h1 q
  · exact h2 q
  · exact h3 (isName8.mpr q)
theorem tcd_f {σ : Sg} (hσ : okG σ) {t : TR} (ht : okT t) (ha : t.2.2.2 = false) (hl : ¬ lo σ t) : fX8_factOf (vl σ t.1) (vl σ t.2.1) (vl σ t.2.2.1) = nI (tcd σ t) := by
  have h := tcd_s hσ ht ha hl
  rw [h.2.1, h.2.2.1, h.2.2.2]
  exact factOf_s h.1
theorem SC_del {iv av iv' av' : Nat → Nat → Int32} {S : St} {g c : Nat} (h : SC iv av S) (hg : g < 7) (hi : GC iv' av' (4 + 1 + 2 * g) (pC (S.1 g) c false) (S.2.1 g) ∧ GF (4 + 1 + 2 * g) iv av iv' av') : SC iv' av' (stDel S g c) := by
  refine SC_put1 h hg (okS_del h.1 g c) ?_ hi.2 (fun g' q => pS_k _ _ _ q) (fun _ _ => rfl) rfl
  show GC iv' av' (4 + 1 + 2 * g) (pS S.1 g c false g) (S.2.1 g)
  rw [pS_s]
  exact hi.1
theorem nw_nv {t : Int32} (h : isNw t) : ¬ isV t := fun q => by have := h.2; have := q.1; omega
theorem wb_hid {iv av : Nat → Nat → Int32} {S : St} {σ mk : Sg} {t : Int32} (hS : SC iv av S) (hB : BL av mk) (hok : okm mk) (ht : isNw t ∨ isPn (vl σ t)) : fX8_isNewBlank (vl σ t) = 0 → wbP iv av S σ mk t (vl σ t) iv av := by
  intro h
  have hn : ¬ isNw t := fun q => isNew8.mp h (by rw [show vl σ t = t from if_neg (nw_nv q)]; exact q)
  exact wb_id hS hB hok h hn (ht.resolve_left hn)
theorem wb_het {σ : Sg} {t : Int32} (ht : isNw t ∨ isPn (vl σ t)) : isNw (vl σ t) → vl σ t = t := by
  intro h
  have hn : isNw t := by
    rcases ht with q | q
    · exact q
    · have := q.1; have := h.2; omega
  exact if_neg (nw_nv hn)
theorem wb_no {iv av iv' av' : Nat → Nat → Int32} {S : St} {σ mk : Sg} {t w : Int32} (h : wbP iv av S σ mk t w iv' av') (hw : w = -1) : blk σ S.2.2 mk t = none := by
  rcases h.2 with q | ⟨b1, m1, y, _, hy, e, _⟩
  · exact q.1
  · rw [hw] at e; exact absurd e.symm (nI_n1 (by omega))
theorem wb_ok {iv av iv' av' : Nat → Nat → Int32} {S : St} {σ mk : Sg} {t w : Int32} (h : wbP iv av S σ mk t w iv' av') (hw : ¬ w = -1) : ∃ b1 m1 y, blk σ S.2.2 mk t = some (b1, m1, y) ∧ y < 160 ∧ w = nI y ∧ SC iv' av' (S.1, S.2.1, b1) ∧ BL av' m1 ∧ okm m1 := by
  rcases h.2 with q | q
  · exact absurd q.2.1 hw
  · exact q
def arP (iv av : Nat → Nat → Int32) (to : Nat) (σ : Sg) (S : St) (mk : Sg) (t : TR) (w : Int32) (iv' av' : Nat → Nat → Int32) : Prop := FC iv av iv' av' ∧ ((w = 0 ∧ addRow to σ S mk t = none) ∨ ∃ S' m', w = 1 ∧ addRow to σ S mk t = some (S', m') ∧ SC iv' av' S' ∧ BL av' m' ∧ okm m')
theorem ar_skip {iv av : Nat → Nat → Int32} {to : Nat} {σ : Sg} {S : St} {mk : Sg} {t : TR} (hS : SC iv av S) (hB : BL av mk) (hok : okm mk) (h : lo σ t) : arP iv av to σ S mk t 1 iv av := ⟨FC.refl, Or.inr ⟨S, mk, rfl, if_pos (Or.inr h), hS, hB, hok⟩⟩
theorem ar_no1 {iv av iv' av' : Nat → Nat → Int32} {to : Nat} {σ : Sg} {S : St} {mk : Sg} {t : TR} (ha : t.2.2.2 = true) (hl : ¬ lo σ t) (hf : FC iv av iv' av') (hb : blk σ S.2.2 mk t.1 = none) : arP iv av to σ S mk t 0 iv' av' := ⟨hf, Or.inl ⟨rfl, by rw [addRow_eq ha hl, hb]⟩⟩
theorem ar_no2 {iv av iv' av' : Nat → Nat → Int32} {to : Nat} {σ : Sg} {S : St} {mk m1 : Sg} {t : TR} {b1 y : Nat} (ha : t.2.2.2 = true) (hl : ¬ lo σ t) (hf : FC iv av iv' av') (hb : blk σ S.2.2 mk t.1 = some (b1, m1, y)) (hc : blk σ b1 m1 t.2.2.1 = none) : arP iv av to σ S mk t 0 iv' av' := ⟨hf, Or.inl ⟨rfl, by rw [addRow_eq ha hl, hb]; simp only [hc]⟩⟩
theorem ar_no3 {iv av iv' av' : Nat → Nat → Int32} {to : Nat} {σ : Sg} {S : St} {mk m1 m2 : Sg} {t : TR} {b1 y b2 z : Nat} (ha : t.2.2.2 = true) (hl : ¬ lo σ t) (hf : FC iv av iv' av') (hb : blk σ S.2.2 mk t.1 = some (b1, m1, y)) (hc : blk σ b1 m1 t.2.2.1 = some (b2, m2, z)) (hd : stPut (S.1, S.2.1, b2) to (cd y (nn (vl σ t.2.1)) z) = none) : arP iv av to σ S mk t 0 iv' av' := ⟨hf, Or.inl ⟨rfl, by rw [addRow_eq ha hl, hb]; simp only [hc, hd]⟩⟩
theorem ar_ok {iv av iv' av' : Nat → Nat → Int32} {to : Nat} {σ : Sg} {S S' : St} {mk m1 m2 : Sg} {t : TR} {b1 y b2 z : Nat} (ha : t.2.2.2 = true) (hl : ¬ lo σ t) (hf : FC iv av iv' av') (hb : blk σ S.2.2 mk t.1 = some (b1, m1, y)) (hc : blk σ b1 m1 t.2.2.1 = some (b2, m2, z)) (hd : stPut (S.1, S.2.1, b2) to (cd y (nn (vl σ t.2.1)) z) = some S') (hS : SC iv' av' S') (hB : BL av' m2) (hok : okm m2) : arP iv av to σ S mk t 1 iv' av' := ⟨hf, Or.inr ⟨S', m2, rfl, by rw [addRow_eq ha hl, hb]; simp only [hc, hd], hS, hB, hok⟩⟩
theorem pt_nn {iv av iv' av' : Nat → Nat → Int32} {S : St} {g c : Nat} {w : Int32} (h : ptP iv av S g c w iv' av') (hw : w = 0) : stPut S g c = none := by
  rcases h.2.2 with q | ⟨_, e, _⟩
  · exact q.2
  · rw [hw] at e; exact absurd e (by decide)
theorem pt_ok {iv av iv' av' : Nat → Nat → Int32} {S : St} {g c : Nat} {w : Int32} (h : ptP iv av S g c w iv' av') (hw : ¬ w = 0) : ∃ S', stPut S g c = some S' ∧ SC iv' av' S' := by
  rcases h.2.2 with q | ⟨S', _, e⟩
  · exact absurd q.1 hw
  · exact ⟨S', e⟩
end
section
set_option maxHeartbeats 2000000 in
set_option maxRecDepth 10000 in
theorem hX7_applyRow_t {l : Launch} {D : va_G} {aC : Nat → ClassId} {b0 sz : Nat} {x : Nat} {iv av : Nat → Nat → Int32} {R : ZM} {i j9 u9 to : Nat} {S : St} {σ : Sg} {ts : List TR} {t9 : TR} (hi : i < 12) (hto7 : to < 7) (hto : iv (61 + 6 * i) 5 = nI to) (hT : TRc iv av i ts) (et : ts[j9]? = some t9) (hu : u9 < 100) (hV : SV av u9 σ) (hσ : okG σ) (hS : SC iv av S) (ha : t9.2.2.2 = false) : Ct l D aC b0 yX7_applyRow cX7_applyRow 10 (some .boolean) 2 0 0 [.ref (x + 2), .ref (x + (61 + 6 * i)), .int (nI j9), .int (nI u9)] (cm aC x iv av R) sz (zpI (fun iv av => cm aC x iv av R) (fun _ iv' av' => FC iv av iv' av' ∧ SC iv' av' (takeRow to σ S t9))) := by
  refine Ct.of (by decide) (Nat.le_of_ble_eq_true rfl) ?_
  intro p e s m below meth c ls C hr hlk hnm hl
  have hl : lv_has ls 10 [(0, .ref (x + 2)), (1, .ref (x + (61 + 6 * i))), (2, .int (nI j9)), (3, .int (nI u9))] := hl
  obtain ⟨hx, hb, -, -, -⟩ := id C
  have hlen := hT.2.1
  have hj9 := (List.getElem?_eq_some_iff.mp et).1
  have hrow := hT.2.2.2 j9 t9 et
  have hok := hT.2.2.1 t9 (List.mem_of_getElem? et)
  refine zz (fun _ _ => lv_aload_n hx hb dX7_applyRow_0 rfl (lv_at hl 0 rfl)) ?_
  refine z_get (v := .ref (x + 3)) C fd_X7_12 (rd_3 (by decide)) rfl dX7_applyRow_1 ?_
  refine z_get (v := .ref (x + 4)) C fd_X7_68 (rd_4 (by decide)) rfl dX7_applyRow_4 ?_
  refine zz (fun _ _ => lv_aload_n hx hb dX7_applyRow_7 rfl (lv_at hl 1 rfl)) ?_
  refine z_get (v := .int (iv (61 + 6 * i) 5)) C fd_X7_61 (rd_18 (ck_s hi)) rfl dX7_applyRow_8 ?_
  refine zval (v' := .int (nI to)) (congrArg Value.int hto) ?_
  refine z_aald C 3 rfl (rd_5 (by decide)) (by first | assumption | (apply vp_in_nI <;> omega)) (v := .ref (x + (4 + 1 + 2 * to))) (rf_if (f := fun q => x + (4 + 1 + 2 * q)) (n := 7) rfl hto7 (by decide)) dX7_applyRow_11 ?_
  refine zs (fun _ _ => lv_astore (lv' := [(4, .ref (x + (4 + 1 + 2 * to))), (0, .ref (x + 2)), (1, .ref (x + (61 + 6 * i))), (2, .int (nI j9)), (3, .int (nI u9))]) hx hb dX7_applyRow_12 hl (by decide) rfl) (fun ls hl => ?_)
  refine zz (fun _ _ => lv_aload_n hx hb dX7_applyRow_14 rfl (lv_at hl 1 rfl)) ?_
  refine zz (fun _ _ => lv_aload_n hx hb dX7_applyRow_15 rfl (lv_at hl 2 rfl)) ?_
  refine z_get (v := .ref (x + ((61 + 6 * i) + 1))) C fd_X7_153 (rd_18 (ck_s hi)) rfl dX7_applyRow_16 ?_
  refine zz (fun _ _ => lv_iload_n hx hb dX7_applyRow_19 rfl (lv_at hl 3 rfl)) ?_
  refine zdV (As := [.int (nI j9)]) (rest := [.ref (x + 2)]) (st' := [.int ((fX3_subject av ((61 + 6 * i) + 1) (nI j9))), .ref (x + 2)]) C hl.1 lk_X7_119 (ctX3_subject (j_0 := 0) (nb_18_1 (ck_s hi)) rfl (by rw [tl_t hi]; omega)) (rd_14 (nb_18_1 (ck_s hi))) rfl rfl rfl (Nat.le_of_ble_eq_true rfl) ⟨by decide, by decide, by decide, by decide⟩ dX7_applyRow_20 rfl (fun sz => ?_)
  refine zval (v' := .int (t9.1)) (congrArg Value.int ((row_s (by omega)).1.trans hrow.1)) ?_
  refine zz (fun _ _ => lv_iload_n hx hb dX7_applyRow_23 rfl (lv_at hl 4 rfl)) ?_
  refine zdV (As := [.int (t9.1), .int (nI u9)]) (rest := []) (st' := [.int (vl σ (t9.1))]) C hl.1 lk_X7_170 (Ct.ofS (hX7_valueOf (a_ := t9.1) (σ := σ) hu hV)) (rd_3 (by decide)) rfl rfl rfl (Nat.le_of_ble_eq_true rfl) ⟨by decide, by decide, by decide, by decide⟩ dX7_applyRow_24 rfl (fun sz => ?_)
  refine zval (v' := .int (vl σ t9.1)) (congrArg Value.int rfl) ?_
  refine zs (fun _ _ => lv_istore (lv' := [(5, .int (vl σ t9.1)), (4, .ref (x + (4 + 1 + 2 * to))), (0, .ref (x + 2)), (1, .ref (x + (61 + 6 * i))), (2, .int (nI j9)), (3, .int (nI u9))]) hx hb dX7_applyRow_27 hl (by decide) rfl) (fun ls hl => ?_)
  refine zz (fun _ _ => lv_aload_n hx hb dX7_applyRow_29 rfl (lv_at hl 2 rfl)) ?_
  refine zz (fun _ _ => lv_aload_n hx hb dX7_applyRow_30 rfl (lv_at hl 3 rfl)) ?_
  refine z_get (v := .ref (x + ((61 + 6 * i) + 1))) C fd_X7_153 (rd_18 (ck_s hi)) rfl dX7_applyRow_31 ?_
  refine zz (fun _ _ => lv_iload_n hx hb dX7_applyRow_34 rfl (lv_at hl 4 rfl)) ?_
  refine zdV (As := [.int (nI j9)]) (rest := [.ref (x + 2)]) (st' := [.int ((fX3_property av ((61 + 6 * i) + 1) (nI j9))), .ref (x + 2)]) C hl.1 lk_X7_123 (ctX3_property (j_0 := 0) (nb_18_1 (ck_s hi)) rfl (by rw [tl_t hi]; omega)) (rd_14 (nb_18_1 (ck_s hi))) rfl rfl rfl (Nat.le_of_ble_eq_true rfl) ⟨by decide, by decide, by decide, by decide⟩ dX7_applyRow_35 rfl (fun sz => ?_)
  refine zval (v' := .int (t9.2.1)) (congrArg Value.int ((row_s (by omega)).2.1.trans hrow.2.1)) ?_
  refine zz (fun _ _ => lv_iload_n hx hb dX7_applyRow_38 rfl (lv_at hl 5 rfl)) ?_
  refine zdV (As := [.int (t9.2.1), .int (nI u9)]) (rest := []) (st' := [.int (vl σ (t9.2.1))]) C hl.1 lk_X7_170 (Ct.ofS (hX7_valueOf (a_ := t9.2.1) (σ := σ) hu hV)) (rd_3 (by decide)) rfl rfl rfl (Nat.le_of_ble_eq_true rfl) ⟨by decide, by decide, by decide, by decide⟩ dX7_applyRow_39 rfl (fun sz => ?_)
  refine zval (v' := .int (vl σ t9.2.1)) (congrArg Value.int rfl) ?_
  refine zs (fun _ _ => lv_istore (lv' := [(6, .int (vl σ t9.2.1)), (5, .int (vl σ t9.1)), (4, .ref (x + (4 + 1 + 2 * to))), (0, .ref (x + 2)), (1, .ref (x + (61 + 6 * i))), (2, .int (nI j9)), (3, .int (nI u9))]) hx hb dX7_applyRow_42 hl (by decide) rfl) (fun ls hl => ?_)
  refine zz (fun _ _ => lv_aload_n hx hb dX7_applyRow_44 rfl (lv_at hl 3 rfl)) ?_
  refine zz (fun _ _ => lv_aload_n hx hb dX7_applyRow_45 rfl (lv_at hl 4 rfl)) ?_
  refine z_get (v := .ref (x + ((61 + 6 * i) + 1))) C fd_X7_153 (rd_18 (ck_s hi)) rfl dX7_applyRow_46 ?_
  refine zz (fun _ _ => lv_iload_n hx hb dX7_applyRow_49 rfl (lv_at hl 5 rfl)) ?_
  refine zdV (As := [.int (nI j9)]) (rest := [.ref (x + 2)]) (st' := [.int ((fX3_object av ((61 + 6 * i) + 1) (nI j9))), .ref (x + 2)]) C hl.1 lk_X7_126 (ctX3_object (j_0 := 0) (nb_18_1 (ck_s hi)) rfl (by rw [tl_t hi]; omega)) (rd_14 (nb_18_1 (ck_s hi))) rfl rfl rfl (Nat.le_of_ble_eq_true rfl) ⟨by decide, by decide, by decide, by decide⟩ dX7_applyRow_50 rfl (fun sz => ?_)
  refine zval (v' := .int (t9.2.2.1)) (congrArg Value.int ((row_s (by omega)).2.2.trans hrow.2.2.1)) ?_
  refine zz (fun _ _ => lv_iload_n hx hb dX7_applyRow_53 rfl (lv_at hl 6 rfl)) ?_
  refine zdV (As := [.int (t9.2.2.1), .int (nI u9)]) (rest := []) (st' := [.int (vl σ (t9.2.2.1))]) C hl.1 lk_X7_170 (Ct.ofS (hX7_valueOf (a_ := t9.2.2.1) (σ := σ) hu hV)) (rd_3 (by decide)) rfl rfl rfl (Nat.le_of_ble_eq_true rfl) ⟨by decide, by decide, by decide, by decide⟩ dX7_applyRow_54 rfl (fun sz => ?_)
  refine zval (v' := .int (vl σ t9.2.2.1)) (congrArg Value.int rfl) ?_
  refine zs (fun _ _ => lv_istore (lv' := [(7, .int (vl σ t9.2.2.1)), (6, .int (vl σ t9.2.1)), (5, .int (vl σ t9.1)), (4, .ref (x + (4 + 1 + 2 * to))), (0, .ref (x + 2)), (1, .ref (x + (61 + 6 * i))), (2, .int (nI j9)), (3, .int (nI u9))]) hx hb dX7_applyRow_57 hl (by decide) rfl) (fun ls hl => ?_)
  refine zz (fun _ _ => lv_iload hx hb dX7_applyRow_59 (lv_at hl 2 rfl)) ?_
  refine zz (fun _ _ => lv_iconst (v := (-1)) hx hb dX7_applyRow_61 (by decide)) ?_
  refine zb (fun _ _ => lv_icmp_eq (tgt := 79) hx hb dX7_applyRow_62 (by decide)) (fun c_1 => ?_) (fun c_1 => ?_)
  · refine zz (fun _ _ => lv_iconst (v := 1) hx hb dX7_applyRow_79 (by decide)) ?_
    exact z_zret C hr rfl hlk dX7_applyRow_80 (zpI_mk (a := iv) (b := av) ⟨FC.refl, by rw [tk_skip (Or.inr (lo_1 c_1))]; exact hS⟩)
  · refine zz (fun _ _ => lv_iload hx hb dX7_applyRow_65 (lv_at hl 0 rfl)) ?_
    refine zz (fun _ _ => lv_iconst (v := (-1)) hx hb dX7_applyRow_67 (by decide)) ?_
    refine zb (fun _ _ => lv_icmp_eq (tgt := 79) hx hb dX7_applyRow_68 (by decide)) (fun c_2 => ?_) (fun c_2 => ?_)
    · refine zz (fun _ _ => lv_iconst (v := 1) hx hb dX7_applyRow_79 (by decide)) ?_
      exact z_zret C hr rfl hlk dX7_applyRow_80 (zpI_mk (a := iv) (b := av) ⟨FC.refl, by rw [tk_skip (Or.inr (lo_2 c_2))]; exact hS⟩)
    · refine zz (fun _ _ => lv_iload hx hb dX7_applyRow_71 (lv_at hl 1 rfl)) ?_
      refine zdS (As := [.int (vl σ t9.2.1)]) (rest := []) (st' := [.int ((fX8_isName (vl σ t9.2.1)))]) C hl.1 lk_X7_174 (ctX8_isName ) rfl rfl (Nat.le_of_ble_eq_true rfl) ⟨by decide, by decide, by decide, by decide⟩ dX7_applyRow_73 rfl (fun sz => ?_)
      refine zbn (fun _ _ => lv_if_ne (tgt := 81) hx hb dX7_applyRow_76 (by decide)) (fun c_3 => ?_) (fun c_3 => ?_)
      · have hnl9 := lo_n c_1 c_2 c_3
        refine zz (fun _ _ => lv_aload_n hx hb dX7_applyRow_81 rfl (lv_at hl 5 rfl)) ?_
        refine z_get (v := .ref (x + ((61 + 6 * i) + 3))) C fd_X7_156 (rd_18 (ck_s hi)) rfl dX7_applyRow_82 ?_
        refine zz (fun _ _ => lv_iload_n hx hb dX7_applyRow_85 rfl (lv_at hl 6 rfl)) ?_
        refine z_zald (f := av ((61 + 6 * i) + 3)) C (rd_20 (nb_18_3 (ck_s hi))) (by first | assumption | (apply vp_in_nI <;> omega)) dX7_applyRow_86 ?_
        refine zval (v' := .int (0)) (congrArg Value.int ((rdI hrow.2.2.2 (by omega)).trans (by rw [ha]; rfl))) ?_
        refine zbn (fun _ _ => lv_if_ne (tgt := 106) hx hb dX7_applyRow_87 (by decide)) (fun c_4 => ?_) (fun c_4 => ?_)
        · exact absurd (by decide) c_4
        · refine zz (fun _ _ => lv_aload hx hb dX7_applyRow_90 (lv_at hl 3 rfl)) ?_
          refine zz (fun _ _ => lv_iload hx hb dX7_applyRow_92 (lv_at hl 2 rfl)) ?_
          refine zz (fun _ _ => lv_iload hx hb dX7_applyRow_94 (lv_at hl 1 rfl)) ?_
          refine zz (fun _ _ => lv_iload hx hb dX7_applyRow_96 (lv_at hl 0 rfl)) ?_
          refine zdS (As := [.int (vl σ t9.1), .int (vl σ t9.2.1), .int (vl σ t9.2.2.1)]) (rest := [.ref (x + (4 + 1 + 2 * to))]) (st' := [.int ((fX8_factOf (vl σ t9.1) (vl σ t9.2.1) (vl σ t9.2.2.1))), .ref (x + (4 + 1 + 2 * to))]) C hl.1 lk_X7_129 (ctX8_factOf ) rfl rfl (Nat.le_of_ble_eq_true rfl) ⟨by decide, by decide, by decide, by decide⟩ dX7_applyRow_98 rfl (fun sz => ?_)
          refine zval (v' := .int (nI (tcd σ t9))) (congrArg Value.int (tcd_f hσ hok ha hnl9)) ?_
          refine zqVN (As := [.int (nI (tcd σ t9))]) (rest := []) C hl.1 lk_X7_177 (hX2_remove (ck_g hto7) (hS.2.1 to hto7) (okP_g hS.1.1 to) (SC_len hS hto7) (tcd_s hσ hok ha hnl9).1) (rd_6 (kp_5 (by decide) hto7)) rfl rfl rfl (Nat.le_of_ble_eq_true rfl) ⟨by decide, by decide, by decide, by decide⟩ dX7_applyRow_101 (fun iv5 av5 sz h5 => ?_)
          refine zeq (M' := (cm aC x iv5 av5 R)) rfl ?_
          refine zz (fun _ _ => lv_iconst (v := 1) hx hb dX7_applyRow_104 (by decide)) ?_
          exact z_zret C hr rfl hlk dX7_applyRow_105 (zpI_mk (a := iv5) (b := av5) ⟨h5.2.C hto7, by rw [tk_do ha hnl9]; exact SC_del hS hto7 h5⟩)
      · refine zz (fun _ _ => lv_iconst (v := 1) hx hb dX7_applyRow_79 (by decide)) ?_
        exact z_zret C hr rfl hlk dX7_applyRow_80 (zpI_mk (a := iv) (b := av) ⟨FC.refl, by rw [tk_skip (Or.inr (lo_3 c_3))]; exact hS⟩)
set_option maxHeartbeats 2000000 in
set_option maxRecDepth 10000 in
theorem hX7_applyRow_a {l : Launch} {D : va_G} {aC : Nat → ClassId} {b0 sz : Nat} {x : Nat} {iv av : Nat → Nat → Int32} {R : ZM} {i j9 u9 to : Nat} {S : St} {σ : Sg} {ts : List TR} {t9 : TR} (hi : i < 12) (hto7 : to < 7) (hto : iv (61 + 6 * i) 5 = nI to) (hT : TRc iv av i ts) (et : ts[j9]? = some t9) (hu : u9 < 100) (hV : SV av u9 σ) (hσ : okG σ) (hS : SC iv av S) {mk : Sg} (hB : BL av mk) (hmk : okm mk) (ha : t9.2.2.2 = true) : Ct l D aC b0 yX7_applyRow cX7_applyRow 10 (some .boolean) 3 0 0 [.ref (x + 2), .ref (x + (61 + 6 * i)), .int (nI j9), .int (nI u9)] (cm aC x iv av R) sz (zpI (fun iv av => cm aC x iv av R) (arP iv av to σ S mk t9)) := by
  refine Ct.of (by decide) (Nat.le_of_ble_eq_true rfl) ?_
  intro p e s m below meth c ls C hr hlk hnm hl
  have hl : lv_has ls 10 [(0, .ref (x + 2)), (1, .ref (x + (61 + 6 * i))), (2, .int (nI j9)), (3, .int (nI u9))] := hl
  obtain ⟨hx, hb, -, -, -⟩ := id C
  have hlen := hT.2.1
  have hj9 := (List.getElem?_eq_some_iff.mp et).1
  have hrow := hT.2.2.2 j9 t9 et
  have hok := hT.2.2.1 t9 (List.mem_of_getElem? et)
  refine zz (fun _ _ => lv_aload_n hx hb dX7_applyRow_0 rfl (lv_at hl 0 rfl)) ?_
  refine z_get (v := .ref (x + 3)) C fd_X7_12 (rd_3 (by decide)) rfl dX7_applyRow_1 ?_
  refine z_get (v := .ref (x + 4)) C fd_X7_68 (rd_4 (by decide)) rfl dX7_applyRow_4 ?_
  refine zz (fun _ _ => lv_aload_n hx hb dX7_applyRow_7 rfl (lv_at hl 1 rfl)) ?_
  refine z_get (v := .int (iv (61 + 6 * i) 5)) C fd_X7_61 (rd_18 (ck_s hi)) rfl dX7_applyRow_8 ?_
  refine zval (v' := .int (nI to)) (congrArg Value.int hto) ?_
  refine z_aald C 3 rfl (rd_5 (by decide)) (by first | assumption | (apply vp_in_nI <;> omega)) (v := .ref (x + (4 + 1 + 2 * to))) (rf_if (f := fun q => x + (4 + 1 + 2 * q)) (n := 7) rfl hto7 (by decide)) dX7_applyRow_11 ?_
  refine zs (fun _ _ => lv_astore (lv' := [(4, .ref (x + (4 + 1 + 2 * to))), (0, .ref (x + 2)), (1, .ref (x + (61 + 6 * i))), (2, .int (nI j9)), (3, .int (nI u9))]) hx hb dX7_applyRow_12 hl (by decide) rfl) (fun ls hl => ?_)
  refine zz (fun _ _ => lv_aload_n hx hb dX7_applyRow_14 rfl (lv_at hl 1 rfl)) ?_
  refine zz (fun _ _ => lv_aload_n hx hb dX7_applyRow_15 rfl (lv_at hl 2 rfl)) ?_
  refine z_get (v := .ref (x + ((61 + 6 * i) + 1))) C fd_X7_153 (rd_18 (ck_s hi)) rfl dX7_applyRow_16 ?_
  refine zz (fun _ _ => lv_iload_n hx hb dX7_applyRow_19 rfl (lv_at hl 3 rfl)) ?_
  refine zdV (As := [.int (nI j9)]) (rest := [.ref (x + 2)]) (st' := [.int ((fX3_subject av ((61 + 6 * i) + 1) (nI j9))), .ref (x + 2)]) C hl.1 lk_X7_119 (ctX3_subject (j_0 := 0) (nb_18_1 (ck_s hi)) rfl (by rw [tl_t hi]; omega)) (rd_14 (nb_18_1 (ck_s hi))) rfl rfl rfl (Nat.le_of_ble_eq_true rfl) ⟨by decide, by decide, by decide, by decide⟩ dX7_applyRow_20 rfl (fun sz => ?_)
  refine zval (v' := .int (t9.1)) (congrArg Value.int ((row_s (by omega)).1.trans hrow.1)) ?_
  refine zz (fun _ _ => lv_iload_n hx hb dX7_applyRow_23 rfl (lv_at hl 4 rfl)) ?_
  refine zdV (As := [.int (t9.1), .int (nI u9)]) (rest := []) (st' := [.int (vl σ (t9.1))]) C hl.1 lk_X7_170 (Ct.ofS (hX7_valueOf (a_ := t9.1) (σ := σ) hu hV)) (rd_3 (by decide)) rfl rfl rfl (Nat.le_of_ble_eq_true rfl) ⟨by decide, by decide, by decide, by decide⟩ dX7_applyRow_24 rfl (fun sz => ?_)
  refine zval (v' := .int (vl σ t9.1)) (congrArg Value.int rfl) ?_
  refine zs (fun _ _ => lv_istore (lv' := [(5, .int (vl σ t9.1)), (4, .ref (x + (4 + 1 + 2 * to))), (0, .ref (x + 2)), (1, .ref (x + (61 + 6 * i))), (2, .int (nI j9)), (3, .int (nI u9))]) hx hb dX7_applyRow_27 hl (by decide) rfl) (fun ls hl => ?_)
  refine zz (fun _ _ => lv_aload_n hx hb dX7_applyRow_29 rfl (lv_at hl 2 rfl)) ?_
  refine zz (fun _ _ => lv_aload_n hx hb dX7_applyRow_30 rfl (lv_at hl 3 rfl)) ?_
  refine z_get (v := .ref (x + ((61 + 6 * i) + 1))) C fd_X7_153 (rd_18 (ck_s hi)) rfl dX7_applyRow_31 ?_
  refine zz (fun _ _ => lv_iload_n hx hb dX7_applyRow_34 rfl (lv_at hl 4 rfl)) ?_
  refine zdV (As := [.int (nI j9)]) (rest := [.ref (x + 2)]) (st' := [.int ((fX3_property av ((61 + 6 * i) + 1) (nI j9))), .ref (x + 2)]) C hl.1 lk_X7_123 (ctX3_property (j_0 := 0) (nb_18_1 (ck_s hi)) rfl (by rw [tl_t hi]; omega)) (rd_14 (nb_18_1 (ck_s hi))) rfl rfl rfl (Nat.le_of_ble_eq_true rfl) ⟨by decide, by decide, by decide, by decide⟩ dX7_applyRow_35 rfl (fun sz => ?_)
  refine zval (v' := .int (t9.2.1)) (congrArg Value.int ((row_s (by omega)).2.1.trans hrow.2.1)) ?_
  refine zz (fun _ _ => lv_iload_n hx hb dX7_applyRow_38 rfl (lv_at hl 5 rfl)) ?_
  refine zdV (As := [.int (t9.2.1), .int (nI u9)]) (rest := []) (st' := [.int (vl σ (t9.2.1))]) C hl.1 lk_X7_170 (Ct.ofS (hX7_valueOf (a_ := t9.2.1) (σ := σ) hu hV)) (rd_3 (by decide)) rfl rfl rfl (Nat.le_of_ble_eq_true rfl) ⟨by decide, by decide, by decide, by decide⟩ dX7_applyRow_39 rfl (fun sz => ?_)
  refine zval (v' := .int (vl σ t9.2.1)) (congrArg Value.int rfl) ?_
  refine zs (fun _ _ => lv_istore (lv' := [(6, .int (vl σ t9.2.1)), (5, .int (vl σ t9.1)), (4, .ref (x + (4 + 1 + 2 * to))), (0, .ref (x + 2)), (1, .ref (x + (61 + 6 * i))), (2, .int (nI j9)), (3, .int (nI u9))]) hx hb dX7_applyRow_42 hl (by decide) rfl) (fun ls hl => ?_)
  refine zz (fun _ _ => lv_aload_n hx hb dX7_applyRow_44 rfl (lv_at hl 3 rfl)) ?_
  refine zz (fun _ _ => lv_aload_n hx hb dX7_applyRow_45 rfl (lv_at hl 4 rfl)) ?_
  refine z_get (v := .ref (x + ((61 + 6 * i) + 1))) C fd_X7_153 (rd_18 (ck_s hi)) rfl dX7_applyRow_46 ?_
  refine zz (fun _ _ => lv_iload_n hx hb dX7_applyRow_49 rfl (lv_at hl 5 rfl)) ?_
  refine zdV (As := [.int (nI j9)]) (rest := [.ref (x + 2)]) (st' := [.int ((fX3_object av ((61 + 6 * i) + 1) (nI j9))), .ref (x + 2)]) C hl.1 lk_X7_126 (ctX3_object (j_0 := 0) (nb_18_1 (ck_s hi)) rfl (by rw [tl_t hi]; omega)) (rd_14 (nb_18_1 (ck_s hi))) rfl rfl rfl (Nat.le_of_ble_eq_true rfl) ⟨by decide, by decide, by decide, by decide⟩ dX7_applyRow_50 rfl (fun sz => ?_)
  refine zval (v' := .int (t9.2.2.1)) (congrArg Value.int ((row_s (by omega)).2.2.trans hrow.2.2.1)) ?_
  refine zz (fun _ _ => lv_iload_n hx hb dX7_applyRow_53 rfl (lv_at hl 6 rfl)) ?_
  refine zdV (As := [.int (t9.2.2.1), .int (nI u9)]) (rest := []) (st' := [.int (vl σ (t9.2.2.1))]) C hl.1 lk_X7_170 (Ct.ofS (hX7_valueOf (a_ := t9.2.2.1) (σ := σ) hu hV)) (rd_3 (by decide)) rfl rfl rfl (Nat.le_of_ble_eq_true rfl) ⟨by decide, by decide, by decide, by decide⟩ dX7_applyRow_54 rfl (fun sz => ?_)
  refine zval (v' := .int (vl σ t9.2.2.1)) (congrArg Value.int rfl) ?_
  refine zs (fun _ _ => lv_istore (lv' := [(7, .int (vl σ t9.2.2.1)), (6, .int (vl σ t9.2.1)), (5, .int (vl σ t9.1)), (4, .ref (x + (4 + 1 + 2 * to))), (0, .ref (x + 2)), (1, .ref (x + (61 + 6 * i))), (2, .int (nI j9)), (3, .int (nI u9))]) hx hb dX7_applyRow_57 hl (by decide) rfl) (fun ls hl => ?_)
  refine zz (fun _ _ => lv_iload hx hb dX7_applyRow_59 (lv_at hl 2 rfl)) ?_
  refine zz (fun _ _ => lv_iconst (v := (-1)) hx hb dX7_applyRow_61 (by decide)) ?_
  refine zb (fun _ _ => lv_icmp_eq (tgt := 79) hx hb dX7_applyRow_62 (by decide)) (fun c_1 => ?_) (fun c_1 => ?_)
  · refine zz (fun _ _ => lv_iconst (v := 1) hx hb dX7_applyRow_79 (by decide)) ?_
    exact z_zret C hr rfl hlk dX7_applyRow_80 (zpI_mk (a := iv) (b := av) (ar_skip hS hB hmk (lo_1 c_1)))
  · refine zz (fun _ _ => lv_iload hx hb dX7_applyRow_65 (lv_at hl 0 rfl)) ?_
    refine zz (fun _ _ => lv_iconst (v := (-1)) hx hb dX7_applyRow_67 (by decide)) ?_
    refine zb (fun _ _ => lv_icmp_eq (tgt := 79) hx hb dX7_applyRow_68 (by decide)) (fun c_2 => ?_) (fun c_2 => ?_)
    · refine zz (fun _ _ => lv_iconst (v := 1) hx hb dX7_applyRow_79 (by decide)) ?_
      exact z_zret C hr rfl hlk dX7_applyRow_80 (zpI_mk (a := iv) (b := av) (ar_skip hS hB hmk (lo_2 c_2)))
    · refine zz (fun _ _ => lv_iload hx hb dX7_applyRow_71 (lv_at hl 1 rfl)) ?_
      refine zdS (As := [.int (vl σ t9.2.1)]) (rest := []) (st' := [.int ((fX8_isName (vl σ t9.2.1)))]) C hl.1 lk_X7_174 (ctX8_isName ) rfl rfl (Nat.le_of_ble_eq_true rfl) ⟨by decide, by decide, by decide, by decide⟩ dX7_applyRow_73 rfl (fun sz => ?_)
      refine zbn (fun _ _ => lv_if_ne (tgt := 81) hx hb dX7_applyRow_76 (by decide)) (fun c_3 => ?_) (fun c_3 => ?_)
      · have hnl9 := lo_n c_1 c_2 c_3
        have htm9 := ad_term hσ hok hnl9
        refine zz (fun _ _ => lv_aload_n hx hb dX7_applyRow_81 rfl (lv_at hl 5 rfl)) ?_
        refine z_get (v := .ref (x + ((61 + 6 * i) + 3))) C fd_X7_156 (rd_18 (ck_s hi)) rfl dX7_applyRow_82 ?_
        refine zz (fun _ _ => lv_iload_n hx hb dX7_applyRow_85 rfl (lv_at hl 6 rfl)) ?_
        refine z_zald (f := av ((61 + 6 * i) + 3)) C (rd_20 (nb_18_3 (ck_s hi))) (by first | assumption | (apply vp_in_nI <;> omega)) dX7_applyRow_86 ?_
        refine zval (v' := .int (1)) (congrArg Value.int ((rdI hrow.2.2.2 (by omega)).trans (by rw [ha]; rfl))) ?_
        refine zbn (fun _ _ => lv_if_ne (tgt := 106) hx hb dX7_applyRow_87 (by decide)) (fun c_4 => ?_) (fun c_4 => ?_)
        · refine zz (fun _ _ => lv_aload_n hx hb dX7_applyRow_106 rfl (lv_at hl 4 rfl)) ?_
          refine zz (fun _ _ => lv_iload hx hb dX7_applyRow_107 (lv_at hl 2 rfl)) ?_
          refine zqVI (As := [.int (vl σ t9.1)]) (rest := []) C hl.1 lk_X7_180 (hX7_withBlank hS hB hmk (wb_hid hS hB hmk htm9.1) (wb_het htm9.1)) (rd_3 (by decide)) rfl rfl rfl (Nat.le_of_ble_eq_true rfl) ⟨by decide, by decide, by decide, by decide⟩ dX7_applyRow_109 (fun w5 iv5 av5 sz h5 => ?_)
          refine zeq (M' := (cm aC x iv5 av5 R)) rfl ?_
          refine zs (fun _ _ => lv_istore (lv' := [(8, .int (w5)), (7, .int (vl σ t9.2.2.1)), (6, .int (vl σ t9.2.1)), (5, .int (vl σ t9.1)), (4, .ref (x + (4 + 1 + 2 * to))), (0, .ref (x + 2)), (1, .ref (x + (61 + 6 * i))), (2, .int (nI j9)), (3, .int (nI u9))]) hx hb dX7_applyRow_112 hl (by decide) rfl) (fun ls hl => ?_)
          rcases h5.2 with ⟨e9, ew9, hS9, hB9⟩ | ⟨b9, m10, y9, e9, hy9, ew9, hS9, hB9, hk9⟩
          · refine zz (fun _ _ => lv_aload_n hx hb dX7_applyRow_114 rfl (lv_at hl 5 rfl)) ?_
            refine zz (fun _ _ => lv_iload hx hb dX7_applyRow_115 (lv_at hl 1 rfl)) ?_
            refine zqVI (As := [.int (vl σ t9.2.2.1)]) (rest := []) C hl.1 lk_X7_180 (hX7_withBlank hS9 hB9 hmk (wb_hid hS9 hB9 hmk htm9.2.1) (wb_het htm9.2.1)) (rd_3 (by decide)) rfl rfl rfl (Nat.le_of_ble_eq_true rfl) ⟨by decide, by decide, by decide, by decide⟩ dX7_applyRow_117 (fun w6 iv6 av6 sz h6 => ?_)
            refine zeq (M' := (cm aC x iv6 av6 R)) rfl ?_
            refine zs (fun _ _ => lv_istore (lv' := [(9, .int (w6)), (8, .int (w5)), (7, .int (vl σ t9.2.2.1)), (6, .int (vl σ t9.2.1)), (5, .int (vl σ t9.1)), (4, .ref (x + (4 + 1 + 2 * to))), (0, .ref (x + 2)), (1, .ref (x + (61 + 6 * i))), (2, .int (nI j9)), (3, .int (nI u9))]) hx hb dX7_applyRow_120 hl (by decide) rfl) (fun ls hl => ?_)
            refine zz (fun _ _ => lv_iload hx hb dX7_applyRow_122 (lv_at hl 1 rfl)) ?_
            refine zz (fun _ _ => lv_iconst (v := (-1)) hx hb dX7_applyRow_124 (by decide)) ?_
            refine zb (fun _ _ => lv_icmp_eq (tgt := 159) hx hb dX7_applyRow_125 (by decide)) (fun c_7 => ?_) (fun c_7 => ?_)
            · refine zz (fun _ _ => lv_iconst (v := 0) hx hb dX7_applyRow_159 (by decide)) ?_
              exact z_zret C hr rfl hlk dX7_applyRow_160 (zpI_mk (a := iv6) (b := av6) (ar_no1 ha hnl9 (h5.1.trans h6.1) e9))
            · exact absurd ew9 c_7
          · have hne9 : ¬ w5 = (-1) := by rw [ew9]; exact nI_n1 (by omega)
            refine zz (fun _ _ => lv_aload_n hx hb dX7_applyRow_114 rfl (lv_at hl 5 rfl)) ?_
            refine zz (fun _ _ => lv_iload hx hb dX7_applyRow_115 (lv_at hl 1 rfl)) ?_
            refine zqVI (As := [.int (vl σ t9.2.2.1)]) (rest := []) C hl.1 lk_X7_180 (hX7_withBlank hS9 hB9 hk9 (wb_hid hS9 hB9 hk9 htm9.2.1) (wb_het htm9.2.1)) (rd_3 (by decide)) rfl rfl rfl (Nat.le_of_ble_eq_true rfl) ⟨by decide, by decide, by decide, by decide⟩ dX7_applyRow_117 (fun w8 iv8 av8 sz h8 => ?_)
            refine zeq (M' := (cm aC x iv8 av8 R)) rfl ?_
            refine zs (fun _ _ => lv_istore (lv' := [(9, .int (w8)), (8, .int (w5)), (7, .int (vl σ t9.2.2.1)), (6, .int (vl σ t9.2.1)), (5, .int (vl σ t9.1)), (4, .ref (x + (4 + 1 + 2 * to))), (0, .ref (x + 2)), (1, .ref (x + (61 + 6 * i))), (2, .int (nI j9)), (3, .int (nI u9))]) hx hb dX7_applyRow_120 hl (by decide) rfl) (fun ls hl => ?_)
            refine zz (fun _ _ => lv_iload hx hb dX7_applyRow_122 (lv_at hl 1 rfl)) ?_
            refine zz (fun _ _ => lv_iconst (v := (-1)) hx hb dX7_applyRow_124 (by decide)) ?_
            refine zb (fun _ _ => lv_icmp_eq (tgt := 159) hx hb dX7_applyRow_125 (by decide)) (fun c_9 => ?_) (fun c_9 => ?_)
            · exact absurd c_9 hne9
            · refine zz (fun _ _ => lv_iload hx hb dX7_applyRow_128 (lv_at hl 0 rfl)) ?_
              refine zz (fun _ _ => lv_iconst (v := (-1)) hx hb dX7_applyRow_130 (by decide)) ?_
              refine zb (fun _ _ => lv_icmp_eq (tgt := 159) hx hb dX7_applyRow_131 (by decide)) (fun c_10 => ?_) (fun c_10 => ?_)
              · refine zz (fun _ _ => lv_iconst (v := 0) hx hb dX7_applyRow_159 (by decide)) ?_
                exact z_zret C hr rfl hlk dX7_applyRow_160 (zpI_mk (a := iv8) (b := av8) (ar_no2 ha hnl9 (h5.1.trans h8.1) e9 (by have h9 := wb_no h8 c_10; exact h9)))
              · obtain ⟨b10, m11, z9, ec9, hz9, ew10, hS12, hB12, hk12⟩ := wb_ok h8 c_10
                have hp9 := htm9.2.2.1
                have hoc9 : okc (cd y9 (nn (vl σ t9.2.1)) z9) := okc_cd hy9 hp9 hz9
                refine zz (fun _ _ => lv_aload_n hx hb dX7_applyRow_134 rfl (lv_at hl 6 rfl)) ?_
                refine z_get (v := .ref (x + 3)) C fd_X7_12 (rd_3 (by decide)) rfl dX7_applyRow_135 ?_
                refine zz (fun _ _ => lv_aload hx hb dX7_applyRow_138 (lv_at hl 5 rfl)) ?_
                refine zz (fun _ _ => lv_iload hx hb dX7_applyRow_140 (lv_at hl 1 rfl)) ?_
                refine zval (v' := .int (nI (pt (cd y9 (nn (vl σ t9.2.1)) z9) 0))) (congrArg Value.int (ew9.trans (by rw [pt_cd0 (by omega) (by omega)]))) ?_
                refine zz (fun _ _ => lv_iload hx hb dX7_applyRow_142 (lv_at hl 3 rfl)) ?_
                refine zval (v' := .int (nI (pt (cd y9 (nn (vl σ t9.2.1)) z9) 1))) (congrArg Value.int (htm9.2.2.2.trans (by rw [pt_cd1 (by omega) (by omega)]))) ?_
                refine zz (fun _ _ => lv_iload hx hb dX7_applyRow_144 (lv_at hl 0 rfl)) ?_
                refine zval (v' := .int (nI (pt (cd y9 (nn (vl σ t9.2.1)) z9) 2))) (congrArg Value.int (ew10.trans (by rw [pt_cd2 (by omega) (by omega)]))) ?_
                refine zdS (As := [.int (nI (pt (cd y9 (nn (vl σ t9.2.1)) z9) 0)), .int (nI (pt (cd y9 (nn (vl σ t9.2.1)) z9) 1)), .int (nI (pt (cd y9 (nn (vl σ t9.2.1)) z9) 2))]) (rest := [.ref (x + (4 + 1 + 2 * to)), .ref (x + 3)]) (st' := [.int ((fX8_factOf (nI (pt (cd y9 (nn (vl σ t9.2.1)) z9) 0)) (nI (pt (cd y9 (nn (vl σ t9.2.1)) z9) 1)) (nI (pt (cd y9 (nn (vl σ t9.2.1)) z9) 2)))), .ref (x + (4 + 1 + 2 * to)), .ref (x + 3)]) C hl.1 lk_X7_129 (ctX8_factOf ) rfl rfl (Nat.le_of_ble_eq_true rfl) ⟨by decide, by decide, by decide, by decide⟩ dX7_applyRow_146 rfl (fun sz => ?_)
                refine zval (v' := .int (nI (cd y9 (nn (vl σ t9.2.1)) z9))) (congrArg Value.int (factOf_s hoc9)) ?_
                refine zqVI (As := [.ref (x + (4 + 1 + 2 * to)), .int (nI (cd y9 (nn (vl σ t9.2.1)) z9))]) (rest := []) C hl.1 lk_X7_103 (hX6_put hto7 hS12 hoc9) (rd_4 (by decide)) rfl rfl rfl (Nat.le_of_ble_eq_true rfl) ⟨by decide, by decide, by decide, by decide⟩ dX7_applyRow_149 (fun w11 iv11 av11 sz h11 => ?_)
                refine zeq (M' := (cm aC x iv11 av11 R)) rfl ?_
                refine zb (fun _ _ => lv_if_eq (tgt := 159) hx hb dX7_applyRow_152 (by decide)) (fun c_12 => ?_) (fun c_12 => ?_)
                · refine zz (fun _ _ => lv_iconst (v := 0) hx hb dX7_applyRow_159 (by decide)) ?_
                  exact z_zret C hr rfl hlk dX7_applyRow_160 (zpI_mk (a := iv11) (b := av11) (ar_no3 ha hnl9 ((h5.1.trans h8.1).trans h11.1) e9 ec9 (by have h9 := pt_nn h11 c_12; exact h9)))
                · refine zz (fun _ _ => lv_iconst (v := 1) hx hb dX7_applyRow_155 (by decide)) ?_
                  refine zz (fun _ _ => lv_goto (tgt := 160) hx hb dX7_applyRow_156 (by decide)) ?_
                  exact z_zret C hr rfl hlk dX7_applyRow_160 (zpI_mk (a := iv11) (b := av11) (by obtain ⟨S13, es9, hS13⟩ := pt_ok h11 c_12; exact ar_ok ha hnl9 ((h5.1.trans h8.1).trans h11.1) e9 ec9 es9 hS13 (fun k hk => (congrFun h11.2.1 k).trans (hB12 k hk)) hk12))
        · exact absurd c_4 (by decide)
      · refine zz (fun _ _ => lv_iconst (v := 1) hx hb dX7_applyRow_79 (by decide)) ?_
        exact z_zret C hr rfl hlk dX7_applyRow_80 (zpI_mk (a := iv) (b := av) (ar_skip hS hB hmk (lo_3 c_3)))
end
section
/-! Rows of a template for one solution, for all; a CHANGE in the cells. -/
def tfI (iv av : Nat → Nat → Int32) (S : St) (iv' av' : Nat → Nat → Int32) : Prop := FC iv av iv' av' ∧ SC iv' av' S
theorem tf_skip {iv av iv1 av1 : Nat → Nat → Int32} {S : St} {to j : Nat} {σ : Sg} {ts : List TR} {t : TR} (hj : ts[j]? = some t) (h : t.2.2.2 = true) (hI : tfI iv av ((ts.take j).foldl (takeRow to σ) S) iv1 av1) : tfI iv av ((ts.take (j + 1)).foldl (takeRow to σ) S) iv1 av1 := by
  rw [foldl_take hj, tk_skip (Or.inl h)]; exact hI
theorem tf_next {iv av iv1 av1 iv2 av2 : Nat → Nat → Int32} {S : St} {to j : Nat} {σ : Sg} {ts : List TR} {t : TR} (hj : ts[j]? = some t) (hI : tfI iv av ((ts.take j).foldl (takeRow to σ) S) iv1 av1) (h : FC iv1 av1 iv2 av2 ∧ SC iv2 av2 (takeRow to σ ((ts.take j).foldl (takeRow to σ) S) t)) : tfI iv av ((ts.take (j + 1)).foldl (takeRow to σ) S) iv2 av2 := by
  rw [foldl_take hj]; exact ⟨hI.1.trans h.1, h.2⟩
/-- adding for one solution -/
def afI (iv av : Nat → Nat → Int32) (to : Nat) (σ : Sg) (l : List TR) (S : St) (res : Int32) (iv' av' : Nat → Nat → Int32) : Prop := FC iv av iv' av' ∧ ((res = 0 ∧ addRows to σ l S (fun _ => -1) = none) ∨ ∃ S' m', res = 1 ∧ addRows to σ l S (fun _ => -1) = some (S', m') ∧ SC iv' av' S' ∧ BL av' m' ∧ okm m')
theorem af_b {iv av iv' av' : Nat → Nat → Int32} {to : Nat} {σ : Sg} {l : List TR} {S : St} {res : Int32} (h : afI iv av to σ l S res iv' av') : res = 0 ∨ res = 1 := by
  rcases h.2 with q | ⟨_, _, q, _⟩
  · exact Or.inl q.1
  · exact Or.inr q
theorem af_in {iv av iv' av' : Nat → Nat → Int32} {to : Nat} {σ : Sg} {l : List TR} {S : St} {res : Int32} (h : afI iv av to σ l S res iv' av') (hz : ¬ res = 0) : ∃ S' m', addRows to σ l S (fun _ => -1) = some (S', m') ∧ SC iv' av' S' ∧ BL av' m' ∧ okm m' := by
  rcases h.2 with q | ⟨S', m', _, q⟩
  · exact absurd q.1 hz
  · exact ⟨S', m', q⟩
theorem af_skip {iv av iv1 av1 : Nat → Nat → Int32} {S S' : St} {m' : Sg} {to j : Nat} {σ : Sg} {ts : List TR} {t : TR} (hj : ts[j]? = some t) (h : t.2.2.2 = false) (hf : FC iv av iv1 av1) (e : addRows to σ (ts.take j) S (fun _ => -1) = some (S', m')) (hS : SC iv1 av1 S') (hB : BL av1 m') (hk : okm m') : afI iv av to σ (ts.take (j + 1)) S 1 iv1 av1 := by
  refine ⟨hf, Or.inr ⟨S', m', rfl, ?_, hS, hB, hk⟩⟩
  rw [addRows_step hj, e]
  show addRow to σ S' m' t = _
  unfold addRow
  rw [if_pos (Or.inl h)]
theorem af_next {iv av iv1 av1 iv2 av2 : Nat → Nat → Int32} {S S' : St} {m' : Sg} {to j : Nat} {σ : Sg} {ts : List TR} {t : TR} {w : Int32} (hj : ts[j]? = some t) (hf : FC iv av iv1 av1) (e : addRows to σ (ts.take j) S (fun _ => -1) = some (S', m')) (h : arP iv1 av1 to σ S' m' t w iv2 av2) : (w = 0 → afI iv av to σ (ts.take (j + 1)) S 0 iv2 av2) ∧ (¬ w = 0 → afI iv av to σ (ts.take (j + 1)) S 1 iv2 av2) := by
  have e2 : addRows to σ (ts.take (j + 1)) S (fun _ => -1) = addRow to σ S' m' t := by rw [addRows_step hj, e]
  refine ⟨fun q => ⟨hf.trans h.1, Or.inl ⟨rfl, ?_⟩⟩, fun q => ⟨hf.trans h.1, Or.inr ?_⟩⟩
  · rcases h.2 with r | ⟨_, _, r, _⟩
    · rw [e2]; exact r.2
    · rw [q] at r; exact absurd r (by decide)
  · rcases h.2 with r | ⟨S2, m2, _, r, r2⟩
    · exact absurd r.1 q
    · exact ⟨S2, m2, rfl, by rw [e2]; exact r, r2⟩
def afP (iv av : Nat → Nat → Int32) (to : Nat) (σ : Sg) (ts : List TR) (S : St) (w : Int32) (iv' av' : Nat → Nat → Int32) : Prop := FC iv av iv' av' ∧ ((w = 0 ∧ addSol to ts S σ = none) ∨ ∃ S', w = 1 ∧ addSol to ts S σ = some S' ∧ SC iv' av' S')
theorem af_out {iv av iv' av' : Nat → Nat → Int32} {to j : Nat} {σ : Sg} {ts : List TR} {S : St} {res : Int32} (h : afI iv av to σ (ts.take j) S res iv' av') (hz : res = 0) : afP iv av to σ ts S res iv' av' := by
  refine ⟨h.1, Or.inl ⟨hz, ?_⟩⟩
  rcases h.2 with q | ⟨_, _, q, _⟩
  · unfold addSol; rw [addRows_none q.2]; rfl
  · rw [hz] at q; exact absurd q (by decide)
theorem af_end {iv av iv' av' : Nat → Nat → Int32} {to : Nat} {σ : Sg} {ts : List TR} {S : St} {res : Int32} (h : afI iv av to σ (ts.take ts.length) S res iv' av') : afP iv av to σ ts S res iv' av' := by
  rw [List.take_length] at h
  refine ⟨h.1, ?_⟩
  rcases h.2 with q | ⟨S', m', q, e, hS, _⟩
  · exact Or.inl ⟨q.1, by unfold addSol; rw [q.2]; rfl⟩
  · exact Or.inr ⟨S', q, by unfold addSol; rw [e]; rfl, hS⟩
theorem fl_FC {iv av iv1 av1 : Nat → Nat → Int32} {a : Int32} (h : flP 28 a 4 iv av iv1 av1) : FC iv av iv1 av1 := by
  obtain ⟨rfl, h2, _⟩ := h
  exact ⟨fun _ _ _ => rfl, fun k hk => h2 k (by omega)⟩
theorem fl_SC {iv av iv1 av1 : Nat → Nat → Int32} {a : Int32} {S : St} (h : flP 28 a 4 iv av iv1 av1) (hS : SC iv av S) : SC iv1 av1 S := by
  obtain ⟨rfl, h2, _⟩ := h
  exact ⟨hS.1, fun g hg => (hS.2.1 g hg).kept rfl rfl (h2 _ (by omega)), hS.2.2⟩
/-- all solutions -/
def adI2 (iv av : Nat → Nat → Int32) (to : Nat) (ts : List TR) (l : List Sg) (S : St) (iv' av' : Nat → Nat → Int32) : Prop := FC iv av iv' av' ∧ ∃ S', addSols to ts l S = some S' ∧ SC iv' av' S'
theorem ad2_next {iv av iv1 av1 iv2 av2 : Nat → Nat → Int32} {to j : Nat} {ts : List TR} {ss : List Sg} {σ : Sg} {S S' : St} {w : Int32} (hj : ss[j]? = some σ) (hf : FC iv av iv1 av1) (e : addSols to ts (ss.take j) S = some S') (h : afP iv1 av1 to σ ts S' w iv2 av2) (hw : ¬ w = 0) : adI2 iv av to ts (ss.take (j + 1)) S iv2 av2 := by
  refine ⟨hf.trans h.1, ?_⟩
  rcases h.2 with q | ⟨S2, _, q, hR⟩
  · exact absurd q.1 hw
  · exact ⟨S2, by rw [addSols_step hj, e]; exact q, hR⟩
theorem ad2_no {iv1 av1 iv2 av2 : Nat → Nat → Int32} {to j : Nat} {ts : List TR} {ss : List Sg} {σ : Sg} {S S' : St} {w : Int32} (hj : ss[j]? = some σ) (e : addSols to ts (ss.take j) S = some S') (h : afP iv1 av1 to σ ts S' w iv2 av2) (hw : w = 0) : addSols to ts ss S = none := by
  refine addSols_none (j := j + 1) ?_
  rw [addSols_step hj, e]
  rcases h.2 with q | ⟨S2, q, _⟩
  · exact q.2
  · rw [hw] at q; exact absurd q (by decide)
/-- behind the search: the work counted, what was found told -/
def rwF (iv av iv' av' : Nat → Nat → Int32) (fs : List Nat) (ps : List Rw) : Prop := FK iv av iv' av' ∧ (∀ k f, (2 < k ∧ k < 19) → iv' k f = iv k f) ∧ (∀ k, k < 22 ∨ 27 < k → av' k = av k) ∧ iv' 2 4 = iv 2 4 + nI (wk fs ps (fun _ => -1)) ∧ SE iv' av' (sols fs ps (fun _ => -1)) (wk fs ps (fun _ => -1))
theorem rw_SC {iv av iv' av' : Nat → Nat → Int32} {fs : List Nat} {ps : List Rw} {S : St} (h : rwF iv av iv' av' fs ps) (hS : SC iv av S) : SC iv' av' S :=
  ⟨hS.1, fun g hg => (hS.2.1 g hg).kept (h.2.1 _ _ (by omega)) (h.2.1 _ _ (by omega)) (h.2.2.1 _ (by omega)), by rw [h.2.1 3 1 (by omega)]; exact hS.2.2⟩
theorem fi_ok {iv av iv1 av1 : Nat → Nat → Int32} {fs : List Nat} {ps : List Rw} {res : Int32} (h : fiP iv av fs ps res iv1 av1) (hz : ¬ res = 0) : SE iv1 av1 (sols fs ps (fun _ => -1)) (wk fs ps (fun _ => -1)) := by
  rcases h.2.2 with q | q
  · exact q.2
  · exact absurd q.1 hz
theorem fi_no {iv av iv1 av1 : Nat → Nat → Int32} {fs : List Nat} {ps : List Rw} {res : Int32} (h : fiP iv av fs ps res iv1 av1) (hz : res = 0) : ¬ lim (sols fs ps (fun _ => -1)).length (wk fs ps (fun _ => -1)) := by
  rcases h.2.2 with q | q
  · rw [hz] at q; exact absurd q.1 (by decide)
  · exact q.2
theorem SE_u {iv av : Nat → Nat → Int32} {acc : List Sg} {w k f : Nat} {z : Int32} (h : SE iv av acc w) (hk : k ≠ 20) : SE (u2 iv k f z) av acc w := ⟨by rw [u2_k _ _ _ _ (Ne.symm hk)]; exact h.1, h.2.1, by rw [u2_k _ _ _ _ (Ne.symm hk)]; exact h.2.2.1, h.2.2.2⟩
theorem rw_a {iv av iv1 av1 : Nat → Nat → Int32} {fs : List Nat} {ps : List Rw} {res : Int32} (h : fiP iv av fs ps res iv1 av1) (hz : ¬ res = 0) {z : Int32} (hw : z = iv 2 4 + nI (wk fs ps (fun _ => -1))) : rwF iv av (u2 iv1 2 4 z) av1 fs ps := by
  refine ⟨⟨fun k f a b => by rw [u2_k _ _ _ _ (by omega)]; exact h.1 k f (by omega), fun k a => h.2.1 k (by omega)⟩, fun k f a => by rw [u2_k _ _ _ _ (by omega)]; exact h.1 k f (by omega), h.2.1, by rw [u2_s]; exact hw, SE_u (fi_ok h hz) (by decide)⟩
theorem rw_b {iv av iv1 av1 : Nat → Nat → Int32} {fs : List Nat} {ps : List Rw} {i : Nat} {z : Int32} (h : rwF iv av iv1 av1 fs ps) : rwF iv av (u2 iv1 (61 + 6 * i) 7 z) av1 fs ps := by
  refine ⟨⟨fun k f a b => ?_, h.1.2⟩, fun k f a => by rw [u2_k _ _ _ _ (by omega)]; exact h.2.1 k f a, h.2.2.1, by rw [u2_k _ _ _ _ (by omega)]; exact h.2.2.2.1, SE_u h.2.2.2.2 (by omega)⟩
  by_cases q : k = 61 + 6 * i
  · subst q
    rw [u2_f _ _ _ (fun r => b ⟨by omega, r⟩)]
    exact h.1.1 _ f a b
  · rw [u2_k _ _ _ _ q]; exact h.1.1 k f a b
theorem fi_FK {iv av iv1 av1 : Nat → Nat → Int32} {fs : List Nat} {ps : List Rw} {res z : Int32} (h : fiP iv av fs ps res iv1 av1) : FK iv av (u2 iv1 2 4 z) av1 := ⟨fun k f a b => by rw [u2_k _ _ _ _ (by omega)]; exact h.1 k f (by omega), fun k a => h.2.1 k (by omega)⟩
theorem FK_7 {iv av iv1 av1 : Nat → Nat → Int32} {i : Nat} {z : Int32} (h : FK iv av iv1 av1) : FK iv av (u2 iv1 (61 + 6 * i) 7 z) av1 := by
  refine ⟨fun k f a b => ?_, h.2⟩
  by_cases q : k = 61 + 6 * i
  · subst q
    rw [u2_f _ _ _ (fun r => b ⟨by omega, r⟩)]
    exact h.1 _ f a b
  · rw [u2_k _ _ _ _ q]; exact h.1 k f a b
theorem rwc_5 {iv av iv' av' : Nat → Nat → Int32} {S : St} {fr to : Nat} {ts : List TR} {ps : List Rw} (h : ¬ lim (sols (cds (S.1 fr)) ps (fun _ => -1)).length (wk (cds (S.1 fr)) ps (fun _ => -1))) (hf : FK iv av iv' av') : AC iv av (aRew fr to ts ps S) 5 iv' av' := by
  unfold aRew
  dsimp only
  rw [if_neg (show ¬ ((sols (cds (S.1 fr)) ps (fun _ => -1)).length ≤ 100 ∧ wk (cds (S.1 fr)) ps (fun _ => -1) ≤ 5000) from h)]
  exact AC_no rfl (by decide) hf
theorem rwc_4 {iv av iv1 av1 iv' av' : Nat → Nat → Int32} {S : St} {fr to : Nat} {ts : List TR} {ps : List Rw} (h : rwF iv av iv1 av1 (cds (S.1 fr)) ps) (hf : FC iv1 av1 iv' av') (e : addSols to ts (sols (cds (S.1 fr)) ps (fun _ => -1)) ((sols (cds (S.1 fr)) ps (fun _ => -1)).foldl (takeSol to ts) S) = none) : AC iv av (aRew fr to ts ps S) 4 iv' av' := by
  unfold aRew
  dsimp only
  rw [if_pos ⟨h.2.2.2.2.2.1, h.2.2.2.2.2.2.2.1⟩, e]
  exact AC_no rfl (by decide) (h.1.trans hf.K)
theorem rwc_0 {iv av iv1 av1 iv' av' : Nat → Nat → Int32} {S : St} {fr to : Nat} {ts : List TR} {ps : List Rw} (h : rwF iv av iv1 av1 (cds (S.1 fr)) ps) (hI : adI2 iv1 av1 to ts ((sols (cds (S.1 fr)) ps (fun _ => -1)).take (sols (cds (S.1 fr)) ps (fun _ => -1)).length) ((sols (cds (S.1 fr)) ps (fun _ => -1)).foldl (takeSol to ts) S) iv' av') : AC iv av (aRew fr to ts ps S) 0 iv' av' := by
  rw [List.take_length] at hI
  obtain ⟨hf, S', e, hS⟩ := hI
  unfold aRew
  dsimp only
  rw [if_pos ⟨h.2.2.2.2.2.1, h.2.2.2.2.2.2.2.1⟩, e]
  exact ⟨rfl, h.1.trans hf.K, fun _ => ⟨hS, by rw [hf.1 2 4 (by omega)]; exact h.2.2.2.1⟩⟩
end
section
set_option maxHeartbeats 2000000 in
set_option maxRecDepth 10000 in
theorem hX7_takeAwayFor {l : Launch} {D : va_G} {aC : Nat → ClassId} {b0 sz : Nat} {x : Nat} {iv av : Nat → Nat → Int32} {R : ZM} {i u9 to : Nat} {S : St} {σ : Sg} {ts : List TR} (hi : i < 12) (hto7 : to < 7) (hto : iv (61 + 6 * i) 5 = nI to) (hT : TRc iv av i ts) (hu : u9 < 100) (hV : SV av u9 σ) (hσ : okG σ) (hS : SC iv av S) : Ct l D aC b0 yX7_takeAwayFor cX7_takeAwayFor 4 none 3 0 0 [.ref (x + 2), .ref (x + (61 + 6 * i)), .int (nI u9)] (cm aC x iv av R) sz (zpN (fun iv av => cm aC x iv av R) (tfI iv av (takeSol to ts S σ))) := by
  refine Ct.of (by decide) (Nat.le_of_ble_eq_true rfl) ?_
  intro p e s m below meth c ls C hr hlk hnm hl
  have hl : lv_has ls 4 [(0, .ref (x + 2)), (1, .ref (x + (61 + 6 * i))), (2, .int (nI u9))] := hl
  obtain ⟨hx, hb, -, -, -⟩ := id C
  have hlen := hT.2.1
  refine zz (fun _ _ => lv_iconst (v := 0) hx hb dX7_takeAwayFor_0 (by decide)) ?_
  refine zs (fun _ _ => lv_istore_n (lv' := [(3, .int (0)), (0, .ref (x + 2)), (1, .ref (x + (61 + 6 * i))), (2, .int (nI u9))]) hx hb dX7_takeAwayFor_1 rfl hl (by decide) rfl) (fun ls hl => ?_)
  have hl0 := lv_sub hl [1, 2, 3, 0] rfl
  refine z_loop (γ := (Nat → Nat → Int32) × (Nat → Nat → Int32)) (G := fun a => cm aC x a.1 a.2 R) (I := fun j a => tfI iv av ((ts.take j).foldl (takeRow to σ) S) a.1 a.2) (lv := fun j a => [(0, .ref (x + 2)), (1, .ref (x + (61 + 6 * i))), (2, .int (nI u9)), (3, .int (nI (j)))]) (ts.length) ?_ ?_ (iv, av) _ _ ⟨FC.refl, by rw [List.take_zero]; exact hS⟩ hl0
  · intro j1 a1 sz ls hj1 hI1 hl ih1
    obtain ⟨iv1, av1⟩ := a1
    dsimp only at hI1 hl ih1
    refine zeq (M' := (cm aC x iv1 av1 R)) rfl ?_
    have hT1 : TRc iv1 av1 i ts := hT.kept hI1.1.K
    obtain ⟨t1, et1⟩ : ∃ t, ts[j1]? = some t := ⟨_, List.getElem?_eq_getElem hj1⟩
    have hrow1 := hT1.2.2.2 j1 t1 et1
    refine zz (fun _ _ => lv_iload_n hx hb dX7_takeAwayFor_2 rfl (lv_at hl 3 rfl)) ?_
    refine zz (fun _ _ => lv_aload_n hx hb dX7_takeAwayFor_3 rfl (lv_at hl 1 rfl)) ?_
    refine z_get (v := .ref (x + ((61 + 6 * i) + 1))) C fd_X7_153 (rd_18 (ck_s hi)) rfl dX7_takeAwayFor_4 ?_
    refine z_get (v := .int (iv1 ((61 + 6 * i) + 1) 2)) C fd_X7_114 (rd_14 (nb_18_1 (ck_s hi))) rfl dX7_takeAwayFor_7 ?_
    refine zval (v' := .int (nI ts.length)) (congrArg Value.int hT1.1) ?_
    refine zb (fun _ _ => lv_icmp_ge (tgt := 36) hx hb dX7_takeAwayFor_10 (by decide)) (fun c_2 => ?_) (fun c_2 => ?_)
    · exact absurd c_2 (nI_ge (by omega) (by omega))
    · refine zz (fun _ _ => lv_aload_n hx hb dX7_takeAwayFor_13 rfl (lv_at hl 1 rfl)) ?_
      refine z_get (v := .ref (x + ((61 + 6 * i) + 3))) C fd_X7_156 (rd_18 (ck_s hi)) rfl dX7_takeAwayFor_14 ?_
      refine zz (fun _ _ => lv_iload_n hx hb dX7_takeAwayFor_17 rfl (lv_at hl 3 rfl)) ?_
      refine z_zald (f := av1 ((61 + 6 * i) + 3)) C (rd_20 (nb_18_3 (ck_s hi))) (by first | assumption | (apply vp_in_nI <;> omega)) dX7_takeAwayFor_18 ?_
      refine zval (v' := .int (tI t1.2.2.2)) (congrArg Value.int (rdI hrow1.2.2.2 (by omega))) ?_
      refine zbn (fun _ _ => lv_if_ne (tgt := 30) hx hb dX7_takeAwayFor_19 (by decide)) (fun c_3 => ?_) (fun c_3 => ?_)
      · refine zs (fun _ _ => lv_iinc (v := nI (j1) + 1) (lv' := [(3, .int (nI (j1) + 1)), (0, .ref (x + 2)), (1, .ref (x + (61 + 6 * i))), (2, .int (nI u9))]) hx hb dX7_takeAwayFor_30 hl (k := 3) rfl rfl (by decide) rfl) (fun ls hl => ?_)
        refine zz (fun _ _ => lv_goto (tgt := 2) hx hb dX7_takeAwayFor_33 (by decide)) ?_
        have hl := lv_sub hl [1, 2, 3, 0] rfl
        try simp only [nI_1] at hl
        exact ih1 (iv1, av1) _ _ (tf_skip et1 (tI_1.mp c_3) hI1) hl
      · refine zz (fun _ _ => lv_aload_n hx hb dX7_takeAwayFor_22 rfl (lv_at hl 0 rfl)) ?_
        refine zz (fun _ _ => lv_aload_n hx hb dX7_takeAwayFor_23 rfl (lv_at hl 1 rfl)) ?_
        refine zz (fun _ _ => lv_iload_n hx hb dX7_takeAwayFor_24 rfl (lv_at hl 3 rfl)) ?_
        refine zz (fun _ _ => lv_iload_n hx hb dX7_takeAwayFor_25 rfl (lv_at hl 2 rfl)) ?_
        refine zqVI (As := [.ref (x + (61 + 6 * i)), .int (nI (j1)), .int (nI u9)]) (rest := []) C hl.1 lk_X7_160 (hX7_applyRow_t hi hto7 ((hI1.1.1 (61 + 6 * i) 5 (by omega)).trans hto) hT1 et1 hu (hV.kept hI1.1) hσ hI1.2 (tI_0.mp c_3)) (rd_3 (by decide)) rfl rfl rfl (Nat.le_of_ble_eq_true rfl) ⟨by decide, by decide, by decide, by decide⟩ dX7_takeAwayFor_26 (fun w4 iv4 av4 sz h4 => ?_)
        refine zeq (M' := (cm aC x iv4 av4 R)) rfl ?_
        refine zz (fun _ _ => lv_pop hx hb dX7_takeAwayFor_29 rfl) ?_
        refine zs (fun _ _ => lv_iinc (v := nI (j1) + 1) (lv' := [(3, .int (nI (j1) + 1)), (0, .ref (x + 2)), (1, .ref (x + (61 + 6 * i))), (2, .int (nI u9))]) hx hb dX7_takeAwayFor_30 hl (k := 3) rfl rfl (by decide) rfl) (fun ls hl => ?_)
        refine zz (fun _ _ => lv_goto (tgt := 2) hx hb dX7_takeAwayFor_33 (by decide)) ?_
        have hl := lv_sub hl [1, 2, 3, 0] rfl
        try simp only [nI_1] at hl
        exact ih1 (iv4, av4) _ _ (tf_next et1 hI1 h4) hl
  · intro a1 sz ls hI1 hl
    obtain ⟨iv1, av1⟩ := a1
    dsimp only at hI1 hl
    refine zeq (M' := (cm aC x iv1 av1 R)) rfl ?_
    have hT1 : TRc iv1 av1 i ts := hT.kept hI1.1.K
    refine zz (fun _ _ => lv_iload_n hx hb dX7_takeAwayFor_2 rfl (lv_at hl 3 rfl)) ?_
    refine zz (fun _ _ => lv_aload_n hx hb dX7_takeAwayFor_3 rfl (lv_at hl 1 rfl)) ?_
    refine z_get (v := .ref (x + ((61 + 6 * i) + 1))) C fd_X7_153 (rd_18 (ck_s hi)) rfl dX7_takeAwayFor_4 ?_
    refine z_get (v := .int (iv1 ((61 + 6 * i) + 1) 2)) C fd_X7_114 (rd_14 (nb_18_1 (ck_s hi))) rfl dX7_takeAwayFor_7 ?_
    refine zval (v' := .int (nI ts.length)) (congrArg Value.int hT1.1) ?_
    refine zb (fun _ _ => lv_icmp_ge (tgt := 36) hx hb dX7_takeAwayFor_10 (by decide)) (fun c_5 => ?_) (fun c_5 => ?_)
    · exact z_vret C hr hlk dX7_takeAwayFor_36 (zpN_mk (a := iv1) (b := av1) (by have h9 := hI1; rw [List.take_length] at h9; exact h9))
    · exact absurd (nI_le (Nat.le_refl _) (by omega)) c_5
set_option maxHeartbeats 2000000 in
set_option maxRecDepth 10000 in
theorem hX7_addFor {l : Launch} {D : va_G} {aC : Nat → ClassId} {b0 sz : Nat} {x : Nat} {iv av : Nat → Nat → Int32} {R : ZM} {i u9 to : Nat} {S : St} {σ : Sg} {ts : List TR} (hi : i < 12) (hto7 : to < 7) (hto : iv (61 + 6 * i) 5 = nI to) (hT : TRc iv av i ts) (hu : u9 < 100) (hV : SV av u9 σ) (hσ : okG σ) (hS : SC iv av S) : Ct l D aC b0 yX7_addFor cX7_addFor 5 (some .boolean) 4 0 0 [.ref (x + 2), .ref (x + (61 + 6 * i)), .int (nI u9)] (cm aC x iv av R) sz (zpI (fun iv av => cm aC x iv av R) (afP iv av to σ ts S)) := by
  refine Ct.of (by decide) (Nat.le_of_ble_eq_true rfl) ?_
  intro p e s m below meth c ls C hr hlk hnm hl
  have hl : lv_has ls 5 [(0, .ref (x + 2)), (1, .ref (x + (61 + 6 * i))), (2, .int (nI u9))] := hl
  obtain ⟨hx, hb, -, -, -⟩ := id C
  have hlen := hT.2.1
  refine zz (fun _ _ => lv_aload_n hx hb dX7_addFor_0 rfl (lv_at hl 0 rfl)) ?_
  refine z_get (v := .ref (x + 28)) C fd_X7_31 (rd_3 (by decide)) rfl dX7_addFor_1 ?_
  refine zz (fun _ _ => lv_iconst (v := (-1)) hx hb dX7_addFor_4 (by decide)) ?_
  refine zqSN (As := [.ref (x + 28), .int ((-1))]) (rest := []) C hl.1 lk_X7_164 (hJ7_fill_53178 (by decide)) rfl rfl (Nat.le_of_ble_eq_true rfl) ⟨by decide, by decide, by decide, by decide⟩ dX7_addFor_5 (fun iv1 av1 sz h1 => ?_)
  refine zeq (M' := (cm aC x iv1 av1 R)) rfl ?_
  refine zz (fun _ _ => lv_iconst (v := 1) hx hb dX7_addFor_8 (by decide)) ?_
  refine zs (fun _ _ => lv_istore_n (lv' := [(3, .int (1)), (0, .ref (x + 2)), (1, .ref (x + (61 + 6 * i))), (2, .int (nI u9))]) hx hb dX7_addFor_9 rfl hl (by decide) rfl) (fun ls hl => ?_)
  refine zz (fun _ _ => lv_iconst (v := 0) hx hb dX7_addFor_10 (by decide)) ?_
  refine zs (fun _ _ => lv_istore (lv' := [(4, .int (0)), (3, .int (1)), (0, .ref (x + 2)), (1, .ref (x + (61 + 6 * i))), (2, .int (nI u9))]) hx hb dX7_addFor_11 hl (by decide) rfl) (fun ls hl => ?_)
  have hl0 := lv_sub hl [2, 3, 4, 1, 0] rfl
  refine z_loop (γ := (Nat → Nat → Int32) × (Nat → Nat → Int32) × Int32) (G := fun a => cm aC x a.1 a.2.1 R) (I := fun j a => afI iv av to σ (ts.take j) S a.2.2 a.1 a.2.1) (lv := fun j a => [(0, .ref (x + 2)), (1, .ref (x + (61 + 6 * i))), (2, .int (nI u9)), (3, .int (a.2.2)), (4, .int (nI (j)))]) (ts.length) ?_ ?_ (iv1, av1, 1) _ _ ⟨fl_FC h1, Or.inr ⟨S, (fun _ => -1), rfl, by rw [List.take_zero]; rfl, fl_SC h1 hS, h1.2.2, okm_0⟩⟩ hl0
  · intro j2 a2 sz ls hj2 hI2 hl ih2
    obtain ⟨iv2, av2, t2_3⟩ := a2
    dsimp only at hI2 hl ih2
    refine zeq (M' := (cm aC x iv2 av2 R)) rfl ?_
    have hT2 : TRc iv2 av2 i ts := hT.kept hI2.1.K
    obtain ⟨t2, et2⟩ : ∃ t, ts[j2]? = some t := ⟨_, List.getElem?_eq_getElem hj2⟩
    have hrow2 := hT2.2.2.2 j2 t2 et2
    refine zz (fun _ _ => lv_iload hx hb dX7_addFor_13 (lv_at hl 4 rfl)) ?_
    refine zz (fun _ _ => lv_aload_n hx hb dX7_addFor_15 rfl (lv_at hl 1 rfl)) ?_
    refine z_get (v := .ref (x + ((61 + 6 * i) + 1))) C fd_X7_153 (rd_18 (ck_s hi)) rfl dX7_addFor_16 ?_
    refine z_get (v := .int (iv2 ((61 + 6 * i) + 1) 2)) C fd_X7_114 (rd_14 (nb_18_1 (ck_s hi))) rfl dX7_addFor_19 ?_
    refine zval (v' := .int (nI ts.length)) (congrArg Value.int hT2.1) ?_
    refine zb (fun _ _ => lv_icmp_ge (tgt := 62) hx hb dX7_addFor_22 (by decide)) (fun c_3 => ?_) (fun c_3 => ?_)
    · exact absurd c_3 (nI_ge (by omega) (by omega))
    · refine zz (fun _ _ => lv_iload_n hx hb dX7_addFor_25 rfl (lv_at hl 3 rfl)) ?_
      refine zb (fun _ _ => lv_if_eq (tgt := 62) hx hb dX7_addFor_26 (by decide)) (fun c_4 => ?_) (fun c_4 => ?_)
      · refine zz (fun _ _ => lv_iload_n hx hb dX7_addFor_62 rfl (lv_at hl 3 rfl)) ?_
        exact z_zret C hr (bz (af_b hI2)) hlk dX7_addFor_63 (zpI_mk (a := iv2) (b := av2) (af_out hI2 c_4))
      · obtain ⟨S8, m8, e8, hS8, hB8, hk8⟩ := af_in hI2 c_4
        refine zz (fun _ _ => lv_aload_n hx hb dX7_addFor_29 rfl (lv_at hl 1 rfl)) ?_
        refine z_get (v := .ref (x + ((61 + 6 * i) + 3))) C fd_X7_156 (rd_18 (ck_s hi)) rfl dX7_addFor_30 ?_
        refine zz (fun _ _ => lv_iload hx hb dX7_addFor_33 (lv_at hl 4 rfl)) ?_
        refine z_zald (f := av2 ((61 + 6 * i) + 3)) C (rd_20 (nb_18_3 (ck_s hi))) (by first | assumption | (apply vp_in_nI <;> omega)) dX7_addFor_35 ?_
        refine zval (v' := .int (tI t2.2.2.2)) (congrArg Value.int (rdI hrow2.2.2.2 (by omega))) ?_
        refine zb (fun _ _ => lv_if_eq (tgt := 50) hx hb dX7_addFor_36 (by decide)) (fun c_5 => ?_) (fun c_5 => ?_)
        · refine zz (fun _ _ => lv_iconst (v := 1) hx hb dX7_addFor_50 (by decide)) ?_
          refine zz (fun _ _ => lv_goto (tgt := 55) hx hb dX7_addFor_51 (by decide)) ?_
          refine zs (fun _ _ => lv_istore_n (lv' := [(3, .int (1)), (0, .ref (x + 2)), (1, .ref (x + (61 + 6 * i))), (2, .int (nI u9)), (4, .int (nI (j2)))]) hx hb dX7_addFor_55 rfl hl (by decide) rfl) (fun ls hl => ?_)
          refine zs (fun _ _ => lv_iinc (v := nI (j2) + 1) (lv' := [(4, .int (nI (j2) + 1)), (3, .int (1)), (0, .ref (x + 2)), (1, .ref (x + (61 + 6 * i))), (2, .int (nI u9))]) hx hb dX7_addFor_56 hl (k := 4) rfl rfl (by decide) rfl) (fun ls hl => ?_)
          refine zz (fun _ _ => lv_goto (tgt := 13) hx hb dX7_addFor_59 (by decide)) ?_
          have hl := lv_sub hl [2, 3, 4, 1, 0] rfl
          try simp only [nI_1] at hl
          exact ih2 (iv2, av2, 1) _ _ (af_skip et2 (tI_0.mp c_5) hI2.1 e8 hS8 hB8 hk8) hl
        · refine zz (fun _ _ => lv_aload_n hx hb dX7_addFor_39 rfl (lv_at hl 0 rfl)) ?_
          refine zz (fun _ _ => lv_aload_n hx hb dX7_addFor_40 rfl (lv_at hl 1 rfl)) ?_
          refine zz (fun _ _ => lv_iload hx hb dX7_addFor_41 (lv_at hl 4 rfl)) ?_
          refine zz (fun _ _ => lv_iload_n hx hb dX7_addFor_43 rfl (lv_at hl 2 rfl)) ?_
          refine zqVI (As := [.ref (x + (61 + 6 * i)), .int (nI (j2)), .int (nI u9)]) (rest := []) C hl.1 lk_X7_160 (hX7_applyRow_a hi hto7 ((hI2.1.1 (61 + 6 * i) 5 (by omega)).trans hto) hT2 et2 hu (hV.kept hI2.1) hσ hS8 hB8 hk8 (tI_1.mp c_5)) (rd_3 (by decide)) rfl rfl rfl (Nat.le_of_ble_eq_true rfl) ⟨by decide, by decide, by decide, by decide⟩ dX7_addFor_44 (fun w6 iv6 av6 sz h6 => ?_)
          refine zeq (M' := (cm aC x iv6 av6 R)) rfl ?_
          refine zb (fun _ _ => lv_if_eq (tgt := 54) hx hb dX7_addFor_47 (by decide)) (fun c_7 => ?_) (fun c_7 => ?_)
          · refine zz (fun _ _ => lv_iconst (v := 0) hx hb dX7_addFor_54 (by decide)) ?_
            refine zs (fun _ _ => lv_istore_n (lv' := [(3, .int (0)), (0, .ref (x + 2)), (1, .ref (x + (61 + 6 * i))), (2, .int (nI u9)), (4, .int (nI (j2)))]) hx hb dX7_addFor_55 rfl hl (by decide) rfl) (fun ls hl => ?_)
            refine zs (fun _ _ => lv_iinc (v := nI (j2) + 1) (lv' := [(4, .int (nI (j2) + 1)), (3, .int (0)), (0, .ref (x + 2)), (1, .ref (x + (61 + 6 * i))), (2, .int (nI u9))]) hx hb dX7_addFor_56 hl (k := 4) rfl rfl (by decide) rfl) (fun ls hl => ?_)
            refine zz (fun _ _ => lv_goto (tgt := 13) hx hb dX7_addFor_59 (by decide)) ?_
            have hl := lv_sub hl [2, 3, 4, 1, 0] rfl
            try simp only [nI_1] at hl
            exact ih2 (iv6, av6, 0) _ _ ((af_next et2 hI2.1 e8 h6).1 c_7) hl
          · refine zz (fun _ _ => lv_iconst (v := 1) hx hb dX7_addFor_50 (by decide)) ?_
            refine zz (fun _ _ => lv_goto (tgt := 55) hx hb dX7_addFor_51 (by decide)) ?_
            refine zs (fun _ _ => lv_istore_n (lv' := [(3, .int (1)), (0, .ref (x + 2)), (1, .ref (x + (61 + 6 * i))), (2, .int (nI u9)), (4, .int (nI (j2)))]) hx hb dX7_addFor_55 rfl hl (by decide) rfl) (fun ls hl => ?_)
            refine zs (fun _ _ => lv_iinc (v := nI (j2) + 1) (lv' := [(4, .int (nI (j2) + 1)), (3, .int (1)), (0, .ref (x + 2)), (1, .ref (x + (61 + 6 * i))), (2, .int (nI u9))]) hx hb dX7_addFor_56 hl (k := 4) rfl rfl (by decide) rfl) (fun ls hl => ?_)
            refine zz (fun _ _ => lv_goto (tgt := 13) hx hb dX7_addFor_59 (by decide)) ?_
            have hl := lv_sub hl [2, 3, 4, 1, 0] rfl
            try simp only [nI_1] at hl
            exact ih2 (iv6, av6, 1) _ _ ((af_next et2 hI2.1 e8 h6).2 c_7) hl
  · intro a2 sz ls hI2 hl
    obtain ⟨iv2, av2, t2_3⟩ := a2
    dsimp only at hI2 hl
    refine zeq (M' := (cm aC x iv2 av2 R)) rfl ?_
    have hT2 : TRc iv2 av2 i ts := hT.kept hI2.1.K
    refine zz (fun _ _ => lv_iload hx hb dX7_addFor_13 (lv_at hl 4 rfl)) ?_
    refine zz (fun _ _ => lv_aload_n hx hb dX7_addFor_15 rfl (lv_at hl 1 rfl)) ?_
    refine z_get (v := .ref (x + ((61 + 6 * i) + 1))) C fd_X7_153 (rd_18 (ck_s hi)) rfl dX7_addFor_16 ?_
    refine z_get (v := .int (iv2 ((61 + 6 * i) + 1) 2)) C fd_X7_114 (rd_14 (nb_18_1 (ck_s hi))) rfl dX7_addFor_19 ?_
    refine zval (v' := .int (nI ts.length)) (congrArg Value.int hT2.1) ?_
    refine zb (fun _ _ => lv_icmp_ge (tgt := 62) hx hb dX7_addFor_22 (by decide)) (fun c_8 => ?_) (fun c_8 => ?_)
    · refine zz (fun _ _ => lv_iload_n hx hb dX7_addFor_62 rfl (lv_at hl 3 rfl)) ?_
      exact z_zret C hr (bz (af_b hI2)) hlk dX7_addFor_63 (zpI_mk (a := iv2) (b := av2) (af_end hI2))
    · exact absurd (nI_le (Nat.le_refl _) (by omega)) c_8
set_option maxHeartbeats 2000000 in
set_option maxRecDepth 10000 in
theorem hX7_rewrite {l : Launch} {D : va_G} {aC : Nat → ClassId} {b0 sz : Nat} {x : Nat} {iv av : Nat → Nat → Int32} {R : ZM} {i k fr to : Nat} {S : St} {ps : List Rw} {ts : List TR} (hi : i < 12) (hk9 : k ≤ 9) (hfr7 : fr < 7) (hto7 : to < 7) (hkd : iv (61 + 6 * i) 3 = nI k) (hfr : iv (61 + 6 * i) 4 = nI fr) (hto : iv (61 + 6 * i) 5 = nI to) (hP : PRc iv av i ps) (hT : TRc iv av i ts) (hS : SC iv av S) : Ct l D aC b0 yX7_rewrite cX7_rewrite 4 (some .int) 11 0 0 [.ref (x + 2), .ref (x + (61 + 6 * i))] (cm aC x iv av R) sz (zpI (fun iv av => cm aC x iv av R) (fun w' iv' av' => AC iv av (aRew fr to ts ps S) w' iv' av')) := by
  refine Ct.of (by decide) (Nat.le_of_ble_eq_true rfl) ?_
  intro p e s m below meth c ls C hr hlk hnm hl
  have hl : lv_has ls 4 [(0, .ref (x + 2)), (1, .ref (x + (61 + 6 * i)))] := hl
  obtain ⟨hx, hb, -, -, -⟩ := id C
  refine zz (fun _ _ => lv_aload_n hx hb dX7_rewrite_0 rfl (lv_at hl 0 rfl)) ?_
  refine z_get (v := .ref (x + 20)) C fd_X7_27 (rd_3 (by decide)) rfl dX7_rewrite_1 ?_
  refine zz (fun _ _ => lv_aload_n hx hb dX7_rewrite_4 rfl (lv_at hl 1 rfl)) ?_
  refine z_get (v := .ref (x + ((61 + 6 * i) + 4))) C fd_X7_133 (rd_18 (ck_s hi)) rfl dX7_rewrite_5 ?_
  refine zz (fun _ _ => lv_aload_n hx hb dX7_rewrite_8 rfl (lv_at hl 0 rfl)) ?_
  refine z_get (v := .ref (x + 3)) C fd_X7_12 (rd_3 (by decide)) rfl dX7_rewrite_9 ?_
  refine z_get (v := .ref (x + 4)) C fd_X7_68 (rd_4 (by decide)) rfl dX7_rewrite_12 ?_
  refine zz (fun _ _ => lv_aload_n hx hb dX7_rewrite_15 rfl (lv_at hl 1 rfl)) ?_
  refine z_get (v := .int (iv (61 + 6 * i) 4)) C fd_X7_85 (rd_18 (ck_s hi)) rfl dX7_rewrite_16 ?_
  refine zval (v' := .int (nI fr)) (congrArg Value.int hfr) ?_
  refine z_aald C 3 rfl (rd_5 (by decide)) (by first | assumption | (apply vp_in_nI <;> omega)) (v := .ref (x + (4 + 1 + 2 * fr))) (rf_if (f := fun q => x + (4 + 1 + 2 * q)) (n := 7) rfl hfr7 (by decide)) dX7_rewrite_19 ?_
  refine zqVI (As := [.ref (x + ((61 + 6 * i) + 4)), .ref (x + (4 + 1 + 2 * fr))]) (rest := []) C hl.1 lk_X7_136 (hX4_find hi hP hfr7 (hS.2.1 fr hfr7) (okP_g hS.1.1 fr) (SC_len hS hfr7)) (rd_9 (by decide)) rfl rfl rfl (Nat.le_of_ble_eq_true rfl) ⟨by decide, by decide, by decide, by decide⟩ dX7_rewrite_20 (fun w1 iv1 av1 sz h1 => ?_)
  refine zeq (M' := (cm aC x iv1 av1 R)) rfl ?_
  refine zs (fun _ _ => lv_istore_n (lv' := [(2, .int (w1)), (0, .ref (x + 2)), (1, .ref (x + (61 + 6 * i)))]) hx hb dX7_rewrite_23 rfl hl (by decide) rfl) (fun ls hl => ?_)
  refine zz (fun _ _ => lv_aload_n hx hb dX7_rewrite_24 rfl (lv_at hl 1 rfl)) ?_
  refine zz (fun _ _ => lv_dup hx hb dX7_rewrite_25 rfl) ?_
  refine z_get (v := .int (iv1 2 4)) C fd_X7_35 (rd_3 (by decide)) rfl dX7_rewrite_26 ?_
  refine zz (fun _ _ => lv_aload_n hx hb dX7_rewrite_29 rfl (lv_at hl 1 rfl)) ?_
  refine z_get (v := .ref (x + 20)) C fd_X7_27 (rd_3 (by decide)) rfl dX7_rewrite_30 ?_
  refine z_get (v := .int (iv1 20 3)) C fd_X7_140 (rd_9 (by decide)) rfl dX7_rewrite_33 ?_
  refine zz (fun _ _ => lv_iadd hx hb dX7_rewrite_36) ?_
  refine z_put C fp_X7_35 (fun h => by cases h) (rd_3 (by decide)) (Nat.le_of_ble_eq_true rfl) rfl rfl dX7_rewrite_37 ?_
  refine zeq (wr_3_4 (by decide)) ?_
  refine zz (fun _ _ => lv_aload_n hx hb dX7_rewrite_40 rfl (lv_at hl 2 rfl)) ?_
  refine z_get (v := .int (iv1 (61 + 6 * i) 3)) C fd_X7_40 (rd_18 (ck_s hi)) (by simp [u2]) dX7_rewrite_41 ?_
  refine zval (v' := .int (nI k)) (congrArg Value.int ((h1.1 (61 + 6 * i) 3 (by omega)).trans hkd)) ?_
  refine zz (fun _ _ => lv_iconst (v := 2) hx hb dX7_rewrite_44 (by decide)) ?_
  refine zval (v' := .int (nI 2)) (congrArg Value.int rfl) ?_
  refine zbn (fun _ _ => lv_icmp_ne (tgt := 59) hx hb dX7_rewrite_45 (by decide)) (fun c_2 => ?_) (fun c_2 => ?_)
  · refine zz (fun _ _ => lv_iload_n hx hb dX7_rewrite_59 rfl (lv_at hl 0 rfl)) ?_
    refine zbn (fun _ _ => lv_if_ne (tgt := 65) hx hb dX7_rewrite_60 (by decide)) (fun c_3 => ?_) (fun c_3 => ?_)
    · have hrw9 : rwF iv av (u2 iv1 2 4 ((iv1 2 4) + (iv1 20 3))) av1 (cds (S.1 fr)) ps := (rw_a h1 c_3 (by rw [h1.1 2 4 (by omega), (fi_ok h1 c_3).2.2.1]))
      have hS9 := rw_SC hrw9 hS
      have hl9 := hrw9.2.2.2.2.2.1
      have hT9 := hT.kept hrw9.1
      have hto9 := (hrw9.1.1 (61 + 6 * i) 5 (by omega) (by omega)).trans hto
      refine zz (fun _ _ => lv_iconst (v := 0) hx hb dX7_rewrite_65 (by decide)) ?_
      refine zs (fun _ _ => lv_istore_n (lv' := [(3, .int (0)), (2, .int (w1)), (0, .ref (x + 2)), (1, .ref (x + (61 + 6 * i)))]) hx hb dX7_rewrite_66 rfl hl (by decide) rfl) (fun ls hl => ?_)
      have hl0 := lv_sub hl [2, 3, 1, 0] rfl
      refine z_loop (γ := (Nat → Nat → Int32) × (Nat → Nat → Int32)) (G := fun a => cm aC x a.1 a.2 R) (I := fun j a => tfI (u2 iv1 2 4 ((iv1 2 4) + (iv1 20 3))) av1 (((sols (cds (S.1 fr)) ps (fun _ => -1)).take j).foldl (takeSol to ts) S) a.1 a.2) (lv := fun j a => [(0, .ref (x + 2)), (1, .ref (x + (61 + 6 * i))), (2, .int (w1)), (3, .int (nI (j)))]) ((sols (cds (S.1 fr)) ps (fun _ => -1)).length) ?_ ?_ ((u2 iv1 2 4 ((iv1 2 4) + (iv1 20 3))), av1) _ _ ⟨FC.refl, by rw [List.take_zero]; exact hS9⟩ hl0
      · intro j4 a4 sz ls hj4 hI4 hl ih4
        obtain ⟨iv4, av4⟩ := a4
        dsimp only at hI4 hl ih4
        refine zeq (M' := (cm aC x iv4 av4 R)) rfl ?_
        obtain ⟨sg4, es4⟩ : ∃ t, (sols (cds (S.1 fr)) ps (fun _ => -1))[j4]? = some t := ⟨_, List.getElem?_eq_getElem hj4⟩
        have hg4 := sols_ok (fun c hc => okP_g hS.1.1 fr c ((cds_mem (okP_g hS.1.1 fr)).mp hc)) ps _ hP.2.2.1 okG_0 sg4 (List.mem_of_getElem? es4)
        refine zz (fun _ _ => lv_iload_n hx hb dX7_rewrite_67 rfl (lv_at hl 3 rfl)) ?_
        refine zz (fun _ _ => lv_aload_n hx hb dX7_rewrite_68 rfl (lv_at hl 0 rfl)) ?_
        refine z_get (v := .ref (x + 20)) C fd_X7_27 (rd_3 (by decide)) rfl dX7_rewrite_69 ?_
        refine z_get (v := .int (iv4 20 2)) C fd_X7_141 (rd_9 (by decide)) rfl dX7_rewrite_72 ?_
        refine zval (v' := .int (nI (sols (cds (S.1 fr)) ps (fun _ => -1)).length)) (congrArg Value.int ((hI4.1.1 20 2 (by omega)).trans hrw9.2.2.2.2.1)) ?_
        refine zb (fun _ _ => lv_icmp_ge (tgt := 90) hx hb dX7_rewrite_75 (by decide)) (fun c_5 => ?_) (fun c_5 => ?_)
        · exact absurd c_5 (nI_ge (by omega) (by omega))
        · refine zz (fun _ _ => lv_aload_n hx hb dX7_rewrite_78 rfl (lv_at hl 0 rfl)) ?_
          refine zz (fun _ _ => lv_aload_n hx hb dX7_rewrite_79 rfl (lv_at hl 1 rfl)) ?_
          refine zz (fun _ _ => lv_iload_n hx hb dX7_rewrite_80 rfl (lv_at hl 3 rfl)) ?_
          refine zqVN (As := [.ref (x + (61 + 6 * i)), .int (nI (j4))]) (rest := []) C hl.1 lk_X7_145 (hX7_takeAwayFor hi hto7 ((hI4.1.1 (61 + 6 * i) 5 (by omega)).trans hto9) (hT9.kept hI4.1.K) (by omega) (SV.kept (hrw9.2.2.2.2.2.2.2.2 _ _ es4) hI4.1) hg4 hI4.2) (rd_3 (by decide)) rfl rfl rfl (Nat.le_of_ble_eq_true rfl) ⟨by decide, by decide, by decide, by decide⟩ dX7_rewrite_81 (fun iv6 av6 sz h6 => ?_)
          refine zeq (M' := (cm aC x iv6 av6 R)) rfl ?_
          refine zs (fun _ _ => lv_iinc (v := nI (j4) + 1) (lv' := [(3, .int (nI (j4) + 1)), (0, .ref (x + 2)), (1, .ref (x + (61 + 6 * i))), (2, .int (w1))]) hx hb dX7_rewrite_84 hl (k := 3) rfl rfl (by decide) rfl) (fun ls hl => ?_)
          refine zz (fun _ _ => lv_goto (tgt := 67) hx hb dX7_rewrite_87 (by decide)) ?_
          have hl := lv_sub hl [1, 2, 3, 0] rfl
          try simp only [nI_1] at hl
          exact ih4 (iv6, av6) _ _ (by show tfI _ _ (((sols (cds (S.1 fr)) ps (fun _ => -1)).take (j4 + 1)).foldl (takeSol to ts) S) _ _; rw [foldl_takeS es4]; exact ⟨hI4.1.trans h6.1, h6.2⟩) hl
      · intro a4 sz ls hI4 hl
        obtain ⟨iv4, av4⟩ := a4
        dsimp only at hI4 hl
        refine zeq (M' := (cm aC x iv4 av4 R)) rfl ?_
        refine zz (fun _ _ => lv_iload_n hx hb dX7_rewrite_67 rfl (lv_at hl 3 rfl)) ?_
        refine zz (fun _ _ => lv_aload_n hx hb dX7_rewrite_68 rfl (lv_at hl 0 rfl)) ?_
        refine z_get (v := .ref (x + 20)) C fd_X7_27 (rd_3 (by decide)) rfl dX7_rewrite_69 ?_
        refine z_get (v := .int (iv4 20 2)) C fd_X7_141 (rd_9 (by decide)) rfl dX7_rewrite_72 ?_
        refine zval (v' := .int (nI (sols (cds (S.1 fr)) ps (fun _ => -1)).length)) (congrArg Value.int ((hI4.1.1 20 2 (by omega)).trans hrw9.2.2.2.2.1)) ?_
        refine zb (fun _ _ => lv_icmp_ge (tgt := 90) hx hb dX7_rewrite_75 (by decide)) (fun c_7 => ?_) (fun c_7 => ?_)
        · refine zz (fun _ _ => lv_iconst (v := 0) hx hb dX7_rewrite_90 (by decide)) ?_
          refine zs (fun _ _ => lv_istore_n (lv' := [(3, .int (0)), (0, .ref (x + 2)), (1, .ref (x + (61 + 6 * i))), (2, .int (w1))]) hx hb dX7_rewrite_91 rfl hl (by decide) rfl) (fun ls hl => ?_)
          have hl0 := lv_sub hl [1, 2, 3, 0] rfl
          refine z_loop (γ := (Nat → Nat → Int32) × (Nat → Nat → Int32)) (G := fun a => cm aC x a.1 a.2 R) (I := fun j a => adI2 (u2 iv1 2 4 ((iv1 2 4) + (iv1 20 3))) av1 to ts ((sols (cds (S.1 fr)) ps (fun _ => -1)).take j) ((sols (cds (S.1 fr)) ps (fun _ => -1)).foldl (takeSol to ts) S) a.1 a.2) (lv := fun j a => [(0, .ref (x + 2)), (1, .ref (x + (61 + 6 * i))), (2, .int (w1)), (3, .int (nI (j)))]) ((sols (cds (S.1 fr)) ps (fun _ => -1)).length) ?_ ?_ (iv4, av4) _ _ ⟨hI4.1, _, by rw [List.take_zero]; rfl, by have h9 := hI4.2; rw [List.take_length] at h9; exact h9⟩ hl0
          · intro j8 a8 sz ls hj8 hI8 hl ih8
            obtain ⟨iv8, av8⟩ := a8
            dsimp only at hI8 hl ih8
            refine zeq (M' := (cm aC x iv8 av8 R)) rfl ?_
            obtain ⟨sg8, es8⟩ : ∃ t, (sols (cds (S.1 fr)) ps (fun _ => -1))[j8]? = some t := ⟨_, List.getElem?_eq_getElem hj8⟩
            have hg8 := sols_ok (fun c hc => okP_g hS.1.1 fr c ((cds_mem (okP_g hS.1.1 fr)).mp hc)) ps _ hP.2.2.1 okG_0 sg8 (List.mem_of_getElem? es8)
            obtain ⟨hf8, S8, e8, hS8⟩ := id hI8
            refine zz (fun _ _ => lv_iload_n hx hb dX7_rewrite_92 rfl (lv_at hl 3 rfl)) ?_
            refine zz (fun _ _ => lv_aload_n hx hb dX7_rewrite_93 rfl (lv_at hl 0 rfl)) ?_
            refine z_get (v := .ref (x + 20)) C fd_X7_27 (rd_3 (by decide)) rfl dX7_rewrite_94 ?_
            refine z_get (v := .int (iv8 20 2)) C fd_X7_141 (rd_9 (by decide)) rfl dX7_rewrite_97 ?_
            refine zval (v' := .int (nI (sols (cds (S.1 fr)) ps (fun _ => -1)).length)) (congrArg Value.int ((hI8.1.1 20 2 (by omega)).trans hrw9.2.2.2.2.1)) ?_
            refine zb (fun _ _ => lv_icmp_ge (tgt := 120) hx hb dX7_rewrite_100 (by decide)) (fun c_9 => ?_) (fun c_9 => ?_)
            · exact absurd c_9 (nI_ge (by omega) (by omega))
            · refine zz (fun _ _ => lv_aload_n hx hb dX7_rewrite_103 rfl (lv_at hl 0 rfl)) ?_
              refine zz (fun _ _ => lv_aload_n hx hb dX7_rewrite_104 rfl (lv_at hl 1 rfl)) ?_
              refine zz (fun _ _ => lv_iload_n hx hb dX7_rewrite_105 rfl (lv_at hl 3 rfl)) ?_
              refine zqVI (As := [.ref (x + (61 + 6 * i)), .int (nI (j8))]) (rest := []) C hl.1 lk_X7_149 (hX7_addFor hi hto7 ((hI8.1.1 (61 + 6 * i) 5 (by omega)).trans hto9) (hT9.kept hI8.1.K) (by omega) (SV.kept (hrw9.2.2.2.2.2.2.2.2 _ _ es8) hI8.1) hg8 hS8) (rd_3 (by decide)) rfl rfl rfl (Nat.le_of_ble_eq_true rfl) ⟨by decide, by decide, by decide, by decide⟩ dX7_rewrite_106 (fun w10 iv10 av10 sz h10 => ?_)
              refine zeq (M' := (cm aC x iv10 av10 R)) rfl ?_
              refine zbn (fun _ _ => lv_if_ne (tgt := 114) hx hb dX7_rewrite_109 (by decide)) (fun c_11 => ?_) (fun c_11 => ?_)
              · refine zs (fun _ _ => lv_iinc (v := nI (j8) + 1) (lv' := [(3, .int (nI (j8) + 1)), (0, .ref (x + 2)), (1, .ref (x + (61 + 6 * i))), (2, .int (w1))]) hx hb dX7_rewrite_114 hl (k := 3) rfl rfl (by decide) rfl) (fun ls hl => ?_)
                refine zz (fun _ _ => lv_goto (tgt := 92) hx hb dX7_rewrite_117 (by decide)) ?_
                have hl := lv_sub hl [1, 2, 3, 0] rfl
                try simp only [nI_1] at hl
                exact ih8 (iv10, av10) _ _ (ad2_next es8 hf8 e8 h10 c_11) hl
              · refine zz (fun _ _ => lv_iconst (v := 4) hx hb dX7_rewrite_112 (by decide)) ?_
                exact z_iret C hr hlk dX7_rewrite_113 (zpI_mk (a := iv10) (b := av10) (rwc_4 hrw9 (hf8.trans h10.1) (ad2_no es8 e8 h10 c_11)))
          · intro a8 sz ls hI8 hl
            obtain ⟨iv8, av8⟩ := a8
            dsimp only at hI8 hl
            refine zeq (M' := (cm aC x iv8 av8 R)) rfl ?_
            refine zz (fun _ _ => lv_iload_n hx hb dX7_rewrite_92 rfl (lv_at hl 3 rfl)) ?_
            refine zz (fun _ _ => lv_aload_n hx hb dX7_rewrite_93 rfl (lv_at hl 0 rfl)) ?_
            refine z_get (v := .ref (x + 20)) C fd_X7_27 (rd_3 (by decide)) rfl dX7_rewrite_94 ?_
            refine z_get (v := .int (iv8 20 2)) C fd_X7_141 (rd_9 (by decide)) rfl dX7_rewrite_97 ?_
            refine zval (v' := .int (nI (sols (cds (S.1 fr)) ps (fun _ => -1)).length)) (congrArg Value.int ((hI8.1.1 20 2 (by omega)).trans hrw9.2.2.2.2.1)) ?_
            refine zb (fun _ _ => lv_icmp_ge (tgt := 120) hx hb dX7_rewrite_100 (by decide)) (fun c_12 => ?_) (fun c_12 => ?_)
            · refine zz (fun _ _ => lv_iconst (v := 0) hx hb dX7_rewrite_120 (by decide)) ?_
              exact z_iret C hr hlk dX7_rewrite_121 (zpI_mk (a := iv8) (b := av8) (rwc_0 hrw9 hI8))
            · exact absurd (nI_le (Nat.le_refl _) (by omega)) c_12
        · exact absurd (nI_le (Nat.le_refl _) (by omega)) c_7
    · refine zz (fun _ _ => lv_iconst (v := 5) hx hb dX7_rewrite_63 (by decide)) ?_
      exact z_iret C hr hlk dX7_rewrite_64 (zpI_mk (a := (u2 iv1 2 4 ((iv1 2 4) + (iv1 20 3)))) (b := av1) (rwc_5 (fi_no h1 c_3) (fi_FK h1)))
  · refine zz (fun _ _ => lv_aload_n hx hb dX7_rewrite_48 rfl (lv_at hl 2 rfl)) ?_
    refine zz (fun _ _ => lv_aload_n hx hb dX7_rewrite_49 rfl (lv_at hl 1 rfl)) ?_
    refine z_get (v := .ref (x + 20)) C fd_X7_27 (rd_3 (by decide)) rfl dX7_rewrite_50 ?_
    refine z_get (v := .int (iv1 20 2)) C fd_X7_141 (rd_9 (by decide)) (by simp [u2]) dX7_rewrite_53 ?_
    refine z_put C fp_X7_144 (fun h => by cases h) (rd_18 (ck_s hi)) (Nat.le_of_ble_eq_true rfl) rfl rfl dX7_rewrite_56 ?_
    refine zeq (wr_18_7 (ck_s hi)) ?_
    refine zz (fun _ _ => lv_iload_n hx hb dX7_rewrite_59 rfl (lv_at hl 0 rfl)) ?_
    refine zbn (fun _ _ => lv_if_ne (tgt := 65) hx hb dX7_rewrite_60 (by decide)) (fun c_13 => ?_) (fun c_13 => ?_)
    · have hrw9 : rwF iv av (u2 (u2 iv1 2 4 ((iv1 2 4) + (iv1 20 3))) (61 + 6 * i) 7 (iv1 20 2)) av1 (cds (S.1 fr)) ps := (rw_b (i := i) (rw_a h1 c_13 (by rw [h1.1 2 4 (by omega), (fi_ok h1 c_13).2.2.1])))
      have hS9 := rw_SC hrw9 hS
      have hl9 := hrw9.2.2.2.2.2.1
      have hT9 := hT.kept hrw9.1
      have hto9 := (hrw9.1.1 (61 + 6 * i) 5 (by omega) (by omega)).trans hto
      refine zz (fun _ _ => lv_iconst (v := 0) hx hb dX7_rewrite_65 (by decide)) ?_
      refine zs (fun _ _ => lv_istore_n (lv' := [(3, .int (0)), (2, .int (w1)), (0, .ref (x + 2)), (1, .ref (x + (61 + 6 * i)))]) hx hb dX7_rewrite_66 rfl hl (by decide) rfl) (fun ls hl => ?_)
      have hl0 := lv_sub hl [2, 3, 1, 0] rfl
      refine z_loop (γ := (Nat → Nat → Int32) × (Nat → Nat → Int32)) (G := fun a => cm aC x a.1 a.2 R) (I := fun j a => tfI (u2 (u2 iv1 2 4 ((iv1 2 4) + (iv1 20 3))) (61 + 6 * i) 7 (iv1 20 2)) av1 (((sols (cds (S.1 fr)) ps (fun _ => -1)).take j).foldl (takeSol to ts) S) a.1 a.2) (lv := fun j a => [(0, .ref (x + 2)), (1, .ref (x + (61 + 6 * i))), (2, .int (w1)), (3, .int (nI (j)))]) ((sols (cds (S.1 fr)) ps (fun _ => -1)).length) ?_ ?_ ((u2 (u2 iv1 2 4 ((iv1 2 4) + (iv1 20 3))) (61 + 6 * i) 7 (iv1 20 2)), av1) _ _ ⟨FC.refl, by rw [List.take_zero]; exact hS9⟩ hl0
      · intro j14 a14 sz ls hj14 hI14 hl ih14
        obtain ⟨iv14, av14⟩ := a14
        dsimp only at hI14 hl ih14
        refine zeq (M' := (cm aC x iv14 av14 R)) rfl ?_
        obtain ⟨sg14, es14⟩ : ∃ t, (sols (cds (S.1 fr)) ps (fun _ => -1))[j14]? = some t := ⟨_, List.getElem?_eq_getElem hj14⟩
        have hg14 := sols_ok (fun c hc => okP_g hS.1.1 fr c ((cds_mem (okP_g hS.1.1 fr)).mp hc)) ps _ hP.2.2.1 okG_0 sg14 (List.mem_of_getElem? es14)
        refine zz (fun _ _ => lv_iload_n hx hb dX7_rewrite_67 rfl (lv_at hl 3 rfl)) ?_
        refine zz (fun _ _ => lv_aload_n hx hb dX7_rewrite_68 rfl (lv_at hl 0 rfl)) ?_
        refine z_get (v := .ref (x + 20)) C fd_X7_27 (rd_3 (by decide)) rfl dX7_rewrite_69 ?_
        refine z_get (v := .int (iv14 20 2)) C fd_X7_141 (rd_9 (by decide)) rfl dX7_rewrite_72 ?_
        refine zval (v' := .int (nI (sols (cds (S.1 fr)) ps (fun _ => -1)).length)) (congrArg Value.int ((hI14.1.1 20 2 (by omega)).trans hrw9.2.2.2.2.1)) ?_
        refine zb (fun _ _ => lv_icmp_ge (tgt := 90) hx hb dX7_rewrite_75 (by decide)) (fun c_15 => ?_) (fun c_15 => ?_)
        · exact absurd c_15 (nI_ge (by omega) (by omega))
        · refine zz (fun _ _ => lv_aload_n hx hb dX7_rewrite_78 rfl (lv_at hl 0 rfl)) ?_
          refine zz (fun _ _ => lv_aload_n hx hb dX7_rewrite_79 rfl (lv_at hl 1 rfl)) ?_
          refine zz (fun _ _ => lv_iload_n hx hb dX7_rewrite_80 rfl (lv_at hl 3 rfl)) ?_
          refine zqVN (As := [.ref (x + (61 + 6 * i)), .int (nI (j14))]) (rest := []) C hl.1 lk_X7_145 (hX7_takeAwayFor hi hto7 ((hI14.1.1 (61 + 6 * i) 5 (by omega)).trans hto9) (hT9.kept hI14.1.K) (by omega) (SV.kept (hrw9.2.2.2.2.2.2.2.2 _ _ es14) hI14.1) hg14 hI14.2) (rd_3 (by decide)) rfl rfl rfl (Nat.le_of_ble_eq_true rfl) ⟨by decide, by decide, by decide, by decide⟩ dX7_rewrite_81 (fun iv16 av16 sz h16 => ?_)
          refine zeq (M' := (cm aC x iv16 av16 R)) rfl ?_
          refine zs (fun _ _ => lv_iinc (v := nI (j14) + 1) (lv' := [(3, .int (nI (j14) + 1)), (0, .ref (x + 2)), (1, .ref (x + (61 + 6 * i))), (2, .int (w1))]) hx hb dX7_rewrite_84 hl (k := 3) rfl rfl (by decide) rfl) (fun ls hl => ?_)
          refine zz (fun _ _ => lv_goto (tgt := 67) hx hb dX7_rewrite_87 (by decide)) ?_
          have hl := lv_sub hl [1, 2, 3, 0] rfl
          try simp only [nI_1] at hl
          exact ih14 (iv16, av16) _ _ (by show tfI _ _ (((sols (cds (S.1 fr)) ps (fun _ => -1)).take (j14 + 1)).foldl (takeSol to ts) S) _ _; rw [foldl_takeS es14]; exact ⟨hI14.1.trans h16.1, h16.2⟩) hl
      · intro a14 sz ls hI14 hl
        obtain ⟨iv14, av14⟩ := a14
        dsimp only at hI14 hl
        refine zeq (M' := (cm aC x iv14 av14 R)) rfl ?_
        refine zz (fun _ _ => lv_iload_n hx hb dX7_rewrite_67 rfl (lv_at hl 3 rfl)) ?_
        refine zz (fun _ _ => lv_aload_n hx hb dX7_rewrite_68 rfl (lv_at hl 0 rfl)) ?_
        refine z_get (v := .ref (x + 20)) C fd_X7_27 (rd_3 (by decide)) rfl dX7_rewrite_69 ?_
        refine z_get (v := .int (iv14 20 2)) C fd_X7_141 (rd_9 (by decide)) rfl dX7_rewrite_72 ?_
        refine zval (v' := .int (nI (sols (cds (S.1 fr)) ps (fun _ => -1)).length)) (congrArg Value.int ((hI14.1.1 20 2 (by omega)).trans hrw9.2.2.2.2.1)) ?_
        refine zb (fun _ _ => lv_icmp_ge (tgt := 90) hx hb dX7_rewrite_75 (by decide)) (fun c_17 => ?_) (fun c_17 => ?_)
        · refine zz (fun _ _ => lv_iconst (v := 0) hx hb dX7_rewrite_90 (by decide)) ?_
          refine zs (fun _ _ => lv_istore_n (lv' := [(3, .int (0)), (0, .ref (x + 2)), (1, .ref (x + (61 + 6 * i))), (2, .int (w1))]) hx hb dX7_rewrite_91 rfl hl (by decide) rfl) (fun ls hl => ?_)
          have hl0 := lv_sub hl [1, 2, 3, 0] rfl
          refine z_loop (γ := (Nat → Nat → Int32) × (Nat → Nat → Int32)) (G := fun a => cm aC x a.1 a.2 R) (I := fun j a => adI2 (u2 (u2 iv1 2 4 ((iv1 2 4) + (iv1 20 3))) (61 + 6 * i) 7 (iv1 20 2)) av1 to ts ((sols (cds (S.1 fr)) ps (fun _ => -1)).take j) ((sols (cds (S.1 fr)) ps (fun _ => -1)).foldl (takeSol to ts) S) a.1 a.2) (lv := fun j a => [(0, .ref (x + 2)), (1, .ref (x + (61 + 6 * i))), (2, .int (w1)), (3, .int (nI (j)))]) ((sols (cds (S.1 fr)) ps (fun _ => -1)).length) ?_ ?_ (iv14, av14) _ _ ⟨hI14.1, _, by rw [List.take_zero]; rfl, by have h9 := hI14.2; rw [List.take_length] at h9; exact h9⟩ hl0
          · intro j18 a18 sz ls hj18 hI18 hl ih18
            obtain ⟨iv18, av18⟩ := a18
            dsimp only at hI18 hl ih18
            refine zeq (M' := (cm aC x iv18 av18 R)) rfl ?_
            obtain ⟨sg18, es18⟩ : ∃ t, (sols (cds (S.1 fr)) ps (fun _ => -1))[j18]? = some t := ⟨_, List.getElem?_eq_getElem hj18⟩
            have hg18 := sols_ok (fun c hc => okP_g hS.1.1 fr c ((cds_mem (okP_g hS.1.1 fr)).mp hc)) ps _ hP.2.2.1 okG_0 sg18 (List.mem_of_getElem? es18)
            obtain ⟨hf8, S8, e8, hS8⟩ := id hI18
            refine zz (fun _ _ => lv_iload_n hx hb dX7_rewrite_92 rfl (lv_at hl 3 rfl)) ?_
            refine zz (fun _ _ => lv_aload_n hx hb dX7_rewrite_93 rfl (lv_at hl 0 rfl)) ?_
            refine z_get (v := .ref (x + 20)) C fd_X7_27 (rd_3 (by decide)) rfl dX7_rewrite_94 ?_
            refine z_get (v := .int (iv18 20 2)) C fd_X7_141 (rd_9 (by decide)) rfl dX7_rewrite_97 ?_
            refine zval (v' := .int (nI (sols (cds (S.1 fr)) ps (fun _ => -1)).length)) (congrArg Value.int ((hI18.1.1 20 2 (by omega)).trans hrw9.2.2.2.2.1)) ?_
            refine zb (fun _ _ => lv_icmp_ge (tgt := 120) hx hb dX7_rewrite_100 (by decide)) (fun c_19 => ?_) (fun c_19 => ?_)
            · exact absurd c_19 (nI_ge (by omega) (by omega))
            · refine zz (fun _ _ => lv_aload_n hx hb dX7_rewrite_103 rfl (lv_at hl 0 rfl)) ?_
              refine zz (fun _ _ => lv_aload_n hx hb dX7_rewrite_104 rfl (lv_at hl 1 rfl)) ?_
              refine zz (fun _ _ => lv_iload_n hx hb dX7_rewrite_105 rfl (lv_at hl 3 rfl)) ?_
              refine zqVI (As := [.ref (x + (61 + 6 * i)), .int (nI (j18))]) (rest := []) C hl.1 lk_X7_149 (hX7_addFor hi hto7 ((hI18.1.1 (61 + 6 * i) 5 (by omega)).trans hto9) (hT9.kept hI18.1.K) (by omega) (SV.kept (hrw9.2.2.2.2.2.2.2.2 _ _ es18) hI18.1) hg18 hS8) (rd_3 (by decide)) rfl rfl rfl (Nat.le_of_ble_eq_true rfl) ⟨by decide, by decide, by decide, by decide⟩ dX7_rewrite_106 (fun w20 iv20 av20 sz h20 => ?_)
              refine zeq (M' := (cm aC x iv20 av20 R)) rfl ?_
              refine zbn (fun _ _ => lv_if_ne (tgt := 114) hx hb dX7_rewrite_109 (by decide)) (fun c_21 => ?_) (fun c_21 => ?_)
              · refine zs (fun _ _ => lv_iinc (v := nI (j18) + 1) (lv' := [(3, .int (nI (j18) + 1)), (0, .ref (x + 2)), (1, .ref (x + (61 + 6 * i))), (2, .int (w1))]) hx hb dX7_rewrite_114 hl (k := 3) rfl rfl (by decide) rfl) (fun ls hl => ?_)
                refine zz (fun _ _ => lv_goto (tgt := 92) hx hb dX7_rewrite_117 (by decide)) ?_
                have hl := lv_sub hl [1, 2, 3, 0] rfl
                try simp only [nI_1] at hl
                exact ih18 (iv20, av20) _ _ (ad2_next es18 hf8 e8 h20 c_21) hl
              · refine zz (fun _ _ => lv_iconst (v := 4) hx hb dX7_rewrite_112 (by decide)) ?_
                exact z_iret C hr hlk dX7_rewrite_113 (zpI_mk (a := iv20) (b := av20) (rwc_4 hrw9 (hf8.trans h20.1) (ad2_no es18 e8 h20 c_21)))
          · intro a18 sz ls hI18 hl
            obtain ⟨iv18, av18⟩ := a18
            dsimp only at hI18 hl
            refine zeq (M' := (cm aC x iv18 av18 R)) rfl ?_
            refine zz (fun _ _ => lv_iload_n hx hb dX7_rewrite_92 rfl (lv_at hl 3 rfl)) ?_
            refine zz (fun _ _ => lv_aload_n hx hb dX7_rewrite_93 rfl (lv_at hl 0 rfl)) ?_
            refine z_get (v := .ref (x + 20)) C fd_X7_27 (rd_3 (by decide)) rfl dX7_rewrite_94 ?_
            refine z_get (v := .int (iv18 20 2)) C fd_X7_141 (rd_9 (by decide)) rfl dX7_rewrite_97 ?_
            refine zval (v' := .int (nI (sols (cds (S.1 fr)) ps (fun _ => -1)).length)) (congrArg Value.int ((hI18.1.1 20 2 (by omega)).trans hrw9.2.2.2.2.1)) ?_
            refine zb (fun _ _ => lv_icmp_ge (tgt := 120) hx hb dX7_rewrite_100 (by decide)) (fun c_22 => ?_) (fun c_22 => ?_)
            · refine zz (fun _ _ => lv_iconst (v := 0) hx hb dX7_rewrite_120 (by decide)) ?_
              exact z_iret C hr hlk dX7_rewrite_121 (zpI_mk (a := iv18) (b := av18) (rwc_0 hrw9 hI18))
            · exact absurd (nI_le (Nat.le_refl _) (by omega)) c_22
        · exact absurd (nI_le (Nat.le_refl _) (by omega)) c_17
    · refine zz (fun _ _ => lv_iconst (v := 5) hx hb dX7_rewrite_63 (by decide)) ?_
      exact z_iret C hr hlk dX7_rewrite_64 (zpI_mk (a := (u2 (u2 iv1 2 4 ((iv1 2 4) + (iv1 20 3))) (61 + 6 * i) 7 (iv1 20 2))) (b := av1) (rwc_5 (fi_no h1 c_13) (FK_7 (fi_FK h1))))
end
section
/-! One step on the cells. -/
theorem out39 {k : Nat} (h : k ≤ 9) (h3 : ¬ nI k = 3) (h4 : ¬ nI k = 4) (h5 : ¬ nI k = 5) (h6 : ¬ nI k = 6) (h7 : ¬ nI k = 7) (h8 : ¬ nI k = 8) (h9 : ¬ nI k = 9) : k < 3 := by
  rcases (show k < 3 ∨ k = 3 ∨ k = 4 ∨ k = 5 ∨ k = 6 ∨ k = 7 ∨ k = 8 ∨ k = 9 by omega) with q | rfl | rfl | rfl | rfl | rfl | rfl | rfl
  · exact q
  · exact absurd rfl h3
  · exact absurd rfl h4
  · exact absurd rfl h5
  · exact absurd rfl h6
  · exact absurd rfl h7
  · exact absurd rfl h8
  · exact absurd rfl h9
theorem AC_eq {iv av iv' av' : Nat → Nat → Int32} {a b : Nat × St × Nat} {w : Int32} (h : AC iv av a w iv' av') (e : b = a) : AC iv av b w iv' av' := e ▸ h
/-! The store kept and brought back. -/
def GS (iv av : Nat → Nat → Int32) (k : Nat) (S : St) : Prop := (∀ g, g < 7 → GC iv av (k + 1 + 1 + 2 * g) (S.1 g) (S.2.1 g)) ∧ iv k 1 = nI S.2.2
theorem becG {iv av : Nat → Nat → Int32} {k k2 : Nat} {p : Nat → Bool} {t : Bool} (h : GC iv av k2 p t) (hl : (cds p).length ≤ 120) : GC (fX2_become iv av k k2).1 (fX2_become iv av k k2).2 k p t ∧ GF k iv av (fX2_become iv av k k2).1 (fX2_become iv av k k2).2 := by
  unfold fX2_become
  dsimp only
  refine ⟨⟨by rw [u2_f _ _ _ (by decide), u2_s]; exact h.1, by rw [u2_s]; exact h.2.1, fun i hi => ?_⟩, fun k' f' hk => by rw [u2_k _ _ _ _ hk, u2_k _ _ _ _ hk], fun k' hk => u1_k _ _ hk⟩
  rw [u1_s, h.1, nI_clamp (by omega)]
  unfold va_cpy
  rw [show Int32.toNatClampNeg 0 = 0 by decide, if_pos (by omega), Nat.sub_zero, Nat.zero_add]
  exact h.2.2 i hi
theorem bec_i {iv av : Nat → Nat → Int32} {k k2 : Nat} {S : St} (hd : k + 18 ≤ k2 ∨ k2 + 18 ≤ k) (hl : ∀ g, g < 7 → (cds (S.1 g)).length ≤ 120) (h : ∀ g, g < 7 → GC iv av (k2 + 1 + 1 + 2 * g) (S.1 g) (S.2.1 g)) : ∀ i, i ≤ 7 →
    (∀ g, g < i → GC (stX6_become_2 k k2 iv av i).1 (stX6_become_2 k k2 iv av i).2 (k + 1 + 1 + 2 * g) (S.1 g) (S.2.1 g)) ∧ (∀ q f, (q < k + 2 ∨ k + 15 < q) → (stX6_become_2 k k2 iv av i).1 q f = iv q f) ∧ (∀ q, (q < k + 2 ∨ k + 15 < q) → (stX6_become_2 k k2 iv av i).2 q = av q)
  | 0, _ => ⟨fun g hg => absurd hg (Nat.not_lt_zero _), fun _ _ _ => rfl, fun _ _ => rfl⟩
  | i + 1, hi => by
    obtain ⟨h1, h2, h3⟩ := bec_i hd hl h i (by omega)
    have hG : GC (stX6_become_2 k k2 iv av i).1 (stX6_become_2 k k2 iv av i).2 (k2 + 1 + 1 + 2 * i) (S.1 i) (S.2.1 i) := (h i (by omega)).kept (h2 _ _ (by omega)) (h2 _ _ (by omega)) (h3 _ (by omega))
    have hb := becG (k := k + 1 + 1 + 2 * i) hG (hl i (by omega))
    have e1 : (stX6_become_2 k k2 iv av (i + 1)).1 = (fX2_become (stX6_become_2 k k2 iv av i).1 (stX6_become_2 k k2 iv av i).2 (k + 1 + 1 + 2 * i) (k2 + 1 + 1 + 2 * i)).1 := rfl
    have e2 : (stX6_become_2 k k2 iv av (i + 1)).2 = (fX2_become (stX6_become_2 k k2 iv av i).1 (stX6_become_2 k k2 iv av i).2 (k + 1 + 1 + 2 * i) (k2 + 1 + 1 + 2 * i)).2 := rfl
    rw [e1, e2]
    refine ⟨fun g hg => ?_, fun q f hq => ?_, fun q hq => ?_⟩
    · by_cases e : g = i
      · subst e; exact hb.1
      · exact (h1 g (by omega)).kept (hb.2.1 _ _ (by omega)) (hb.2.1 _ _ (by omega)) (hb.2.2 _ (by omega))
    · rw [hb.2.1 q f (by omega)]; exact h2 q f hq
    · rw [hb.2.2 q (by omega)]; exact h3 q hq
def bkP (k : Nat) (iv av : Nat → Nat → Int32) (S : St) (iv' av' : Nat → Nat → Int32) : Prop := GS iv' av' k S ∧ (∀ q f, (q < k ∨ k + 15 < q) → iv' q f = iv q f) ∧ ∀ q, (q < k ∨ k + 15 < q) → av' q = av q
theorem bec_s {iv av : Nat → Nat → Int32} {k k2 : Nat} {S : St} (hd : k + 18 ≤ k2 ∨ k2 + 18 ≤ k) (hl : ∀ g, g < 7 → (cds (S.1 g)).length ≤ 120) (h : GS iv av k2 S) : bkP k iv av S (fX6_become iv av k k2).1 (fX6_become iv av k k2).2 := by
  obtain ⟨h1, h2, h3⟩ := bec_i hd hl h.1 7 (Nat.le_refl _)
  unfold fX6_become
  dsimp only
  refine ⟨⟨fun g hg => (h1 g hg).kept (u2_k _ _ _ _ (by omega)) (u2_k _ _ _ _ (by omega)) rfl, by rw [u2_s, h2 k2 1 (by omega)]; exact h.2⟩, fun q f hq => ?_, fun q hq => h3 q (by omega)⟩
  rw [u2_k _ _ _ _ (by omega)]
  exact h2 q f (by omega)
theorem hX6_become {l : Launch} {D : va_G} {aC : Nat → ClassId} {b0 sz x : Nat} {iv av : Nat → Nat → Int32} {R : ZM} {k k2 : Nat} {S : St} (hk : ck k = 4) (hk2 : ck k2 = 4) (hd : k + 18 ≤ k2 ∨ k2 + 18 ≤ k) (hl : ∀ g, g < 7 → (cds (S.1 g)).length ≤ 120) (h : GS iv av k2 S) :
    Ct l D aC b0 yX6_become cX6_become 3 none 1 0 0 [.ref (x + k), .ref (x + k2)] (cm aC x iv av R) sz (zpN (fun iv av => cm aC x iv av R) (bkP k iv av S)) :=
  Ct.toN (G := fun iv av => cm aC x iv av R) (ctX6_become hk hk2 hd (fun j hj => ⟨_, hl j hj, (h.1 j hj).1⟩) (fun j hj => by rw [(h.1 j hj).2.1]; exact tI_b _)) (bec_s hd hl h)
end
section
set_option maxHeartbeats 2000000 in
set_option maxRecDepth 10000 in
theorem hX7_perform {l : Launch} {D : va_G} {aC : Nat → ClassId} {b0 sz : Nat} {x : Nat} {iv av : Nat → Nat → Int32} {R : ZM} {i : Nat} {q : Sq} {S : St} {TN : Nat → Bool} {FL : Nat → List Nat} (hi : i < 12) (hE : EC iv av i q) (hq : okQ q) (hF : FLc iv av TN FL) (hS : SC iv av S) : Ct l D aC b0 yX7_perform cX7_perform 2 (some .int) 12 0 0 [.ref (x + 2), .ref (x + (61 + 6 * i))] (cm aC x iv av R) sz (zpI (fun iv av => cm aC x iv av R) (fun w' iv' av' => AC iv av (aAct TN FL q S) w' iv' av')) := by
  refine Ct.of (by decide) (Nat.le_of_ble_eq_true rfl) ?_
  intro p e s m below meth c ls C hr hlk hnm hl
  have hl : lv_has ls 2 [(0, .ref (x + 2)), (1, .ref (x + (61 + 6 * i)))] := hl
  obtain ⟨hx, hb, -, -, -⟩ := id C
  refine zz (fun _ _ => lv_aload_n hx hb dX7_perform_0 rfl (lv_at hl 1 rfl)) ?_
  refine z_get (v := .int (iv (61 + 6 * i) 3)) C fd_X7_40 (rd_18 (ck_s hi)) rfl dX7_perform_1 ?_
  refine zval (v' := .int (nI q.1)) (congrArg Value.int hE.1) ?_
  by_cases c_1 : nI q.1 = 3
  · refine zz (fun _ _ => lv_tableIn (tgt := 48) (off := (44)) hx hb dX7_perform_4 (by rw [c_1]; decide) (by rw [c_1]; decide) (by rw [c_1]; rfl) (by decide)) ?_
    have hkd9 : q.1 = 3 := kd hq.1 (by decide) rfl c_1
    refine zz (fun _ _ => lv_aload_n hx hb dX7_perform_48 rfl (lv_at hl 0 rfl)) ?_
    refine zz (fun _ _ => lv_aload_n hx hb dX7_perform_49 rfl (lv_at hl 1 rfl)) ?_
    refine zqVI (As := [.ref (x + (61 + 6 * i))]) (rest := []) C hl.1 lk_X7_45 (hX7_takeAllFacts hi hq.1 hE.1 hE.2.2.1 (hq.2.2.2.1 (by omega)).1 (hq.2.2.2.1 (by omega)).2 hS) (rd_3 (by decide)) rfl rfl rfl (Nat.le_of_ble_eq_true rfl) ⟨by decide, by decide, by decide, by decide⟩ dX7_perform_50 (fun w2 iv2 av2 sz h2 => ?_)
    refine zeq (M' := (cm aC x iv2 av2 R)) rfl ?_
    exact z_iret C hr hlk dX7_perform_53 (zpI_mk (a := iv2) (b := av2) (AC_eq h2 (by rw [aAct_3 (by omega)])))
  · skip
    by_cases c_3 : nI q.1 = 4
    · refine zz (fun _ _ => lv_tableIn (tgt := 54) (off := (50)) hx hb dX7_perform_4 (by rw [c_3]; decide) (by rw [c_3]; decide) (by rw [c_3]; rfl) (by decide)) ?_
      have hkd9 : q.1 = 4 := kd hq.1 (by decide) rfl c_3
      obtain ⟨t9, ht9, et9, en9⟩ := okQ_to hq (by omega)
      refine zz (fun _ _ => lv_aload_n hx hb dX7_perform_54 rfl (lv_at hl 0 rfl)) ?_
      refine zz (fun _ _ => lv_aload_n hx hb dX7_perform_55 rfl (lv_at hl 1 rfl)) ?_
      refine zqVI (As := [.ref (x + (61 + 6 * i))]) (rest := []) C hl.1 lk_X7_49 (hX7_makeGraph hi ht9 (hE.2.2.1.trans et9) hS) (rd_3 (by decide)) rfl rfl rfl (Nat.le_of_ble_eq_true rfl) ⟨by decide, by decide, by decide, by decide⟩ dX7_perform_56 (fun w4 iv4 av4 sz h4 => ?_)
      refine zeq (M' := (cm aC x iv4 av4 R)) rfl ?_
      exact z_iret C hr hlk dX7_perform_59 (zpI_mk (a := iv4) (b := av4) (AC_eq h4 (by rw [aAct_4 hkd9, en9])))
    · skip
      by_cases c_5 : nI q.1 = 5
      · refine zz (fun _ _ => lv_tableIn (tgt := 48) (off := (44)) hx hb dX7_perform_4 (by rw [c_5]; decide) (by rw [c_5]; decide) (by rw [c_5]; rfl) (by decide)) ?_
        have hkd9 : q.1 = 5 := kd hq.1 (by decide) rfl c_5
        refine zz (fun _ _ => lv_aload_n hx hb dX7_perform_48 rfl (lv_at hl 0 rfl)) ?_
        refine zz (fun _ _ => lv_aload_n hx hb dX7_perform_49 rfl (lv_at hl 1 rfl)) ?_
        refine zqVI (As := [.ref (x + (61 + 6 * i))]) (rest := []) C hl.1 lk_X7_45 (hX7_takeAllFacts hi hq.1 hE.1 hE.2.2.1 (hq.2.2.2.1 (by omega)).1 (hq.2.2.2.1 (by omega)).2 hS) (rd_3 (by decide)) rfl rfl rfl (Nat.le_of_ble_eq_true rfl) ⟨by decide, by decide, by decide, by decide⟩ dX7_perform_50 (fun w6 iv6 av6 sz h6 => ?_)
        refine zeq (M' := (cm aC x iv6 av6 R)) rfl ?_
        exact z_iret C hr hlk dX7_perform_53 (zpI_mk (a := iv6) (b := av6) (AC_eq h6 (by rw [aAct_3 (by omega)])))
      · skip
        by_cases c_7 : nI q.1 = 6
        · refine zz (fun _ _ => lv_tableIn (tgt := 60) (off := (56)) hx hb dX7_perform_4 (by rw [c_7]; decide) (by rw [c_7]; decide) (by rw [c_7]; rfl) (by decide)) ?_
          have hkd9 : q.1 = 6 := kd hq.1 (by decide) rfl c_7
          obtain ⟨t9, ht9, et9, en9⟩ := okQ_to hq (by omega)
          refine zz (fun _ _ => lv_aload_n hx hb dX7_perform_60 rfl (lv_at hl 0 rfl)) ?_
          refine zz (fun _ _ => lv_aload_n hx hb dX7_perform_61 rfl (lv_at hl 1 rfl)) ?_
          refine zqVI (As := [.ref (x + (61 + 6 * i))]) (rest := []) C hl.1 lk_X7_52 (hX7_bringGraph hi (by omega) (by omega) hq.2.1 ht9 hE.1 hE.2.1 (hE.2.2.1.trans et9) hS) (rd_3 (by decide)) rfl rfl rfl (Nat.le_of_ble_eq_true rfl) ⟨by decide, by decide, by decide, by decide⟩ dX7_perform_62 (fun w8 iv8 av8 sz h8 => ?_)
          refine zeq (M' := (cm aC x iv8 av8 R)) rfl ?_
          exact z_iret C hr hlk dX7_perform_65 (zpI_mk (a := iv8) (b := av8) (AC_eq h8 (by rw [aAct_6 (by omega) (by omega), en9])))
        · skip
          by_cases c_9 : nI q.1 = 7
          · refine zz (fun _ _ => lv_tableIn (tgt := 60) (off := (56)) hx hb dX7_perform_4 (by rw [c_9]; decide) (by rw [c_9]; decide) (by rw [c_9]; rfl) (by decide)) ?_
            have hkd9 : q.1 = 7 := kd hq.1 (by decide) rfl c_9
            obtain ⟨t9, ht9, et9, en9⟩ := okQ_to hq (by omega)
            refine zz (fun _ _ => lv_aload_n hx hb dX7_perform_60 rfl (lv_at hl 0 rfl)) ?_
            refine zz (fun _ _ => lv_aload_n hx hb dX7_perform_61 rfl (lv_at hl 1 rfl)) ?_
            refine zqVI (As := [.ref (x + (61 + 6 * i))]) (rest := []) C hl.1 lk_X7_52 (hX7_bringGraph hi (by omega) (by omega) hq.2.1 ht9 hE.1 hE.2.1 (hE.2.2.1.trans et9) hS) (rd_3 (by decide)) rfl rfl rfl (Nat.le_of_ble_eq_true rfl) ⟨by decide, by decide, by decide, by decide⟩ dX7_perform_62 (fun w10 iv10 av10 sz h10 => ?_)
            refine zeq (M' := (cm aC x iv10 av10 R)) rfl ?_
            exact z_iret C hr hlk dX7_perform_65 (zpI_mk (a := iv10) (b := av10) (AC_eq h10 (by rw [aAct_6 (by omega) (by omega), en9])))
          · skip
            by_cases c_11 : nI q.1 = 8
            · refine zz (fun _ _ => lv_tableIn (tgt := 60) (off := (56)) hx hb dX7_perform_4 (by rw [c_11]; decide) (by rw [c_11]; decide) (by rw [c_11]; rfl) (by decide)) ?_
              have hkd9 : q.1 = 8 := kd hq.1 (by decide) rfl c_11
              obtain ⟨t9, ht9, et9, en9⟩ := okQ_to hq (by omega)
              refine zz (fun _ _ => lv_aload_n hx hb dX7_perform_60 rfl (lv_at hl 0 rfl)) ?_
              refine zz (fun _ _ => lv_aload_n hx hb dX7_perform_61 rfl (lv_at hl 1 rfl)) ?_
              refine zqVI (As := [.ref (x + (61 + 6 * i))]) (rest := []) C hl.1 lk_X7_52 (hX7_bringGraph hi (by omega) (by omega) hq.2.1 ht9 hE.1 hE.2.1 (hE.2.2.1.trans et9) hS) (rd_3 (by decide)) rfl rfl rfl (Nat.le_of_ble_eq_true rfl) ⟨by decide, by decide, by decide, by decide⟩ dX7_perform_62 (fun w12 iv12 av12 sz h12 => ?_)
              refine zeq (M' := (cm aC x iv12 av12 R)) rfl ?_
              exact z_iret C hr hlk dX7_perform_65 (zpI_mk (a := iv12) (b := av12) (AC_eq h12 (by rw [aAct_6 (by omega) (by omega), en9])))
            · skip
              by_cases c_13 : nI q.1 = 9
              · refine zz (fun _ _ => lv_tableIn (tgt := 66) (off := (62)) hx hb dX7_perform_4 (by rw [c_13]; decide) (by rw [c_13]; decide) (by rw [c_13]; rfl) (by decide)) ?_
                have hkd9 : q.1 = 9 := kd hq.1 (by decide) rfl c_13
                obtain ⟨t9, ht9, et9, en9⟩ := okQ_to hq (by omega)
                refine zz (fun _ _ => lv_aload_n hx hb dX7_perform_66 rfl (lv_at hl 0 rfl)) ?_
                refine zz (fun _ _ => lv_aload_n hx hb dX7_perform_67 rfl (lv_at hl 1 rfl)) ?_
                refine zqVI (As := [.ref (x + (61 + 6 * i))]) (rest := []) C hl.1 lk_X7_55 (hX7_readFile hi (hq.2.2.1 hkd9) ht9 hE.2.1 (hE.2.2.1.trans et9) hF hS) (rd_3 (by decide)) rfl rfl rfl (Nat.le_of_ble_eq_true rfl) ⟨by decide, by decide, by decide, by decide⟩ dX7_perform_68 (fun w14 iv14 av14 sz h14 => ?_)
                refine zeq (M' := (cm aC x iv14 av14 R)) rfl ?_
                exact z_iret C hr hlk dX7_perform_71 (zpI_mk (a := iv14) (b := av14) (AC_eq h14 (by rw [aAct_9 hkd9, en9])))
              · skip
                refine zz (fun _ _ => lv_tableOut (tgt := 72) hx hb dX7_perform_4 (sw_out (fun n h1 h2 => by rcases (show n = 3 ∨ n = 4 ∨ n = 5 ∨ n = 6 ∨ n = 7 ∨ n = 8 ∨ n = 9 by omega) with rfl | rfl | rfl | rfl | rfl | rfl | rfl <;> assumption)) (by decide)) ?_
                have hkd9 := out39 hq.1 c_1 c_3 c_5 c_7 c_9 c_11 c_13
                obtain ⟨t9, ht9, et9, en9⟩ := okQ_to hq (by omega)
                refine zz (fun _ _ => lv_aload_n hx hb dX7_perform_72 rfl (lv_at hl 0 rfl)) ?_
                refine zz (fun _ _ => lv_aload_n hx hb dX7_perform_73 rfl (lv_at hl 1 rfl)) ?_
                refine zqVI (As := [.ref (x + (61 + 6 * i))]) (rest := []) C hl.1 lk_X7_58 (hX7_rewrite hi hq.1 hq.2.1 ht9 hE.1 hE.2.1 (hE.2.2.1.trans et9) (hE.P hq) (hE.T hq) hS) (rd_3 (by decide)) rfl rfl rfl (Nat.le_of_ble_eq_true rfl) ⟨by decide, by decide, by decide, by decide⟩ dX7_perform_74 (fun w15 iv15 av15 sz h15 => ?_)
                refine zeq (M' := (cm aC x iv15 av15 R)) rfl ?_
                exact z_iret C hr hlk dX7_perform_77 (zpI_mk (a := iv15) (b := av15) (AC_eq h15 (by rw [aAct_0 hkd9, en9])))
end
section
/-! Two sorted rows held against each other. -/
def CHc (iv av : Nat → Nat → Int32) (L : List Cg) : Prop := iv 57 3 = nI L.length ∧ ∀ i g c b, L[i]? = some (g, c, b) → av 58 i = nI g ∧ av 59 i = nI c ∧ av 60 i = tI b
def FH (iv av iv' av' : Nat → Nat → Int32) : Prop := (∀ k f, k ≠ 57 → iv' k f = iv k f) ∧ ∀ k, k < 58 ∨ 60 < k → av' k = av k
theorem FH.refl {iv av : Nat → Nat → Int32} : FH iv av iv av := ⟨fun _ _ _ => rfl, fun _ _ => rfl⟩
theorem FH.trans {iv av iv1 av1 iv2 av2 : Nat → Nat → Int32} (h : FH iv av iv1 av1) (h2 : FH iv1 av1 iv2 av2) : FH iv av iv2 av2 := ⟨fun k f a => (h2.1 k f a).trans (h.1 k f a), fun k a => (h2.2 k a).trans (h.2 k a)⟩
theorem FH.G {iv av iv1 av1 : Nat → Nat → Int32} {k : Nat} {p : Nat → Bool} {t : Bool} (h : FH iv av iv1 av1) (hk : k < 57) (hG : GC iv av k p t) : GC iv1 av1 k p t := hG.kept (h.1 _ _ (by omega)) (h.1 _ _ (by omega)) (h.2 _ (by omega))
def ncP (iv av : Nat → Nat → Int32) (L : List Cg) (x : Cg) (iv' av' : Nat → Nat → Int32) : Prop := FH iv av iv' av' ∧ CHc iv' av' (L ++ [x])
theorem nc_end {iv av : Nat → Nat → Int32} {L : List Cg} {g c : Nat} {b : Bool} (h : CHc iv av L) (hl : L.length < 240) : ncP iv av L (g, c, b) (u2 iv 57 3 (nI (L.length + 1))) (u1 (u1 (u1 av 58 (upd (av 58) (Int32.toNatClampNeg (nI L.length)) (nI g))) 59 (upd (av 59) (Int32.toNatClampNeg (nI L.length)) (nI c))) 60 (upd (av 60) (Int32.toNatClampNeg (nI L.length)) (tI b))) := by
  rw [nI_clamp (by omega)]
  refine ⟨⟨fun k f hk => u2_k _ _ _ _ hk, fun k hk => by rw [u1_k _ _ (by omega), u1_k _ _ (by omega), u1_k _ _ (by omega)]⟩, by rw [u2_s, List.length_append]; rfl, fun i g' c' b' hi => ?_⟩
  rw [List.getElem?_append] at hi
  split at hi
  · rename_i hlt
    have := h.2 i g' c' b' hi
    simp [u1, upd, show i ≠ L.length by omega, this]
  · have hlt := (List.getElem?_eq_some_iff.mp hi).1
    have e : i = L.length := by simp at hlt; omega
    subst e
    simp at hi
    obtain ⟨rfl, rfl, rfl⟩ := hi
    simp [u1, upd]
def mgR (g : Nat) (l1 l2 : List Nat) (i j : Nat) (M : List Cg) : Prop := srC M ∧ (∀ y ∈ M, y.1 = g) ∧ (∀ c, (g, c, true) ∈ M ↔ c ∈ l2.take j ∧ c ∉ l1) ∧ (∀ c, (g, c, false) ∈ M ↔ c ∈ l1.take i ∧ c ∉ l2) ∧ M.length ≤ i + j ∧ i ≤ l1.length ∧ j ≤ l2.length ∧
  (∀ a ∈ l1.take i, ∀ b ∈ l2.drop j, a < b) ∧ (∀ b ∈ l2.take j, ∀ a ∈ l1.drop i, b < a)
theorem mg_0 {g : Nat} {l1 l2 : List Nat} : mgR g l1 l2 0 0 [] := ⟨List.Pairwise.nil, fun y hy => by simp at hy, fun c => by simp, fun c => by simp, by simp, Nat.zero_le _, Nat.zero_le _, fun a ha => by simp at ha, fun b hb => by simp at hb⟩
theorem drop_mem {l : List Nat} {i : Nat} (h : i < l.length) : l.drop i = l.getD i 0 :: l.drop (i + 1) := by
  rw [List.drop_eq_getElem_cons h, getD_g h]
theorem take_mem {l : List Nat} {i c : Nat} (h : i < l.length) : c ∈ l.take (i + 1) ↔ c ∈ l.take i ∨ c = l.getD i 0 := by
  rw [take_succ_of h, getD_g h, List.mem_append, List.mem_singleton]
theorem mem_td {l : List Nat} {i c : Nat} : c ∈ l ↔ c ∈ l.take i ∨ c ∈ l.drop i := by rw [← List.mem_append, List.take_append_drop]
theorem drop_lt {l : List Nat} (hs : srt l) {i : Nat} (h : i < l.length) {c : Nat} (hc : c ∈ l.drop (i + 1)) : l.getD i 0 < c := by
  have := List.Pairwise.drop (i := i) hs
  rw [drop_mem h] at this
  exact (List.pairwise_cons.mp this).1 c hc
theorem take_lt {l : List Nat} (hs : srt l) {i : Nat} (h : i < l.length) {c : Nat} (hc : c ∈ l.take i) : c < l.getD i 0 := by
  have := hs
  rw [← List.take_append_drop i l] at this
  exact (List.pairwise_append.mp this).2.2 c hc _ (by rw [drop_mem h]; simp)
theorem mg_M {g : Nat} {l1 l2 : List Nat} {i j : Nat} {M : List Cg} (h : mgR g l1 l2 i j M) {y : Cg} (hy : y ∈ M) : y.1 = g ∧ (y.2.1 ∈ l1.take i ∨ y.2.1 ∈ l2.take j) := by
  have h1 := h.2.1 y hy
  obtain ⟨g', c, b⟩ := y
  have h1 : g' = g := h1
  subst h1
  refine ⟨rfl, ?_⟩
  cases b with
  | true => exact Or.inr ((h.2.2.1 c).mp hy).1
  | false => exact Or.inl ((h.2.2.2.1 c).mp hy).1
theorem mg_sr {g : Nat} {l1 l2 : List Nat} {i j c : Nat} {b : Bool} {M : List Cg} (h : mgR g l1 l2 i j M) (h1 : ∀ a ∈ l1.take i, a < c) (h2 : ∀ a ∈ l2.take j, a < c) : srC (M ++ [(g, c, b)]) := by
  unfold srC
  rw [List.pairwise_append]
  refine ⟨h.1, List.pairwise_singleton _ _, fun y hy z hz => ?_⟩
  rw [List.mem_singleton] at hz
  subst hz
  have := mg_M h hy
  refine Or.inr ⟨this.1, ?_⟩
  rcases this.2 with q | q
  · exact h1 _ q
  · exact h2 _ q
theorem mg_a {g : Nat} {l1 l2 : List Nat} {i j : Nat} {M : List Cg} (s1 : srt l1) (s2 : srt l2) (h : mgR g l1 l2 i j M) (hi : i < l1.length) (hc : ∀ b ∈ l2.drop j, l1.getD i 0 < b) : mgR g l1 l2 (i + 1) j (M ++ [(g, l1.getD i 0, false)]) := by
  have hcd : l1.getD i 0 ∈ l1.drop i := by rw [drop_mem hi]; simp
  have hn2 : l1.getD i 0 ∉ l2 := fun q => by
    rcases mem_td (i := j).mp q with r | r
    · have := h.2.2.2.2.2.2.2.2 _ r _ hcd; omega
    · have := hc _ r; omega
  refine ⟨mg_sr h (fun a ha => take_lt s1 hi ha) (fun a ha => h.2.2.2.2.2.2.2.2 a ha _ hcd), fun y hy => ?_, fun c => ?_, fun c => ?_, by rw [List.length_append, List.length_singleton]; have := h.2.2.2.2.1; omega, by omega, h.2.2.2.2.2.2.1, fun a ha b hb => ?_, fun b hb a ha => ?_⟩
  · rcases List.mem_append.mp hy with q | q
    · exact h.2.1 y q
    · rw [List.mem_singleton] at q; rw [q]
  · rw [List.mem_append, List.mem_singleton, ← h.2.2.1 c]
    exact ⟨fun q => q.elim id (fun q => by simp at q), Or.inl⟩
  · rw [List.mem_append, List.mem_singleton, h.2.2.2.1 c, take_mem hi]
    constructor
    · rintro (q | q)
      · exact ⟨Or.inl q.1, q.2⟩
      · simp at q; exact ⟨Or.inr q, by rw [q]; exact hn2⟩
    · rintro ⟨q | q, r⟩
      · exact Or.inl ⟨q, r⟩
      · exact Or.inr (by simp [q])
  · rcases (take_mem hi).mp ha with q | q
    · exact h.2.2.2.2.2.2.2.1 a q b hb
    · rw [q]; exact hc b hb
  · exact h.2.2.2.2.2.2.2.2 b hb a (by rw [drop_mem hi]; simp [ha])
theorem mg_b {g : Nat} {l1 l2 : List Nat} {i j : Nat} {M : List Cg} (s1 : srt l1) (s2 : srt l2) (h : mgR g l1 l2 i j M) (hj : j < l2.length) (hc : ∀ a ∈ l1.drop i, l2.getD j 0 < a) : mgR g l1 l2 i (j + 1) (M ++ [(g, l2.getD j 0, true)]) := by
  have hcd : l2.getD j 0 ∈ l2.drop j := by rw [drop_mem hj]; simp
  have hn1 : l2.getD j 0 ∉ l1 := fun q => by
    rcases mem_td (i := i).mp q with r | r
    · have := h.2.2.2.2.2.2.2.1 _ r _ hcd; omega
    · have := hc _ r; omega
  refine ⟨mg_sr h (fun a ha => h.2.2.2.2.2.2.2.1 a ha _ hcd) (fun a ha => take_lt s2 hj ha), fun y hy => ?_, fun c => ?_, fun c => ?_, by rw [List.length_append, List.length_singleton]; have := h.2.2.2.2.1; omega, h.2.2.2.2.2.1, by omega, fun a ha b hb => ?_, fun b hb a ha => ?_⟩
  · rcases List.mem_append.mp hy with q | q
    · exact h.2.1 y q
    · rw [List.mem_singleton] at q; rw [q]
  · rw [List.mem_append, List.mem_singleton, h.2.2.1 c, take_mem hj]
    constructor
    · rintro (q | q)
      · exact ⟨Or.inl q.1, q.2⟩
      · simp at q; exact ⟨Or.inr q, by rw [q]; exact hn1⟩
    · rintro ⟨q | q, r⟩
      · exact Or.inl ⟨q, r⟩
      · exact Or.inr (by simp [q])
  · rw [List.mem_append, List.mem_singleton, ← h.2.2.2.1 c]
    exact ⟨fun q => q.elim id (fun q => by simp at q), Or.inl⟩
  · exact h.2.2.2.2.2.2.2.1 a ha b (by rw [drop_mem hj]; simp [hb])
  · rcases (take_mem hj).mp hb with q | q
    · exact h.2.2.2.2.2.2.2.2 b q a ha
    · rw [q]; exact hc a ha
theorem mg_c {g : Nat} {l1 l2 : List Nat} {i j : Nat} {M : List Cg} (s1 : srt l1) (s2 : srt l2) (h : mgR g l1 l2 i j M) (hi : i < l1.length) (hj : j < l2.length) (e : l1.getD i 0 = l2.getD j 0) : mgR g l1 l2 (i + 1) (j + 1) M := by
  have m1 : l2.getD j 0 ∈ l1 := by rw [← e]; exact getD_mem hi
  have m2 : l1.getD i 0 ∈ l2 := by rw [e]; exact getD_mem hj
  refine ⟨h.1, h.2.1, fun c => ?_, fun c => ?_, by have := h.2.2.2.2.1; omega, by omega, by omega, fun a ha b hb => ?_, fun b hb a ha => ?_⟩
  · rw [h.2.2.1 c, take_mem hj]
    exact ⟨fun q => ⟨Or.inl q.1, q.2⟩, fun q => ⟨q.1.resolve_right (fun r => q.2 (by rw [r]; exact m1)), q.2⟩⟩
  · rw [h.2.2.2.1 c, take_mem hi]
    exact ⟨fun q => ⟨Or.inl q.1, q.2⟩, fun q => ⟨q.1.resolve_right (fun r => q.2 (by rw [r]; exact m2)), q.2⟩⟩
  · rcases (take_mem hi).mp ha with q | q
    · exact h.2.2.2.2.2.2.2.1 a q b (by rw [drop_mem hj]; simp [hb])
    · rw [q, e]; exact drop_lt s2 hj hb
  · rcases (take_mem hj).mp hb with q | q
    · exact h.2.2.2.2.2.2.2.2 b q a (by rw [drop_mem hi]; simp [ha])
    · rw [q, ← e]; exact drop_lt s1 hi ha
theorem drop_all {l : List Nat} (hs : srt l) {j c : Nat} (h : j = l.length ∨ c < l.getD j 0) (hj : j ≤ l.length) : ∀ b ∈ l.drop j, c < b := by
  intro b hb
  rcases h with q | q
  · rw [q, List.drop_length] at hb; simp at hb
  · by_cases r : j < l.length
    · rw [drop_mem r] at hb
      rcases List.mem_cons.mp hb with s | s
      · rw [s]; exact q
      · have := drop_lt hs r s; omega
    · rw [List.drop_eq_nil_of_le (by omega)] at hb; simp at hb
def mgI (iv av : Nat → Nat → Int32) (g : Nat) (l1 l2 : List Nat) (L : List Cg) (n : Nat) (t4 t5 : Int32) (iv' av' : Nat → Nat → Int32) : Prop := FH iv av iv' av' ∧ ∃ i j M, t4 = nI i ∧ t5 = nI j ∧ n ≤ i + j ∧ mgR g l1 l2 i j M ∧ CHc iv' av' (L ++ M)
def cgP (iv av : Nat → Nat → Int32) (g : Nat) (l1 l2 : List Nat) (L : List Cg) (iv' av' : Nat → Nat → Int32) : Prop := FH iv av iv' av' ∧ ∃ M, mgR g l1 l2 l1.length l2.length M ∧ CHc iv' av' (L ++ M)
end
section
set_option maxHeartbeats 2000000 in
set_option maxRecDepth 10000 in
theorem hX0_note {l : Launch} {D : va_G} {aC : Nat → ClassId} {b0 sz : Nat} {x : Nat} {iv av : Nat → Nat → Int32} {R : ZM} {g9 c9 : Nat} {b9 : Bool} {L : List Cg} (h : CHc iv av L) (hl4 : L.length < 240) : Ct l D aC b0 yX0_note cX0_note 4 none 0 0 0 [.ref (x + 57), .int (nI g9), .int (nI c9), .int (tI b9)] (cm aC x iv av R) sz (zpN (fun iv av => cm aC x iv av R) (ncP iv av L (g9, c9, b9))) := by
  refine Ct.of (by decide) (Nat.le_of_ble_eq_true rfl) ?_
  intro p e s m below meth c ls C hr hlk hnm hl
  have hl : lv_has ls 4 [(0, .ref (x + 57)), (1, .int (nI g9)), (2, .int (nI c9)), (3, .int (tI b9))] := hl
  obtain ⟨hx, hb, -, -, -⟩ := id C
  refine zz (fun _ _ => lv_aload_n hx hb dX0_note_0 rfl (lv_at hl 0 rfl)) ?_
  refine z_get (v := .int (iv 57 3)) C fd_X0_21 (rd_16 (by decide)) rfl dX0_note_1 ?_
  refine zval (v' := .int (nI L.length)) (congrArg Value.int h.1) ?_
  refine zz (fun _ _ => lv_sipush (v := 240) hx hb dX0_note_4 (by decide)) ?_
  refine zval (v' := .int (nI 240)) (congrArg Value.int rfl) ?_
  refine zb (fun _ _ => lv_icmp_ge (tgt := 50) hx hb dX0_note_7 (by decide)) (fun c_1 => ?_) (fun c_1 => ?_)
  · exact absurd c_1 (nI_ge (by omega) (by omega))
  · refine zz (fun _ _ => lv_aload_n hx hb dX0_note_10 rfl (lv_at hl 0 rfl)) ?_
    refine z_get (v := .ref (x + 58)) C fd_X0_9 (rd_16 (by decide)) rfl dX0_note_11 ?_
    refine zz (fun _ _ => lv_aload_n hx hb dX0_note_14 rfl (lv_at hl 0 rfl)) ?_
    refine z_get (v := .int (iv 57 3)) C fd_X0_21 (rd_16 (by decide)) rfl dX0_note_15 ?_
    refine zval (v' := .int (nI L.length)) (congrArg Value.int h.1) ?_
    refine zz (fun _ _ => lv_iload_n hx hb dX0_note_18 rfl (lv_at hl 1 rfl)) ?_
    refine z_iast (f := av 58) C (rd_17 (by decide)) (by first | assumption | (apply vp_in_nI <;> omega)) dX0_note_19 ?_
    refine zeq (wr_17 (by decide)) ?_
    refine zz (fun _ _ => lv_aload_n hx hb dX0_note_20 rfl (lv_at hl 0 rfl)) ?_
    refine z_get (v := .ref (x + 59)) C fd_X0_15 (rd_16 (by decide)) rfl dX0_note_21 ?_
    refine zz (fun _ _ => lv_aload_n hx hb dX0_note_24 rfl (lv_at hl 0 rfl)) ?_
    refine z_get (v := .int (iv 57 3)) C fd_X0_21 (rd_16 (by decide)) rfl dX0_note_25 ?_
    refine zval (v' := .int (nI L.length)) (congrArg Value.int h.1) ?_
    refine zz (fun _ _ => lv_iload_n hx hb dX0_note_28 rfl (lv_at hl 2 rfl)) ?_
    refine z_iast (n := 240) (f := av 59) C ((rd_17 (by decide)).trans (by simp [u1])) (by first | assumption | (apply vp_in_nI <;> omega)) dX0_note_29 ?_
    refine zeq (wr_17 (by decide)) ?_
    refine zz (fun _ _ => lv_aload_n hx hb dX0_note_30 rfl (lv_at hl 0 rfl)) ?_
    refine z_get (v := .ref (x + 60)) C fd_X0_18 (rd_16 (by decide)) rfl dX0_note_31 ?_
    refine zz (fun _ _ => lv_aload_n hx hb dX0_note_34 rfl (lv_at hl 0 rfl)) ?_
    refine z_get (v := .int (iv 57 3)) C fd_X0_21 (rd_16 (by decide)) rfl dX0_note_35 ?_
    refine zval (v' := .int (nI L.length)) (congrArg Value.int h.1) ?_
    refine zz (fun _ _ => lv_iload_n hx hb dX0_note_38 rfl (lv_at hl 3 rfl)) ?_
    refine z_iast (n := 240) (f := av 60) C ((rd_17 (by decide)).trans (by simp [u1])) (by first | assumption | (apply vp_in_nI <;> omega)) dX0_note_39 ?_
    refine zeq (wr_17 (by decide)) ?_
    refine zz (fun _ _ => lv_aload_n hx hb dX0_note_40 rfl (lv_at hl 0 rfl)) ?_
    refine zz (fun _ _ => lv_dup hx hb dX0_note_41 rfl) ?_
    refine z_get (v := .int (iv 57 3)) C fd_X0_21 (rd_16 (by decide)) rfl dX0_note_42 ?_
    refine zval (v' := .int (nI L.length)) (congrArg Value.int h.1) ?_
    refine zz (fun _ _ => lv_iconst (v := 1) hx hb dX0_note_45 (by decide)) ?_
    refine zz (fun _ _ => lv_iadd hx hb dX0_note_46) ?_
    refine zval (v' := .int (nI (L.length + 1))) (congrArg Value.int (nI_1 _)) ?_
    refine z_put C fp_X0_21 (fun h => by cases h) (rd_16 (by decide)) (Nat.le_of_ble_eq_true rfl) rfl rfl dX0_note_47 ?_
    refine zeq (wr_16_3 (by decide)) ?_
    exact z_vret C hr hlk dX0_note_50 (zpN_mk (a := (u2 iv 57 3 (nI (L.length + 1)))) (b := (u1 (u1 (u1 av 58 (upd (av 58) (Int32.toNatClampNeg (nI L.length)) (nI g9))) 59 (upd (av 59) (Int32.toNatClampNeg (nI L.length)) (nI c9))) 60 (upd (av 60) (Int32.toNatClampNeg (nI L.length)) (tI b9)))) (nc_end h hl4))
theorem ck_b {g : Nat} (h : g < 7) : ck (42 + 1 + 2 * g) = 6 := kp_5 (k := 42) (by decide) h
set_option maxHeartbeats 2000000 in
set_option maxRecDepth 10000 in
theorem hX0_compareGraphs {l : Launch} {D : va_G} {aC : Nat → ClassId} {b0 sz : Nat} {x : Nat} {iv av : Nat → Nat → Int32} {R : ZM} {g9 : Nat} {p8 p9 : Nat → Bool} {t8 t9 : Bool} {L : List Cg} (hg : g9 < 7) (h : CHc iv av L) (hl4 : L.length + ((cds p8).length + (cds p9).length) ≤ 240) (hG1 : GC iv av (42 + 1 + 2 * g9) p8 t8) (hG2 : GC iv av (4 + 1 + 2 * g9) p9 t9) (ho1 : ∀ c, p8 c = true → okc c) (ho2 : ∀ c, p9 c = true → okc c) (hn1 : (cds p8).length ≤ 120) (hn2 : (cds p9).length ≤ 120) : Ct l D aC b0 yX0_compareGraphs cX0_compareGraphs 6 none 1 0 0 [.ref (x + 57), .int (nI g9), .ref (x + (42 + 1 + 2 * g9)), .ref (x + (4 + 1 + 2 * g9))] (cm aC x iv av R) sz (zpN (fun iv av => cm aC x iv av R) (cgP iv av g9 (cds p8) (cds p9) L)) := by
  refine Ct.of (by decide) (Nat.le_of_ble_eq_true rfl) ?_
  intro p e s m below meth c ls C hr hlk hnm hl
  have hl : lv_has ls 6 [(0, .ref (x + 57)), (1, .int (nI g9)), (2, .ref (x + (42 + 1 + 2 * g9))), (3, .ref (x + (4 + 1 + 2 * g9)))] := hl
  obtain ⟨hx, hb, -, -, -⟩ := id C
  have s1 := cds_srt p8
  have s2 := cds_srt p9
  refine zz (fun _ _ => lv_iconst (v := 0) hx hb dX0_compareGraphs_0 (by decide)) ?_
  refine zs (fun _ _ => lv_istore (lv' := [(4, .int (0)), (0, .ref (x + 57)), (1, .int (nI g9)), (2, .ref (x + (42 + 1 + 2 * g9))), (3, .ref (x + (4 + 1 + 2 * g9)))]) hx hb dX0_compareGraphs_1 hl (by decide) rfl) (fun ls hl => ?_)
  refine zz (fun _ _ => lv_iconst (v := 0) hx hb dX0_compareGraphs_3 (by decide)) ?_
  refine zs (fun _ _ => lv_istore (lv' := [(5, .int (0)), (4, .int (0)), (0, .ref (x + 57)), (1, .int (nI g9)), (2, .ref (x + (42 + 1 + 2 * g9))), (3, .ref (x + (4 + 1 + 2 * g9)))]) hx hb dX0_compareGraphs_4 hl (by decide) rfl) (fun ls hl => ?_)
  have hl0 := lv_sub hl [2, 3, 4, 5, 1, 0] rfl
  refine z_loop (γ := (Nat → Nat → Int32) × (Nat → Nat → Int32) × Int32 × Int32) (G := fun a => cm aC x a.1 a.2.1 R) (I := fun j a => mgI iv av g9 (cds p8) (cds p9) L j a.2.2.1 a.2.2.2 a.1 a.2.1) (lv := fun j a => [(0, .ref (x + 57)), (1, .int (nI g9)), (2, .ref (x + (42 + 1 + 2 * g9))), (3, .ref (x + (4 + 1 + 2 * g9))), (4, .int (a.2.2.1)), (5, .int (a.2.2.2))]) ((cds p8).length + (cds p9).length) ?_ ?_ (iv, av, 0, 0) _ _ ⟨FH.refl, 0, 0, [], rfl, rfl, Nat.zero_le _, mg_0, by rw [List.append_nil]; exact h⟩ hl0
  · intro j1 a1 sz ls hj1 hI1 hl ih1
    obtain ⟨iv1, av1, t1_4, t1_5⟩ := a1
    dsimp only at hI1 hl ih1
    refine zeq (M' := (cm aC x iv1 av1 R)) rfl ?_
    obtain ⟨hf8, i9, j9, M9, e4, e5, hn9, hm9, hc9⟩ := id hI1
    have hG11 := hf8.G (by omega) hG1
    have hG21 := hf8.G (by omega) hG2
    have hil9 := hm9.2.2.2.2.2.1
    have hjl9 := hm9.2.2.2.2.2.2.1
    have hml9 := hm9.2.2.2.2.1
    refine zz (fun _ _ => lv_iload hx hb dX0_compareGraphs_6 (lv_at hl 4 rfl)) ?_
    refine zval (v' := .int (nI i9)) (congrArg Value.int e4) ?_
    refine zz (fun _ _ => lv_aload_n hx hb dX0_compareGraphs_8 rfl (lv_at hl 2 rfl)) ?_
    refine z_get (v := .int (iv1 (42 + 1 + 2 * g9) 1)) C fd_X0_35 (rd_6 (ck_b hg)) rfl dX0_compareGraphs_9 ?_
    refine zval (v' := .int (nI (cds p8).length)) (congrArg Value.int hG11.1) ?_
    refine zb (fun _ _ => lv_icmp_lt (tgt := 24) hx hb dX0_compareGraphs_12 (by decide)) (fun c_2 => ?_) (fun c_2 => ?_)
    · have hi9 : i9 < (cds p8).length := (nI_ltI (by omega) (by omega)).mp c_2
      have hb1 := cds_lt ho1 hi9
      have k1 : ¬ nI (cds p8).length ≤ nI i9 := nI_ge hi9 (by omega)
      by_cases hj9 : j9 < (cds p9).length
      · have hb2 := cds_lt ho2 hj9
        have k2 : ¬ nI (cds p9).length ≤ nI j9 := nI_ge hj9 (by omega)
        rcases Nat.lt_trichotomy ((cds p8).getD i9 0) ((cds p9).getD j9 0) with r9 | r9 | r9
        · have ka : ¬ nI ((cds p9).getD j9 0) ≤ nI ((cds p8).getD i9 0) := nI_ge r9 (by omega)
          refine zz (fun _ _ => lv_iload hx hb dX0_compareGraphs_24 (lv_at hl 5 rfl)) ?_
          refine zval (v' := .int (nI j9)) (congrArg Value.int e5) ?_
          refine zz (fun _ _ => lv_aload_n hx hb dX0_compareGraphs_26 rfl (lv_at hl 3 rfl)) ?_
          refine z_get (v := .int (iv1 (4 + 1 + 2 * g9) 1)) C fd_X0_35 (rd_6 (ck_g hg)) rfl dX0_compareGraphs_27 ?_
          refine zval (v' := .int (nI (cds p9).length)) (congrArg Value.int hG21.1) ?_
          refine zb (fun _ _ => lv_icmp_ge (tgt := 59) hx hb dX0_compareGraphs_30 (by decide)) (fun c_3 => ?_) (fun c_3 => ?_)
          · exact absurd c_3 k2
          · refine zz (fun _ _ => lv_iload hx hb dX0_compareGraphs_33 (lv_at hl 4 rfl)) ?_
            refine zval (v' := .int (nI i9)) (congrArg Value.int e4) ?_
            refine zz (fun _ _ => lv_aload_n hx hb dX0_compareGraphs_35 rfl (lv_at hl 2 rfl)) ?_
            refine z_get (v := .int (iv1 (42 + 1 + 2 * g9) 1)) C fd_X0_35 (rd_6 (ck_b hg)) rfl dX0_compareGraphs_36 ?_
            refine zval (v' := .int (nI (cds p8).length)) (congrArg Value.int hG11.1) ?_
            refine zb (fun _ _ => lv_icmp_ge (tgt := 78) hx hb dX0_compareGraphs_39 (by decide)) (fun c_4 => ?_) (fun c_4 => ?_)
            · exact absurd c_4 k1
            · refine zz (fun _ _ => lv_aload_n hx hb dX0_compareGraphs_42 rfl (lv_at hl 2 rfl)) ?_
              refine z_get (v := .ref (x + ((42 + 1 + 2 * g9) + 1))) C fd_X0_40 (rd_6 (ck_b hg)) rfl dX0_compareGraphs_43 ?_
              refine zz (fun _ _ => lv_iload hx hb dX0_compareGraphs_46 (lv_at hl 4 rfl)) ?_
              refine zval (v' := .int (nI i9)) (congrArg Value.int e4) ?_
              refine z_iald (f := av1 ((42 + 1 + 2 * g9) + 1)) C (rd_7 (nb_6_1 (ck_b hg))) (by first | assumption | (apply vp_in_nI <;> omega)) dX0_compareGraphs_48 ?_
              refine zval (v' := .int (nI ((cds p8).getD i9 0))) (congrArg Value.int (rdI (hG11.2.2 i9 hi9) (by omega))) ?_
              refine zz (fun _ _ => lv_aload_n hx hb dX0_compareGraphs_49 rfl (lv_at hl 3 rfl)) ?_
              refine z_get (v := .ref (x + ((4 + 1 + 2 * g9) + 1))) C fd_X0_40 (rd_6 (ck_g hg)) rfl dX0_compareGraphs_50 ?_
              refine zz (fun _ _ => lv_iload hx hb dX0_compareGraphs_53 (lv_at hl 5 rfl)) ?_
              refine zval (v' := .int (nI j9)) (congrArg Value.int e5) ?_
              refine z_iald (f := av1 ((4 + 1 + 2 * g9) + 1)) C (rd_7 (nb_6_1 (ck_g hg))) (by first | assumption | (apply vp_in_nI <;> omega)) dX0_compareGraphs_55 ?_
              refine zval (v' := .int (nI ((cds p9).getD j9 0))) (congrArg Value.int (rdI (hG21.2.2 j9 hj9) (by omega))) ?_
              refine zb (fun _ _ => lv_icmp_ge (tgt := 78) hx hb dX0_compareGraphs_56 (by decide)) (fun c_5 => ?_) (fun c_5 => ?_)
              · exact absurd c_5 ka
              · refine zz (fun _ _ => lv_aload_n hx hb dX0_compareGraphs_59 rfl (lv_at hl 0 rfl)) ?_
                refine zz (fun _ _ => lv_iload_n hx hb dX0_compareGraphs_60 rfl (lv_at hl 1 rfl)) ?_
                refine zz (fun _ _ => lv_aload_n hx hb dX0_compareGraphs_61 rfl (lv_at hl 2 rfl)) ?_
                refine z_get (v := .ref (x + ((42 + 1 + 2 * g9) + 1))) C fd_X0_40 (rd_6 (ck_b hg)) rfl dX0_compareGraphs_62 ?_
                refine zz (fun _ _ => lv_iload hx hb dX0_compareGraphs_65 (lv_at hl 4 rfl)) ?_
                refine zval (v' := .int (nI i9)) (congrArg Value.int e4) ?_
                refine z_iald (f := av1 ((42 + 1 + 2 * g9) + 1)) C (rd_7 (nb_6_1 (ck_b hg))) (by first | assumption | (apply vp_in_nI <;> omega)) dX0_compareGraphs_67 ?_
                refine zval (v' := .int (nI ((cds p8).getD i9 0))) (congrArg Value.int (rdI (hG11.2.2 i9 hi9) (by omega))) ?_
                refine zz (fun _ _ => lv_iconst (v := 0) hx hb dX0_compareGraphs_68 (by decide)) ?_
                refine zval (v' := .int (tI false)) (congrArg Value.int rfl) ?_
                refine zqVN (As := [.int (nI g9), .int (nI ((cds p8).getD i9 0)), .int (tI false)]) (rest := []) C hl.1 lk_X0_43 (hX0_note hc9 (by rw [List.length_append]; omega)) (rd_16 (by decide)) rfl rfl rfl (Nat.le_of_ble_eq_true rfl) ⟨by decide, by decide, by decide, by decide⟩ dX0_compareGraphs_69 (fun iv6 av6 sz h6 => ?_)
                refine zeq (M' := (cm aC x iv6 av6 R)) rfl ?_
                refine zs (fun _ _ => lv_iinc (v := t1_4 + 1) (lv' := [(4, .int (t1_4 + 1)), (0, .ref (x + 57)), (1, .int (nI g9)), (2, .ref (x + (42 + 1 + 2 * g9))), (3, .ref (x + (4 + 1 + 2 * g9))), (5, .int (t1_5))]) hx hb dX0_compareGraphs_72 hl (k := 4) rfl rfl (by decide) rfl) (fun ls hl => ?_)
                refine zz (fun _ _ => lv_goto (tgt := 6) hx hb dX0_compareGraphs_75 (by decide)) ?_
                have hl := lv_sub hl [1, 2, 3, 4, 0, 5] rfl
                try simp only [nI_1] at hl
                exact ih1 (iv6, av6, t1_4 + 1, t1_5) _ _ ⟨hf8.trans h6.1, i9 + 1, j9, M9 ++ [(g9, (cds p8).getD i9 0, false)], by rw [e4, nI_1], e5, by omega, mg_a s1 s2 hm9 hi9 (drop_all s2 (Or.inr r9) hjl9), by rw [← List.append_assoc]; exact h6.2⟩ hl
        · have ka : nI ((cds p9).getD j9 0) ≤ nI ((cds p8).getD i9 0) := nI_le (by omega) (by omega)
          have kb : nI ((cds p8).getD i9 0) ≤ nI ((cds p9).getD j9 0) := nI_le (by omega) (by omega)
          refine zz (fun _ _ => lv_iload hx hb dX0_compareGraphs_24 (lv_at hl 5 rfl)) ?_
          refine zval (v' := .int (nI j9)) (congrArg Value.int e5) ?_
          refine zz (fun _ _ => lv_aload_n hx hb dX0_compareGraphs_26 rfl (lv_at hl 3 rfl)) ?_
          refine z_get (v := .int (iv1 (4 + 1 + 2 * g9) 1)) C fd_X0_35 (rd_6 (ck_g hg)) rfl dX0_compareGraphs_27 ?_
          refine zval (v' := .int (nI (cds p9).length)) (congrArg Value.int hG21.1) ?_
          refine zb (fun _ _ => lv_icmp_ge (tgt := 59) hx hb dX0_compareGraphs_30 (by decide)) (fun c_7 => ?_) (fun c_7 => ?_)
          · exact absurd c_7 k2
          · refine zz (fun _ _ => lv_iload hx hb dX0_compareGraphs_33 (lv_at hl 4 rfl)) ?_
            refine zval (v' := .int (nI i9)) (congrArg Value.int e4) ?_
            refine zz (fun _ _ => lv_aload_n hx hb dX0_compareGraphs_35 rfl (lv_at hl 2 rfl)) ?_
            refine z_get (v := .int (iv1 (42 + 1 + 2 * g9) 1)) C fd_X0_35 (rd_6 (ck_b hg)) rfl dX0_compareGraphs_36 ?_
            refine zval (v' := .int (nI (cds p8).length)) (congrArg Value.int hG11.1) ?_
            refine zb (fun _ _ => lv_icmp_ge (tgt := 78) hx hb dX0_compareGraphs_39 (by decide)) (fun c_8 => ?_) (fun c_8 => ?_)
            · exact absurd c_8 k1
            · refine zz (fun _ _ => lv_aload_n hx hb dX0_compareGraphs_42 rfl (lv_at hl 2 rfl)) ?_
              refine z_get (v := .ref (x + ((42 + 1 + 2 * g9) + 1))) C fd_X0_40 (rd_6 (ck_b hg)) rfl dX0_compareGraphs_43 ?_
              refine zz (fun _ _ => lv_iload hx hb dX0_compareGraphs_46 (lv_at hl 4 rfl)) ?_
              refine zval (v' := .int (nI i9)) (congrArg Value.int e4) ?_
              refine z_iald (f := av1 ((42 + 1 + 2 * g9) + 1)) C (rd_7 (nb_6_1 (ck_b hg))) (by first | assumption | (apply vp_in_nI <;> omega)) dX0_compareGraphs_48 ?_
              refine zval (v' := .int (nI ((cds p8).getD i9 0))) (congrArg Value.int (rdI (hG11.2.2 i9 hi9) (by omega))) ?_
              refine zz (fun _ _ => lv_aload_n hx hb dX0_compareGraphs_49 rfl (lv_at hl 3 rfl)) ?_
              refine z_get (v := .ref (x + ((4 + 1 + 2 * g9) + 1))) C fd_X0_40 (rd_6 (ck_g hg)) rfl dX0_compareGraphs_50 ?_
              refine zz (fun _ _ => lv_iload hx hb dX0_compareGraphs_53 (lv_at hl 5 rfl)) ?_
              refine zval (v' := .int (nI j9)) (congrArg Value.int e5) ?_
              refine z_iald (f := av1 ((4 + 1 + 2 * g9) + 1)) C (rd_7 (nb_6_1 (ck_g hg))) (by first | assumption | (apply vp_in_nI <;> omega)) dX0_compareGraphs_55 ?_
              refine zval (v' := .int (nI ((cds p9).getD j9 0))) (congrArg Value.int (rdI (hG21.2.2 j9 hj9) (by omega))) ?_
              refine zb (fun _ _ => lv_icmp_ge (tgt := 78) hx hb dX0_compareGraphs_56 (by decide)) (fun c_9 => ?_) (fun c_9 => ?_)
              · refine zz (fun _ _ => lv_iload hx hb dX0_compareGraphs_78 (lv_at hl 4 rfl)) ?_
                refine zval (v' := .int (nI i9)) (congrArg Value.int e4) ?_
                refine zz (fun _ _ => lv_aload_n hx hb dX0_compareGraphs_80 rfl (lv_at hl 2 rfl)) ?_
                refine z_get (v := .int (iv1 (42 + 1 + 2 * g9) 1)) C fd_X0_35 (rd_6 (ck_b hg)) rfl dX0_compareGraphs_81 ?_
                refine zval (v' := .int (nI (cds p8).length)) (congrArg Value.int hG11.1) ?_
                refine zb (fun _ _ => lv_icmp_ge (tgt := 104) hx hb dX0_compareGraphs_84 (by decide)) (fun c_10 => ?_) (fun c_10 => ?_)
                · exact absurd c_10 k1
                · refine zz (fun _ _ => lv_aload_n hx hb dX0_compareGraphs_87 rfl (lv_at hl 3 rfl)) ?_
                  refine z_get (v := .ref (x + ((4 + 1 + 2 * g9) + 1))) C fd_X0_40 (rd_6 (ck_g hg)) rfl dX0_compareGraphs_88 ?_
                  refine zz (fun _ _ => lv_iload hx hb dX0_compareGraphs_91 (lv_at hl 5 rfl)) ?_
                  refine zval (v' := .int (nI j9)) (congrArg Value.int e5) ?_
                  refine z_iald (f := av1 ((4 + 1 + 2 * g9) + 1)) C (rd_7 (nb_6_1 (ck_g hg))) (by first | assumption | (apply vp_in_nI <;> omega)) dX0_compareGraphs_93 ?_
                  refine zval (v' := .int (nI ((cds p9).getD j9 0))) (congrArg Value.int (rdI (hG21.2.2 j9 hj9) (by omega))) ?_
                  refine zz (fun _ _ => lv_aload_n hx hb dX0_compareGraphs_94 rfl (lv_at hl 2 rfl)) ?_
                  refine z_get (v := .ref (x + ((42 + 1 + 2 * g9) + 1))) C fd_X0_40 (rd_6 (ck_b hg)) rfl dX0_compareGraphs_95 ?_
                  refine zz (fun _ _ => lv_iload hx hb dX0_compareGraphs_98 (lv_at hl 4 rfl)) ?_
                  refine zval (v' := .int (nI i9)) (congrArg Value.int e4) ?_
                  refine z_iald (f := av1 ((42 + 1 + 2 * g9) + 1)) C (rd_7 (nb_6_1 (ck_b hg))) (by first | assumption | (apply vp_in_nI <;> omega)) dX0_compareGraphs_100 ?_
                  refine zval (v' := .int (nI ((cds p8).getD i9 0))) (congrArg Value.int (rdI (hG11.2.2 i9 hi9) (by omega))) ?_
                  refine zb (fun _ _ => lv_icmp_ge (tgt := 123) hx hb dX0_compareGraphs_101 (by decide)) (fun c_11 => ?_) (fun c_11 => ?_)
                  · refine zs (fun _ _ => lv_iinc (v := t1_4 + 1) (lv' := [(4, .int (t1_4 + 1)), (0, .ref (x + 57)), (1, .int (nI g9)), (2, .ref (x + (42 + 1 + 2 * g9))), (3, .ref (x + (4 + 1 + 2 * g9))), (5, .int (t1_5))]) hx hb dX0_compareGraphs_123 hl (k := 4) rfl rfl (by decide) rfl) (fun ls hl => ?_)
                    refine zs (fun _ _ => lv_iinc (v := t1_5 + 1) (lv' := [(5, .int (t1_5 + 1)), (4, .int (t1_4 + 1)), (0, .ref (x + 57)), (1, .int (nI g9)), (2, .ref (x + (42 + 1 + 2 * g9))), (3, .ref (x + (4 + 1 + 2 * g9)))]) hx hb dX0_compareGraphs_126 hl (k := 5) rfl rfl (by decide) rfl) (fun ls hl => ?_)
                    refine zz (fun _ _ => lv_goto (tgt := 6) hx hb dX0_compareGraphs_129 (by decide)) ?_
                    have hl := lv_sub hl [2, 3, 4, 5, 1, 0] rfl
                    try simp only [nI_1] at hl
                    exact ih1 (iv1, av1, t1_4 + 1, t1_5 + 1) _ _ ⟨hf8, i9 + 1, j9 + 1, M9, by rw [e4, nI_1], by rw [e5, nI_1], by omega, mg_c s1 s2 hm9 hi9 hj9 r9, hc9⟩ hl
                  · exact absurd kb c_11
              · exact absurd ka c_9
        · have ka : nI ((cds p9).getD j9 0) ≤ nI ((cds p8).getD i9 0) := nI_le (by omega) (by omega)
          have kb : ¬ nI ((cds p8).getD i9 0) ≤ nI ((cds p9).getD j9 0) := nI_ge r9 (by omega)
          refine zz (fun _ _ => lv_iload hx hb dX0_compareGraphs_24 (lv_at hl 5 rfl)) ?_
          refine zval (v' := .int (nI j9)) (congrArg Value.int e5) ?_
          refine zz (fun _ _ => lv_aload_n hx hb dX0_compareGraphs_26 rfl (lv_at hl 3 rfl)) ?_
          refine z_get (v := .int (iv1 (4 + 1 + 2 * g9) 1)) C fd_X0_35 (rd_6 (ck_g hg)) rfl dX0_compareGraphs_27 ?_
          refine zval (v' := .int (nI (cds p9).length)) (congrArg Value.int hG21.1) ?_
          refine zb (fun _ _ => lv_icmp_ge (tgt := 59) hx hb dX0_compareGraphs_30 (by decide)) (fun c_12 => ?_) (fun c_12 => ?_)
          · exact absurd c_12 k2
          · refine zz (fun _ _ => lv_iload hx hb dX0_compareGraphs_33 (lv_at hl 4 rfl)) ?_
            refine zval (v' := .int (nI i9)) (congrArg Value.int e4) ?_
            refine zz (fun _ _ => lv_aload_n hx hb dX0_compareGraphs_35 rfl (lv_at hl 2 rfl)) ?_
            refine z_get (v := .int (iv1 (42 + 1 + 2 * g9) 1)) C fd_X0_35 (rd_6 (ck_b hg)) rfl dX0_compareGraphs_36 ?_
            refine zval (v' := .int (nI (cds p8).length)) (congrArg Value.int hG11.1) ?_
            refine zb (fun _ _ => lv_icmp_ge (tgt := 78) hx hb dX0_compareGraphs_39 (by decide)) (fun c_13 => ?_) (fun c_13 => ?_)
            · exact absurd c_13 k1
            · refine zz (fun _ _ => lv_aload_n hx hb dX0_compareGraphs_42 rfl (lv_at hl 2 rfl)) ?_
              refine z_get (v := .ref (x + ((42 + 1 + 2 * g9) + 1))) C fd_X0_40 (rd_6 (ck_b hg)) rfl dX0_compareGraphs_43 ?_
              refine zz (fun _ _ => lv_iload hx hb dX0_compareGraphs_46 (lv_at hl 4 rfl)) ?_
              refine zval (v' := .int (nI i9)) (congrArg Value.int e4) ?_
              refine z_iald (f := av1 ((42 + 1 + 2 * g9) + 1)) C (rd_7 (nb_6_1 (ck_b hg))) (by first | assumption | (apply vp_in_nI <;> omega)) dX0_compareGraphs_48 ?_
              refine zval (v' := .int (nI ((cds p8).getD i9 0))) (congrArg Value.int (rdI (hG11.2.2 i9 hi9) (by omega))) ?_
              refine zz (fun _ _ => lv_aload_n hx hb dX0_compareGraphs_49 rfl (lv_at hl 3 rfl)) ?_
              refine z_get (v := .ref (x + ((4 + 1 + 2 * g9) + 1))) C fd_X0_40 (rd_6 (ck_g hg)) rfl dX0_compareGraphs_50 ?_
              refine zz (fun _ _ => lv_iload hx hb dX0_compareGraphs_53 (lv_at hl 5 rfl)) ?_
              refine zval (v' := .int (nI j9)) (congrArg Value.int e5) ?_
              refine z_iald (f := av1 ((4 + 1 + 2 * g9) + 1)) C (rd_7 (nb_6_1 (ck_g hg))) (by first | assumption | (apply vp_in_nI <;> omega)) dX0_compareGraphs_55 ?_
              refine zval (v' := .int (nI ((cds p9).getD j9 0))) (congrArg Value.int (rdI (hG21.2.2 j9 hj9) (by omega))) ?_
              refine zb (fun _ _ => lv_icmp_ge (tgt := 78) hx hb dX0_compareGraphs_56 (by decide)) (fun c_14 => ?_) (fun c_14 => ?_)
              · refine zz (fun _ _ => lv_iload hx hb dX0_compareGraphs_78 (lv_at hl 4 rfl)) ?_
                refine zval (v' := .int (nI i9)) (congrArg Value.int e4) ?_
                refine zz (fun _ _ => lv_aload_n hx hb dX0_compareGraphs_80 rfl (lv_at hl 2 rfl)) ?_
                refine z_get (v := .int (iv1 (42 + 1 + 2 * g9) 1)) C fd_X0_35 (rd_6 (ck_b hg)) rfl dX0_compareGraphs_81 ?_
                refine zval (v' := .int (nI (cds p8).length)) (congrArg Value.int hG11.1) ?_
                refine zb (fun _ _ => lv_icmp_ge (tgt := 104) hx hb dX0_compareGraphs_84 (by decide)) (fun c_15 => ?_) (fun c_15 => ?_)
                · exact absurd c_15 k1
                · refine zz (fun _ _ => lv_aload_n hx hb dX0_compareGraphs_87 rfl (lv_at hl 3 rfl)) ?_
                  refine z_get (v := .ref (x + ((4 + 1 + 2 * g9) + 1))) C fd_X0_40 (rd_6 (ck_g hg)) rfl dX0_compareGraphs_88 ?_
                  refine zz (fun _ _ => lv_iload hx hb dX0_compareGraphs_91 (lv_at hl 5 rfl)) ?_
                  refine zval (v' := .int (nI j9)) (congrArg Value.int e5) ?_
                  refine z_iald (f := av1 ((4 + 1 + 2 * g9) + 1)) C (rd_7 (nb_6_1 (ck_g hg))) (by first | assumption | (apply vp_in_nI <;> omega)) dX0_compareGraphs_93 ?_
                  refine zval (v' := .int (nI ((cds p9).getD j9 0))) (congrArg Value.int (rdI (hG21.2.2 j9 hj9) (by omega))) ?_
                  refine zz (fun _ _ => lv_aload_n hx hb dX0_compareGraphs_94 rfl (lv_at hl 2 rfl)) ?_
                  refine z_get (v := .ref (x + ((42 + 1 + 2 * g9) + 1))) C fd_X0_40 (rd_6 (ck_b hg)) rfl dX0_compareGraphs_95 ?_
                  refine zz (fun _ _ => lv_iload hx hb dX0_compareGraphs_98 (lv_at hl 4 rfl)) ?_
                  refine zval (v' := .int (nI i9)) (congrArg Value.int e4) ?_
                  refine z_iald (f := av1 ((42 + 1 + 2 * g9) + 1)) C (rd_7 (nb_6_1 (ck_b hg))) (by first | assumption | (apply vp_in_nI <;> omega)) dX0_compareGraphs_100 ?_
                  refine zval (v' := .int (nI ((cds p8).getD i9 0))) (congrArg Value.int (rdI (hG11.2.2 i9 hi9) (by omega))) ?_
                  refine zb (fun _ _ => lv_icmp_ge (tgt := 123) hx hb dX0_compareGraphs_101 (by decide)) (fun c_16 => ?_) (fun c_16 => ?_)
                  · exact absurd c_16 kb
                  · refine zz (fun _ _ => lv_aload_n hx hb dX0_compareGraphs_104 rfl (lv_at hl 0 rfl)) ?_
                    refine zz (fun _ _ => lv_iload_n hx hb dX0_compareGraphs_105 rfl (lv_at hl 1 rfl)) ?_
                    refine zz (fun _ _ => lv_aload_n hx hb dX0_compareGraphs_106 rfl (lv_at hl 3 rfl)) ?_
                    refine z_get (v := .ref (x + ((4 + 1 + 2 * g9) + 1))) C fd_X0_40 (rd_6 (ck_g hg)) rfl dX0_compareGraphs_107 ?_
                    refine zz (fun _ _ => lv_iload hx hb dX0_compareGraphs_110 (lv_at hl 5 rfl)) ?_
                    refine zval (v' := .int (nI j9)) (congrArg Value.int e5) ?_
                    refine z_iald (f := av1 ((4 + 1 + 2 * g9) + 1)) C (rd_7 (nb_6_1 (ck_g hg))) (by first | assumption | (apply vp_in_nI <;> omega)) dX0_compareGraphs_112 ?_
                    refine zval (v' := .int (nI ((cds p9).getD j9 0))) (congrArg Value.int (rdI (hG21.2.2 j9 hj9) (by omega))) ?_
                    refine zz (fun _ _ => lv_iconst (v := 1) hx hb dX0_compareGraphs_113 (by decide)) ?_
                    refine zval (v' := .int (tI true)) (congrArg Value.int rfl) ?_
                    refine zqVN (As := [.int (nI g9), .int (nI ((cds p9).getD j9 0)), .int (tI true)]) (rest := []) C hl.1 lk_X0_43 (hX0_note hc9 (by rw [List.length_append]; omega)) (rd_16 (by decide)) rfl rfl rfl (Nat.le_of_ble_eq_true rfl) ⟨by decide, by decide, by decide, by decide⟩ dX0_compareGraphs_114 (fun iv17 av17 sz h17 => ?_)
                    refine zeq (M' := (cm aC x iv17 av17 R)) rfl ?_
                    refine zs (fun _ _ => lv_iinc (v := t1_5 + 1) (lv' := [(5, .int (t1_5 + 1)), (0, .ref (x + 57)), (1, .int (nI g9)), (2, .ref (x + (42 + 1 + 2 * g9))), (3, .ref (x + (4 + 1 + 2 * g9))), (4, .int (t1_4))]) hx hb dX0_compareGraphs_117 hl (k := 5) rfl rfl (by decide) rfl) (fun ls hl => ?_)
                    refine zz (fun _ _ => lv_goto (tgt := 6) hx hb dX0_compareGraphs_120 (by decide)) ?_
                    have hl := lv_sub hl [1, 2, 3, 4, 5, 0] rfl
                    try simp only [nI_1] at hl
                    exact ih1 (iv17, av17, t1_4, t1_5 + 1) _ _ ⟨hf8.trans h17.1, i9, j9 + 1, M9 ++ [(g9, (cds p9).getD j9 0, true)], e4, by rw [e5, nI_1], by omega, mg_b s1 s2 hm9 hj9 (drop_all s1 (Or.inr r9) hil9), by rw [← List.append_assoc]; exact h17.2⟩ hl
              · exact absurd ka c_14
      · have k2 : nI (cds p9).length ≤ nI j9 := nI_le (by omega) (by omega)
        refine zz (fun _ _ => lv_iload hx hb dX0_compareGraphs_24 (lv_at hl 5 rfl)) ?_
        refine zval (v' := .int (nI j9)) (congrArg Value.int e5) ?_
        refine zz (fun _ _ => lv_aload_n hx hb dX0_compareGraphs_26 rfl (lv_at hl 3 rfl)) ?_
        refine z_get (v := .int (iv1 (4 + 1 + 2 * g9) 1)) C fd_X0_35 (rd_6 (ck_g hg)) rfl dX0_compareGraphs_27 ?_
        refine zval (v' := .int (nI (cds p9).length)) (congrArg Value.int hG21.1) ?_
        refine zb (fun _ _ => lv_icmp_ge (tgt := 59) hx hb dX0_compareGraphs_30 (by decide)) (fun c_18 => ?_) (fun c_18 => ?_)
        · refine zz (fun _ _ => lv_aload_n hx hb dX0_compareGraphs_59 rfl (lv_at hl 0 rfl)) ?_
          refine zz (fun _ _ => lv_iload_n hx hb dX0_compareGraphs_60 rfl (lv_at hl 1 rfl)) ?_
          refine zz (fun _ _ => lv_aload_n hx hb dX0_compareGraphs_61 rfl (lv_at hl 2 rfl)) ?_
          refine z_get (v := .ref (x + ((42 + 1 + 2 * g9) + 1))) C fd_X0_40 (rd_6 (ck_b hg)) rfl dX0_compareGraphs_62 ?_
          refine zz (fun _ _ => lv_iload hx hb dX0_compareGraphs_65 (lv_at hl 4 rfl)) ?_
          refine zval (v' := .int (nI i9)) (congrArg Value.int e4) ?_
          refine z_iald (f := av1 ((42 + 1 + 2 * g9) + 1)) C (rd_7 (nb_6_1 (ck_b hg))) (by first | assumption | (apply vp_in_nI <;> omega)) dX0_compareGraphs_67 ?_
          refine zval (v' := .int (nI ((cds p8).getD i9 0))) (congrArg Value.int (rdI (hG11.2.2 i9 hi9) (by omega))) ?_
          refine zz (fun _ _ => lv_iconst (v := 0) hx hb dX0_compareGraphs_68 (by decide)) ?_
          refine zval (v' := .int (tI false)) (congrArg Value.int rfl) ?_
          refine zqVN (As := [.int (nI g9), .int (nI ((cds p8).getD i9 0)), .int (tI false)]) (rest := []) C hl.1 lk_X0_43 (hX0_note hc9 (by rw [List.length_append]; omega)) (rd_16 (by decide)) rfl rfl rfl (Nat.le_of_ble_eq_true rfl) ⟨by decide, by decide, by decide, by decide⟩ dX0_compareGraphs_69 (fun iv19 av19 sz h19 => ?_)
          refine zeq (M' := (cm aC x iv19 av19 R)) rfl ?_
          refine zs (fun _ _ => lv_iinc (v := t1_4 + 1) (lv' := [(4, .int (t1_4 + 1)), (0, .ref (x + 57)), (1, .int (nI g9)), (2, .ref (x + (42 + 1 + 2 * g9))), (3, .ref (x + (4 + 1 + 2 * g9))), (5, .int (t1_5))]) hx hb dX0_compareGraphs_72 hl (k := 4) rfl rfl (by decide) rfl) (fun ls hl => ?_)
          refine zz (fun _ _ => lv_goto (tgt := 6) hx hb dX0_compareGraphs_75 (by decide)) ?_
          have hl := lv_sub hl [1, 2, 3, 4, 0, 5] rfl
          try simp only [nI_1] at hl
          exact ih1 (iv19, av19, t1_4 + 1, t1_5) _ _ ⟨hf8.trans h19.1, i9 + 1, j9, M9 ++ [(g9, (cds p8).getD i9 0, false)], by rw [e4, nI_1], e5, by omega, mg_a s1 s2 hm9 hi9 (drop_all s2 (Or.inl (by omega)) hjl9), by rw [← List.append_assoc]; exact h19.2⟩ hl
        · exact absurd k2 c_18
    · refine zz (fun _ _ => lv_iload hx hb dX0_compareGraphs_15 (lv_at hl 5 rfl)) ?_
      refine zval (v' := .int (nI j9)) (congrArg Value.int e5) ?_
      refine zz (fun _ _ => lv_aload_n hx hb dX0_compareGraphs_17 rfl (lv_at hl 3 rfl)) ?_
      refine z_get (v := .int (iv1 (4 + 1 + 2 * g9) 1)) C fd_X0_35 (rd_6 (ck_g hg)) rfl dX0_compareGraphs_18 ?_
      refine zval (v' := .int (nI (cds p9).length)) (congrArg Value.int hG21.1) ?_
      refine zb (fun _ _ => lv_icmp_ge (tgt := 132) hx hb dX0_compareGraphs_21 (by decide)) (fun c_20 => ?_) (fun c_20 => ?_)
      · exact z_vret C hr hlk dX0_compareGraphs_132 (zpN_mk (a := iv1) (b := av1) ⟨hf8, M9, by have h9 : i9 = (cds p8).length := Nat.le_antisymm hil9 (Nat.le_of_not_lt (fun q => c_2 (nI_lt q (by omega)))); have h8 : j9 = (cds p9).length := Nat.le_antisymm hjl9 ((nI_leI (by omega) (by omega)).mp c_20); rw [h9, h8] at hm9; exact hm9, hc9⟩)
      · have hj9 : j9 < (cds p9).length := Nat.lt_of_not_le (fun q => c_20 (nI_le q (by omega)))
        have hb2 := cds_lt ho2 hj9
        have hie9 : i9 = (cds p8).length := Nat.le_antisymm hil9 (Nat.le_of_not_lt (fun q => c_2 (nI_lt q (by omega))))
        have k1 : nI (cds p8).length ≤ nI i9 := nI_le (by omega) (by omega)
        refine zz (fun _ _ => lv_iload hx hb dX0_compareGraphs_24 (lv_at hl 5 rfl)) ?_
        refine zval (v' := .int (nI j9)) (congrArg Value.int e5) ?_
        refine zz (fun _ _ => lv_aload_n hx hb dX0_compareGraphs_26 rfl (lv_at hl 3 rfl)) ?_
        refine z_get (v := .int (iv1 (4 + 1 + 2 * g9) 1)) C fd_X0_35 (rd_6 (ck_g hg)) rfl dX0_compareGraphs_27 ?_
        refine zval (v' := .int (nI (cds p9).length)) (congrArg Value.int hG21.1) ?_
        refine zb (fun _ _ => lv_icmp_ge (tgt := 59) hx hb dX0_compareGraphs_30 (by decide)) (fun c_21 => ?_) (fun c_21 => ?_)
        · exact absurd c_21 c_20
        · refine zz (fun _ _ => lv_iload hx hb dX0_compareGraphs_33 (lv_at hl 4 rfl)) ?_
          refine zval (v' := .int (nI i9)) (congrArg Value.int e4) ?_
          refine zz (fun _ _ => lv_aload_n hx hb dX0_compareGraphs_35 rfl (lv_at hl 2 rfl)) ?_
          refine z_get (v := .int (iv1 (42 + 1 + 2 * g9) 1)) C fd_X0_35 (rd_6 (ck_b hg)) rfl dX0_compareGraphs_36 ?_
          refine zval (v' := .int (nI (cds p8).length)) (congrArg Value.int hG11.1) ?_
          refine zb (fun _ _ => lv_icmp_ge (tgt := 78) hx hb dX0_compareGraphs_39 (by decide)) (fun c_22 => ?_) (fun c_22 => ?_)
          · refine zz (fun _ _ => lv_iload hx hb dX0_compareGraphs_78 (lv_at hl 4 rfl)) ?_
            refine zval (v' := .int (nI i9)) (congrArg Value.int e4) ?_
            refine zz (fun _ _ => lv_aload_n hx hb dX0_compareGraphs_80 rfl (lv_at hl 2 rfl)) ?_
            refine z_get (v := .int (iv1 (42 + 1 + 2 * g9) 1)) C fd_X0_35 (rd_6 (ck_b hg)) rfl dX0_compareGraphs_81 ?_
            refine zval (v' := .int (nI (cds p8).length)) (congrArg Value.int hG11.1) ?_
            refine zb (fun _ _ => lv_icmp_ge (tgt := 104) hx hb dX0_compareGraphs_84 (by decide)) (fun c_23 => ?_) (fun c_23 => ?_)
            · refine zz (fun _ _ => lv_aload_n hx hb dX0_compareGraphs_104 rfl (lv_at hl 0 rfl)) ?_
              refine zz (fun _ _ => lv_iload_n hx hb dX0_compareGraphs_105 rfl (lv_at hl 1 rfl)) ?_
              refine zz (fun _ _ => lv_aload_n hx hb dX0_compareGraphs_106 rfl (lv_at hl 3 rfl)) ?_
              refine z_get (v := .ref (x + ((4 + 1 + 2 * g9) + 1))) C fd_X0_40 (rd_6 (ck_g hg)) rfl dX0_compareGraphs_107 ?_
              refine zz (fun _ _ => lv_iload hx hb dX0_compareGraphs_110 (lv_at hl 5 rfl)) ?_
              refine zval (v' := .int (nI j9)) (congrArg Value.int e5) ?_
              refine z_iald (f := av1 ((4 + 1 + 2 * g9) + 1)) C (rd_7 (nb_6_1 (ck_g hg))) (by first | assumption | (apply vp_in_nI <;> omega)) dX0_compareGraphs_112 ?_
              refine zval (v' := .int (nI ((cds p9).getD j9 0))) (congrArg Value.int (rdI (hG21.2.2 j9 hj9) (by omega))) ?_
              refine zz (fun _ _ => lv_iconst (v := 1) hx hb dX0_compareGraphs_113 (by decide)) ?_
              refine zval (v' := .int (tI true)) (congrArg Value.int rfl) ?_
              refine zqVN (As := [.int (nI g9), .int (nI ((cds p9).getD j9 0)), .int (tI true)]) (rest := []) C hl.1 lk_X0_43 (hX0_note hc9 (by rw [List.length_append]; omega)) (rd_16 (by decide)) rfl rfl rfl (Nat.le_of_ble_eq_true rfl) ⟨by decide, by decide, by decide, by decide⟩ dX0_compareGraphs_114 (fun iv24 av24 sz h24 => ?_)
              refine zeq (M' := (cm aC x iv24 av24 R)) rfl ?_
              refine zs (fun _ _ => lv_iinc (v := t1_5 + 1) (lv' := [(5, .int (t1_5 + 1)), (0, .ref (x + 57)), (1, .int (nI g9)), (2, .ref (x + (42 + 1 + 2 * g9))), (3, .ref (x + (4 + 1 + 2 * g9))), (4, .int (t1_4))]) hx hb dX0_compareGraphs_117 hl (k := 5) rfl rfl (by decide) rfl) (fun ls hl => ?_)
              refine zz (fun _ _ => lv_goto (tgt := 6) hx hb dX0_compareGraphs_120 (by decide)) ?_
              have hl := lv_sub hl [1, 2, 3, 4, 5, 0] rfl
              try simp only [nI_1] at hl
              exact ih1 (iv24, av24, t1_4, t1_5 + 1) _ _ ⟨hf8.trans h24.1, i9, j9 + 1, M9 ++ [(g9, (cds p9).getD j9 0, true)], e4, by rw [e5, nI_1], by omega, mg_b s1 s2 hm9 hj9 (drop_all s1 (Or.inl hie9) hil9), by rw [← List.append_assoc]; exact h24.2⟩ hl
            · exact absurd k1 c_23
          · exact absurd k1 c_22
  · intro a1 sz ls hI1 hl
    obtain ⟨iv1, av1, t1_4, t1_5⟩ := a1
    dsimp only at hI1 hl
    refine zeq (M' := (cm aC x iv1 av1 R)) rfl ?_
    obtain ⟨hf8, i9, j9, M9, e4, e5, hn9, hm9, hc9⟩ := id hI1
    have hG11 := hf8.G (by omega) hG1
    have hG21 := hf8.G (by omega) hG2
    have hil9 := hm9.2.2.2.2.2.1
    have hjl9 := hm9.2.2.2.2.2.2.1
    have hml9 := hm9.2.2.2.2.1
    refine zz (fun _ _ => lv_iload hx hb dX0_compareGraphs_6 (lv_at hl 4 rfl)) ?_
    refine zval (v' := .int (nI i9)) (congrArg Value.int e4) ?_
    refine zz (fun _ _ => lv_aload_n hx hb dX0_compareGraphs_8 rfl (lv_at hl 2 rfl)) ?_
    refine z_get (v := .int (iv1 (42 + 1 + 2 * g9) 1)) C fd_X0_35 (rd_6 (ck_b hg)) rfl dX0_compareGraphs_9 ?_
    refine zval (v' := .int (nI (cds p8).length)) (congrArg Value.int hG11.1) ?_
    refine zb (fun _ _ => lv_icmp_lt (tgt := 24) hx hb dX0_compareGraphs_12 (by decide)) (fun c_25 => ?_) (fun c_25 => ?_)
    · exact absurd c_25 (nI_nlt (by omega) (by omega))
    · refine zz (fun _ _ => lv_iload hx hb dX0_compareGraphs_15 (lv_at hl 5 rfl)) ?_
      refine zval (v' := .int (nI j9)) (congrArg Value.int e5) ?_
      refine zz (fun _ _ => lv_aload_n hx hb dX0_compareGraphs_17 rfl (lv_at hl 3 rfl)) ?_
      refine z_get (v := .int (iv1 (4 + 1 + 2 * g9) 1)) C fd_X0_35 (rd_6 (ck_g hg)) rfl dX0_compareGraphs_18 ?_
      refine zval (v' := .int (nI (cds p9).length)) (congrArg Value.int hG21.1) ?_
      refine zb (fun _ _ => lv_icmp_ge (tgt := 132) hx hb dX0_compareGraphs_21 (by decide)) (fun c_26 => ?_) (fun c_26 => ?_)
      · exact z_vret C hr hlk dX0_compareGraphs_132 (zpN_mk (a := iv1) (b := av1) ⟨hf8, M9, by have h9 : i9 = (cds p8).length := Nat.le_antisymm hil9 (Nat.le_of_not_lt (fun q => c_25 (nI_lt q (by omega)))); have h8 : j9 = (cds p9).length := Nat.le_antisymm hjl9 ((nI_leI (by omega) (by omega)).mp c_26); rw [h9, h8] at hm9; exact hm9, hc9⟩)
      · exact absurd (nI_le (by omega) (by omega)) c_26
end
section
/-! All changes; a run on the cells. -/
noncomputable def cpN (P0 P : Pd) : Nat → Nat
  | 0 => 0
  | j + 1 => cpN P0 P j + ((cds (P0 j)).length + (cds (P j)).length)
theorem cpN_7 {P0 P : Pd} : cpN P0 P 7 = card P0 + card P := by
  rw [card_sum, card_sum]
  simp only [cpN]
  omega
theorem cpN_mono {P0 P : Pd} : ∀ d j, cpN P0 P j ≤ cpN P0 P (j + d)
  | 0, j => Nat.le_refl _
  | d + 1, j => Nat.le_trans (cpN_mono d j) (by show cpN P0 P (j + d) ≤ cpN P0 P (j + d) + _; omega)
theorem cpN_le {P0 P : Pd} (h0 : card P0 ≤ 120) (h1 : card P ≤ 120) {j : Nat} (hj : j < 7) : cpN P0 P j + ((cds (P0 j)).length + (cds (P j)).length) ≤ 240 := by
  have := cpN_mono (P0 := P0) (P := P) (7 - (j + 1)) (j + 1)
  rw [show j + 1 + (7 - (j + 1)) = 7 by omega, cpN_7] at this
  have e : cpN P0 P (j + 1) = cpN P0 P j + ((cds (P0 j)).length + (cds (P j)).length) := rfl
  omega
def cmJ (P0 P : Pd) (j : Nat) (L : List Cg) : Prop := srC L ∧ L.length ≤ cpN P0 P j ∧ ∀ g c b, (g, c, b) ∈ L ↔ g < j ∧ ((b = true ∧ P g c = true ∧ P0 g c = false) ∨ (b = false ∧ P g c = false ∧ P0 g c = true))
theorem cmJ_0 {P0 P : Pd} : cmJ P0 P 0 [] := ⟨List.Pairwise.nil, Nat.le_refl _, fun g c b => by simp⟩
theorem cmJ_next {P0 P : Pd} {j : Nat} {L M : List Cg} (h0 : okP P0) (h1 : okP P) (h : cmJ P0 P j L) (hm : mgR j (cds (P0 j)) (cds (P j)) (cds (P0 j)).length (cds (P j)).length M) : cmJ P0 P (j + 1) (L ++ M) := by
  have hM : ∀ g c b, (g, c, b) ∈ M ↔ g = j ∧ ((b = true ∧ P g c = true ∧ P0 g c = false) ∨ (b = false ∧ P g c = false ∧ P0 g c = true)) := by
    intro g c b
    constructor
    · intro q
      have e : g = j := hm.2.1 _ q
      subst e
      refine ⟨rfl, ?_⟩
      cases b with
      | true =>
        have := (hm.2.2.1 c).mp q
        rw [List.take_length, cds_mem (okP_g h1 g), cds_mem (okP_g h0 g)] at this
        exact Or.inl ⟨rfl, this.1, by simpa using this.2⟩
      | false =>
        have := (hm.2.2.2.1 c).mp q
        rw [List.take_length, cds_mem (okP_g h1 g), cds_mem (okP_g h0 g)] at this
        exact Or.inr ⟨rfl, by simpa using this.2, this.1⟩
    · rintro ⟨rfl, (⟨rfl, q1, q2⟩ | ⟨rfl, q1, q2⟩)⟩
      · refine (hm.2.2.1 c).mpr ?_
        rw [List.take_length, cds_mem (okP_g h1 g), cds_mem (okP_g h0 g)]
        exact ⟨q1, by simp [q2]⟩
      · refine (hm.2.2.2.1 c).mpr ?_
        rw [List.take_length, cds_mem (okP_g h1 g), cds_mem (okP_g h0 g)]
        exact ⟨q2, by simp [q1]⟩
  refine ⟨?_, ?_, fun g c b => ?_⟩
  · unfold srC
    rw [List.pairwise_append]
    refine ⟨h.1, hm.1, fun y hy z hz => Or.inl ?_⟩
    obtain ⟨g, c, b⟩ := y
    have e := hm.2.1 z hz
    have := ((h.2.2 g c b).mp hy).1
    show g < z.1
    omega
  · rw [List.length_append]
    have e : cpN P0 P (j + 1) = cpN P0 P j + ((cds (P0 j)).length + (cds (P j)).length) := rfl
    have h2 := h.2.1
    have h3 := hm.2.2.2.2.1
    omega
  · rw [List.mem_append, h.2.2, hM]
    constructor
    · rintro (q | q)
      · exact ⟨by omega, q.2⟩
      · exact ⟨by omega, q.2⟩
    · rintro ⟨q, r⟩
      by_cases e : g = j
      · exact Or.inr ⟨e, r⟩
      · exact Or.inl ⟨by omega, r⟩
def cpI (iv av : Nat → Nat → Int32) (P0 P : Pd) (j : Nat) (iv' av' : Nat → Nat → Int32) : Prop := FH iv av iv' av' ∧ ∃ L, cmJ P0 P j L ∧ CHc iv' av' L
def cpP (iv av : Nat → Nat → Int32) (P0 P : Pd) (iv' av' : Nat → Nat → Int32) : Prop := FH iv av iv' av' ∧ ∃ L, CHc iv' av' L ∧ L.length ≤ 240 ∧ okC L ∧ isCh P0 P L
theorem cp_end {iv av iv' av' : Nat → Nat → Int32} {S0 S : St} (h0 : okS S0) (h1 : okS S) (h : cpI iv av S0.1 S.1 7 iv' av') : cpP iv av S0.1 S.1 iv' av' := by
  obtain ⟨hf, L, hL, hc⟩ := h
  have hch : isCh S0.1 S.1 L := ⟨hL.1, fun g c b => by
    rw [hL.2.2]
    constructor
    · exact fun q => q.2
    · intro q
      refine ⟨?_, q⟩
      rcases q with q | q
      · exact (h1.1 g c q.2.1).1
      · exact (h0.1 g c q.2.2).1⟩
  refine ⟨hf, L, hc, ?_, fun y hy => ?_, hch⟩
  · have := hL.2.1
    rw [cpN_7] at this
    have := h0.2.1
    have := h1.2.1
    omega
  · obtain ⟨g, c, b⟩ := y
    rcases (hch.2 g c b).mp hy with q | q
    · exact h1.1 g c q.2.1
    · exact h0.1 g c q.2.2
/-- what a run leaves as it is -/
def FRn (iv av iv' av' : Nat → Nat → Int32) : Prop := iv' 0 5 = iv 0 5 ∧ (∀ k f, ((18 < k ∧ k ≠ 20 ∧ k < 41) ∨ 56 < k) → ¬ (61 ≤ k ∧ f = 7) → iv' k f = iv k f) ∧ ∀ k, ((18 < k ∧ k < 22) ∨ (28 < k ∧ k < 41) ∨ 56 < k) → av' k = av k
def QC (iv av : Nat → Nat → Int32) (Q : List Sq) : Prop := iv 0 5 = nI Q.length ∧ Q.length ≤ 12 ∧ ∀ i q, Q[i]? = some q → EC iv av i q ∧ okQ q
theorem EC.keptR {iv av iv' av' : Nat → Nat → Int32} {i : Nat} {q : Sq} (h : EC iv av i q) (hf : FRn iv av iv' av') : EC iv' av' i q := by
  unfold EC at h ⊢
  rw [hf.2.1 (61 + 6 * i) 3 (by omega) (by omega), hf.2.1 (61 + 6 * i) 4 (by omega) (by omega), hf.2.1 (61 + 6 * i) 5 (by omega) (by omega), hf.2.1 (61 + 6 * i) 6 (by omega) (by omega), hf.2.1 (61 + 6 * i + 1) 2 (by omega) (by omega), hf.2.1 (61 + 6 * i + 1) 1 (by omega) (by omega), hf.2.1 (61 + 6 * i + 4) 2 (by omega) (by omega), hf.2.1 (61 + 6 * i + 4) 1 (by omega) (by omega), hf.2.2 (61 + 6 * i + 1 + 1) (by omega), hf.2.2 (61 + 6 * i + 3) (by omega), hf.2.2 (61 + 6 * i + 4 + 1) (by omega)]
  exact h
theorem FLc.keptR {iv av iv' av' : Nat → Nat → Int32} {TN : Nat → Bool} {FL : Nat → List Nat} (h : FLc iv av TN FL) (hf : FRn iv av iv' av') : FLc iv' av' TN FL := by
  intro f hf4
  rw [hf.2.1 (29 + 3 * f + 1) 2 (by omega) (by omega), hf.2.1 (29 + 3 * f + 1) 1 (by omega) (by omega), hf.2.1 (29 + 3 * f) 1 (by omega) (by omega), hf.2.2 (29 + 3 * f + 1 + 1) (by omega)]
  exact h f hf4
theorem FRn_K {iv av iv1 av1 iv2 av2 : Nat → Nat → Int32} (h : FRn iv av iv1 av1) (hf : FK iv1 av1 iv2 av2) : FRn iv av iv2 av2 := ⟨(hf.1 0 5 (by omega) (by omega)).trans h.1, fun k f a b => (hf.1 k f (by omega) b).trans (h.2.1 k f a b), fun k a => (hf.2 k (by omega)).trans (h.2.2 k a)⟩
theorem GS_K {iv1 av1 iv2 av2 : Nat → Nat → Int32} {S : St} (h : GS iv1 av1 41 S) (hf : FK iv1 av1 iv2 av2) : GS iv2 av2 41 S := ⟨fun g hg => (h.1 g hg).kept (hf.1 _ _ (by omega) (by omega)) (hf.1 _ _ (by omega) (by omega)) (hf.2 _ (by omega)), (hf.1 41 1 (by omega) (by omega)).trans h.2⟩
theorem SC_GS {iv av : Nat → Nat → Int32} {S : St} (h : SC iv av S) : GS iv av 3 S := ⟨h.2.1, h.2.2⟩
def rk0 (iv av : Nat → Nat → Int32) (S : St) (iv' av' : Nat → Nat → Int32) : Prop := FRn iv av iv' av' ∧ GS iv' av' 41 S ∧ SC iv' av' S ∧ iv' 2 4 = 0
theorem rk0_0 {iv av iv1 av1 : Nat → Nat → Int32} {S : St} (hS : SC iv av S) (h : bkP 41 iv av S iv1 av1) : rk0 iv av S (u2 iv1 2 4 0) av1 := by
  refine ⟨⟨by rw [u2_k _ _ _ _ (by decide), h.2.1 0 5 (by omega)], fun k f a b => by rw [u2_k _ _ _ _ (by omega), h.2.1 k f (by omega)], fun k a => h.2.2 k (by omega)⟩, ⟨fun g hg => (h.1.1 g hg).kept (u2_k _ _ _ _ (by omega)) (u2_k _ _ _ _ (by omega)) rfl, by rw [u2_k _ _ _ _ (by decide)]; exact h.1.2⟩, ⟨hS.1, fun g hg => (hS.2.1 g hg).kept (by rw [u2_k _ _ _ _ (by omega), h.2.1 _ _ (by omega)]) (by rw [u2_k _ _ _ _ (by omega), h.2.1 _ _ (by omega)]) (h.2.2 _ (by omega)), by rw [u2_k _ _ _ _ (by decide), h.2.1 3 1 (by omega)]; exact hS.2.2⟩, u2_s _ _ _ _⟩
theorem rk0_7 {iv av iv1 av1 : Nat → Nat → Int32} {S : St} {i : Nat} {z : Int32} (h : rk0 iv av S iv1 av1) : rk0 iv av S (u2 iv1 (61 + 6 * i) 7 z) av1 := by
  refine ⟨⟨by rw [u2_k _ _ _ _ (by omega)]; exact h.1.1, fun k f a b => ?_, h.1.2.2⟩, ⟨fun g hg => (h.2.1.1 g hg).kept (u2_k _ _ _ _ (by omega)) (u2_k _ _ _ _ (by omega)) rfl, by rw [u2_k _ _ _ _ (by omega)]; exact h.2.1.2⟩, ⟨h.2.2.1.1, fun g hg => (h.2.2.1.2.1 g hg).kept (u2_k _ _ _ _ (by omega)) (u2_k _ _ _ _ (by omega)) rfl, by rw [u2_k _ _ _ _ (by omega)]; exact h.2.2.1.2.2⟩, by rw [u2_k _ _ _ _ (by omega)]; exact h.2.2.2⟩
  by_cases q : k = 61 + 6 * i
  · subst q
    rw [u2_f _ _ _ (fun r => b ⟨by omega, r⟩)]
    exact h.1.2.1 _ f a b
  · rw [u2_k _ _ _ _ q]; exact h.1.2.1 k f a b
def rk1 (TN : Nat → Bool) (FL : Nat → List Nat) (iv av : Nat → Nat → Int32) (S : St) (Q : List Sq) (j : Nat) (iv' av' : Nat → Nat → Int32) : Prop := FRn iv av iv' av' ∧ GS iv' av' 41 S ∧ ∃ S' w', aRun TN FL (Q.take j) 0 S 0 = .inr (S', w') ∧ SC iv' av' S' ∧ iv' 2 4 = nI w'
theorem rk1_0 {TN : Nat → Bool} {FL : Nat → List Nat} {iv av iv1 av1 : Nat → Nat → Int32} {S : St} {Q : List Sq} (h : rk0 iv av S iv1 av1) : rk1 TN FL iv av S Q 0 iv1 av1 := ⟨h.1, h.2.1, S, 0, by rw [List.take_zero]; rfl, h.2.2.1, h.2.2.2⟩
theorem rk1_next {TN : Nat → Bool} {FL : Nat → List Nat} {iv av iv1 av1 iv2 av2 : Nat → Nat → Int32} {S S' : St} {Q : List Sq} {j w' : Nat} {q : Sq} {w : Int32} (hj : Q[j]? = some q) (hF : FRn iv av iv1 av1) (hB : GS iv1 av1 41 S) (e : aRun TN FL (Q.take j) 0 S 0 = .inr (S', w')) (hw : iv1 2 4 = nI w') (h : AC iv1 av1 (aAct TN FL q S') w iv2 av2) (hz : (aAct TN FL q S').1 = 0 ∨ (q.2.2.2.1 = true ∧ (aAct TN FL q S').1 < 4)) : rk1 TN FL iv av S Q (j + 1) iv2 av2 := by
  have h4 : (aAct TN FL q S').1 < 4 := by rcases hz with r | r <;> omega
  refine ⟨FRn_K hF h.2.1, GS_K hB h.2.1, _, _, by rw [aRun_step hj e, if_pos hz], (h.2.2 h4).1, ?_⟩
  rw [(h.2.2 h4).2, hw, nI_add]
def rcP (TN : Nat → Bool) (FL : Nat → List Nat) (iv av : Nat → Nat → Int32) (S : St) (Q : List Sq) (w : Int32) (iv' av' : Nat → Nat → Int32) : Prop :=
  iv' 0 5 = iv 0 5 ∧ (∀ k f, ((18 < k ∧ k ≠ 20 ∧ k < 41) ∨ 60 < k) → ¬ (61 ≤ k ∧ f = 7) → iv' k f = iv k f) ∧ (∀ k, ((28 < k ∧ k < 41) ∨ 60 < k) → av' k = av k) ∧
  (∀ i rs, aRun TN FL Q 0 S 0 = .inl (i, rs) → w = (-1) - nI rs ∧ iv' 0 6 = nI i ∧ iv' 0 7 = 0 ∧ SC iv' av' S ∧ iv' 57 3 = iv 57 3 ∧ ∀ k, 58 ≤ k → k ≤ 60 → av' k = av k) ∧
  (∀ S' wk', aRun TN FL Q 0 S 0 = .inr (S', wk') → iv' 0 6 = -1 ∧ iv' 0 7 = nI wk' ∧ SC iv' av' S' ∧ ∃ L, w = nI L.length ∧ CHc iv' av' L ∧ L.length ≤ 240 ∧ okC L ∧ isCh S.1 S'.1 L)
theorem rk_fail {TN : Nat → Bool} {FL : Nat → List Nat} {iv av iv1 av1 iv2 av2 iv3 av3 : Nat → Nat → Int32} {S S' : St} {Q : List Sq} {j w' : Nat} {q : Sq} {w : Int32} (hS : okS S) (hj : Q[j]? = some q) (hF : FRn iv av iv1 av1) (e : aRun TN FL (Q.take j) 0 S 0 = .inr (S', w')) (h : AC iv1 av1 (aAct TN FL q S') w iv2 av2) (hz : ¬ ((aAct TN FL q S').1 = 0 ∨ (q.2.2.2.1 = true ∧ (aAct TN FL q S').1 < 4))) (hb : bkP 3 iv2 av2 S iv3 av3) : rcP TN FL iv av S Q ((-1) - w) (u2 (u2 iv3 0 6 (nI j)) 0 7 0) av3 := by
  have hr : aRun TN FL Q 0 S 0 = .inl (j, (aAct TN FL q S').1) := aRun_fail (j := j + 1) (by rw [aRun_step hj e, if_neg hz])
  have hF2 := FRn_K hF h.2.1
  have ev : ∀ k f, k ≠ 0 → (k < 3 ∨ 18 < k) → (u2 (u2 iv3 0 6 (nI j)) 0 7 0) k f = iv2 k f := fun k f a b => by rw [u2_k _ _ _ _ a, u2_k _ _ _ _ a, hb.2.1 k f (by omega)]
  refine ⟨by rw [u2_f _ _ _ (by decide), u2_f _ _ _ (by decide), hb.2.1 0 5 (by omega)]; exact hF2.1, fun k f a b => (ev k f (by omega) (by omega)).trans (hF2.2.1 k f (by omega) b), fun k a => (hb.2.2 k (by omega)).trans (hF2.2.2 k (by omega)), fun i rs hi => ?_, fun S2 w2 hi => by rw [hr] at hi; cases hi⟩
  rw [hr] at hi
  cases hi
  refine ⟨by rw [h.1], by rw [u2_f _ _ _ (by decide), u2_s], u2_s _ _ _ _, ⟨hS, fun g hg => (hb.1.1 g hg).kept (by rw [u2_k _ _ _ _ (by omega), u2_k _ _ _ _ (by omega)]) (by rw [u2_k _ _ _ _ (by omega), u2_k _ _ _ _ (by omega)]) rfl, by rw [u2_k _ _ _ _ (by decide), u2_k _ _ _ _ (by decide)]; exact hb.1.2⟩, (ev 57 3 (by decide) (by omega)).trans (hF2.2.1 57 3 (by omega) (by omega)), fun k h1 h2 => (hb.2.2 k (by omega)).trans (hF2.2.2 k (by omega))⟩
theorem rk_end {TN : Nat → Bool} {FL : Nat → List Nat} {iv av iv1 av1 iv2 av2 : Nat → Nat → Int32} {S S' : St} {Q : List Sq} {w' : Nat} {z : Int32} (hF : FRn iv av iv1 av1) (e : aRun TN FL (Q.take Q.length) 0 S 0 = .inr (S', w')) (hS : SC iv1 av1 S') (hz : z = nI w') (h : cpP (u2 (u2 iv1 0 6 (-1)) 0 7 z) av1 S.1 S'.1 iv2 av2) : rcP TN FL iv av S Q (iv2 57 3) iv2 av2 := by
  rw [List.take_length] at e
  obtain ⟨hf, L, a1, a2, a3, a4⟩ := h
  have ev : ∀ k f, k ≠ 0 → k ≠ 57 → iv2 k f = iv1 k f := fun k f a b => by rw [hf.1 k f b, u2_k _ _ _ _ a, u2_k _ _ _ _ a]
  refine ⟨by rw [hf.1 0 5 (by decide), u2_f _ _ _ (by decide), u2_f _ _ _ (by decide)]; exact hF.1, fun k f a b => (ev k f (by omega) (by omega)).trans (hF.2.1 k f (by omega) b), fun k a => (hf.2 k (by omega)).trans (hF.2.2 k (by omega)), fun i rs hi => (by rw [e] at hi; cases hi), fun S2 w2 hi => ?_⟩
  rw [e] at hi
  cases hi
  exact ⟨by rw [hf.1 0 6 (by decide), u2_f _ _ _ (by decide), u2_s], by rw [hf.1 0 7 (by decide), u2_s]; exact hz, ⟨hS.1, fun g hg => (hS.2.1 g hg).kept (ev _ _ (by omega) (by omega)) (ev _ _ (by omega) (by omega)) (hf.2 _ (by omega)), (ev 3 1 (by decide) (by decide)).trans hS.2.2⟩, L, a1.1, a1, a2, a3, a4⟩
theorem pov_z {a : Nat} {s : Bool} (h : ¬ (s && decide (a ≤ 3)) = true) (h0 : ¬ a = 0) : ¬ (a = 0 ∨ (s = true ∧ a < 4)) := by
  rintro (q | q)
  · exact h0 q
  · exact h (by simp [q.1]; omega)
theorem pov_y {a : Nat} {s : Bool} (h : (s && decide (a ≤ 3)) = true) : s = true ∧ a < 4 := by
  simp at h; exact ⟨h.1, by omega⟩
end
