/-! Finding, values and new blanks in the cells. -/
def flP (k : Nat) (a : Int32) (j : Nat) (iv av iv' av' : Nat → Nat → Int32) : Prop := iv' = iv ∧ (∀ q, q ≠ k → av' q = av q) ∧ ∀ i, i < j → av' k i = a
theorem fl_next {k j : Nat} {a : Int32} {iv av iv' av' : Nat → Nat → Int32} (h : flP k a j iv av iv' av') : flP k a (j + 1) iv av iv' (u1 av' k (upd (av' k) j a)) := by
  refine ⟨h.1, fun q hq => by rw [u1_k _ _ hq]; exact h.2.1 q hq, fun i hi => ?_⟩
  rw [u1_s]
  unfold upd
  split
  · rfl
  · exact h.2.2 i (by omega)
def fiP (iv av : Nat → Nat → Int32) (fs : List Nat) (ps : List Rw) (res : Int32) (iv' av' : Nat → Nat → Int32) : Prop :=
  (∀ k f, k ≠ 20 → iv' k f = iv k f) ∧ (∀ k, k < 22 ∨ 27 < k → av' k = av k) ∧ ((res = 1 ∧ SE iv' av' (sols fs ps (fun _ => -1)) (wk fs ps (fun _ => -1))) ∨ (res = 0 ∧ ¬ lim (sols fs ps (fun _ => -1)).length (wk fs ps (fun _ => -1))))
theorem fi_b {iv av iv' av' : Nat → Nat → Int32} {fs : List Nat} {ps : List Rw} {res : Int32} (h : fiP iv av fs ps res iv' av') : res = 0 ∨ res = 1 := by
  rcases h.2.2 with q | q
  · exact Or.inr q.1
  · exact Or.inl q.1
theorem fi_SE {iv av1 : Nat → Nat → Int32} : SE (u2 (u2 iv 20 2 0) 20 3 0) av1 [] 0 := ⟨by rw [u2_f _ _ _ (by decide), u2_s]; rfl, by decide, by rw [u2_s]; rfl, by decide, fun u σ hu => by simp at hu⟩
theorem fi_VA {iv av iv1 av1 : Nat → Nat → Int32} (h : flP (22 + 0) (-1) 4 iv av iv1 av1) : VA av1 0 (fun _ => -1) := fun k hk => h.2.2 k hk
theorem fi_end {iv av iv1 av1 iv2 av2 : Nat → Nat → Int32} {fs : List Nat} {ps : List Rw} {res : Int32} (h : flP (22 + 0) (-1) 4 (u2 (u2 iv 20 2 0) 20 3 0) av iv1 av1) (h2 : goP iv1 av1 0 [] 0 (sols fs (ps.drop 0) (fun _ => -1)) (wk fs (ps.drop 0) (fun _ => -1)) res iv2 av2) : fiP iv av fs ps res iv2 av2 := by
  rw [List.drop_zero] at h2
  refine ⟨fun k f hk => ?_, fun k hk => ?_, ?_⟩
  · rw [h2.1.1 k f hk, h.1, u2_k _ _ _ _ hk, u2_k _ _ _ _ hk]
  · rw [h2.1.2 k (by omega), h.2.1 k (by omega)]
  · rcases h2.2 with q | q
    · exact Or.inl ⟨q.1, by have h9 := q.2; rw [List.nil_append, Nat.zero_add] at h9; exact h9⟩
    · exact Or.inr ⟨q.1, by have h9 := q.2; rw [List.length_nil, Nat.zero_add, Nat.zero_add] at h9; exact h9⟩
theorem isVar8 {a : Int32} : fX8_isVariable a = 0 ↔ ¬ isV a := by
  unfold fX8_isVariable
  have e1 : (-1 : Int32).toInt = -1 := by decide
  have e5 : (-5 : Int32).toInt = -5 := by decide
  split
  · rename_i h; rw [Int32.lt_iff_toInt_lt] at h; exact ⟨fun _ q => by have := q.2; omega, fun _ => rfl⟩
  · rename_i h; rw [Int32.lt_iff_toInt_lt] at h
    split
    · rename_i h2; rw [Int32.le_iff_toInt_le] at h2; exact ⟨fun _ q => by have := q.1; omega, fun _ => rfl⟩
    · rename_i h2; rw [Int32.le_iff_toInt_le] at h2; exact ⟨fun q => absurd q (by decide), fun q => absurd ⟨by omega, by omega⟩ q⟩
theorem isNew8 {a : Int32} : fX8_isNewBlank a = 0 ↔ ¬ isNw a := by
  unfold fX8_isNewBlank
  have e1 : (-11 : Int32).toInt = -11 := by decide
  have e5 : (-15 : Int32).toInt = -15 := by decide
  split
  · rename_i h; rw [Int32.lt_iff_toInt_lt] at h; exact ⟨fun _ q => by have := q.2; omega, fun _ => rfl⟩
  · rename_i h; rw [Int32.lt_iff_toInt_lt] at h
    split
    · rename_i h2; rw [Int32.le_iff_toInt_le] at h2; exact ⟨fun _ q => by have := q.1; omega, fun _ => rfl⟩
    · rename_i h2; rw [Int32.le_iff_toInt_le] at h2; exact ⟨fun q => absurd q (by decide), fun q => absurd ⟨by omega, by omega⟩ q⟩
theorem isName8 {a : Int32} : fX8_isName a = 0 ↔ ¬ isNm a := by
  unfold fX8_isName
  have e1 : (0 : Int32).toInt = 0 := rfl
  have e5 : (100 : Int32).toInt = 100 := rfl
  split
  · rename_i h; rw [Int32.lt_iff_toInt_lt] at h; exact ⟨fun _ q => by have := q.1; omega, fun _ => rfl⟩
  · rename_i h; rw [Int32.lt_iff_toInt_lt] at h
    split
    · rename_i h2; rw [Int32.le_iff_toInt_le] at h2; exact ⟨fun _ q => by have := q.2; omega, fun _ => rfl⟩
    · rename_i h2; rw [Int32.le_iff_toInt_le] at h2; exact ⟨fun q => absurd q (by decide), fun q => absurd ⟨by omega, by omega⟩ q⟩
theorem vplace_c {t : Int32} (h : isV t) (u : Nat) : nI u * 4 + (-1) - t = nI (4 * u + sl t) := by
  have e := (sl_s h).2
  have e1 : nI u * (4 : Int32) = nI (u * 4) := pk_mul u 4
  rw [e1, Nat.mul_comm u 4, ← nI_add, ← e, Int32.sub_eq_add_neg, Int32.sub_eq_add_neg, Int32.add_assoc]
/-- a way's values among the solved -/
def SV (av : Nat → Nat → Int32) (u : Nat) (σ : Sg) : Prop := ∀ k, k < 4 → av 27 (4 * u + k) = σ k
def saP (iv av : Nat → Nat → Int32) (z : Int32) (w : Int32) (iv' av' : Nat → Nat → Int32) : Prop := w = z ∧ iv' = iv ∧ av' = av
/-- new blanks -/
def BL (av : Nat → Nat → Int32) (mk : Sg) : Prop := ∀ k, k < 4 → av 28 k = mk k
def wbP (iv av : Nat → Nat → Int32) (S : St) (σ mk : Sg) (t : Int32) (w : Int32) (iv' av' : Nat → Nat → Int32) : Prop :=
  FC iv av iv' av' ∧ ((blk σ S.2.2 mk t = none ∧ w = -1 ∧ SC iv' av' S ∧ BL av' mk) ∨ ∃ b1 m1 y, blk σ S.2.2 mk t = some (b1, m1, y) ∧ y < 160 ∧ w = nI y ∧ SC iv' av' (S.1, S.2.1, b1) ∧ BL av' m1 ∧ okm m1)
theorem SC_b {iv av : Nat → Nat → Int32} {S : St} (h : SC iv av S) : iv 3 1 = nI S.2.2 ∧ S.2.2 ≤ 60 := ⟨h.2.2, h.1.2.2.1⟩
theorem wb_id {iv av : Nat → Nat → Int32} {S : St} {σ mk : Sg} {t : Int32} (hS : SC iv av S) (hB : BL av mk) (hok : okm mk) (hn : fX8_isNewBlank (vl σ t) = 0) (ht : ¬ isNw t) (hp : isPn (vl σ t)) : wbP iv av S σ mk t (vl σ t) iv av := by
  refine ⟨FC.refl, Or.inr ⟨S.2.2, mk, nn (vl σ t), by unfold blk; rw [if_neg ht], ?_, (nI_of_nn hp.1).symm, hS, hB, hok⟩⟩
  have := nn_lt (n := 159) hp.1 (by have := hp.2; omega) (by decide)
  omega
theorem wb_old {iv av : Nat → Nat → Int32} {S : St} {σ mk : Sg} {t : Int32} (hS : SC iv av S) (hB : BL av mk) (hok : okm mk) (ht : isNw t) (h : ¬ mk (nsl t) = -1) : wbP iv av S σ mk t (mk (nsl t)) iv av := by
  have hk := (hok _ (nsl_s ht).1).resolve_left h
  refine ⟨FC.refl, Or.inr ⟨S.2.2, mk, nn (mk (nsl t)), by unfold blk; rw [if_pos ht, if_neg h], ?_, (nI_of_nn (by omega)).symm, hS, hB, hok⟩⟩
  have := nn_lt (n := 159) (t := mk (nsl t)) (by omega) (by omega) (by decide)
  omega
theorem mb_s {iv av : Nat → Nat → Int32} {S : St} (hS : SC iv av S) : (S.2.2 < 60 ∧ fX6_makeBlank iv av 3 = (nI (100 + S.2.2), u2 iv 3 1 (nI (S.2.2 + 1)), av)) ∨ (¬ S.2.2 < 60 ∧ fX6_makeBlank iv av 3 = (-1, iv, av)) := by
  have hb := SC_b hS
  unfold fX6_makeBlank
  by_cases q : S.2.2 < 60
  · rw [if_pos (by rw [hb.1]; exact nI_lt (b := 60) q (by decide)), hb.1, nI_1]
    have e : (100 : Int32) + nI (S.2.2 + 1) - 1 = nI (100 + S.2.2) := by
      rw [show (100 : Int32) + nI (S.2.2 + 1) = nI (100 + S.2.2 + 1) from nI_add 100 _]
      exact nI_p1 _
    rw [e]
    exact Or.inl ⟨q, rfl⟩
  · rw [if_neg (by rw [hb.1]; exact nI_nlt (b := 60) (by omega) (by omega))]
    exact Or.inr ⟨q, rfl⟩
theorem wb_new {iv av : Nat → Nat → Int32} {S : St} {σ mk : Sg} {t : Int32} (hS : SC iv av S) (hB : BL av mk) (hok : okm mk) (ht : isNw t) (h : mk (nsl t) = -1) :
    wbP iv av S σ mk t (upd ((fX6_makeBlank iv av 3).2.2 28) (nsl t) (fX6_makeBlank iv av 3).1 (nsl t)) (fX6_makeBlank iv av 3).2.1 (u1 (fX6_makeBlank iv av 3).2.2 28 (upd ((fX6_makeBlank iv av 3).2.2 28) (nsl t) (fX6_makeBlank iv av 3).1)) := by
  have hs := (nsl_s ht).1
  have e0 : ∀ (f : Nat → Int32) (z : Int32), upd f (nsl t) z (nsl t) = z := fun f z => by simp [upd]
  rw [e0]
  rcases mb_s hS with ⟨q, e⟩ | ⟨q, e⟩
  · rw [e]
    dsimp only
    refine ⟨⟨fun k f hk => u2_k _ _ _ _ (by omega), fun k hk => u1_k _ _ (by omega)⟩, Or.inr ⟨S.2.2 + 1, upd mk (nsl t) (nI (100 + S.2.2)), 100 + S.2.2, by unfold blk; rw [if_pos ht, if_pos h, if_pos q], by have := (SC_b hS).2; omega, rfl, ?_, ?_, ?_⟩⟩
    · refine ⟨okS_blk hS.1 (by omega), fun g hg => (hS.2.1 g hg).kept (u2_k _ _ _ _ (by omega)) (u2_k _ _ _ _ (by omega)) (u1_k _ _ (by omega)), u2_s _ _ _ _⟩
    · intro k hk
      rw [u1_s]
      unfold upd
      split
      · rfl
      · exact hB k hk
    · intro k hk
      unfold upd
      split
      · rw [nI_toInt (by omega)]; exact Or.inr ⟨by omega, by omega⟩
      · exact hok k hk
  · rw [e]
    dsimp only
    refine ⟨⟨fun _ _ _ => rfl, fun k hk => u1_k _ _ (by omega)⟩, Or.inl ⟨by unfold blk; rw [if_pos ht, if_pos h, if_neg q], rfl, ?_, ?_⟩⟩
    · exact ⟨hS.1, fun g hg => (hS.2.1 g hg).kept rfl rfl (u1_k _ _ (by omega)), hS.2.2⟩
    · intro k hk
      rw [u1_s]
      unfold upd
      split
      · rename_i e2; rw [e2, h]
      · exact hB k hk
