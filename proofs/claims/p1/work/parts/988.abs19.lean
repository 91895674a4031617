/-! Copying, moving, clearing on the sorted store. -/
theorem card_pG {P : Pd} {t : Nat} (ht : t < 7) (p : Nat → Bool) : card (pG P t p) = card (pG P t (fun _ => false)) + (cds p).length := by
  have h0 : cds (fun _ => false) = [] := cds_none
  rw [card_sum, card_sum]
  rcases (show t = 0 ∨ t = 1 ∨ t = 2 ∨ t = 3 ∨ t = 4 ∨ t = 5 ∨ t = 6 by omega) with rfl | rfl | rfl | rfl | rfl | rfl | rfl <;>
    simp [pG, h0] <;> omega
theorem pG_id {P : Pd} {g : Nat} : pG P g (P g) = P := by
  funext g' c; unfold pG; split
  · rename_i e; rw [e]
  · rfl
theorem card_move {P : Pd} {f t : Nat} (hf : f < 7) (ht : t < 7) (hft : f ≠ t) : card (pG (pG P t (P f)) f (fun _ => false)) = card (pG P t (fun _ => false)) := by
  have h1 := card_pG (P := pG P t (P f)) hf ((pG P t (P f)) f)
  rw [pG_id] at h1
  have h2 := card_pG (P := P) ht (P f)
  have e : (pG P t (P f)) f = P f := pG_k _ _ hft
  rw [e] at h1
  omega
/-- the store's cells, whatever the number of facts -/
def SG (iv av : Nat → Nat → Int32) (S : St) : Prop := (∀ g, g < 7 → GC iv av (4 + 1 + 2 * g) (S.1 g) (S.2.1 g)) ∧ iv 3 1 = nI S.2.2
theorem SG_put1 {iv av iv' av' : Nat → Nat → Int32} {S S' : St} {g : Nat} (h : SG iv av S) (hG : GC iv' av' (4 + 1 + 2 * g) (S'.1 g) (S'.2.1 g)) (hF : GF (4 + 1 + 2 * g) iv av iv' av') (h1 : ∀ g', g' ≠ g → S'.1 g' = S.1 g') (h2 : ∀ g', g' ≠ g → S'.2.1 g' = S.2.1 g') (h3 : S'.2.2 = S.2.2) : SG iv' av' S' := by
  refine ⟨fun g' hg' => ?_, by rw [hF.1 3 1 (by omega), h3]; exact h.2⟩
  by_cases q : g' = g
  · subst q; exact hG
  · rw [h1 g' q, h2 g' q]
    exact (h.1 g' hg').kept (hF.1 _ _ (by omega)) (hF.1 _ _ (by omega)) (hF.2 _ (by omega))
theorem GF_u2 {iv av : Nat → Nat → Int32} {k f : Nat} {z : Int32} : GF k iv av (u2 iv k f z) av := ⟨fun k' f' hk => u2_k _ _ _ _ hk, fun _ _ => rfl⟩
theorem GF.trans {k : Nat} {iv av iv1 av1 iv2 av2 : Nat → Nat → Int32} (h : GF k iv av iv1 av1) (h2 : GF k iv1 av1 iv2 av2) : GF k iv av iv2 av2 := ⟨fun k' f a => (h2.1 k' f a).trans (h.1 k' f a), fun k' a => (h2.2 k' a).trans (h.2 k' a)⟩
theorem SG_clr {iv av : Nat → Nat → Int32} {S : St} {g : Nat} (h : SG iv av S) (hg : g < 7) : SG (u2 iv (4 + 1 + 2 * g) 1 0) av (pG S.1 g (fun _ => false), S.2) := by
  refine SG_put1 h ?_ GF_u2 (fun g' q => pG_k _ _ q) (fun _ _ => rfl) rfl
  show GC _ _ _ (pG S.1 g (fun _ => false) g) _
  rw [pG_s]
  have hG := h.1 g hg
  exact ⟨by rw [u2_s, cds_none]; rfl, by rw [u2_f _ _ _ (by decide)]; exact hG.2.1, fun i hi => by rw [cds_none] at hi; exact absurd hi (Nat.not_lt_zero _)⟩
theorem drop_s {iv av : Nat → Nat → Int32} {S : St} {g : Nat} (h : SG iv av S) (hg : g < 7) : SG (fX6_drop iv av 3 g (nI g)).1 (fX6_drop iv av 3 g (nI g)).2 (pG S.1 g (fun _ => false), tS S.2.1 g (decide (g = 0)), S.2.2) ∧ FC iv av (fX6_drop iv av 3 g (nI g)).1 (fX6_drop iv av 3 g (nI g)).2 := by
  have key : ∀ z : Int32, z = tI (decide (g = 0)) → SG (u2 (u2 iv (4 + 1 + 2 * g) 1 0) (4 + 1 + 2 * g) 2 z) av (pG S.1 g (fun _ => false), tS S.2.1 g (decide (g = 0)), S.2.2) ∧ FC iv av (u2 (u2 iv (4 + 1 + 2 * g) 1 0) (4 + 1 + 2 * g) 2 z) av := by
    intro z hz
    refine ⟨SG_put1 h ?_ (GF_u2.trans GF_u2) (fun g' q => pG_k _ _ q) (fun g' q => by simp [tS, q]) rfl, (GF.trans GF_u2 GF_u2).C hg⟩
    show GC _ _ _ (pG S.1 g (fun _ => false) g) (tS S.2.1 g (decide (g = 0)) g)
    rw [pG_s, show tS S.2.1 g (decide (g = 0)) g = decide (g = 0) by simp [tS]]
    exact ⟨by rw [u2_f _ _ _ (by decide), u2_s, cds_none]; rfl, by rw [u2_s]; exact hz, fun i hi => by rw [cds_none] at hi; exact absurd hi (Nat.not_lt_zero _)⟩
  unfold fX6_drop
  by_cases q : g = 0
  · subst q
    rw [if_pos (show nI 0 = 0 from rfl)]
    exact key 1 rfl
  · rw [if_neg (nI_ne0 (by omega) (by omega))]
    exact key 0 (by simp [q, tI])
theorem become_s {iv av : Nat → Nat → Int32} {S : St} {f t : Nat} (h : SG iv av S) (hl : (cds (S.1 f)).length ≤ 120) (hf : f < 7) (ht : t < 7) : SG (fX2_become iv av (4 + 1 + 2 * t) (4 + 1 + 2 * f)).1 (fX2_become iv av (4 + 1 + 2 * t) (4 + 1 + 2 * f)).2 (pG S.1 t (S.1 f), tS S.2.1 t (S.2.1 f), S.2.2) ∧ FC iv av (fX2_become iv av (4 + 1 + 2 * t) (4 + 1 + 2 * f)).1 (fX2_become iv av (4 + 1 + 2 * t) (4 + 1 + 2 * f)).2 := by
  have hG := h.1 f hf
  unfold fX2_become
  have hF : GF (4 + 1 + 2 * t) iv av (u2 (u2 iv (4 + 1 + 2 * t) 1 (iv (4 + 1 + 2 * f) 1)) (4 + 1 + 2 * t) 2 (iv (4 + 1 + 2 * f) 2)) (u1 av (4 + 1 + 2 * t + 1) (va_cpy (av (4 + 1 + 2 * f + 1)) (av (4 + 1 + 2 * t + 1)) (Int32.toNatClampNeg 0) (Int32.toNatClampNeg 0) (Int32.toNatClampNeg (iv (4 + 1 + 2 * f) 1)))) :=
    ⟨fun k' f' hk => by rw [u2_k _ _ _ _ hk, u2_k _ _ _ _ hk], fun k' hk => u1_k _ _ hk⟩
  refine ⟨SG_put1 h ?_ hF (fun g' q => pG_k _ _ q) (fun g' q => by simp [tS, q]) rfl, hF.C ht⟩
  show GC _ _ _ (pG S.1 t (S.1 f) t) (tS S.2.1 t (S.2.1 f) t)
  rw [pG_s, show tS S.2.1 t (S.2.1 f) t = S.2.1 f by simp [tS]]
  dsimp only
  refine ⟨by rw [u2_f _ _ _ (by decide), u2_s]; exact hG.1, by rw [u2_s]; exact hG.2.1, fun i hi => ?_⟩
  rw [u1_s, hG.1, nI_clamp (by omega)]
  unfold va_cpy
  rw [show Int32.toNatClampNeg 0 = 0 by decide, if_pos (by omega), Nat.sub_zero, Nat.zero_add]
  exact hG.2.2 i hi
theorem okS_copy {S : St} (h : okS S) {f t : Nat} (ht : t < 7) (hc : card (pG S.1 t (S.1 f)) ≤ 120) : okS (pG S.1 t (S.1 f), tS S.2.1 t true, S.2.2) := by
  refine ⟨okP_pG h.1 ht (okP_g h.1 f), hc, h.2.2.1, ?_, fun g c q => ?_⟩
  · show tS S.2.1 t true 0 = true
    unfold tS; split <;> first | rfl | exact h.2.2.2.1
  · show tS S.2.1 t true g = true
    unfold tS
    split
    · rfl
    · rename_i e
      have q : pG S.1 t (S.1 f) g c = true := q
      rw [pG_k _ _ e] at q
      exact h.2.2.2.2 g c q
theorem okS_move {S : St} (h : okS S) {f t : Nat} (hf : f < 7) (ht : t < 7) (hft : f ≠ t) : okS (pG (pG S.1 t (S.1 f)) f (fun _ => false), tS (tS S.2.1 t true) f (decide (f = 0)), S.2.2) := by
  refine ⟨okP_pG (okP_pG h.1 ht (okP_g h.1 f)) hf (fun c q => by cases q), ?_, h.2.2.1, ?_, fun g c q => ?_⟩
  · show card _ ≤ 120
    rw [card_move hf ht hft]
    exact (okS_clr h t).2.1
  · show tS (tS S.2.1 t true) f (decide (f = 0)) 0 = true
    unfold tS
    split
    · rename_i e; simp [← e]
    · split <;> first | rfl | exact h.2.2.2.1
  · have q : pG (pG S.1 t (S.1 f)) f (fun _ => false) g c = true := q
    show tS (tS S.2.1 t true) f (decide (f = 0)) g = true
    unfold pG at q
    split at q
    · cases q
    · rename_i e
      unfold tS
      rw [if_neg e]
      split at q
      · rename_i e2; rw [if_pos e2]
      · rename_i e2; rw [if_neg e2]; exact h.2.2.2.2 g c q
theorem SC.G {iv av : Nat → Nat → Int32} {S : St} (h : SC iv av S) : SG iv av S := h.2
theorem brc_2 {iv av : Nat → Nat → Int32} {S : St} {k f t : Nat} (hS : SC iv av S) (h : tI (S.2.1 f) = 0) : AC iv av (aBring k f t S) 2 iv av := by
  unfold aBring
  rw [if_pos (tI_0.mp h)]
  exact AC_same rfl FC.refl hS
theorem brc_s {iv av : Nat → Nat → Int32} {S : St} {k f t : Nat} (hS : SC iv av S) (h : ¬ tI (S.2.1 f) = 0) (e : f = t) : AC iv av (aBring k f t S) 0 iv av := by
  unfold aBring
  rw [if_neg (by rw [tI_1.mp h]; decide), if_pos e]
  exact AC_same rfl FC.refl hS
theorem brc_8 {iv av iv' av' : Nat → Nat → Int32} {S : St} {f t : Nat} {w : Int32} (h : ¬ tI (S.2.1 f) = 0) (e : ¬ f = t) (ha : FC iv av iv' av' ∧ ((w = 4 ∧ putAll t (cds (S.1 f)) (S.1, tS S.2.1 t true, S.2.2) = none) ∨ ∃ S', w = 0 ∧ putAll t (cds (S.1 f)) (S.1, tS S.2.1 t true, S.2.2) = some S' ∧ SC iv' av' S')) : AC iv av (aBring 8 f t S) w iv' av' := by
  unfold aBring
  rw [if_neg (by rw [tI_1.mp h]; decide), if_neg e, if_pos rfl]
  rcases ha.2 with q | ⟨S', q1, q2, q3⟩
  · rw [q.2]; exact AC_no q.1 (by decide) ha.1.K
  · rw [q2]; exact AC_same q1 ha.1 q3
theorem brc_4 {iv av iv' av' : Nat → Nat → Int32} {S : St} {f t : Nat} (ht : t < 7) (h : ¬ tI (S.2.1 f) = 0) (e : ¬ f = t) (hl : card (pG S.1 t (fun _ => false)) + (cds (S.1 f)).length < 2 ^ 31) (hc : ¬ nI (card (pG S.1 t (fun _ => false)) + (cds (S.1 f)).length) ≤ nI 120) (hf : FC iv av iv' av') : AC iv av (aBring 6 f t S) 4 iv' av' := by
  rw [nI_leI hl (by decide)] at hc
  unfold aBring
  rw [if_neg (by rw [tI_1.mp h]; decide), if_neg e, if_neg (by decide), if_neg (by decide), if_pos (by rw [card_pG ht]; omega)]
  exact AC_no rfl (by decide) hf.K
theorem brc_6 {iv av iv' av' : Nat → Nat → Int32} {S : St} {f t : Nat} (hS : okS S) (ht : t < 7) (h : ¬ tI (S.2.1 f) = 0) (e : ¬ f = t) (hl : card (pG S.1 t (fun _ => false)) + (cds (S.1 f)).length < 2 ^ 31) (hc : nI (card (pG S.1 t (fun _ => false)) + (cds (S.1 f)).length) ≤ nI 120) (hf : FC iv av iv' av') (hG : SG iv' av' (pG S.1 t (S.1 f), tS S.2.1 t (S.2.1 f), S.2.2)) : AC iv av (aBring 6 f t S) 0 iv' av' := by
  rw [nI_leI hl (by decide), ← card_pG ht] at hc
  unfold aBring
  rw [if_neg (by rw [tI_1.mp h]; decide), if_neg e, if_neg (by decide), if_neg (by decide), if_neg (by omega)]
  rw [tI_1.mp h] at hG
  exact AC_same rfl hf ⟨okS_copy hS ht hc, hG⟩
theorem brc_7 {iv av iv' av' : Nat → Nat → Int32} {S : St} {f t : Nat} (hS : okS S) (hf7 : f < 7) (ht : t < 7) (h : ¬ tI (S.2.1 f) = 0) (e : ¬ f = t) (hf : FC iv av iv' av') (hG : SG iv' av' (pG (pG S.1 t (S.1 f)) f (fun _ => false), tS (tS S.2.1 t (S.2.1 f)) f (decide (f = 0)), S.2.2)) : AC iv av (aBring 7 f t S) 0 iv' av' := by
  unfold aBring
  rw [if_neg (by rw [tI_1.mp h]; decide), if_neg e, if_neg (by decide), if_pos rfl]
  rw [tI_1.mp h] at hG
  exact AC_same rfl hf ⟨okS_move hS hf7 ht e, hG⟩
theorem factCount_g {iv av : Nat → Nat → Int32} {S : St} (h : SG iv av S) : fX6_factCount iv 3 = nI (card S.1) := by
  have e : ∀ g, g < 7 → iv (3 + 1 + 1 + 2 * g) 1 = nI (cds (S.1 g)).length := fun g hg => (h.1 g hg).1
  unfold fX6_factCount
  simp only [stX6_factCount_4]
  rw [e 0 (by decide), e 1 (by decide), e 2 (by decide), e 3 (by decide), e 4 (by decide), e 5 (by decide), e 6 (by decide), card_sum, show (0 : Int32) = nI 0 from rfl]
  simp only [nI_add, Nat.zero_add]
theorem pG_2 {P : Pd} {t : Nat} {p : Nat → Bool} : pG (pG P t (fun _ => false)) t p = pG P t p := by
  funext g c; unfold pG; split <;> rfl
theorem tS_2 {T : Nat → Bool} {g : Nat} {a b : Bool} : tS (tS T g a) g b = tS T g b := by
  funext g'; unfold tS; split <;> rfl
/-- clearing from a place on -/
def cwP (P : Pd) (a j : Nat) : Pd := fun g c => P g c && !(decide (a ≤ g) && decide (g < a + j))
def cwT (T : Nat → Bool) (d : Bool) (a j : Nat) : Nat → Bool := fun g => if d = true ∧ a ≤ g ∧ g < a + j then decide (g = 0) else T g
theorem cw_0 {S : St} {d : Bool} {a : Nat} : (cwP S.1 a 0, cwT S.2.1 d a 0, S.2.2) = S := by
  have e1 : cwP S.1 a 0 = S.1 := by funext g c; unfold cwP; by_cases q : a ≤ g <;> simp [q]
  have e2 : cwT S.2.1 d a 0 = S.2.1 := by funext g; unfold cwT; rw [if_neg (by omega)]
  rw [e1, e2]
theorem cw_step {S : St} {d : Bool} {a j : Nat} : (cwP S.1 a (j + 1), cwT S.2.1 d a (j + 1), S.2.2) = (pG (cwP S.1 a j) (a + j) (fun _ => false), (if d = true then tS (cwT S.2.1 d a j) (a + j) (decide (a + j = 0)) else cwT S.2.1 d a j), S.2.2) := by
  have e1 : cwP S.1 a (j + 1) = pG (cwP S.1 a j) (a + j) (fun _ => false) := by
    funext g c
    unfold cwP pG
    by_cases q : g = a + j
    · rw [if_pos q]; simp [q]
    · rw [if_neg q]
      have : (g < a + (j + 1)) ↔ g < a + j := by omega
      simp [this]
  have e2 : cwT S.2.1 d a (j + 1) = (if d = true then tS (cwT S.2.1 d a j) (a + j) (decide (a + j = 0)) else cwT S.2.1 d a j) := by
    by_cases hd : d = true
    · rw [if_pos hd]
      funext g
      unfold cwT tS
      by_cases q : g = a + j
      · rw [if_pos ⟨hd, by omega, by omega⟩, if_pos q, q]
      · rw [if_neg q]
        dsimp only
        by_cases r : a ≤ g ∧ g < a + j
        · rw [if_pos ⟨hd, by omega, by omega⟩, if_pos ⟨hd, r⟩]
        · rw [if_neg (by omega), if_neg (by omega)]
    · rw [if_neg hd]
      funext g
      unfold cwT
      rw [if_neg (fun q => hd q.1), if_neg (fun q => hd q.1)]
  rw [e1, e2]
theorem cw_end {S : St} {d : Bool} {to : Int32} {a n : Nat} (ho : okS S) (h : ∀ g, g < 7 → (inTo to g = true ↔ a ≤ g ∧ g < a + n)) (hn : a + n ≤ 7) : okS ((fun g c => S.1 g c && !inTo to g, fun g => S.2.1 g && (!(d && inTo to g) || decide (g = 0)), S.2.2) : St) ∧ ∀ iv av, SG iv av (cwP S.1 a n, cwT S.2.1 d a n, S.2.2) → SG iv av ((fun g c => S.1 g c && !inTo to g, fun g => S.2.1 g && (!(d && inTo to g) || decide (g = 0)), S.2.2) : St) := by
  refine ⟨⟨fun g c q => ho.1 g c (by simp at q; exact q.1), Nat.le_trans (card_le ho.1 (fun g c q => by simp at q; exact q.1)) ho.2.1, ho.2.2.1, by show (S.2.1 0 && _) = true; rw [ho.2.2.2.1]; simp, fun g c q => ?_⟩, fun iv av hG => ⟨fun g hg => ?_, hG.2⟩⟩
  · have q : (S.1 g c && !inTo to g) = true := q
    show (S.2.1 g && (!(d && inTo to g) || decide (g = 0))) = true
    simp at q
    rw [ho.2.2.2.2 g c q.1, q.2]
    simp
  · have := hG.1 g hg
    have e1 : cwP S.1 a n g = fun c => S.1 g c && !inTo to g := by
      funext c
      unfold cwP
      by_cases q : a ≤ g ∧ g < a + n
      · rw [(h g hg).mpr q]; simp [q]
      · rw [Bool.eq_false_iff.mpr (fun r => q ((h g hg).mp r))]
        simp only [Bool.not_false, Bool.and_true]
        by_cases q1 : a ≤ g
        · simp [q1, show ¬ g < a + n by omega]
        · simp [q1]
    have e2 : cwT S.2.1 d a n g = (S.2.1 g && (!(d && inTo to g) || decide (g = 0))) := by
      unfold cwT
      by_cases q : a ≤ g ∧ g < a + n
      · rw [(h g hg).mpr q]
        cases d with
        | false => simp
        | true =>
          rw [if_pos ⟨rfl, q⟩]
          by_cases g0 : g = 0
          · subst g0; simp [ho.2.2.2.1]
          · simp [g0]
      · rw [if_neg (fun r => q r.2), Bool.eq_false_iff.mpr (fun r => q ((h g hg).mp r))]
        simp
    show GC iv av (4 + 1 + 2 * g) (fun c => S.1 g c && !inTo to g) (S.2.1 g && (!(d && inTo to g) || decide (g = 0)))
    rw [← e1, ← e2]
    exact this
theorem isGr_s {a : Int32} : fX8_isGraph a = 0 ↔ ¬ (0 ≤ a.toInt ∧ a.toInt ≤ 6) := by
  unfold fX8_isGraph
  have h0 : (0 : Int32).toInt = 0 := rfl
  have h7 : (7 : Int32).toInt = 7 := rfl
  split
  · rename_i h; rw [Int32.lt_iff_toInt_lt] at h; exact ⟨fun _ q => by omega, fun _ => rfl⟩
  · rename_i h; rw [Int32.lt_iff_toInt_lt] at h
    split
    · rename_i h2; rw [Int32.le_iff_toInt_le] at h2; exact ⟨fun _ q => by omega, fun _ => rfl⟩
    · rename_i h2; rw [Int32.le_iff_toInt_le] at h2; exact ⟨fun q => absurd q (by decide), fun q => absurd ⟨by omega, by omega⟩ q⟩
theorem to_gr {to : Int32} (h : ¬ fX8_isGraph to = 0) : ∃ t, t < 7 ∧ to = nI t ∧ nn to = t := by
  have h : 0 ≤ to.toInt ∧ to.toInt ≤ 6 := Classical.not_not.mp (fun q => h (isGr_s.mpr q))
  obtain ⟨j, hj, e⟩ := vp_in_of (x := to) (n := 7) (vp_in_iff.mpr ⟨h.1, by omega⟩) (by decide)
  exact ⟨j, hj, e, by rw [e]; exact nI_clamp (by omega)⟩
theorem to_m2 {to : Int32} (h : fX8_isGraph to = 0) (h1 : -2 ≤ to.toInt) (h2 : to.toInt ≤ 6) (h3 : ¬ to = -1) : to = -2 := by
  rw [isGr_s] at h
  apply Int32.toInt_inj.mp
  have e1 : (-1 : Int32).toInt = -1 := by decide
  have e2 : (-2 : Int32).toInt = -2 := by decide
  have : to.toInt ≠ -1 := fun q => h3 (Int32.toInt_inj.mp (q.trans e1.symm))
  omega
theorem inTo_one {t g : Nat} (ht : t < 7) (hg : g < 7) : inTo (nI t) g = true ↔ t ≤ g ∧ g < t + 1 := by
  have e : (nI t = nI g) ↔ t = g := nI_eq (by omega) (by omega)
  have n2 : ¬ nI t = -2 := fun q => by have := congrArg Int32.toInt q; rw [nI_toInt (by omega)] at this; have e : (-2 : Int32).toInt = -2 := by decide
                                       omega
  unfold inTo
  simp only [e, nI_n1 (show t < 2 ^ 31 by omega), n2, hg, decide_true, decide_false, Bool.true_and, Bool.false_and, Bool.or_false, decide_eq_true_eq]
  omega
theorem inTo_all {g : Nat} (hg : g < 7) : inTo (-1) g = true ↔ 0 ≤ g ∧ g < 0 + 7 := by
  unfold inTo; simp [hg]
theorem inTo_named {g : Nat} (hg : g < 7) : inTo (-2) g = true ↔ 1 ≤ g ∧ g < 1 + 6 := by
  have n2 : ¬ (-2 : Int32) = nI g := fun q => by have := congrArg Int32.toInt q; rw [nI_toInt (by omega)] at this; have e : (-2 : Int32).toInt = -2 := by decide
                                                 omega
  unfold inTo
  rw [decide_eq_false n2, decide_eq_false (show ¬ ((-2 : Int32) = -1) by decide)]
  simp [hg]
  omega
theorem wpc_2 {iv av : Nat → Nat → Int32} {S : St} {d : Bool} {to : Int32} (hS : SC iv av S) (h0 : ¬ fX8_isGraph to = 0) (h : tI (S.2.1 (nn to)) = 0) : AC iv av (aWipe d to S) 2 iv av := by
  have h0 : 0 ≤ to.toInt ∧ to.toInt ≤ 6 := Classical.not_not.mp (fun q => h0 (isGr_s.mpr q))
  unfold aWipe
  rw [if_pos ⟨h0.1, tI_0.mp h⟩]
  exact AC_same rfl FC.refl hS
/-- clearing, graph by graph -/
def cwJ (iv av : Nat → Nat → Int32) (S : St) (d : Bool) (a j : Nat) (iv' av' : Nat → Nat → Int32) : Prop := FC iv av iv' av' ∧ SG iv' av' (cwP S.1 a j, cwT S.2.1 d a j, S.2.2)
theorem cwJ_0 {iv av : Nat → Nat → Int32} {S : St} {d : Bool} {a : Nat} (hS : SC iv av S) : cwJ iv av S d a 0 iv av := ⟨FC.refl, by rw [cw_0]; exact hS.2⟩
theorem cwJ_d {iv av iv1 av1 : Nat → Nat → Int32} {S : St} {a j : Nat} (h : cwJ iv av S true a j iv1 av1) (hj : a + j < 7) : cwJ iv av S true a (j + 1) (fX6_drop iv1 av1 3 (a + j) (nI (a + j))).1 (fX6_drop iv1 av1 3 (a + j) (nI (a + j))).2 := by
  have := drop_s h.2 hj
  refine ⟨h.1.trans this.2, ?_⟩
  rw [cw_step, if_pos rfl]
  exact this.1
theorem cwJ_c {iv av iv1 av1 : Nat → Nat → Int32} {S : St} {a j : Nat} (h : cwJ iv av S false a j iv1 av1) (hj : a + j < 7) : cwJ iv av S false a (j + 1) (u2 iv1 (4 + 1 + 2 * (a + j)) 1 0) av1 := by
  refine ⟨h.1.trans (GF_u2.C hj), ?_⟩
  rw [cw_step, if_neg (by decide)]
  exact SG_clr h.2 hj
theorem wpc_0 {iv av iv' av' : Nat → Nat → Int32} {S : St} {d : Bool} {to : Int32} {a n : Nat} (h6 : to.toInt ≤ 6) (hS : SC iv av S) (h0 : fX8_isGraph to = 0 ∨ ¬ tI (S.2.1 (nn to)) = 0) (h : ∀ g, g < 7 → (inTo to g = true ↔ a ≤ g ∧ g < a + n)) (hn : a + n ≤ 7) (hI : cwJ iv av S d a n iv' av') : AC iv av (aWipe d to S) 0 iv' av' := by
  have hc := cw_end (d := d) hS.1 h hn
  unfold aWipe
  rw [if_neg]
  · exact AC_same rfl hI.1 ⟨hc.1, hc.2 _ _ hI.2⟩
  · rintro ⟨q1, q2⟩
    rcases h0 with r | r
    · rw [isGr_s] at r
      exact r ⟨q1, h6⟩
    · rw [q2] at r; exact r rfl
