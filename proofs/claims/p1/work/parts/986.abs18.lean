/-! The sequence and the files in rows of cells, and steps on the sorted store. -/
def EC (iv av : Nat → Nat → Int32) (i : Nat) (q : Sq) : Prop := iv (61 + 6 * i) 3 = nI q.1 ∧ iv (61 + 6 * i) 4 = nI q.2.1 ∧ iv (61 + 6 * i) 5 = q.2.2.1 ∧ iv (61 + 6 * i) 6 = tI q.2.2.2.1 ∧ iv (61 + 6 * i + 1) 2 = nI q.2.2.2.2.1.length ∧ iv (61 + 6 * i + 1) 1 = nI 6 ∧
  (∀ j t, q.2.2.2.2.1[j]? = some t → av (61 + 6 * i + 1 + 1) (3 * j) = t.1 ∧ av (61 + 6 * i + 1 + 1) (3 * j + 1) = t.2.1 ∧ av (61 + 6 * i + 1 + 1) (3 * j + 2) = t.2.2.1 ∧ av (61 + 6 * i + 3) j = tI t.2.2.2) ∧ iv (61 + 6 * i + 4) 2 = nI q.2.2.2.2.2.length ∧ iv (61 + 6 * i + 4) 1 = nI 4 ∧
  (∀ j t, q.2.2.2.2.2[j]? = some t → av (61 + 6 * i + 4 + 1) (3 * j) = t.1 ∧ av (61 + 6 * i + 4 + 1) (3 * j + 1) = t.2.1 ∧ av (61 + 6 * i + 4 + 1) (3 * j + 2) = t.2.2)
def FLc (iv av : Nat → Nat → Int32) (TN : Nat → Bool) (FL : Nat → List Nat) : Prop := ∀ f, f < 4 → iv (29 + 3 * f + 1) 2 = nI (FL f).length ∧ (FL f).length ≤ 10 ∧ iv (29 + 3 * f + 1) 1 = nI 10 ∧ iv (29 + 3 * f) 1 = tI (TN f) ∧ (∀ j, j < (FL f).length → av (29 + 3 * f + 1 + 1) (3 * j) = nI (pt ((FL f).getD j 0) 0) ∧ av (29 + 3 * f + 1 + 1) (3 * j + 1) = nI (pt ((FL f).getD j 0) 1) ∧ av (29 + 3 * f + 1 + 1) (3 * j + 2) = nI (pt ((FL f).getD j 0) 2)) ∧ ∀ c ∈ FL f, okc c
/-- what a step may change of the cells -/
def FK (iv av iv' av' : Nat → Nat → Int32) : Prop := (∀ k f, (k < 2 ∨ (18 < k ∧ k ≠ 20)) → ¬ (61 ≤ k ∧ f = 7) → iv' k f = iv k f) ∧ ∀ k, (k < 3 ∨ (18 < k ∧ k < 22) ∨ 28 < k) → av' k = av k
theorem FK.refl {iv av : Nat → Nat → Int32} : FK iv av iv av := ⟨fun _ _ _ _ => rfl, fun _ _ => rfl⟩
theorem FK.trans {iv av iv1 av1 iv2 av2 : Nat → Nat → Int32} (h : FK iv av iv1 av1) (h2 : FK iv1 av1 iv2 av2) : FK iv av iv2 av2 := ⟨fun k f a b => (h2.1 k f a b).trans (h.1 k f a b), fun k a => (h2.2 k a).trans (h.2 k a)⟩
theorem FC.K {iv av iv' av' : Nat → Nat → Int32} (h : FC iv av iv' av') : FK iv av iv' av' := ⟨fun k f a _ => h.1 k f (by omega), fun k a => h.2 k (by omega)⟩
theorem EC.kept {iv av iv' av' : Nat → Nat → Int32} {i : Nat} {q : Sq} (h : EC iv av i q) (hf : FK iv av iv' av') : EC iv' av' i q := by
  unfold EC at h ⊢
  rw [hf.1 (61 + 6 * i) 3 (by omega) (by omega), hf.1 (61 + 6 * i) 4 (by omega) (by omega), hf.1 (61 + 6 * i) 5 (by omega) (by omega), hf.1 (61 + 6 * i) 6 (by omega) (by omega), hf.1 (61 + 6 * i + 1) 2 (by omega) (by omega), hf.1 (61 + 6 * i + 1) 1 (by omega) (by omega), hf.1 (61 + 6 * i + 4) 2 (by omega) (by omega), hf.1 (61 + 6 * i + 4) 1 (by omega) (by omega), hf.2 (61 + 6 * i + 1 + 1) (by omega), hf.2 (61 + 6 * i + 3) (by omega), hf.2 (61 + 6 * i + 4 + 1) (by omega)]
  exact h
theorem FLc.kept {iv av iv' av' : Nat → Nat → Int32} {TN : Nat → Bool} {FL : Nat → List Nat} (h : FLc iv av TN FL) (hf : FK iv av iv' av') : FLc iv' av' TN FL := by
  intro f hf4
  rw [hf.1 (29 + 3 * f + 1) 2 (by omega) (by omega), hf.1 (29 + 3 * f + 1) 1 (by omega) (by omega), hf.1 (29 + 3 * f) 1 (by omega) (by omega), hf.2 (29 + 3 * f + 1 + 1) (by omega)]
  exact h f hf4
/-- the end of a step -/
def AC (iv av : Nat → Nat → Int32) (a : Nat × St × Nat) (w : Int32) (iv' av' : Nat → Nat → Int32) : Prop := w = nI a.1 ∧ FK iv av iv' av' ∧ (a.1 < 4 → SC iv' av' a.2.1 ∧ iv' 2 4 = iv 2 4 + nI a.2.2)
theorem AC_same {iv av iv' av' : Nat → Nat → Int32} {S : St} {w : Int32} {n : Nat} (hw : w = nI n) (hf : FC iv av iv' av') (hS : SC iv' av' S) : AC iv av (n, S, 0) w iv' av' := ⟨hw, hf.K, fun _ => ⟨hS, by show iv' 2 4 = iv 2 4 + nI 0; rw [nI_0, hf.1 2 4 (by omega)]; simp⟩⟩
theorem AC_no {iv av iv' av' : Nat → Nat → Int32} {S : St} {w : Int32} {n : Nat} (hw : w = nI n) (hn : 4 ≤ n) (hf : FK iv av iv' av') : AC iv av (n, S, 0) w iv' av' := ⟨hw, hf, fun q => absurd q (show ¬ n < 4 by omega)⟩
theorem mkc_1 {iv av : Nat → Nat → Int32} {S : St} {to : Nat} (hS : SC iv av S) (h : ¬ tI (S.2.1 to) = 0) : AC iv av (aMake to S) 1 iv av := by
  unfold aMake
  rw [if_pos (tI_1.mp h)]
  exact AC_same rfl FC.refl hS
theorem mkc_0 {iv av : Nat → Nat → Int32} {S : St} {to : Nat} (hS : SC iv av S) (ht : to < 7) (h : tI (S.2.1 to) = 0) : AC iv av (aMake to S) 0 (u2 iv (4 + 1 + 2 * to) 2 1) av := by
  unfold aMake
  rw [if_neg (by rw [tI_0.mp h]; decide)]
  exact AC_same rfl (FC_there ht) (SC_there hS ht)
/-- rows put in one by one -/
def piI (iv av : Nat → Nat → Int32) (to : Nat) (l : List Nat) (S : St) (iv' av' : Nat → Nat → Int32) : Prop := FC iv av iv' av' ∧ ∃ S', putAll to l S = some S' ∧ SC iv' av' S'
theorem pi_next {iv av iv1 av1 iv2 av2 : Nat → Nat → Int32} {to j : Nat} {l : List Nat} {S S' : St} {w : Int32} (hj : j < l.length) (hf : FC iv av iv1 av1) (e : putAll to (l.take j) S = some S') (h : ptP iv1 av1 S' to (l.getD j 0) w iv2 av2) (hw : ¬ w = 0) : piI iv av to (l.take (j + 1)) S iv2 av2 := by
  refine ⟨hf.trans h.1, ?_⟩
  rcases h.2.2 with q | ⟨S2, _, q, hS⟩
  · exact absurd q.1 hw
  · exact ⟨S2, by rw [putAll_step hj, e]; exact q, hS⟩
theorem pi_no {iv1 av1 iv2 av2 : Nat → Nat → Int32} {to j : Nat} {l : List Nat} {S S' : St} {w : Int32} (hj : j < l.length) (e : putAll to (l.take j) S = some S') (h : ptP iv1 av1 S' to (l.getD j 0) w iv2 av2) (hw : w = 0) : putAll to l S = none := by
  refine putAll_none (j := j + 1) ?_
  rw [putAll_step hj, e]
  rcases h.2.2 with q | ⟨S2, q, _⟩
  · exact q.2
  · rw [hw] at q; exact absurd q (by decide)
theorem rdc_3 {iv av : Nat → Nat → Int32} {S : St} {tn : Bool} {fl : List Nat} {to : Nat} (hS : SC iv av S) (h : ¬ tI tn = 0) : AC iv av (aRead tn fl to S) 3 iv av := by
  unfold aRead
  rw [if_pos (tI_1.mp h)]
  exact AC_same rfl FC.refl hS
theorem rdc_4 {iv av iv' av' : Nat → Nat → Int32} {S : St} {tn : Bool} {fl : List Nat} {to : Nat} (h : tI tn = 0) (hf : FC iv av iv' av') (e : putAll to fl (S.1, tS S.2.1 to true, S.2.2) = none) : AC iv av (aRead tn fl to S) 4 iv' av' := by
  unfold aRead
  rw [if_neg (by rw [tI_0.mp h]; decide), e]
  exact AC_no rfl (by decide) hf.K
theorem rdc_0 {iv av iv' av' : Nat → Nat → Int32} {S : St} {tn : Bool} {fl : List Nat} {to : Nat} (h : tI tn = 0) (hI : piI iv av to (fl.take fl.length) (S.1, tS S.2.1 to true, S.2.2) iv' av') : AC iv av (aRead tn fl to S) 0 iv' av' := by
  rw [List.take_length] at hI
  obtain ⟨hf, S', e, hS⟩ := hI
  unfold aRead
  rw [if_neg (by rw [tI_0.mp h]; decide), e]
  exact AC_same rfl hf hS
/-- a fact out of its parts -/
theorem or_cd {a b d : Nat} (hb : b < 256) (hd : d < 256) : (a * 65536 ||| b * 256) ||| d = a * 65536 + b * 256 + d := by
  have e1 : a * 65536 ||| b * 256 = (a * 256 + b) * 256 := by
    have h : (a * 256) <<< 8 ||| b <<< 8 = (a * 256 ||| b) <<< 8 := Nat.shiftLeft_or_distrib.symm
    rw [Nat.shiftLeft_eq, Nat.shiftLeft_eq, Nat.shiftLeft_eq] at h
    have h2 : a * 256 ||| b = a * 256 + b := by
      have := Nat.shiftLeft_add_eq_or_of_lt (b := b) (i := 8) hb a
      rw [Nat.shiftLeft_eq] at this
      exact this.symm
    rw [h2] at h
    have e : a * 256 * 2 ^ 8 = a * 65536 := by omega
    rw [e] at h
    exact h
  rw [e1]
  have := Nat.shiftLeft_add_eq_or_of_lt (b := d) (i := 8) hd (a * 256 + b)
  rw [Nat.shiftLeft_eq] at this
  rw [show (a * 256 + b) * 256 = (a * 256 + b) * 2 ^ 8 from rfl, ← this]
  omega
theorem factOf_c {a b d : Nat} (ha : a < 256) (hb : b < 256) (hd : d < 256) : fX8_factOf (nI a) (nI b) (nI d) = nI (a * 65536 + b * 256 + d) := by
  unfold fX8_factOf
  rw [show ((16 : Int32) &&& 31) = 16 by decide, show ((8 : Int32) &&& 31) = 8 by decide, pk_shlN 16 16 (by decide) (by omega), pk_shlN 8 8 (by decide) (by omega)]
  apply Int32.toBitVec_inj.mp
  rw [Int32.toBitVec_or, Int32.toBitVec_or]
  apply BitVec.eq_of_toNat_eq
  rw [BitVec.toNat_or, BitVec.toNat_or, pk_tn (by omega), pk_tn (by omega), pk_tn (by omega), pk_tn (by omega)]
  exact or_cd hb hd
theorem factOf_s {c : Nat} (h : okc c) : fX8_factOf (nI (pt c 0)) (nI (pt c 1)) (nI (pt c 2)) = nI c := by
  rw [factOf_c (pt_lt h 0) (pt_lt h 1) (pt_lt h 2)]
  exact congrArg nI (cd_pt c)
theorem partOf_s {c k : Nat} (h : okc c) (hk : k < 3) : fX8_partOf (nI c) (nI k) = nI (pt c k) := by
  have hc := okc_lt h
  have h0 := pt_lt h 0
  unfold fX8_partOf
  rcases (show k = 0 ∨ k = 1 ∨ k = 2 by omega) with rfl | rfl | rfl
  · rw [show ((16 : Int32) - 8 * nI 0) &&& 31 = 16 by decide, pk_shrN (by omega) 16 16 (by decide), pk_andN (by omega) 8 (by decide)]
    congr 1
    unfold pt at h0 ⊢
    show c / 2 ^ 16 % 2 ^ 8 = c / 65536
    rw [Nat.mod_eq_of_lt (by omega)]
  · rw [show ((16 : Int32) - 8 * nI 1) &&& 31 = 8 by decide, pk_shrN (by omega) 8 8 (by decide), pk_andN (by omega) 8 (by decide)]
    rfl
  · rw [show ((16 : Int32) - 8 * nI 2) &&& 31 = 0 by decide, pk_shrN (by omega) 0 0 (by decide), pk_andN (by omega) 8 (by decide)]
    congr 1
    unfold pt
    show c / 2 ^ 0 % 2 ^ 8 = c % 256
    rw [Nat.pow_zero, Nat.div_one]
theorem ck_s {i : Nat} (h : i < 12) : ck (61 + 6 * i) = 18 := kp_2 h
theorem ck_f {f : Nat} (h : f < 4) : ck (29 + 3 * f) = 13 := kp_8 h
theorem tl_f {f : Nat} (h : f < 4) : tl (29 + 3 * f + 1) = 30 := by
  rcases (show f = 0 ∨ f = 1 ∨ f = 2 ∨ f = 3 by omega) with rfl | rfl | rfl | rfl <;> decide
theorem tl_t {i : Nat} (h : i < 12) : tl (61 + 6 * i + 1) = 18 := by
  rcases (show i = 0 ∨ i = 1 ∨ i = 2 ∨ i = 3 ∨ i = 4 ∨ i = 5 ∨ i = 6 ∨ i = 7 ∨ i = 8 ∨ i = 9 ∨ i = 10 ∨ i = 11 by omega) with rfl | rfl | rfl | rfl | rfl | rfl | rfl | rfl | rfl | rfl | rfl | rfl <;> decide
theorem tl_p {i : Nat} (h : i < 12) : tl (61 + 6 * i + 4) = 12 := by
  rcases (show i = 0 ∨ i = 1 ∨ i = 2 ∨ i = 3 ∨ i = 4 ∨ i = 5 ∨ i = 6 ∨ i = 7 ∨ i = 8 ∨ i = 9 ∨ i = 10 ∨ i = 11 by omega) with rfl | rfl | rfl | rfl | rfl | rfl | rfl | rfl | rfl | rfl | rfl | rfl <;> decide
theorem row_s {av : Nat → Nat → Int32} {k j : Nat} (hj : j < 100) : fX3_subject av k (nI j) = av (k + 1) (3 * j) ∧ fX3_property av k (nI j) = av (k + 1) (3 * j + 1) ∧ fX3_object av k (nI j) = av (k + 1) (3 * j + 2) := by
  have e : (3 : Int32) * nI j = nI (3 * j) := pk_mul 3 j
  have e1 : nI (3 * j) + 1 = nI (3 * j + 1) := nI_1 _
  have e2 : nI (3 * j) + 2 = nI (3 * j + 2) := nI_add _ 2
  unfold fX3_subject fX3_property fX3_object
  rw [e, e1, e2, nI_clamp (by omega), nI_clamp (by omega), nI_clamp (by omega)]
  exact ⟨rfl, rfl, rfl⟩
theorem putAll_other {to f : Nat} (hft : f ≠ to) : ∀ {l : List Nat} {S S' : St}, putAll to l S = some S' → S'.1 f = S.1 f
  | [], S, S', h => by cases h; rfl
  | c :: cs, S, S', h => by
    rw [putAll] at h
    cases e : stPut S to c with
    | none => rw [e] at h; cases h
    | some S1 =>
      rw [e] at h
      rw [putAll_other hft (l := cs) h]
      unfold stPut at e
      split at e
      · cases e; rfl
      · split at e
        · cases e
        · cases e; exact pS_k _ _ _ hft
