/-! Terms, values and the rows of a template, as the reference reads them. -/
theorem isIn_s {a lo hi : Int32} : fX9_isIn a lo hi = 0 ↔ ¬ (lo.toInt ≤ a.toInt ∧ a.toInt ≤ hi.toInt) := by
  unfold fX9_isIn
  split
  · rename_i h; rw [Int32.lt_iff_toInt_lt] at h
    exact ⟨fun _ q => by omega, fun _ => rfl⟩
  · rename_i h; rw [Int32.lt_iff_toInt_lt] at h
    split
    · rename_i h2; rw [Int32.lt_iff_toInt_lt] at h2
      exact ⟨fun _ q => by omega, fun _ => rfl⟩
    · rename_i h2; rw [Int32.lt_iff_toInt_lt] at h2
      exact ⟨fun q => absurd q (by decide), fun q => absurd ⟨by omega, by omega⟩ q⟩
theorem isVar_s {a : Int32} : fX9_isVariable a = 0 ↔ ¬ isV a := by
  unfold fX9_isVariable
  rw [isIn_s]
  exact Iff.rfl
theorem isNew_s {a : Int32} : fX9_isNew a = 0 ↔ ¬ isNw a := by
  unfold fX9_isNew
  rw [isIn_s]
  exact Iff.rfl
theorem neg_of {t : Int32} {a b : Int} {k : Nat} (h : t.toInt = -(k : Int) - 1) (hk : k < 100) : (-1 : Int32) - t = nI k := by
  apply Int32.toInt_inj.mp
  rw [nI_toInt (by omega), Int32.toInt_sub, h]
  show ((-1 : Int) - _).bmod _ = _
  rw [show (-1 : Int) - (-(k : Int) - 1) = (k : Int) by omega]
  exact Int.bmod_eq_of_le (by omega) (by omega)
theorem sl_s {t : Int32} (h : isV t) : sl t < 4 ∧ (-1 : Int32) - t = nI (sl t) := by
  obtain ⟨k, hk⟩ : ∃ k : Nat, t.toInt = -(k : Int) - 1 := ⟨(-t.toInt - 1).toNat, by have := h.2; omega⟩
  have h1 := h.1
  have e := neg_of (a := 0) (b := 0) hk (by omega)
  unfold sl
  rw [e, nI_clamp (by omega)]
  exact ⟨by omega, rfl⟩
theorem nsl_s {t : Int32} (h : isNw t) : nsl t < 4 ∧ (-11 : Int32) - t = nI (nsl t) := by
  obtain ⟨k, hk⟩ : ∃ k : Nat, t.toInt = -(k : Int) - 11 := ⟨(-t.toInt - 11).toNat, by have := h.2; omega⟩
  have h1 := h.1
  have e : (-11 : Int32) - t = nI k := by
    apply Int32.toInt_inj.mp
    rw [nI_toInt (by omega), Int32.toInt_sub, hk]
    show ((-11 : Int) - _).bmod _ = _
    rw [show (-11 : Int) - (-(k : Int) - 11) = (k : Int) by omega]
    exact Int.bmod_eq_of_le (by omega) (by omega)
  unfold nsl
  rw [e, nI_clamp (by omega)]
  exact ⟨by omega, rfl⟩
/-- the place of a variable's value in a row of values -/
theorem vplace {t : Int32} (h : isV t) (w : Nat) : 4 * nI w - 1 - t = nI (4 * w + sl t) := by
  have e := (sl_s h).2
  have e1 : (4 : Int32) * nI w = nI (4 * w) := pk_mul 4 w
  rw [e1, ← nI_add, ← e, Int32.sub_eq_add_neg, Int32.sub_eq_add_neg, Int32.sub_eq_add_neg, Int32.add_assoc]
theorem vplace_in {t : Int32} {w : Nat} (hw : w ≤ 5000) (h : ¬ fX9_isVariable t = 0) : vp_in (4 * nI w - 1 - t) 20400 := by
  have h : isV t := Decidable.not_not.mp (fun q => h (isVar_s.mpr q))
  rw [vplace h]
  have := (sl_s h).1
  exact vp_in_nI (by omega) (by decide)
def okG (σ : Sg) : Prop := ∀ k, k < 4 → σ k = -1 ∨ isPn (σ k)
def VW (A : Nat → Nat → Int32) (w : Nat) (σ : Sg) : Prop := ∀ k, k < 4 → A 35 (4 * w + k) = σ k
theorem vin_s {A : Nat → Nat → Int32} {w : Nat} {σ : Sg} (hw : w ≤ 5000) (h : VW A w σ) (t : Int32) : fX9_valueInV A (nI w) t = vl σ t := by
  unfold fX9_valueInV vl
  by_cases q : isV t
  · rw [if_neg (fun r => isVar_s.mp r q), if_pos q, vplace q, nI_clamp (by have := (sl_s q).1; omega)]
    exact h _ (sl_s q).1
  · rw [if_pos (isVar_s.mpr q), if_neg q]
theorem le_i {a b : Int32} : a ≤ b ↔ a.toInt ≤ b.toInt := Int32.le_iff_toInt_le
theorem vl_p {σ : Sg} (hσ : okG σ) {t : Int32} (h : isNm t ∨ isV t) : vl σ t = -1 ∨ isPn (vl σ t) := by
  unfold vl
  split
  · rename_i q; exact hσ _ (sl_s q).1
  · rename_i q
    rcases h with h | h
    · exact Or.inr ⟨h.1, by have := h.2; omega⟩
    · exact absurd h q
theorem left_s {A : Nat → Nat → Int32} {w a : Nat} {σ : Sg} (hw : w ≤ 5000) (h : VW A w σ) (hσ : okG σ) {t : TR} (ht : okT t) (ha : a < 72) (e6 : A 6 a = t.1) (e7 : A 7 a = t.2.1) (e8 : A 8 a = t.2.2.1) : fX9_isLeftOut A (nI a) (nI w) = 0 ↔ ¬ lo σ t := by
  unfold fX9_isLeftOut
  simp only [nI_clamp (show a < 2 ^ 31 by omega), e6, e7, e8, vin_s hw h]
  unfold lo
  by_cases q1 : vl σ t.1 = -1
  · rw [if_pos q1]; exact ⟨fun r => absurd r (by decide), fun r => absurd (Or.inl q1) r⟩
  · rw [if_neg q1]
    by_cases q2 : vl σ t.2.1 = -1
    · rw [if_pos q2]; exact ⟨fun r => absurd r (by decide), fun r => absurd (Or.inr (Or.inr (by rw [q2]; decide))) r⟩
    · rw [if_neg q2]
      by_cases q3 : vl σ t.2.2.1 = -1
      · rw [if_pos q3]; exact ⟨fun r => absurd r (by decide), fun r => absurd (Or.inr (Or.inl q3)) r⟩
      · rw [if_neg q3]
        have hp : isPn (vl σ t.2.1) := (vl_p hσ ht.2.1).resolve_left q2
        by_cases q4 : vl σ t.2.1 ≤ 99
        · rw [if_pos q4]
          refine ⟨fun _ r => ?_, fun _ => rfl⟩
          rcases r with r | r | r
          · exact q1 r
          · exact q3 r
          · exact r ⟨hp.1, by have := le_i.mp q4; exact this⟩
        · rw [if_neg q4]
          refine ⟨fun r => absurd r (by decide), fun r => absurd (Or.inr (Or.inr (fun s => q4 (le_i.mpr s.2)))) r⟩
theorem nI_of_nn {t : Int32} (h : 0 ≤ t.toInt) : nI (nn t) = t := by
  obtain ⟨j, hj, e⟩ := nI_of (x := t) (fun q => by rw [Int32.lt_iff_toInt_lt] at q; have : (0 : Int32).toInt = 0 := rfl; omega)
  unfold nn
  rw [e, nI_clamp hj]
theorem nn_lt {t : Int32} {n : Nat} (h : 0 ≤ t.toInt) (h2 : t.toInt ≤ n) (hn : n < 2 ^ 31) : nn t ≤ n := by
  obtain ⟨j, hj, e⟩ := nI_of (x := t) (fun q => by rw [Int32.lt_iff_toInt_lt] at q; have : (0 : Int32).toInt = 0 := rfl; omega)
  unfold nn
  rw [e, nI_clamp hj]
  rw [e, nI_toInt hj] at h2
  omega
/-- the fact that a row is -/
def tcd (σ : Sg) (t : TR) : Nat := cd (nn (vl σ t.1)) (nn (vl σ t.2.1)) (nn (vl σ t.2.2.1))
theorem tcd_s {σ : Sg} (hσ : okG σ) {t : TR} (ht : okT t) (ha : t.2.2.2 = false) (hl : ¬ lo σ t) : okc (tcd σ t) ∧ vl σ t.1 = nI (pt (tcd σ t) 0) ∧ vl σ t.2.1 = nI (pt (tcd σ t) 1) ∧ vl σ t.2.2.1 = nI (pt (tcd σ t) 2) := by
  have h1 : isNm t.1 ∨ isV t.1 := by
    rcases ht.1 with q | q | q
    · exact Or.inl q
    · exact Or.inr q
    · rw [ha] at q; exact absurd q.1 (by decide)
  have h2 : isNm t.2.2.1 ∨ isV t.2.2.1 := by
    rcases ht.2.2 with q | q | q
    · exact Or.inl q
    · exact Or.inr q
    · rw [ha] at q; exact absurd q.1 (by decide)
  have p1 : isPn (vl σ t.1) := (vl_p hσ h1).resolve_left (fun q => hl (Or.inl q))
  have p2 : isPn (vl σ t.2.2.1) := (vl_p hσ h2).resolve_left (fun q => hl (Or.inr (Or.inl q)))
  have p3 : isNm (vl σ t.2.1) := Decidable.not_not.mp (fun q => hl (Or.inr (Or.inr q)))
  have b1 := nn_lt (n := 159) p1.1 (by have := p1.2; omega) (by decide)
  have b2 := nn_lt (n := 159) p2.1 (by have := p2.2; omega) (by decide)
  have b3 := nn_lt (n := 99) p3.1 (by have := p3.2; omega) (by decide)
  unfold tcd
  refine ⟨okc_cd (by omega) (by omega) (by omega), ?_, ?_, ?_⟩
  · rw [pt_cd0 (by omega) (by omega), nI_of_nn p1.1]
  · rw [pt_cd1 (by omega) (by omega), nI_of_nn p3.1]
  · rw [pt_cd2 (by omega) (by omega), nI_of_nn p2.1]
theorem foldl_take {β : Type} {ts : List TR} {f : β → TR → β} {S : β} {j : Nat} {t : TR} (h : ts[j]? = some t) : (ts.take (j + 1)).foldl f S = f ((ts.take j).foldl f S) t := by
  rw [List.take_succ, h, List.foldl_append]
  rfl
theorem tk_skip {to : Nat} {σ : Sg} {S : St} {t : TR} (h : t.2.2.2 = true ∨ lo σ t) : takeRow to σ S t = S := if_pos h
theorem tk_do {to : Nat} {σ : Sg} {S : St} {t : TR} (h1 : t.2.2.2 = false) (h2 : ¬ lo σ t) : takeRow to σ S t = stDel S to (tcd σ t) := by
  unfold takeRow
  rw [if_neg]
  · rfl
  · rintro (q | q)
    · rw [h1] at q; cases q
    · exact h2 q
/-- taking away, row by row -/
def tkI (v : Nat → Int32) (A : Nat → Nat → Int32) (S : St) (v' : Nat → Int32) (A' : Nat → Nat → Int32) : Prop := FR v A v' A' ∧ RC v' A' S
theorem VW.kept {v v' : Nat → Int32} {A A' : Nat → Nat → Int32} {w : Nat} {σ : Sg} (h : VW A w σ) (hf : FR v A v' A') : VW A' w σ := fun k hk => by rw [hf.2 35 (by omega)]; exact h k hk
/-- rows of a template in the reference -/
def TRr (A : Nat → Nat → Int32) (i : Nat) (ts : List TR) : Prop := A 5 i = nI ts.length ∧ ts.length ≤ 6 ∧ (∀ t ∈ ts, okT t) ∧ ∀ j t, ts[j]? = some t → A 6 (6 * i + j) = t.1 ∧ A 7 (6 * i + j) = t.2.1 ∧ A 8 (6 * i + j) = t.2.2.1 ∧ A 9 (6 * i + j) = tI t.2.2.2
theorem TRr.kept {A A' : Nat → Nat → Int32} {i : Nat} {ts : List TR} (h : TRr A i ts) (hk : ∀ k, k < 19 → A' k = A k) : TRr A' i ts := by
  unfold TRr at h ⊢
  rw [hk 5 (by decide), hk 6 (by decide), hk 7 (by decide), hk 8 (by decide), hk 9 (by decide)]
  exact h
theorem ER.T {A : Nat → Nat → Int32} {i : Nat} {q : Sq} (h : ER A i q) (hq : okQ q) : TRr A i q.2.2.2.2.1 := ⟨h.2.2.2.2.1, hq.2.2.2.2.2.2.2.2.1, hq.2.2.2.2.2.1, h.2.2.2.2.2.1⟩
/-! New blanks, and rows that add. -/
def okm (m : Sg) : Prop := ∀ k, k < 4 → m k = -1 ∨ (100 ≤ (m k).toInt ∧ (m k).toInt ≤ 159)
theorem okm_0 : okm (fun _ => -1) := fun _ _ => Or.inl rfl
theorem stPut_T {P : Pd} {T : Nat → Bool} {b g c : Nat} : stPut (P, tS T g true, b) g c = stPut (P, T, b) g c := by
  have e : tS (tS T g true) g true = tS T g true := by
    funext g'; unfold tS; split <;> rfl
  unfold stPut
  simp only [e]
theorem RC_made {v : Nat → Int32} {A : Nat → Nat → Int32} {S : St} {k : Nat} {g : Nat → Int32} (h : RC v A S) (hk : 23 < k) : RC v (u1 A k g) S := by
  obtain ⟨ho, n, f, h⟩ := h
  have e : ∀ q, q ≤ 23 → u1 A k g q = A q := fun q hq => by simp [u1, show q ≠ k by omega]
  refine ⟨ho, n, f, ?_⟩
  unfold RLs at h ⊢
  rw [e 19 (by omega), e 20 (by omega), e 21 (by omega), e 22 (by omega), e 23 (by omega)]
  exact h
theorem RC_v {v v' : Nat → Int32} {A A' : Nat → Nat → Int32} {S : St} (h : RC v A S) (h1 : v' 20 = v 20) (h2 : v' 26 = v 26) (hA : ∀ q, 19 ≤ q → q ≤ 23 → A' q = A q) : RC v' A' S := by
  obtain ⟨ho, n, f, h⟩ := h
  refine ⟨ho, n, f, ?_⟩
  unfold RLs at h ⊢
  rw [hA 19 (by omega) (by omega), hA 20 (by omega) (by omega), hA 21 (by omega) (by omega), hA 22 (by omega) (by omega), hA 23 (by omega) (by omega), h1, h2]
  exact h
theorem RC_b {v : Nat → Int32} {A : Nat → Nat → Int32} {S : St} (h : RC v A S) : v 26 = nI S.2.2 ∧ S.2.2 ≤ 60 := by
  obtain ⟨ho, n, f, h⟩ := h
  exact ⟨h.2.2.2.2.2, ho.2.2.1⟩
theorem RC_blank {v : Nat → Int32} {A : Nat → Nat → Int32} {S : St} (h : RC v A S) (hb : S.2.2 < 60) : RC (upd v 26 (nI (S.2.2 + 1))) A (S.1, S.2.1, S.2.2 + 1) := by
  obtain ⟨ho, n, f, h⟩ := h
  exact ⟨okS_blk ho (by omega), n, f, by simp [upd, h.1], h.2.1, h.2.2.1, h.2.2.2.1, h.2.2.2.2.1, by simp [upd]⟩
/-- what a term that comes is -/
theorem comes_s {v : Nat → Int32} {A : Nat → Nat → Int32} {S : St} {w : Nat} {σ m : Sg} (hR : RC v A S) (hw : w ≤ 5000) (hV : VW A w σ) (hm : ∀ k, k < 4 → A 38 k = m k) (hok : okm m) {t : Int32} (ht : isNw t ∨ isPn (vl σ t)) :
    FR v A (fX9_comes v A t (nI w)).2.1 (fX9_comes v A t (nI w)).2.2 ∧
    ((blk σ S.2.2 m t = none ∧ (fX9_comes v A t (nI w)).1 = -1) ∨ ∃ b1 m1 y, blk σ S.2.2 m t = some (b1, m1, y) ∧ y < 160 ∧ (fX9_comes v A t (nI w)).1 = nI y ∧ RC (fX9_comes v A t (nI w)).2.1 (fX9_comes v A t (nI w)).2.2 (S.1, S.2.1, b1) ∧ (∀ k, k < 4 → (fX9_comes v A t (nI w)).2.2 38 k = m1 k) ∧ okm m1) := by
  by_cases q : isNw t
  · have hs := nsl_s q
    have q0 : ¬ fX9_isNew t = 0 := fun r => isNew_s.mp r q
    have ek : Int32.toNatClampNeg ((-11) - t) = nsl t := rfl
    have hb := RC_b hR
    unfold blk
    simp only [if_pos q]
    by_cases q1 : m (nsl t) = -1
    · have e1 : A 38 (nsl t) = -1 := by rw [hm _ hs.1, q1]
      simp only [if_pos q1]
      by_cases q2 : S.2.2 < 60
      · have e2 : ¬ (60 : Int32) ≤ v 26 := by rw [hb.1]; exact nI_ge q2 (by decide)
        have e3 : (100 : Int32) + v 26 = nI (100 + S.2.2) := by rw [hb.1]; exact nI_add 100 _
        have e4 : v 26 + 1 = nI (S.2.2 + 1) := by rw [hb.1, nI_1]
        simp only [fX9_comes, if_neg q0, ek, if_pos e1, if_neg e2, if_pos q2, e3, e4]
        refine ⟨⟨fun k _ h2 => by simp [upd, h2], fun k hk => by simp [u1, show k ≠ 38 by omega]⟩, Or.inr ⟨_, _, _, rfl, by omega, by simp [upd], RC_made (RC_blank hR q2) (by decide), ?_, ?_⟩⟩
        · intro k hk
          simp only [u1, if_true, upd]
          split
          · rfl
          · exact hm k hk
        · intro k hk
          unfold upd
          split
          · rw [nI_toInt (by omega)]; exact Or.inr ⟨by omega, by omega⟩
          · exact hok k hk
      · have e2 : (60 : Int32) ≤ v 26 := by rw [hb.1]; exact nI_le (a := 60) (by omega) (by omega)
        simp only [fX9_comes, if_neg q0, ek, if_pos e1, if_pos e2, if_neg q2, e1]
        exact ⟨FR.refl, Or.inl ⟨trivial, by simp⟩⟩
    · have e1 : ¬ A 38 (nsl t) = -1 := by rw [hm _ hs.1]; exact q1
      simp only [fX9_comes, if_neg q0, ek, if_neg e1, if_neg q1]
      have hk := (hok _ hs.1).resolve_left q1
      refine ⟨FR.refl, Or.inr ⟨_, _, _, rfl, ?_, ?_, hR, hm, hok⟩⟩
      · have := nn_lt (n := 159) (t := m (nsl t)) (by omega) (by omega) (by decide); omega
      · rw [hm _ hs.1, nI_of_nn (by omega)]
  · have hp := ht.resolve_left q
    have q0 : fX9_isNew t = 0 := isNew_s.mpr q
    unfold blk
    simp only [fX9_comes, if_pos q0, if_neg q, vin_s hw hV]
    refine ⟨FR.refl, Or.inr ⟨_, _, _, rfl, ?_, ?_, hR, hm, hok⟩⟩
    · have := nn_lt (n := 159) hp.1 (by have := hp.2; omega) (by decide); omega
    · rw [nI_of_nn hp.1]
theorem addRows_append (to : Nat) (σ : Sg) : ∀ (l l' : List TR) (S : St) (m : Sg), addRows to σ (l ++ l') S m = (match addRows to σ l S m with
    | none => none
    | some (S', m') => addRows to σ l' S' m')
  | [], _, _, _ => rfl
  | t :: ts, l', S, m => by
    rw [List.cons_append, addRows, addRows]
    cases addRow to σ S m t with
    | none => rfl
    | some a => exact addRows_append to σ ts l' a.1 a.2
theorem addRows_step {to : Nat} {σ : Sg} {ts : List TR} {j : Nat} {t : TR} (hj : ts[j]? = some t) (S : St) (m : Sg) : addRows to σ (ts.take (j + 1)) S m = (match addRows to σ (ts.take j) S m with
    | none => none
    | some (S', m') => addRow to σ S' m' t) := by
  rw [List.take_succ, hj, addRows_append]
  cases addRows to σ (ts.take j) S m with
  | none => rfl
  | some a =>
    show addRows to σ [t] a.1 a.2 = addRow to σ a.1 a.2 t
    simp only [addRows]
    cases addRow to σ a.1 a.2 t with
    | none => rfl
    | some a => rfl
theorem addRows_none {to : Nat} {σ : Sg} {ts : List TR} {j : Nat} {S : St} {m : Sg} (h : addRows to σ (ts.take j) S m = none) : addRows to σ ts S m = none := by
  rw [← List.take_append_drop j ts, addRows_append, h]
/-- adding, row by row -/
def adI (v : Nat → Int32) (A : Nat → Nat → Int32) (to : Nat) (σ : Sg) (l : List TR) (S : St) (v' : Nat → Int32) (A' : Nat → Nat → Int32) : Prop :=
  FR v A v' A' ∧ ∃ S' m', addRows to σ l S (fun _ => -1) = some (S', m') ∧ RC v' A' S' ∧ (∀ k, k < 4 → A' 38 k = m' k) ∧ okm m'
theorem ad_skip {v v1 : Nat → Int32} {A A1 : Nat → Nat → Int32} {S : St} {to j : Nat} {σ : Sg} {ts : List TR} {t : TR} (hj : ts[j]? = some t) (h : t.2.2.2 = false ∨ lo σ t) (hI : adI v A to σ (ts.take j) S v1 A1) : adI v A to σ (ts.take (j + 1)) S v1 A1 := by
  obtain ⟨hf, S', m', e, h2⟩ := hI
  refine ⟨hf, S', m', ?_, h2⟩
  rw [addRows_step hj, e]
  show addRow to σ S' m' t = _
  unfold addRow
  rw [if_pos h]
theorem nplace_in {t : Int32} (h : ¬ fX9_isNew t = 0) : vp_in ((-11) - t) 4 := by
  have h : isNw t := Decidable.not_not.mp (fun q => h (isNew_s.mpr q))
  rw [(nsl_s h).2]
  exact vp_in_nI (nsl_s h).1 (by decide)
/-- what comes' answer says -/
def cmsP (v : Nat → Int32) (A : Nat → Nat → Int32) (S : St) (σ m : Sg) (t : Int32) (w : Int32) (v' : Nat → Int32) (A' : Nat → Nat → Int32) : Prop :=
  FR v A v' A' ∧ ((blk σ S.2.2 m t = none ∧ w = -1) ∨ ∃ b1 m1 y, blk σ S.2.2 m t = some (b1, m1, y) ∧ y < 160 ∧ w = nI y ∧ RC v' A' (S.1, S.2.1, b1) ∧ (∀ k, k < 4 → A' 38 k = m1 k) ∧ okm m1)
def comeP (v : Nat → Int32) (A : Nat → Nat → Int32) (S : St) (g c : Nat) (w : Int32) (v' : Nat → Int32) (A' : Nat → Nat → Int32) : Prop :=
  FR v A v' A' ∧ A' 38 = A 38 ∧ ((stPut S g c = none ∧ w = 0) ∨ ∃ S', stPut S g c = some S' ∧ w = 1 ∧ RC v' A' S')
theorem hX9_comes {l : Launch} {D : va_G} {aC : Nat → ClassId} {b0 sz r w : Nat} {v : Nat → Int32} {A : Nat → Nat → Int32} {R : ZM} {S : St} {σ m : Sg} {t : Int32} (hw : w ≤ 5000) (hR : RC v A S) (hV : VW A w σ) (hm : ∀ k, k < 4 → A 38 k = m k) (hok : okm m) (ht : isNw t ∨ isPn (vl σ t)) :
    Ct l D aC b0 yX9_comes cX9_comes 4 (some .int) 3 0 0 [.ref r, .int t, .int (nI w)] (mm aC r v A R) sz (zpI (fun v A => mm aC r v A R) (cmsP v A S σ m t)) :=
  Ct.toI (G := fun v A => mm aC r v A R) (ctX9_comes nplace_in (vplace_in hw)) (comes_s hR hw hV hm hok ht)
theorem hX9_come {l : Launch} {D : va_G} {aC : Nat → ClassId} {b0 sz r : Nat} {v : Nat → Int32} {A : Nat → Nat → Int32} {R : ZM} {S : St} {g c : Nat} (hR : RC v A S) (hg : g < 7) (hc : okc c) (ht : S.2.1 g = true) :
    Ct l D aC b0 yX9_come cX9_come 5 (some .boolean) 1 0 0 [.ref r, .int (nI g), .int (nI (pt c 0)), .int (nI (pt c 1)), .int (nI (pt c 2))] (mm aC r v A R) sz (zpI (fun v A => mm aC r v A R) (comeP v A S g c)) := by
  obtain ⟨n, hs, hn⟩ : ∃ n, v 20 = nI n ∧ n ≤ 120 := by
    obtain ⟨ho, n, f, h⟩ := hR
    exact ⟨n, h.1, (RL_n h ho).2⟩
  have h := come_s hR hg hc ht
  refine Ct.toI (G := fun v A => mm aC r v A R) (ctX9_come hs hn) ⟨h.1, ?_, h.2⟩
  unfold fX9_come
  repeat' split
  all_goals simp [u1]
