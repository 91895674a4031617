/-! The store as sorted rows: put in, take out. -/
def GF (k : Nat) (iv av iv' av' : Nat → Nat → Int32) : Prop := (∀ k' f, k' ≠ k → iv' k' f = iv k' f) ∧ ∀ k', k' ≠ k + 1 → av' k' = av k'
theorem GC.kept {iv av iv' av' : Nat → Nat → Int32} {k : Nat} {p : Nat → Bool} {t : Bool} (h : GC iv av k p t) (h1 : iv' k 1 = iv k 1) (h2 : iv' k 2 = iv k 2) (h3 : av' (k + 1) = av (k + 1)) : GC iv' av' k p t := by
  unfold GC at h ⊢
  rw [h1, h2, h3]
  exact h
theorem ins_end {iv av : Nat → Nat → Int32} {k c q : Nat} {p : Nat → Bool} {t : Bool} (hG : GC iv av k p t) (ho : ∀ c, p c = true → okc c) (hn : (cds p).length < 120) (hc : okc c) (hp : p c = false) (hq : q ≤ (cds p).length) (h1 : ∀ i, i < q → (cds p).getD i 0 < c) (h2 : ∀ i, q ≤ i → i < (cds p).length → c ≤ (cds p).getD i 0) :
    GC (u2 iv k 1 (nI ((cds p).length + 1))) (u1 (u1 av (k + 1) (va_cpy (av (k + 1)) (av (k + 1)) (Int32.toNatClampNeg (nI q)) (Int32.toNatClampNeg (nI (q + 1))) (Int32.toNatClampNeg (nI ((cds p).length - q))))) (k + 1) (upd (va_cpy (av (k + 1)) (av (k + 1)) (Int32.toNatClampNeg (nI q)) (Int32.toNatClampNeg (nI (q + 1))) (Int32.toNatClampNeg (nI ((cds p).length - q)))) (Int32.toNatClampNeg (nI q)) (nI c))) k (pC p c true) t ∧
    GF k iv av (u2 iv k 1 (nI ((cds p).length + 1))) (u1 (u1 av (k + 1) (va_cpy (av (k + 1)) (av (k + 1)) (Int32.toNatClampNeg (nI q)) (Int32.toNatClampNeg (nI (q + 1))) (Int32.toNatClampNeg (nI ((cds p).length - q))))) (k + 1) (upd (va_cpy (av (k + 1)) (av (k + 1)) (Int32.toNatClampNeg (nI q)) (Int32.toNatClampNeg (nI (q + 1))) (Int32.toNatClampNeg (nI ((cds p).length - q)))) (Int32.toNatClampNeg (nI q)) (nI c))) := by
  rw [nI_clamp (show q < 2 ^ 31 by omega), nI_clamp (show q + 1 < 2 ^ 31 by omega), nI_clamp (show (cds p).length - q < 2 ^ 31 by omega)]
  have h := insert_s hG ho (by omega) hc hp hq h1 h2
  refine ⟨⟨by rw [h.1]; exact u2_s _ _ _ _, by rw [u2_f _ _ _ (by decide)]; exact hG.2.1, fun i hi => ?_⟩, fun k' f hk => u2_k _ _ _ _ hk, fun k' hk => by rw [u1_k _ _ hk, u1_k _ _ hk]⟩
  rw [u1_s]
  exact h.2 i (by omega)
theorem rem_end {iv av : Nat → Nat → Int32} {k c q : Nat} {p : Nat → Bool} {t : Bool} (hG : GC iv av k p t) (ho : ∀ c, p c = true → okc c) (hn : (cds p).length ≤ 120) (hq : q < (cds p).length) (hqc : (cds p).getD q 0 = c) :
    GC (u2 iv k 1 (nI ((cds p).length - 1))) (u1 av (k + 1) (va_cpy (av (k + 1)) (av (k + 1)) (Int32.toNatClampNeg (nI (q + 1))) (Int32.toNatClampNeg (nI q)) (Int32.toNatClampNeg (nI ((cds p).length - q - 1))))) k (pC p c false) t ∧
    GF k iv av (u2 iv k 1 (nI ((cds p).length - 1))) (u1 av (k + 1) (va_cpy (av (k + 1)) (av (k + 1)) (Int32.toNatClampNeg (nI (q + 1))) (Int32.toNatClampNeg (nI q)) (Int32.toNatClampNeg (nI ((cds p).length - q - 1))))) := by
  rw [nI_clamp (show q < 2 ^ 31 by omega), nI_clamp (show q + 1 < 2 ^ 31 by omega), nI_clamp (show (cds p).length - q - 1 < 2 ^ 31 by omega)]
  have h := remove_s hG ho hq hqc
  refine ⟨⟨by rw [h.1]; exact u2_s _ _ _ _, by rw [u2_f _ _ _ (by decide)]; exact hG.2.1, fun i hi => ?_⟩, fun k' f hk => u2_k _ _ _ _ hk, fun k' hk => by rw [u1_k _ _ hk]⟩
  rw [u1_s]
  exact h.2 i (by omega)
theorem rem_no {iv av : Nat → Nat → Int32} {k c : Nat} {p : Nat → Bool} {t : Bool} (hG : GC iv av k p t) (h : p c = false) : GC iv av k (pC p c false) t ∧ GF k iv av iv av := by
  have e : pC p c false = p := by funext c'; unfold pC; split <;> simp_all
  rw [e]
  exact ⟨hG, fun _ _ _ => rfl, fun _ _ => rfl⟩
/-- the working store -/
def SC (iv av : Nat → Nat → Int32) (S : St) : Prop := okS S ∧ (∀ g, g < 7 → GC iv av (4 + 1 + 2 * g) (S.1 g) (S.2.1 g)) ∧ iv 3 1 = nI S.2.2
/-- what the store's methods leave as it is -/
def FC (iv av iv' av' : Nat → Nat → Int32) : Prop := (∀ k f, k < 3 ∨ 18 < k → iv' k f = iv k f) ∧ ∀ k, k < 3 ∨ (18 < k ∧ k ≠ 28) → av' k = av k
theorem FC.refl {iv av : Nat → Nat → Int32} : FC iv av iv av := ⟨fun _ _ _ => rfl, fun _ _ => rfl⟩
theorem FC.trans {iv av iv1 av1 iv2 av2 : Nat → Nat → Int32} (h : FC iv av iv1 av1) (h2 : FC iv1 av1 iv2 av2) : FC iv av iv2 av2 := ⟨fun k f a => (h2.1 k f a).trans (h.1 k f a), fun k a => (h2.2 k a).trans (h.2 k a)⟩
theorem GF.C {iv av iv' av' : Nat → Nat → Int32} {g : Nat} (h : GF (4 + 1 + 2 * g) iv av iv' av') (hg : g < 7) : FC iv av iv' av' := ⟨fun k f a => h.1 k f (by omega), fun k a => h.2 k (by omega)⟩
theorem SC_len {iv av : Nat → Nat → Int32} {S : St} (h : SC iv av S) {g : Nat} (hg : g < 7) : (cds (S.1 g)).length ≤ 120 := Nat.le_trans (cds_le_card S.1 hg) h.1.2.1
theorem factCount_s {iv av : Nat → Nat → Int32} {S : St} (h : SC iv av S) : fX6_factCount iv 3 = nI (card S.1) := by
  have e : ∀ g, g < 7 → iv (3 + 1 + 1 + 2 * g) 1 = nI (cds (S.1 g)).length := fun g hg => (h.2.1 g hg).1
  unfold fX6_factCount
  simp only [stX6_factCount_4]
  rw [e 0 (by decide), e 1 (by decide), e 2 (by decide), e 3 (by decide), e 4 (by decide), e 5 (by decide), e 6 (by decide), card_sum, show (0 : Int32) = nI 0 from rfl]
  simp only [nI_add, Nat.zero_add]
theorem SC_put1 {iv av iv' av' : Nat → Nat → Int32} {S S' : St} {g : Nat} (h : SC iv av S) (hg : g < 7) (ho : okS S') (hG : GC iv' av' (4 + 1 + 2 * g) (S'.1 g) (S'.2.1 g)) (hF : GF (4 + 1 + 2 * g) iv av iv' av') (h1 : ∀ g', g' ≠ g → S'.1 g' = S.1 g') (h2 : ∀ g', g' ≠ g → S'.2.1 g' = S.2.1 g') (h3 : S'.2.2 = S.2.2) : SC iv' av' S' := by
  refine ⟨ho, fun g' hg' => ?_, by rw [hF.1 3 1 (by omega), h3]; exact h.2.2⟩
  by_cases q : g' = g
  · subst q; exact hG
  · rw [h1 g' q, h2 g' q]
    exact (h.2.1 g' hg').kept (hF.1 _ _ (by omega)) (hF.1 _ _ (by omega)) (hF.2 _ (by omega))
def ptP (iv av : Nat → Nat → Int32) (S : St) (g c : Nat) (w : Int32) (iv' av' : Nat → Nat → Int32) : Prop := FC iv av iv' av' ∧ av' 28 = av 28 ∧ ((w = 0 ∧ stPut S g c = none) ∨ ∃ S', w = 1 ∧ stPut S g c = some S' ∧ SC iv' av' S')
theorem FC_there {iv av : Nat → Nat → Int32} {g : Nat} {z : Int32} (hg : g < 7) : FC iv av (u2 iv (4 + 1 + 2 * g) 2 z) av := ⟨fun k f a => u2_k _ _ _ _ (by omega), fun _ _ => rfl⟩
theorem SC_there {iv av : Nat → Nat → Int32} {S : St} {g : Nat} (h : SC iv av S) (hg : g < 7) : SC (u2 iv (4 + 1 + 2 * g) 2 1) av (S.1, tS S.2.1 g true, S.2.2) := by
  refine SC_put1 h hg (okS_there h.1 g) ?_ ⟨fun k' f hk => u2_k _ _ _ _ hk, fun _ _ => rfl⟩ (fun _ _ => rfl) (fun g' q => by simp [tS, q]) rfl
  have hG := h.2.1 g hg
  exact ⟨by rw [u2_f _ _ _ (by decide)]; exact hG.1, by rw [u2_s]; simp [tS, tI], hG.2.2⟩
theorem pt_has {iv av : Nat → Nat → Int32} {S : St} {g c : Nat} (h : SC iv av S) (hg : g < 7) (hp : ¬ tI (S.1 g c) = 0) : ptP iv av S g c 1 (u2 iv (4 + 1 + 2 * g) 2 1) av :=
  ⟨FC_there hg, rfl, Or.inr ⟨_, rfl, by unfold stPut; rw [if_pos (tI_1.mp hp)], SC_there h hg⟩⟩
theorem pt_no {iv av : Nat → Nat → Int32} {S : St} {g c : Nat} (h : SC iv av S) (hg : g < 7) (hp : tI (S.1 g c) = 0) (hf : ¬ nI (card S.1) < nI 120) : ptP iv av S g c 0 (u2 iv (4 + 1 + 2 * g) 2 1) av := by
  refine ⟨FC_there hg, rfl, Or.inl ⟨rfl, ?_⟩⟩
  have h1 := h.1.2.1
  rw [nI_ltI (by omega) (by decide)] at hf
  unfold stPut
  rw [if_neg (by rw [tI_0.mp hp]; decide), if_pos (by omega)]
theorem pt_in {iv av iv' av' : Nat → Nat → Int32} {S : St} {g c : Nat} (h : SC iv av S) (hg : g < 7) (hc : okc c) (hp : tI (S.1 g c) = 0) (hf : nI (card S.1) < nI 120) (hi : GC iv' av' (4 + 1 + 2 * g) (pC (S.1 g) c true) true ∧ GF (4 + 1 + 2 * g) (u2 iv (4 + 1 + 2 * g) 2 1) av iv' av') : ptP iv av S g c 1 iv' av' := by
  have h1 := h.1.2.1
  rw [nI_ltI (by omega) (by decide)] at hf
  have e : stPut S g c = some (pS S.1 g c true, tS S.2.1 g true, S.2.2) := by
    unfold stPut
    rw [if_neg (by rw [tI_0.mp hp]; decide), if_neg (by omega)]
  refine ⟨(FC_there hg).trans (hi.2.C hg), hi.2.2 28 (by omega), Or.inr ⟨_, rfl, e, ?_⟩⟩
  refine SC_put1 (SC_there h hg) hg (okS_put h.1 hg hc e) ?_ hi.2 (fun g' q => pS_k _ _ _ q) (fun _ _ => rfl) rfl
  show GC iv' av' (4 + 1 + 2 * g) (pS S.1 g c true g) (tS S.2.1 g true g)
  rw [pS_s]
  have : tS S.2.1 g true g = true := by simp [tS]
  rw [this]
  exact hi.1
