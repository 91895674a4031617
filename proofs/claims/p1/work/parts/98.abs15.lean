/-! What was before a run: kept, looked up, brought back. -/
def OLs (v : Nat → Int32) (A : Nat → Nat → Int32) (S : St) (n : Nat) (f : Nat → Nat × Nat) : Prop :=
  v 27 = nI n ∧ (∀ i j, i < n → j < n → f i = f j → i = j) ∧ (∀ g c, S.1 g c = true ↔ ∃ i, i < n ∧ f i = (g, c)) ∧
  (∀ i, i < n → A 24 i = nI (f i).1 ∧ A 25 i = nI (pt (f i).2 0) ∧ A 26 i = nI (pt (f i).2 1) ∧ A 27 i = nI (pt (f i).2 2)) ∧
  (∀ g, g < 7 → A 28 g = tI (S.2.1 g)) ∧ v 33 = nI S.2.2
def OC (v : Nat → Int32) (A : Nat → Nat → Int32) (S : St) : Prop := okS S ∧ ∃ n f, OLs v A S n f
theorem OL_n {v : Nat → Int32} {A : Nat → Nat → Int32} {S : St} {n : Nat} {f : Nat → Nat × Nat} (h : OLs v A S n f) (ho : okS S) : n ≤ 120 := by
  have e : n = card S.1 := by
    have := card_eq ho.1 (L := (List.range n).map f) (by
      unfold List.Nodup
      rw [List.pairwise_map]
      refine (List.nodup_range (n := n)).imp_of_mem (fun {a b} ha hb hne he => hne ?_)
      exact h.2.1 a b (List.mem_range.mp ha) (List.mem_range.mp hb) he) (fun g c => by
      rw [List.mem_map, h.2.2.1]
      simp only [List.mem_range])
    simpa using this
  exact e ▸ ho.2.1
theorem OL_ok {v : Nat → Int32} {A : Nat → Nat → Int32} {S : St} {n : Nat} {f : Nat → Nat × Nat} (h : OLs v A S n f) (ho : okS S) {i : Nat} (hi : i < n) : (f i).1 < 7 ∧ okc (f i).2 :=
  ho.1 _ _ ((h.2.2.1 _ _).mpr ⟨i, hi, rfl⟩)
theorem OC.kept {v v' : Nat → Int32} {A A' : Nat → Nat → Int32} {S : St} (h : OC v A S) (h1 : v' 27 = v 27) (h2 : v' 33 = v 33) (hA : ∀ q, 24 ≤ q → q ≤ 28 → A' q = A q) : OC v' A' S := by
  obtain ⟨ho, n, f, h⟩ := h
  refine ⟨ho, n, f, ?_⟩
  unfold OLs at h ⊢
  rw [hA 24 (by omega) (by omega), hA 25 (by omega) (by omega), hA 26 (by omega) (by omega), hA 27 (by omega) (by omega), hA 28 (by omega) (by omega), h1, h2]
  exact h
theorem keep18_s (A : Nat → Nat → Int32) (a b c d : Nat → Int32) : ∀ n, n ≤ 200 → ∀ i, i < n → (stX9_keep_18 A a b c d n).1 i = A 19 i ∧ (stX9_keep_18 A a b c d n).2.1 i = A 20 i ∧ (stX9_keep_18 A a b c d n).2.2.1 i = A 21 i ∧ (stX9_keep_18 A a b c d n).2.2.2 i = A 22 i
  | 0, _, i, hi => absurd hi (Nat.not_lt_zero _)
  | n + 1, hn, i, hi => by
    have ih := keep18_s A a b c d n (by omega) i
    simp only [stX9_keep_18, nI_clamp (show n < 2 ^ 31 by omega)]
    by_cases q : i = n
    · subst q; simp [upd]
    · have ih := ih (by omega)
      simp only [upd, if_neg q]
      exact ih
theorem keep82_s (A : Nat → Nat → Int32) (a : Nat → Int32) : ∀ n, n ≤ 200 → ∀ i, i < n → stX9_keep_82 A a n i = A 23 i
  | 0, _, i, hi => absurd hi (Nat.not_lt_zero _)
  | n + 1, hn, i, hi => by
    have ih := keep82_s A a n (by omega) i
    simp only [stX9_keep_82, nI_clamp (show n < 2 ^ 31 by omega)]
    by_cases q : i = n
    · subst q; simp [upd]
    · have ih := ih (by omega)
      simp only [upd, if_neg q]
      exact ih
theorem back18_s (A : Nat → Nat → Int32) (a b c d : Nat → Int32) : ∀ n, n ≤ 200 → ∀ i, i < n → (stX9_goBack_18 A a b c d n).1 i = A 24 i ∧ (stX9_goBack_18 A a b c d n).2.1 i = A 25 i ∧ (stX9_goBack_18 A a b c d n).2.2.1 i = A 26 i ∧ (stX9_goBack_18 A a b c d n).2.2.2 i = A 27 i
  | 0, _, i, hi => absurd hi (Nat.not_lt_zero _)
  | n + 1, hn, i, hi => by
    have ih := back18_s A a b c d n (by omega) i
    simp only [stX9_goBack_18, nI_clamp (show n < 2 ^ 31 by omega)]
    by_cases q : i = n
    · subst q; simp [upd]
    · have ih := ih (by omega)
      simp only [upd, if_neg q]
      exact ih
theorem back82_s (A : Nat → Nat → Int32) (a : Nat → Int32) : ∀ n, n ≤ 200 → ∀ i, i < n → stX9_goBack_82 A a n i = A 28 i
  | 0, _, i, hi => absurd hi (Nat.not_lt_zero _)
  | n + 1, hn, i, hi => by
    have ih := back82_s A a n (by omega) i
    simp only [stX9_goBack_82, nI_clamp (show n < 2 ^ 31 by omega)]
    by_cases q : i = n
    · subst q; simp [upd]
    · have ih := ih (by omega)
      simp only [upd, if_neg q]
      exact ih
/-- behind keep -/
def keP (v : Nat → Int32) (A : Nat → Nat → Int32) (S : St) (v' : Nat → Int32) (A' : Nat → Nat → Int32) : Prop := (∀ k, k ≠ 27 → k ≠ 33 → v' k = v k) ∧ (∀ q, q < 24 ∨ 28 < q → A' q = A q) ∧ OC v' A' S
theorem keep_s {v : Nat → Int32} {A : Nat → Nat → Int32} {S : St} (hR : RC v A S) : keP v A S (fX9_keep v A).1 (fX9_keep v A).2 := by
  obtain ⟨ho, n, f, h⟩ := hR
  have hn := (RL_n h ho).2
  refine ⟨fun k h1 h2 => by simp [fX9_keep, upd, h1, h2], fun q hq => by simp [fX9_keep, u1, show q ≠ 24 by omega, show q ≠ 25 by omega, show q ≠ 26 by omega, show q ≠ 27 by omega, show q ≠ 28 by omega], ho, n, f, ?_, h.2.1, h.2.2.1, ?_, ?_, ?_⟩
  · simp [fX9_keep, upd, h.1]
  · intro i hi
    have hk := keep18_s A (A 24) (A 25) (A 26) (A 27) n (by omega) i hi
    have r := h.2.2.2.1 i hi
    simp only [fX9_keep, h.1, nI_clamp (show n < 2 ^ 31 by omega), u1]
    rw [← hk.1, ← hk.2.1, ← hk.2.2.1, ← hk.2.2.2] at r
    simpa using r
  · intro g hg
    have r := h.2.2.2.2.1 g hg
    have e : (fX9_keep v A).2 28 g = A 23 g := by
      simp only [fX9_keep]
      rw [show ∀ (B : Nat → Nat → Int32) (z : Nat → Int32), u1 B 28 z 28 = z from fun B z => u1_s B 28 z, keep82_s _ _ 7 (by decide) g hg]
      simp [u1]
    rw [e]; exact r
  · simp [fX9_keep, upd, h.2.2.2.2.2]
theorem hX9_keep {l : Launch} {D : va_G} {aC : Nat → ClassId} {b0 sz r : Nat} {v : Nat → Int32} {A : Nat → Nat → Int32} {R : ZM} {S : St} (hR : RC v A S) :
    Ct l D aC b0 yX9_keep cX9_keep 2 none 0 0 0 [.ref r] (mm aC r v A R) sz (zpN (fun v A => mm aC r v A R) (keP v A S)) := by
  obtain ⟨n, hs, hn⟩ := RC_n hR
  exact Ct.toN (G := fun v A => mm aC r v A R) (ctX9_keep hs hn (fun j hj => by rw [RC_there hR hj]; exact tI_b _)) (keep_s hR)
def gbP (v : Nat → Int32) (A : Nat → Nat → Int32) (S : St) (v' : Nat → Int32) (A' : Nat → Nat → Int32) : Prop := (∀ k, k ≠ 20 → k ≠ 26 → v' k = v k) ∧ (∀ q, q < 19 ∨ 23 < q → A' q = A q) ∧ RC v' A' S
theorem goBack_s {v : Nat → Int32} {A : Nat → Nat → Int32} {S : St} (hO : OC v A S) : gbP v A S (fX9_goBack v A).1 (fX9_goBack v A).2 := by
  obtain ⟨ho, n, f, h⟩ := hO
  have hn := OL_n h ho
  refine ⟨fun k h1 h2 => by simp [fX9_goBack, upd, h1, h2], fun q hq => by simp [fX9_goBack, u1, show q ≠ 19 by omega, show q ≠ 20 by omega, show q ≠ 21 by omega, show q ≠ 22 by omega, show q ≠ 23 by omega], ho, n, f, ?_, h.2.1, h.2.2.1, ?_, ?_, ?_⟩
  · simp [fX9_goBack, upd, h.1]
  · intro i hi
    have hk := back18_s A (A 19) (A 20) (A 21) (A 22) n (by omega) i hi
    have r := h.2.2.2.1 i hi
    simp only [fX9_goBack, h.1, nI_clamp (show n < 2 ^ 31 by omega), u1]
    rw [← hk.1, ← hk.2.1, ← hk.2.2.1, ← hk.2.2.2] at r
    simpa using r
  · intro g hg
    have r := h.2.2.2.2.1 g hg
    have e : (fX9_goBack v A).2 23 g = A 28 g := by
      simp only [fX9_goBack]
      rw [show ∀ (B : Nat → Nat → Int32) (z : Nat → Int32), u1 B 23 z 23 = z from fun B z => u1_s B 23 z, back82_s _ _ 7 (by decide) g hg]
      simp [u1]
    rw [e]; exact r
  · simp [fX9_goBack, upd, h.2.2.2.2.2]
theorem hX9_goBack {l : Launch} {D : va_G} {aC : Nat → ClassId} {b0 sz r : Nat} {v : Nat → Int32} {A : Nat → Nat → Int32} {R : ZM} {S : St} (hO : OC v A S) :
    Ct l D aC b0 yX9_goBack cX9_goBack 2 none 0 0 0 [.ref r] (mm aC r v A R) sz (zpN (fun v A => mm aC r v A R) (gbP v A S)) := by
  have hs := goBack_s hO
  obtain ⟨ho, n, f, h⟩ := hO
  exact Ct.toN (G := fun v A => mm aC r v A R) (ctX9_goBack h.1 (OL_n h ho) (fun j hj => by rw [h.2.2.2.2.1 j hj]; exact tI_b _)) hs
theorem wasIn_g (A : Nat → Nat → Int32) (a b c d : Int32) : ∀ n, n < 2 ^ 31 → (stX9_wasIn_6 A a b c d 0 n = 0 ∧ ∀ i, i < n → ¬ (A 24 i = a ∧ A 25 i = b ∧ A 26 i = c ∧ A 27 i = d)) ∨ (stX9_wasIn_6 A a b c d 0 n = 1 ∧ ∃ j, j < n ∧ A 24 j = a ∧ A 25 j = b ∧ A 26 j = c ∧ A 27 j = d)
  | 0, _ => Or.inl ⟨rfl, fun i hi => absurd hi (Nat.not_lt_zero _)⟩
  | n + 1, hn => by
    have ih := wasIn_g A a b c d n (by omega)
    simp only [stX9_wasIn_6, nI_clamp (show n < 2 ^ 31 by omega)]
    rcases ih with ⟨h1, h2⟩ | ⟨h1, j, hj, h2⟩
    · rw [if_pos h1]
      by_cases q : A 24 n = a ∧ A 25 n = b ∧ A 26 n = c ∧ A 27 n = d
      · rw [if_pos q.1, if_pos q.2.1, if_pos q.2.2.1, if_pos q.2.2.2]
        exact Or.inr ⟨rfl, n, by omega, q⟩
      · refine Or.inl ⟨?_, fun i hi => ?_⟩
        · split
          · split
            · split
              · split
                · rename_i a1 a2 a3 a4; exact absurd ⟨a1, a2, a3, a4⟩ q
                · rfl
              · rfl
            · rfl
          · rfl
        · by_cases e : i = n
          · rw [e]; exact q
          · exact h2 i (by omega)
    · rw [if_neg (by rw [h1]; decide)]
      exact Or.inr ⟨rfl, j, by omega, h2⟩
theorem wasIn_s {v : Nat → Int32} {A : Nat → Nat → Int32} {S : St} {n : Nat} {f : Nat → Nat × Nat} (h : OLs v A S n f) (ho : okS S) {g c : Nat} (hg : g < 7) (hc : okc c) : fX9_wasIn v A (nI g) (nI (pt c 0)) (nI (pt c 1)) (nI (pt c 2)) = tI (S.1 g c) := by
  have hn := OL_n h ho
  unfold fX9_wasIn
  rw [h.1, nI_clamp (by omega)]
  rcases wasIn_g A (nI g) (nI (pt c 0)) (nI (pt c 1)) (nI (pt c 2)) n (by omega) with ⟨h1, h2⟩ | ⟨h1, j, hj, h2⟩
  · rw [h1, show S.1 g c = false from Bool.eq_false_iff.mpr (fun q => by
      obtain ⟨i, hi, e⟩ := (h.2.2.1 g c).mp q
      have r := h.2.2.2.1 i hi
      rw [e] at r
      exact h2 i hi r)]
    rfl
  · have r := h.2.2.2.1 j hj
    have hk := OL_ok h ho hj
    have e1 : (f j).1 = g := by
      have := r.1.symm.trans h2.1
      rwa [nI_eq (by omega) (by omega)] at this
    have e2 : (f j).2 = c := nIpt hk.2 hc (r.2.1.symm.trans h2.2.1) (r.2.2.1.symm.trans h2.2.2.1) (r.2.2.2.symm.trans h2.2.2.2)
    rw [h1, (h.2.2.1 g c).mpr ⟨j, hj, by rw [← e1, ← e2]⟩]
    rfl
/-- the changes from one state to another -/
def isCh (P0 P : Pd) (L : List Cg) : Prop := srC L ∧ ∀ g c b, (g, c, b) ∈ L ↔ (b = true ∧ P g c = true ∧ P0 g c = false) ∨ (b = false ∧ P g c = false ∧ P0 g c = true)
theorem srC_uniq : ∀ {l l' : List Cg}, srC l → srC l' → (∀ x, x ∈ l ↔ x ∈ l') → l = l'
  | [], [], _, _, _ => rfl
  | [], b :: l', _, _, h => absurd ((h b).mpr (by simp)) (by simp)
  | a :: l, [], _, _, h => absurd ((h a).mp (by simp)) (by simp)
  | a :: l, b :: l', h1, h2, h => by
    have h1 := List.pairwise_cons.mp h1
    have h2 := List.pairwise_cons.mp h2
    have hab : a = b := by
      have ha := (h a).mp (by simp)
      have hb := (h b).mpr (by simp)
      rw [List.mem_cons] at ha hb
      rcases ha with ha | ha
      · exact ha
      · rcases hb with hb | hb
        · exact hb.symm
        · exact absurd (ltC_trans (h1.1 b hb) (h2.1 a ha)) ltC_irr
    subst hab
    congr 1
    refine srC_uniq h1.2 h2.2 (fun x => ?_)
    have hx := h x
    rw [List.mem_cons, List.mem_cons] at hx
    constructor
    · intro q
      rcases hx.mp (Or.inr q) with r | r
      · rw [r] at q; exact absurd (h1.1 _ q) ltC_irr
      · exact r
    · intro q
      rcases hx.mpr (Or.inr q) with r | r
      · rw [r] at q; exact absurd (h2.1 _ q) ltC_irr
      · exact r
theorem isCh_uniq {P0 P : Pd} {L L' : List Cg} (h : isCh P0 P L) (h' : isCh P0 P L') : L = L' := srC_uniq h.1 h'.1 (fun ⟨g, c, b⟩ => by rw [h.2, h'.2])
/-- noting what came, row by row -/
def FN (v : Nat → Int32) (A : Nat → Nat → Int32) (v' : Nat → Int32) (A' : Nat → Nat → Int32) : Prop := (∀ k, k ≠ 34 → v' k = v k) ∧ (∀ q, q < 29 ∨ 33 < q → A' q = A q)
def naI (v : Nat → Int32) (A : Nat → Nat → Int32) (M : Cg → Prop) (b : Nat) (v' : Nat → Int32) (A' : Nat → Nat → Int32) : Prop := FN v A v' A' ∧ ∃ L, v' 34 = nI L.length ∧ L.length ≤ b ∧ chR A' L ∧ srC L ∧ okC L ∧ ∀ y, y ∈ L ↔ M y
theorem na_same {v v' : Nat → Int32} {A A' : Nat → Nat → Int32} {M M' : Cg → Prop} {b b' : Nat} (h : naI v A M b v' A') (hb : b ≤ b') (hm : ∀ y, M y ↔ M' y) : naI v A M' b' v' A' := by
  obtain ⟨hf, L, h1, h2, h3, h4, h5, h6⟩ := h
  exact ⟨hf, L, h1, by omega, h3, h4, h5, fun y => by rw [h6, hm]⟩
theorem na_note {v v1 v2 : Nat → Int32} {A A1 A2 : Nat → Nat → Int32} {M M' : Cg → Prop} {b b' : Nat} {L : List Cg} {x : Cg} (hf : FN v A v1 A1) (h2 : L.length ≤ b) (h6 : ∀ y, y ∈ L ↔ M y) (hn : ntP v1 A1 L x v2 A2) (hb : b + 1 ≤ b') (hm : ∀ y, M' y ↔ M y ∨ y = x) : naI v A M' b' v2 A2 := by
  obtain ⟨rfl, hq, L', a1, a2, a3, a4, a5⟩ := hn
  refine ⟨⟨fun k hk => by simp [upd, hk]; exact hf.1 k hk, fun q hq' => (hq q hq').trans (hf.2 q hq')⟩, L', by simp [upd, a4], by omega, a1, a2, a3, fun y => by rw [a5, h6, hm]⟩
