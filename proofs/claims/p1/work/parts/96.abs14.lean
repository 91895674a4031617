/-! The changes of a run, sorted by graph and fact. -/
abbrev Cg := Nat × Nat × Bool
def ltC (a b : Cg) : Prop := a.1 < b.1 ∨ (a.1 = b.1 ∧ a.2.1 < b.2.1)
abbrev srC (l : List Cg) : Prop := l.Pairwise ltC
theorem ltC_trans {a b c : Cg} (h : ltC a b) (h2 : ltC b c) : ltC a c := by unfold ltC at h h2 ⊢; omega
theorem ltC_irr {a : Cg} : ¬ ltC a a := by unfold ltC; omega
def chR (A : Nat → Nat → Int32) (L : List Cg) : Prop := ∀ i g c b, L[i]? = some (g, c, b) → A 29 i = nI g ∧ A 30 i = nI (pt c 0) ∧ A 31 i = nI (pt c 1) ∧ A 32 i = nI (pt c 2) ∧ A 33 i = tI b
def okC (L : List Cg) : Prop := ∀ y ∈ L, y.1 < 7 ∧ okc y.2.1
theorem isAfter_s {A : Nat → Nat → Int32} {L : List Cg} (h : chR A L) (ho : okC L) {i g c : Nat} {b : Bool} {y : Cg} (hi : i < 2 ^ 31) (hy : L[i]? = some y) (hg : g < 7) (hc : okc c) : fX9_isAfter A (nI i) (nI g) (nI (pt c 0)) (nI (pt c 1)) (nI (pt c 2)) = 0 ↔ ¬ ltC (g, c, b) y := by
  obtain ⟨g', c', b'⟩ := y
  have r := h i g' c' b' hy
  have o : g' < 7 ∧ okc c' := ho _ (List.mem_of_getElem? hy)
  have bi : ∀ q, pt c q < 2 ^ 31 := fun q => by have := pt_lt hc q; omega
  have bk : ∀ q, pt c' q < 2 ^ 31 := fun q => by have := pt_lt o.2 q; omega
  have hg2 : g' < 2 ^ 31 := by have := o.1; omega
  unfold fX9_isAfter ltC
  rw [nI_clamp hi, r.1, r.2.1, r.2.2.1, r.2.2.2.1]
  simp only [nI_eq hg2 (show g < 2 ^ 31 by omega), nI_eq (bk 0) (bi 0), nI_eq (bk 1) (bi 1), nI_leI hg2 (show g < 2 ^ 31 by omega), nI_leI (bk 0) (bi 0), nI_leI (bk 1) (bi 1), nI_leI (bk 2) (bi 2), pt_lex (c := c) (c' := c')]
  by_cases q : g' = g
  · rw [if_pos q]
    by_cases q0 : pt c' 0 = pt c 0
    · rw [if_pos q0, if_pos q0.symm]
      by_cases q1 : pt c' 1 = pt c 1
      · rw [if_pos q1, if_pos q1.symm]
        by_cases q2 : pt c' 2 ≤ pt c 2
        · rw [if_pos q2]; exact ⟨fun _ => by omega, fun _ => rfl⟩
        · rw [if_neg q2]; exact ⟨fun s => absurd s (by decide), fun s => absurd (Or.inr ⟨q.symm, by omega⟩) s⟩
      · rw [if_neg q1, if_neg (show ¬ pt c 1 = pt c' 1 from fun s => q1 s.symm)]
        by_cases q2 : pt c' 1 ≤ pt c 1
        · rw [if_pos q2]; exact ⟨fun _ => by omega, fun _ => rfl⟩
        · rw [if_neg q2]; exact ⟨fun s => absurd s (by decide), fun s => absurd (Or.inr ⟨q.symm, by omega⟩) s⟩
    · rw [if_neg q0, if_neg (show ¬ pt c 0 = pt c' 0 from fun s => q0 s.symm)]
      by_cases q2 : pt c' 0 ≤ pt c 0
      · rw [if_pos q2]; exact ⟨fun _ => by omega, fun _ => rfl⟩
      · rw [if_neg q2]; exact ⟨fun s => absurd s (by decide), fun s => absurd (Or.inr ⟨q.symm, by omega⟩) s⟩
  · rw [if_neg q]
    by_cases q2 : g' ≤ g
    · rw [if_pos q2]; exact ⟨fun _ => by omega, fun _ => rfl⟩
    · rw [if_neg q2]; exact ⟨fun s => absurd s (by decide), fun s => absurd (Or.inl (by show g < g'; omega)) s⟩
/-- places moved up by one, down to k -/
def ntI (n k : Nat) (v : Nat → Int32) (A : Nat → Nat → Int32) (v' : Nat → Int32) (A' : Nat → Nat → Int32) : Prop := v' = v ∧ (∀ q, q < 29 ∨ 33 < q → A' q = A q) ∧ ∀ q, 29 ≤ q → q ≤ 33 → (∀ i, i < k → A' q i = A q i) ∧ ∀ i, k < i → i ≤ n → A' q i = A q (i - 1)
theorem ntI_0 {n : Nat} {v : Nat → Int32} {A : Nat → Nat → Int32} : ntI n n v A v A := ⟨rfl, fun _ _ => rfl, fun _ _ _ => ⟨fun _ _ => rfl, fun i h1 h2 => absurd h1 (by omega)⟩⟩
def w5 (A : Nat → Nat → Int32) (k : Nat) (a b c d e : Int32) : Nat → Nat → Int32 := u1 (u1 (u1 (u1 (u1 A 29 (upd (A 29) k a)) 30 (upd (A 30) k b)) 31 (upd (A 31) k c)) 32 (upd (A 32) k d)) 33 (upd (A 33) k e)
theorem w5_k {A : Nat → Nat → Int32} {k : Nat} {a b c d e : Int32} : w5 A k a b c d e 29 k = a ∧ w5 A k a b c d e 30 k = b ∧ w5 A k a b c d e 31 k = c ∧ w5 A k a b c d e 32 k = d ∧ w5 A k a b c d e 33 k = e := by
  simp [w5, u1, upd]
theorem w5_o {A : Nat → Nat → Int32} {k q i : Nat} {a b c d e : Int32} (h : i ≠ k) : w5 A k a b c d e q i = A q i := by
  unfold w5 u1 upd
  repeat' split
  all_goals first | rfl | (subst_vars; simp_all)
theorem w5_q {A : Nat → Nat → Int32} {k q : Nat} {a b c d e : Int32} (h : q < 29 ∨ 33 < q) : w5 A k a b c d e q = A q := by
  simp [w5, u1, show q ≠ 29 by omega, show q ≠ 30 by omega, show q ≠ 31 by omega, show q ≠ 32 by omega, show q ≠ 33 by omega]
theorem nt_next {n k : Nat} {v v' : Nat → Int32} {A A' : Nat → Nat → Int32} (hk : k < n) (h : ntI n (k + 1) v A v' A') : ntI n k v A v' (w5 A' (k + 1) (A' 29 k) (A' 30 k) (A' 31 k) (A' 32 k) (A' 33 k)) := by
  refine ⟨h.1, fun q hq => by rw [w5_q hq]; exact h.2.1 q hq, fun q h1 h2 => ⟨fun i hi => ?_, fun i h3 h4 => ?_⟩⟩
  · rw [w5_o (by omega)]; exact (h.2.2 q h1 h2).1 i (by omega)
  · by_cases e : i = k + 1
    · subst e
      have hx := w5_k (A := A') (k := k + 1) (a := A' 29 k) (b := A' 30 k) (c := A' 31 k) (d := A' 32 k) (e := A' 33 k)
      have hr := (h.2.2 q h1 h2).1 k (by omega)
      rw [Nat.add_sub_cancel, ← hr]
      rcases (show q = 29 ∨ q = 30 ∨ q = 31 ∨ q = 32 ∨ q = 33 by omega) with rfl | rfl | rfl | rfl | rfl
      · exact hx.1
      · exact hx.2.1
      · exact hx.2.2.1
      · exact hx.2.2.2.1
      · exact hx.2.2.2.2
    · rw [w5_o e]; exact (h.2.2 q h1 h2).2 i (by omega) h4
theorem nt_list {L : List Cg} {A A' : Nat → Nat → Int32} {v v' : Nat → Int32} {k g c : Nat} {b : Bool} (hk : k ≤ L.length) (hc : chR A L) (h : ntI L.length k v A v' A') : chR (w5 A' k (nI g) (nI (pt c 0)) (nI (pt c 1)) (nI (pt c 2)) (tI b)) (L.take k ++ (g, c, b) :: L.drop k) := by
  intro i g' c' b' hi
  rw [List.getElem?_append, List.length_take, Nat.min_eq_left hk] at hi
  split at hi
  · rename_i hlt
    rw [List.getElem?_take_of_lt hlt] at hi
    have r := hc i g' c' b' hi
    have e : ∀ q, 29 ≤ q → q ≤ 33 → w5 A' k (nI g) (nI (pt c 0)) (nI (pt c 1)) (nI (pt c 2)) (tI b) q i = A q i := fun q h1 h2 => by rw [w5_o (by omega)]; exact (h.2.2 q h1 h2).1 i hlt
    rw [e 29 (by decide) (by decide), e 30 (by decide) (by decide), e 31 (by decide) (by decide), e 32 (by decide) (by decide), e 33 (by decide) (by decide)]
    exact r
  · by_cases e : i = k
    · subst e
      simp at hi
      obtain ⟨rfl, rfl, rfl⟩ := hi
      exact w5_k
    · rw [List.getElem?_cons, if_neg (by omega), List.getElem?_drop, show k + (i - k - 1) = i - 1 by omega] at hi
      have hlt := (List.getElem?_eq_some_iff.mp hi).1
      have r := hc (i - 1) g' c' b' hi
      have e : ∀ q, 29 ≤ q → q ≤ 33 → w5 A' k (nI g) (nI (pt c 0)) (nI (pt c 1)) (nI (pt c 2)) (tI b) q i = A q (i - 1) := fun q h1 h2 => by rw [w5_o e]; exact (h.2.2 q h1 h2).2 i (by omega) (by omega)
      rw [e 29 (by decide) (by decide), e 30 (by decide) (by decide), e 31 (by decide) (by decide), e 32 (by decide) (by decide), e 33 (by decide) (by decide)]
      exact r
/-- the behind of a note -/
def ntP (v : Nat → Int32) (A : Nat → Nat → Int32) (L : List Cg) (x : Cg) (v' : Nat → Int32) (A' : Nat → Nat → Int32) : Prop :=
  v' = upd v 34 (nI (L.length + 1)) ∧ (∀ q, q < 29 ∨ 33 < q → A' q = A q) ∧ ∃ L', chR A' L' ∧ srC L' ∧ okC L' ∧ L'.length = L.length + 1 ∧ ∀ y, y ∈ L' ↔ y ∈ L ∨ y = x
theorem nt_end {L : List Cg} {A A' : Nat → Nat → Int32} {v v' : Nat → Int32} {k g c : Nat} {b : Bool} (hk : k ≤ L.length) (hg : g < 7) (hcc : okc c) (hc : chR A L) (hs : srC L) (ho : okC L) (hu : ∀ y ∈ L, ¬ (y.1 = g ∧ y.2.1 = c)) (h : ntI L.length k v A v' A') (ha : ∀ i y, k ≤ i → L[i]? = some y → ltC (g, c, b) y) (hb : ∀ y, k ≠ 0 → L[k - 1]? = some y → ¬ ltC (g, c, b) y) :
    ntP v A L (g, c, b) (upd v' 34 (nI (L.length + 1))) (w5 A' k (nI g) (nI (pt c 0)) (nI (pt c 1)) (nI (pt c 2)) (tI b)) := by
  refine ⟨by rw [h.1], fun q hq => by rw [w5_q hq]; exact h.2.1 q hq, L.take k ++ (g, c, b) :: L.drop k, nt_list hk hc h, ?_, ?_, ?_, ?_⟩
  · have hs2 := hs
    unfold srC at hs2
    rw [← List.take_append_drop k L, List.pairwise_append] at hs2
    have hd : ∀ y ∈ L.drop k, ltC (g, c, b) y := by
      intro y hy
      obtain ⟨i, hi, e⟩ := List.getElem_of_mem hy
      rw [List.getElem_drop] at e
      exact ha (k + i) y (by omega) (by rw [← e]; exact List.getElem?_eq_getElem _)
    have ht : ∀ y ∈ L.take k, ltC y (g, c, b) := by
      intro y hy
      obtain ⟨i, hi, e⟩ := List.getElem_of_mem hy
      rw [List.length_take] at hi
      rw [List.getElem_take] at e
      have hk1 : L[k - 1]? = some L[k - 1] := List.getElem?_eq_getElem (by omega)
      have hn := hb _ (by omega) hk1
      have hm : L[k - 1] ∈ L := List.getElem_mem _
      have hne := hu _ hm
      have hl : ltC L[k - 1] (g, c, b) := by
        unfold ltC at hn ⊢
        simp only at hn ⊢
        omega
      by_cases q : i = k - 1
      · subst q; rw [← e]; exact hl
      · have := List.pairwise_iff_getElem.mp hs i (k - 1) (by omega) (by omega) (by omega)
        rw [e] at this
        exact ltC_trans this hl
    unfold srC
    rw [List.pairwise_append]
    refine ⟨hs2.1, List.pairwise_cons.mpr ⟨hd, hs2.2.1⟩, fun a ha2 b2 hb2 => ?_⟩
    rcases List.mem_cons.mp hb2 with e | e
    · rw [e]; exact ht a ha2
    · exact hs2.2.2 a ha2 b2 e
  · intro y hy
    rcases List.mem_append.mp hy with q | q
    · exact ho y (List.mem_of_mem_take q)
    · rcases List.mem_cons.mp q with e | e
      · rw [e]; exact ⟨hg, hcc⟩
      · exact ho y (List.mem_of_mem_drop e)
  · simp; omega
  · intro y
    have hall : y ∈ L ↔ y ∈ L.take k ∨ y ∈ L.drop k := by rw [← List.mem_append, List.take_append_drop]
    rw [List.mem_append, List.mem_cons, hall]
    constructor
    · rintro (q | q | q)
      · exact Or.inl (Or.inl q)
      · exact Or.inr q
      · exact Or.inl (Or.inr q)
    · rintro ((q | q) | q)
      · exact Or.inl q
      · exact Or.inr (Or.inr q)
      · exact Or.inr (Or.inl q)
