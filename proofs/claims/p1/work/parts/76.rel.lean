/-! The sequence and the files, as the reference holds them. -/
theorem rdI {f : Nat → Int32} {i : Nat} {x : Int32} (h : f i = x) (hi : i < 2 ^ 31) : f (Int32.toNatClampNeg (nI i)) = x := by rw [nI_clamp hi]; exact h
def okT (t : TR) : Prop := (isNm t.1 ∨ isV t.1 ∨ (t.2.2.2 = true ∧ isNw t.1)) ∧ (isNm t.2.1 ∨ isV t.2.1) ∧ (isNm t.2.2.1 ∨ isV t.2.2.1 ∨ (t.2.2.2 = true ∧ isNw t.2.2.1))
def okR (t : Rw) : Prop := (isNm t.1 ∨ isV t.1) ∧ (isNm t.2.1 ∨ isV t.2.1) ∧ (isNm t.2.2 ∨ isV t.2.2)
def okQ (q : Sq) : Prop := q.1 ≤ 9 ∧ q.2.1 < 7 ∧ (q.1 = 9 → q.2.1 < 4) ∧ ((q.1 = 3 ∨ q.1 = 5) → -2 ≤ q.2.2.1.toInt ∧ q.2.2.1.toInt ≤ 6) ∧ (¬ (q.1 = 3 ∨ q.1 = 5) → 0 ≤ q.2.2.1.toInt ∧ q.2.2.1.toInt ≤ 6) ∧
  (∀ t ∈ q.2.2.2.2.1, okT t) ∧ (q.1 = 0 → ∀ t ∈ q.2.2.2.2.1, t.2.2.2 = true) ∧ (q.1 = 1 → ∀ t ∈ q.2.2.2.2.1, t.2.2.2 = false) ∧ q.2.2.2.2.1.length ≤ 6 ∧ (∀ t ∈ q.2.2.2.2.2, okR t) ∧ q.2.2.2.2.2.length ≤ 4 ∧ (q.1 ≠ 2 → q.2.2.2.2.2 = [])
theorem okQ_to {q : Sq} (h : okQ q) (hk : ¬ (q.1 = 3 ∨ q.1 = 5)) : ∃ t, t < 7 ∧ q.2.2.1 = nI t ∧ nn q.2.2.1 = t := by
  obtain ⟨h1, h2⟩ := h.2.2.2.2.1 hk
  obtain ⟨j, hj, e⟩ := vp_in_of (x := q.2.2.1) (n := 7) (vp_in_iff.mpr ⟨h1, by omega⟩) (by decide)
  exact ⟨j, hj, e, by rw [e]; exact nI_clamp (by omega)⟩
def ER (A : Nat → Nat → Int32) (i : Nat) (q : Sq) : Prop := A 1 i = nI q.1 ∧ ((q.1 = 2 ∨ 6 ≤ q.1) → A 2 i = nI q.2.1) ∧ A 3 i = q.2.2.1 ∧ A 4 i = tI q.2.2.2.1 ∧ A 5 i = nI q.2.2.2.2.1.length ∧
  (∀ j t, q.2.2.2.2.1[j]? = some t → A 6 (6 * i + j) = t.1 ∧ A 7 (6 * i + j) = t.2.1 ∧ A 8 (6 * i + j) = t.2.2.1 ∧ A 9 (6 * i + j) = tI t.2.2.2) ∧ A 10 i = nI q.2.2.2.2.2.length ∧
  (∀ j t, q.2.2.2.2.2[j]? = some t → A 11 (4 * i + j) = t.1 ∧ A 12 (4 * i + j) = t.2.1 ∧ A 13 (4 * i + j) = t.2.2)
theorem ER.kept {A A' : Nat → Nat → Int32} {i : Nat} {q : Sq} (h : ER A i q) (hk : ∀ k, k < 19 → A' k = A k) : ER A' i q := by
  unfold ER at h ⊢
  rw [hk 1 (by decide), hk 2 (by decide), hk 3 (by decide), hk 4 (by decide), hk 5 (by decide), hk 6 (by decide), hk 7 (by decide), hk 8 (by decide), hk 9 (by decide), hk 10 (by decide), hk 11 (by decide), hk 12 (by decide), hk 13 (by decide)]
  exact h
def FLr (A : Nat → Nat → Int32) (TN : Nat → Bool) (FL : Nat → List Nat) : Prop := ∀ f, f < 4 → A 14 f = nI (FL f).length ∧ (FL f).length ≤ 10 ∧ (∀ j, j < (FL f).length → A 15 (10 * f + j) = nI (pt ((FL f).getD j 0) 0) ∧ A 16 (10 * f + j) = nI (pt ((FL f).getD j 0) 1) ∧ A 17 (10 * f + j) = nI (pt ((FL f).getD j 0) 2)) ∧ A 18 f = tI (TN f) ∧ ∀ c ∈ FL f, okc c
theorem FLr.kept {A A' : Nat → Nat → Int32} {TN : Nat → Bool} {FL : Nat → List Nat} (h : FLr A TN FL) (hk : ∀ k, k < 19 → A' k = A k) : FLr A' TN FL := by
  intro f hf
  rw [hk 14 (by decide), hk 15 (by decide), hk 16 (by decide), hk 17 (by decide), hk 18 (by decide)]
  exact h f hf
/-- what a step may change of the reference -/
def FS (v : Nat → Int32) (A : Nat → Nat → Int32) (v' : Nat → Int32) (A' : Nat → Nat → Int32) : Prop :=
  (∀ k, k ≠ 20 → k ≠ 26 → k ≠ 41 → k ≠ 43 → k ≠ 45 → k ≠ 47 → v' k = v k) ∧ (∀ k, k < 19 ∨ (23 < k ∧ k < 34) → A' k = A k)
theorem FS.refl {v : Nat → Int32} {A : Nat → Nat → Int32} : FS v A v A := ⟨fun _ _ _ _ _ _ _ => rfl, fun _ _ => rfl⟩
theorem FS.trans {v v1 v2 : Nat → Int32} {A A1 A2 : Nat → Nat → Int32} (h : FS v A v1 A1) (h2 : FS v1 A1 v2 A2) : FS v A v2 A2 :=
  ⟨fun k a b c d e f => (h2.1 k a b c d e f).trans (h.1 k a b c d e f), fun k a => (h2.2 k a).trans (h.2 k a)⟩
theorem FR.S {v v1 : Nat → Int32} {A A1 : Nat → Nat → Int32} (h : FR v A v1 A1) : FS v A v1 A1 := ⟨fun k a b _ _ _ _ => h.1 k a b, fun k a => h.2 k (by omega)⟩
theorem FR.low {v v1 : Nat → Int32} {A A1 : Nat → Nat → Int32} (h : FR v A v1 A1) : ∀ k, k < 19 → A1 k = A k := fun k hk => h.2 k (Or.inl hk)
theorem FS.low {v v1 : Nat → Int32} {A A1 : Nat → Nat → Int32} (h : FS v A v1 A1) : ∀ k, k < 19 → A1 k = A k := fun k hk => h.2 k (Or.inl hk)
/-- the end of a step of the reference -/
def AR (v : Nat → Int32) (A : Nat → Nat → Int32) (a : Nat × St × Nat) (w : Int32) (v' : Nat → Int32) (A' : Nat → Nat → Int32) : Prop := w = nI a.1 ∧ FS v A v' A' ∧ (a.1 < 4 → RC v' A' a.2.1 ∧ v' 41 = v 41 + nI a.2.2)
theorem RC_there {v : Nat → Int32} {A : Nat → Nat → Int32} {S : St} (h : RC v A S) {g : Nat} (hg : g < 7) : A 23 g = tI (S.2.1 g) := by
  obtain ⟨_, _, _, h⟩ := h
  exact h.2.2.2.2.1 g hg
theorem RC_set {v : Nat → Int32} {A : Nat → Nat → Int32} {S : St} (h : RC v A S) (g : Nat) : RC v (u1 A 23 (upd (A 23) g 1)) (S.1, tS S.2.1 g true, S.2.2) := by
  obtain ⟨ho, n, f, h⟩ := h
  refine ⟨okS_there ho g, n, f, h.1, h.2.1, h.2.2.1, ?_, ?_, h.2.2.2.2.2⟩
  · intro i hi
    simp only [u1]
    exact h.2.2.2.1 i hi
  · intro g' hg'
    have := h.2.2.2.2.1 g' hg'
    simp only [u1, upd, tS]
    by_cases q : g' = g
    · simp [q, tI, upd]
    · simp [q, this, upd]
theorem FR_set {v : Nat → Int32} {A : Nat → Nat → Int32} {g : Nat → Int32} : FR v A v (u1 A 23 g) := ⟨fun _ _ _ => rfl, fun k hk => by simp [u1, show k ≠ 23 by omega]⟩
theorem putAll_append (to : Nat) : ∀ (l l' : List Nat) (S : St), putAll to (l ++ l') S = (match putAll to l S with
    | none => none
    | some S' => putAll to l' S')
  | [], _, _ => rfl
  | c :: cs, l', S => by
    rw [List.cons_append, putAll, putAll]
    cases stPut S to c with
    | none => rfl
    | some S' => exact putAll_append to cs l' S'
theorem putAll_step {to : Nat} {l : List Nat} {j : Nat} (hj : j < l.length) (S : St) : putAll to (l.take (j + 1)) S = (match putAll to (l.take j) S with
    | none => none
    | some S' => stPut S' to (l.getD j 0)) := by
  rw [take_succ_of hj, putAll_append, show l[j] = l.getD j 0 by rw [List.getD_eq_getElem?_getD, List.getElem?_eq_getElem hj]; rfl]
  cases putAll to (l.take j) S with
  | none => rfl
  | some S' => simp only [putAll]; cases stPut S' to (l.getD j 0) <;> rfl
theorem putAll_none {to : Nat} {l : List Nat} {j : Nat} {S : St} (h : putAll to (l.take j) S = none) : putAll to l S = none := by
  rw [← List.take_append_drop j l, putAll_append, h]
theorem stPut_there {S S' : St} {g c : Nat} (h : stPut S g c = some S') : S'.2.1 g = true ∧ ∀ g', S.2.1 g' = true → S'.2.1 g' = true := by
  have ht : ∀ g', S.2.1 g' = true → tS S.2.1 g true g' = true := fun g' q => by unfold tS; split <;> first | rfl | exact q
  unfold stPut at h
  split at h
  · cases h; exact ⟨by simp [tS], ht⟩
  · split at h
    · cases h
    · cases h; exact ⟨by simp [tS], ht⟩
/-- rows that come one by one: what has come so far -/
def cmI (v : Nat → Int32) (A : Nat → Nat → Int32) (to : Nat) (l : List Nat) (S : St) (room : Int32) (v' : Nat → Int32) (A' : Nat → Nat → Int32) : Prop :=
  FR v A v' A' ∧ ((room = 0 ∧ putAll to l S = none) ∨ ∃ S', room = 1 ∧ putAll to l S = some S' ∧ RC v' A' S' ∧ S'.2.1 to = true)
theorem cmI_0 {v v0 : Nat → Int32} {A A0 : Nat → Nat → Int32} {to : Nat} {l : List Nat} {S : St} (h : RC v A S) (ht : S.2.1 to = true) (hf : FR v0 A0 v A) : cmI v0 A0 to (l.take 0) S 1 v A := ⟨hf, Or.inr ⟨S, rfl, by rw [List.take_zero]; rfl, h, ht⟩⟩
theorem cmI_out {v0 v : Nat → Int32} {A0 A : Nat → Nat → Int32} {to : Nat} {l : List Nat} {j : Nat} {S : St} {room : Int32} (hj : j < l.length) (h : cmI v0 A0 to (l.take j) S room v A) (hz : room = 0) : cmI v0 A0 to (l.take (j + 1)) S 0 v A := by
  refine ⟨h.1, Or.inl ⟨rfl, ?_⟩⟩
  rcases h.2 with ⟨_, q⟩ | ⟨S', q, _⟩
  · rw [putAll_step hj, q]
  · rw [hz] at q; exact absurd q (by decide)
theorem cmI_in {v0 v : Nat → Int32} {A0 A : Nat → Nat → Int32} {to : Nat} {l : List Nat} {j : Nat} {S : St} {room : Int32} (h : cmI v0 A0 to (l.take j) S room v A) (hz : ¬ room = 0) : ∃ S', putAll to (l.take j) S = some S' ∧ RC v A S' ∧ S'.2.1 to = true := by
  rcases h.2 with ⟨q, _⟩ | ⟨S', _, q⟩
  · exact absurd q hz
  · exact ⟨S', q⟩
/-- one more, with come's answer -/
theorem cmI_next {v0 v : Nat → Int32} {A0 A : Nat → Nat → Int32} {to : Nat} {l : List Nat} {j : Nat} {S : St} {room : Int32} (hj : j < l.length) (hto : to < 7) (hok : ∀ c ∈ l, okc c) (h : cmI v0 A0 to (l.take j) S room v A) (hz : ¬ room = 0) :
    let F := fX9_come v A (nI to) (nI (pt (l.getD j 0) 0)) (nI (pt (l.getD j 0) 1)) (nI (pt (l.getD j 0) 2))
    (F.1 = 0 → cmI v0 A0 to (l.take (j + 1)) S 0 F.2.1 F.2.2) ∧ (¬ F.1 = 0 → cmI v0 A0 to (l.take (j + 1)) S 1 F.2.1 F.2.2) := by
  obtain ⟨S', e, hR, ht⟩ := cmI_in h hz
  have hs := come_s hR hto (hok _ (getD_mem hj)) ht
  dsimp only
  refine ⟨fun q => ⟨h.1.trans hs.1, Or.inl ⟨rfl, ?_⟩⟩, fun q => ⟨h.1.trans hs.1, Or.inr ?_⟩⟩
  · rcases hs.2 with ⟨r, _⟩ | ⟨S2, r, r1, _⟩
    · rw [putAll_step hj, e]; exact r
    · rw [r1] at q; exact absurd q (by decide)
  · rcases hs.2 with ⟨_, r⟩ | ⟨S2, r, _, r2⟩
    · exact absurd r q
    · exact ⟨S2, rfl, by rw [putAll_step hj, e]; exact r, r2, (stPut_there r).1⟩
