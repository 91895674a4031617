/-! Graphs as sorted rows of facts. -/
def GC (iv av : Nat → Nat → Int32) (k : Nat) (p : Nat → Bool) (t : Bool) : Prop := iv k 1 = nI (cds p).length ∧ iv k 2 = tI t ∧ ∀ i, i < (cds p).length → av (k + 1) i = nI ((cds p).getD i 0)
theorem srt_get {l : List Nat} (h : srt l) {i j : Nat} (hij : i < j) (hj : j < l.length) : l.getD i 0 < l.getD j 0 := by
  have := List.pairwise_iff_getElem.mp h i j (by omega) hj hij
  rw [List.getD_eq_getElem?_getD, List.getD_eq_getElem?_getD, List.getElem?_eq_getElem hj, List.getElem?_eq_getElem (show i < l.length by omega)]
  exact this
theorem getD_mem {l : List Nat} {i : Nat} (h : i < l.length) : l.getD i 0 ∈ l := by
  rw [List.getD_eq_getElem?_getD, List.getElem?_eq_getElem h]
  exact List.getElem_mem h
theorem mem_getD {l : List Nat} {c : Nat} (h : c ∈ l) : ∃ i, i < l.length ∧ l.getD i 0 = c := by
  obtain ⟨i, hi, e⟩ := List.getElem_of_mem h
  exact ⟨i, hi, by rw [List.getD_eq_getElem?_getD, List.getElem?_eq_getElem hi]; exact e⟩
theorem bs_s {f : Nat → Int32} {g : Nat → Nat} {n c : Nat} (hc : c < 2 ^ 31) (hg : ∀ i, i < n → g i < 2 ^ 31) (hf : ∀ i, i < n → f i = nI (g i)) (hs : ∀ i j, i < j → j < n → g i < g j) :
    ∀ (d lo hi : Nat), hi ≤ lo + d → lo ≤ hi → hi ≤ n → (∀ i, i < lo → g i < c) → (∀ i, hi ≤ i → i < n → c ≤ g i) →
      bs f (nI c) d lo hi ≤ n ∧ (∀ i, i < bs f (nI c) d lo hi → g i < c) ∧ (∀ i, bs f (nI c) d lo hi ≤ i → i < n → c ≤ g i) := by
  intro d
  induction d with
  | zero =>
    intro lo hi h1 h2 h3 h4 h5
    simp only [bs]
    have : lo = hi := by omega
    subst this
    exact ⟨h3, h4, h5⟩
  | succ d ih =>
    intro lo hi h1 h2 h3 h4 h5
    simp only [bs]
    split
    · have hm : (lo + hi) / 2 < n := by omega
      have hq : nI c ≤ f ((lo + hi) / 2) ↔ c ≤ g ((lo + hi) / 2) := by rw [hf _ hm, nI_leI hc (hg _ hm)]
      split
      · rename_i hle
        have hle := hq.mp hle
        refine ih lo _ (by omega) (by omega) (by omega) h4 (fun i hi1 hi2 => ?_)
        by_cases e : i = (lo + hi) / 2
        · subst e; assumption
        · have := hs ((lo + hi) / 2) i (by omega) hi2; omega
      · rename_i hle
        have hle : g ((lo + hi) / 2) < c := Nat.lt_of_not_le (fun r => hle (hq.mpr r))
        refine ih _ hi (by omega) (by omega) h3 (fun i hi1 => ?_) h5
        by_cases e : i = (lo + hi) / 2
        · subst e; omega
        · have := hs i ((lo + hi) / 2) (by omega) hm; omega
    · have : lo = hi := by omega
      subst this
      exact ⟨h3, h4, h5⟩
theorem cds_lt {p : Nat → Bool} (h : ∀ c, p c = true → okc c) {i : Nat} (hi : i < (cds p).length) : (cds p).getD i 0 < 10485760 := okc_lt (h _ ((cds_mem h).mp (getD_mem hi)))
/-- the place of a fact -/
theorem place_s {iv av : Nat → Nat → Int32} {k : Nat} {p : Nat → Bool} {t : Bool} (h : GC iv av k p t) (ho : ∀ c, p c = true → okc c) (hn : (cds p).length ≤ 120) {c : Nat} (hc : c < 2 ^ 31) :
    ∃ q, fX2_placeOf iv av k (nI c) = nI q ∧ q ≤ (cds p).length ∧ (∀ i, i < q → (cds p).getD i 0 < c) ∧ (∀ i, q ≤ i → i < (cds p).length → c ≤ (cds p).getD i 0) := by
  unfold fX2_placeOf
  rw [h.1, nI_clamp (by omega)]
  have := bs_s (f := av (k + 1)) (g := fun i => (cds p).getD i 0) (n := (cds p).length) hc (fun i hi => by have := cds_lt ho hi; omega) h.2.2 (fun i j hij hj => srt_get (cds_srt p) hij hj) (cds p).length 0 (cds p).length (by omega) (by omega) (by omega) (fun i hi => absurd hi (Nat.not_lt_zero _)) (fun i h1 h2 => by omega)
  exact ⟨_, rfl, this.1, this.2.1, this.2.2⟩
theorem place_mem {p : Nat → Bool} {c q : Nat} (hq : q ≤ (cds p).length) (h1 : ∀ i, i < q → (cds p).getD i 0 < c) (h2 : ∀ i, q ≤ i → i < (cds p).length → c ≤ (cds p).getD i 0) : c ∈ cds p ↔ q < (cds p).length ∧ (cds p).getD q 0 = c := by
  constructor
  · intro h
    obtain ⟨i, hi, e⟩ := mem_getD h
    have hiq : q ≤ i := by
      rcases Nat.lt_or_ge i q with r | r
      · have := h1 i r; omega
      · exact r
    refine ⟨by omega, ?_⟩
    have hlt : q < (cds p).length := by omega
    have a := h2 q (Nat.le_refl _) hlt
    by_cases r : q = i
    · rw [r]; exact e
    · have := srt_get (cds_srt p) (show q < i by omega) hi; omega
  · rintro ⟨h, e⟩
    rw [← e]; exact getD_mem h
theorem holds_s {iv av : Nat → Nat → Int32} {k : Nat} {p : Nat → Bool} {t : Bool} (h : GC iv av k p t) (ho : ∀ c, p c = true → okc c) (hn : (cds p).length ≤ 120) {c : Nat} (hc : c < 2 ^ 31) : fX2_holds iv av k (nI c) = tI (p c) := by
  obtain ⟨q, e, hq, h1, h2⟩ := place_s h ho hn hc
  have hm := (place_mem hq h1 h2).symm.trans (cds_mem ho)
  unfold fX2_holds
  rw [e, h.1]
  by_cases hlt : q < (cds p).length
  · rw [if_neg (nI_ge hlt (by omega)), nI_clamp (by omega), h.2.2 q hlt]
    have hb := cds_lt ho hlt
    by_cases he : (cds p).getD q 0 = c
    · rw [if_pos (by rw [he]), hm.mp ⟨hlt, he⟩]; rfl
    · rw [if_neg (by rw [nI_eq (by omega) hc]; exact he), Bool.eq_false_iff.mpr (fun r => he (hm.mpr r).2)]; rfl
  · rw [if_pos (nI_le (by omega) (by omega)), Bool.eq_false_iff.mpr (fun r => hlt (hm.mpr r).1)]; rfl
/-- a fact put in at its place, one taken out -/
def pC (p : Nat → Bool) (c : Nat) (b : Bool) : Nat → Bool := fun c' => if c' = c then b else p c'
theorem pS_s (P : Pd) (g c : Nat) (b : Bool) : pS P g c b g = pC (P g) c b := by
  funext c'; simp [pS, pC]
theorem insert_l {p : Nat → Bool} (ho : ∀ c, p c = true → okc c) {c q : Nat} (hc : okc c) (hp : p c = false) (hq : q ≤ (cds p).length) (h1 : ∀ i, i < q → (cds p).getD i 0 < c) (h2 : ∀ i, q ≤ i → i < (cds p).length → c ≤ (cds p).getD i 0) : cds (pC p c true) = (cds p).take q ++ c :: (cds p).drop q := by
  have ho' : ∀ c', pC p c true c' = true → okc c' := by
    intro c' r; unfold pC at r; split at r
    · rename_i e; rw [e]; exact hc
    · exact ho c' r
  have hcm : c ∉ cds p := fun r => by rw [cds_mem ho, hp] at r; cases r
  refine (cds_eq ho' ?_ ?_).symm
  · have hs := cds_srt p
    rw [← List.take_append_drop q (cds p)] at hs
    unfold srt at hs ⊢
    rw [List.pairwise_append] at hs ⊢
    have hd : ∀ a ∈ (cds p).drop q, c < a := by
      intro a ha
      obtain ⟨i, hi, e⟩ := List.getElem_of_mem ha
      rw [List.length_drop] at hi
      rw [List.getElem_drop] at e
      have := h2 (q + i) (by omega) (by omega)
      rw [List.getD_eq_getElem?_getD, List.getElem?_eq_getElem (show q + i < (cds p).length by omega), e] at this
      have hne : c ≠ a := fun r => hcm (by rw [r]; exact List.mem_of_mem_drop ha)
      have : c ≤ a := this
      omega
    have ht : ∀ a ∈ (cds p).take q, a < c := by
      intro a ha
      obtain ⟨i, hi, e⟩ := List.getElem_of_mem ha
      rw [List.length_take] at hi
      rw [List.getElem_take] at e
      have := h1 i (by omega)
      rw [List.getD_eq_getElem?_getD, List.getElem?_eq_getElem (show i < (cds p).length by omega), e] at this
      exact this
    refine ⟨hs.1, List.pairwise_cons.mpr ⟨hd, hs.2.1⟩, fun a ha b hb => ?_⟩
    rcases List.mem_cons.mp hb with e | e
    · rw [e]; exact ht a ha
    · exact hs.2.2 a ha b e
  · intro c'
    rw [List.mem_append, List.mem_cons]
    unfold pC
    have hall : c' ∈ cds p ↔ c' ∈ (cds p).take q ∨ c' ∈ (cds p).drop q := by rw [← List.mem_append, List.take_append_drop]
    split
    · rename_i e; exact ⟨fun _ => rfl, fun _ => Or.inr (Or.inl e)⟩
    · rename_i e
      rw [← cds_mem ho, hall]
      constructor
      · rintro (r | r | r)
        · exact Or.inl r
        · exact absurd r e
        · exact Or.inr r
      · rintro (r | r)
        · exact Or.inl r
        · exact Or.inr (Or.inr r)
theorem getD_ins {l : List Nat} {q c i : Nat} (hq : q ≤ l.length) : (l.take q ++ c :: l.drop q).getD i 0 = if i < q then l.getD i 0 else if i = q then c else l.getD (i - 1) 0 := by
  rw [List.getD_eq_getElem?_getD, List.getElem?_append, List.length_take, Nat.min_eq_left hq]
  split
  · rw [List.getElem?_take_of_lt (by assumption)]; rfl
  · split
    · rename_i e; subst e; simp
    · rw [List.getElem?_cons, if_neg (by omega), List.getElem?_drop, show q + (i - q - 1) = i - 1 by omega]; rfl
theorem insert_s {iv av : Nat → Nat → Int32} {k : Nat} {p : Nat → Bool} {t : Bool} (h : GC iv av k p t) (ho : ∀ c, p c = true → okc c) (hn : (cds p).length ≤ 120) {c q : Nat} (hc : okc c) (hp : p c = false) (hq : q ≤ (cds p).length) (h1 : ∀ i, i < q → (cds p).getD i 0 < c) (h2 : ∀ i, q ≤ i → i < (cds p).length → c ≤ (cds p).getD i 0) :
    (cds (pC p c true)).length = (cds p).length + 1 ∧ ∀ i, i < (cds p).length + 1 → upd (va_cpy (av (k + 1)) (av (k + 1)) q (q + 1) ((cds p).length - q)) q (nI c) i = nI ((cds (pC p c true)).getD i 0) := by
  have e := insert_l ho hc hp hq h1 h2
  rw [e]
  refine ⟨?_, fun i hi => ?_⟩
  · simp; omega
  · rw [getD_ins hq]
    unfold upd va_cpy
    by_cases r : i = q
    · rw [if_pos r, if_neg (by omega), if_pos r]
    · rw [if_neg r]
      by_cases r2 : i < q
      · rw [if_pos r2, if_neg (by omega)]
        exact h.2.2 i (by omega)
      · rw [if_neg r2, if_neg r, if_pos (by omega), show q + (i - (q + 1)) = i - 1 by omega]
        exact h.2.2 (i - 1) (by omega)
theorem remove_l {p : Nat → Bool} (ho : ∀ c, p c = true → okc c) {c q : Nat} (hq : q < (cds p).length) (hqc : (cds p).getD q 0 = c) : cds (pC p c false) = (cds p).take q ++ (cds p).drop (q + 1) := by
  have ho' : ∀ c', pC p c false c' = true → okc c' := by
    intro c' r; unfold pC at r; split at r
    · cases r
    · exact ho c' r
  have hsub : ((cds p).take q ++ (cds p).drop (q + 1)).Sublist (cds p) := by
    rw [← List.eraseIdx_eq_take_drop_succ]; exact List.eraseIdx_sublist _ _
  have hd : (cds p).drop q = c :: (cds p).drop (q + 1) := by
    rw [List.drop_eq_getElem_cons hq]
    rw [List.getD_eq_getElem?_getD, List.getElem?_eq_getElem hq, Option.getD_some] at hqc
    rw [hqc]
  have hnd := srt_nodup (cds_srt p)
  rw [← List.take_append_drop q (cds p), hd] at hnd
  unfold List.Nodup at hnd
  rw [List.pairwise_append, List.pairwise_cons] at hnd
  refine (cds_eq ho' ((cds_srt p).sublist hsub) (fun c' => ?_)).symm
  have hall : c' ∈ cds p ↔ c' ∈ (cds p).take q ∨ c' = c ∨ c' ∈ (cds p).drop (q + 1) := by
    rw [← List.mem_cons, ← hd, ← List.mem_append, List.take_append_drop]
  rw [List.mem_append]
  unfold pC
  split
  · rename_i e
    subst e
    constructor
    · rintro (r | r)
      · exact absurd rfl (hnd.2.2 c' r c' (by simp))
      · exact absurd rfl (hnd.2.1.1 c' r)
    · intro r; cases r
  · rename_i e
    rw [← cds_mem ho, hall]
    constructor
    · rintro (r | r)
      · exact Or.inl r
      · exact Or.inr (Or.inr r)
    · rintro (r | r | r)
      · exact Or.inl r
      · exact absurd r e
      · exact Or.inr r
theorem getD_rem {l : List Nat} {q i : Nat} (hq : q ≤ l.length) : (l.take q ++ l.drop (q + 1)).getD i 0 = if i < q then l.getD i 0 else l.getD (i + 1) 0 := by
  rw [List.getD_eq_getElem?_getD, List.getElem?_append, List.length_take, Nat.min_eq_left hq]
  split
  · rw [List.getElem?_take_of_lt (by assumption)]; rfl
  · rw [List.getElem?_drop, show q + 1 + (i - q) = i + 1 by omega]; rfl
theorem remove_s {iv av : Nat → Nat → Int32} {k : Nat} {p : Nat → Bool} {t : Bool} (h : GC iv av k p t) (ho : ∀ c, p c = true → okc c) {c q : Nat} (hq : q < (cds p).length) (hqc : (cds p).getD q 0 = c) :
    (cds (pC p c false)).length = (cds p).length - 1 ∧ ∀ i, i < (cds p).length - 1 → va_cpy (av (k + 1)) (av (k + 1)) (q + 1) q ((cds p).length - q - 1) i = nI ((cds (pC p c false)).getD i 0) := by
  have e := remove_l ho hq hqc
  rw [e]
  refine ⟨?_, fun i hi => ?_⟩
  · simp; omega
  · rw [getD_rem (by omega)]
    unfold va_cpy
    by_cases r2 : i < q
    · rw [if_pos r2, if_neg (by omega)]
      exact h.2.2 i (by omega)
    · rw [if_neg r2, if_pos (by omega), show q + 1 + (i - q) = i + 1 by omega]
      exact h.2.2 (i + 1) (by omega)
