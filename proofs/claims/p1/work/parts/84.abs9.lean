/-! Graphs copied, moved and added, in the reference. -/
theorem tS_id {T : Nat → Bool} {g : Nat} (h : T g = true) : tS T g true = T := by
  funext g'; unfold tS; split
  · rename_i e; rw [e, h]
  · rfl
theorem putAll_set {to : Nat} (hto : to < 7) : ∀ (l : List Nat) (S : St), okS S → S.2.1 to = true → (∀ c ∈ l, okc c) → ∀ (p : Nat → Bool), (∀ c, p c = true ↔ S.1 to c = true ∨ c ∈ l) →
    (card (pG S.1 to p) ≤ 120 → putAll to l S = some (pG S.1 to p, S.2)) ∧ (120 < card (pG S.1 to p) → putAll to l S = none)
  | [], S, ho, ht, hl, p, hp => by
    have e : pG S.1 to p = S.1 := by
      funext g c; unfold pG; split
      · rename_i e; subst e
        have := hp c
        simp only [List.not_mem_nil, or_false] at this
        exact Bool.eq_iff_iff.mpr this
      · rfl
    rw [e]
    exact ⟨fun _ => rfl, fun q => absurd ho.2.1 (by omega)⟩
  | c :: cs, S, ho, ht, hl, p, hp => by
    have hc := hl c (by simp)
    have hp' : ∀ c', p c' = true → okc c' := fun c' q => by
      rcases (hp c').mp q with r | r
      · exact (ho.1 to c' r).2
      · exact hl c' r
    rw [putAll]
    unfold stPut
    by_cases q : S.1 to c = true
    · rw [if_pos q, tS_id ht]
      exact putAll_set hto cs S ho ht (fun c' hc' => hl c' (by simp [hc'])) p (fun c' => by
        rw [hp c', List.mem_cons]
        constructor
        · rintro (r | r | r)
          · exact Or.inl r
          · rw [r]; exact Or.inl q
          · exact Or.inr r
        · rintro (r | r)
          · exact Or.inl r
          · exact Or.inr (Or.inr r))
    · have q : S.1 to c = false := by simpa using q
      rw [if_neg (by rw [q]; decide)]
      have hsub : ∀ g c', pS S.1 to c true g c' = true → pG S.1 to p g c' = true := by
        intro g c' r
        unfold pS at r
        unfold pG
        split at r
        · rename_i e; rw [if_pos e.1, e.2]; exact (hp c).mpr (Or.inr (by simp))
        · split
          · rename_i e; rw [e] at r; exact (hp c').mpr (Or.inl r)
          · exact r
      have hle := card_le (okP_pG ho.1 hto hp') hsub
      rw [card_pS ho.1 hto hc q] at hle
      by_cases r : 120 ≤ card S.1
      · rw [if_pos r]
        exact ⟨fun s => by omega, fun _ => rfl⟩
      · rw [if_neg r, tS_id ht]
        have ho' := okS_put ho hto hc (show stPut S to c = some (pS S.1 to c true, S.2.1, S.2.2) by unfold stPut; rw [if_neg (by rw [q]; decide), if_neg r, tS_id ht])
        have e : pG (pS S.1 to c true) to p = pG S.1 to p := by
          funext g c'; unfold pG; split
          · rfl
          · rename_i e; rw [pS_k _ _ _ e]
        have := putAll_set hto cs (pS S.1 to c true, S.2.1, S.2.2) ho' ht (fun c' hc' => hl c' (by simp [hc'])) p (fun c' => by
          rw [hp c', List.mem_cons]
          show _ ↔ pS S.1 to c true to c' = true ∨ _
          unfold pS
          constructor
          · rintro (s | s | s)
            · refine Or.inl ?_
              split <;> first | rfl | exact s
            · exact Or.inl (by rw [if_pos ⟨rfl, s⟩])
            · exact Or.inr s
          · rintro (s | s)
            · split at s
              · rename_i e; exact Or.inr (Or.inl e.2)
              · exact Or.inl s
            · exact Or.inr (Or.inr s))
        rw [show pG ((pS S.1 to c true, S.2.1, S.2.2) : St).1 to p = pG S.1 to p from e] at this
        exact this
theorem putAll_same {to : Nat} (hto : to < 7) {l l' : List Nat} {S : St} (ho : okS S) (ht : S.2.1 to = true) (hl : ∀ c ∈ l, okc c) (h : ∀ c, c ∈ l ↔ c ∈ l') : putAll to l S = putAll to l' S := by
  have hp : ∀ c, (S.1 to c || decide (c ∈ l)) = true ↔ S.1 to c = true ∨ c ∈ l := fun c => by simp
  have h1 := putAll_set hto l S ho ht hl _ hp
  have h2 := putAll_set hto l' S ho ht (fun c hc => hl c ((h c).mpr hc)) _ (fun c => by rw [hp c, h c])
  rcases Nat.lt_or_ge 120 (card (pG S.1 to fun c => S.1 to c || decide (c ∈ l))) with q | q
  · rw [h1.2 q, h2.2 q]
  · rw [h1.1 q, h2.1 q]
/-- the rows of one graph, in the reference's order -/
def grl (f : Nat → Nat × Nat) (g : Nat) : Nat → List Nat
  | 0 => []
  | j + 1 => if (f j).1 = g then grl f g j ++ [(f j).2] else grl f g j
theorem grl_mem {f : Nat → Nat × Nat} {g c : Nat} : ∀ n, c ∈ grl f g n ↔ ∃ i, i < n ∧ f i = (g, c)
  | 0 => by simp [grl]
  | n + 1 => by
    have ih := grl_mem (f := f) (g := g) (c := c) n
    unfold grl
    constructor
    · intro h
      split at h
      · rename_i e
        rcases List.mem_append.mp h with q | q
        · obtain ⟨i, hi, r⟩ := ih.mp q; exact ⟨i, by omega, r⟩
        · rw [List.mem_singleton] at q; exact ⟨n, by omega, by rw [← e, q]⟩
      · obtain ⟨i, hi, r⟩ := ih.mp h; exact ⟨i, by omega, r⟩
    · rintro ⟨i, hi, r⟩
      by_cases q : i = n
      · subst q
        rw [if_pos (by rw [r]), List.mem_append]
        exact Or.inr (by rw [r]; simp)
      · have := ih.mpr ⟨i, by omega, r⟩
        split
        · exact List.mem_append.mpr (Or.inl this)
        · exact this
theorem cmA_out {v0 v : Nat → Int32} {A0 A : Nat → Nat → Int32} {to c : Nat} {l : List Nat} {S : St} {room : Int32} (h : cmI v0 A0 to l S room v A) (hz : room = 0) : cmI v0 A0 to (l ++ [c]) S 0 v A := by
  refine ⟨h.1, Or.inl ⟨rfl, ?_⟩⟩
  rcases h.2 with ⟨_, q⟩ | ⟨S', q, _⟩
  · rw [putAll_append, q]
  · rw [hz] at q; exact absurd q (by decide)
theorem cmA_in {v0 v : Nat → Int32} {A0 A : Nat → Nat → Int32} {to : Nat} {l : List Nat} {S : St} {room : Int32} (h : cmI v0 A0 to l S room v A) (hz : ¬ room = 0) : ∃ S', putAll to l S = some S' ∧ RC v A S' ∧ S'.2.1 to = true := by
  rcases h.2 with ⟨q, _⟩ | ⟨S', _, q⟩
  · exact absurd q hz
  · exact ⟨S', q⟩
theorem cmA_next {v0 v : Nat → Int32} {A0 A : Nat → Nat → Int32} {to c : Nat} {l : List Nat} {S : St} {room : Int32} (hto : to < 7) (hok : okc c) (h : cmI v0 A0 to l S room v A) (hz : ¬ room = 0) :
    ((fX9_come v A (nI to) (nI (pt c 0)) (nI (pt c 1)) (nI (pt c 2))).1 = 0 → cmI v0 A0 to (l ++ [c]) S 0 (fX9_come v A (nI to) (nI (pt c 0)) (nI (pt c 1)) (nI (pt c 2))).2.1 (fX9_come v A (nI to) (nI (pt c 0)) (nI (pt c 1)) (nI (pt c 2))).2.2) ∧
    (¬ (fX9_come v A (nI to) (nI (pt c 0)) (nI (pt c 1)) (nI (pt c 2))).1 = 0 → cmI v0 A0 to (l ++ [c]) S 1 (fX9_come v A (nI to) (nI (pt c 0)) (nI (pt c 1)) (nI (pt c 2))).2.1 (fX9_come v A (nI to) (nI (pt c 0)) (nI (pt c 1)) (nI (pt c 2))).2.2) := by
  obtain ⟨S', e, hR, ht⟩ := cmA_in h hz
  have hs := come_s hR hto hok ht
  have e2 : putAll to (l ++ [c]) S = stPut S' to c := by
    rw [putAll_append, e]
    show putAll to [c] S' = _
    simp only [putAll]
    cases stPut S' to c <;> rfl
  refine ⟨fun q => ⟨h.1.trans hs.1, Or.inl ⟨rfl, ?_⟩⟩, fun q => ⟨h.1.trans hs.1, Or.inr ?_⟩⟩
  · rcases hs.2 with ⟨r, _⟩ | ⟨S2, r, r1, _⟩
    · rw [e2]; exact r
    · rw [r1] at q; exact absurd q (by decide)
  · rcases hs.2 with ⟨_, r⟩ | ⟨S2, r, _, r2⟩
    · exact absurd r q
    · exact ⟨S2, rfl, by rw [e2]; exact r, r2, (stPut_there r).1⟩
/-- the first n rows stay, whatever comes -/
def kpR (n : Nat) (A1 : Nat → Nat → Int32) (v : Nat → Int32) (A : Nat → Nat → Int32) : Prop := (∃ n', v 20 = nI n' ∧ n ≤ n' ∧ n' ≤ 120) ∧ ∀ q, 19 ≤ q → q ≤ 22 → ∀ i, i < n → A q i = A1 q i
theorem kpR_next {n : Nat} {A1 : Nat → Nat → Int32} {v : Nat → Int32} {A : Nat → Nat → Int32} (h : kpR n A1 v A) (a b c d : Int32) : kpR n A1 (fX9_come v A a b c d).2.1 (fX9_come v A a b c d).2.2 := by
  obtain ⟨⟨n', e, hn, h120⟩, hA⟩ := h
  unfold fX9_come
  split
  · split
    · exact ⟨⟨n', e, hn, h120⟩, hA⟩
    · rename_i h1
      have h1 : n' ≠ 120 := fun q => h1 (by rw [e, q]; rfl)
      refine ⟨⟨n' + 1, by simp [upd, e, nI_1], by omega, by omega⟩, fun q h2 h3 i hi => ?_⟩
      have := hA q h2 h3 i hi
      rw [e, nI_clamp (by omega)]
      rcases (show q = 19 ∨ q = 20 ∨ q = 21 ∨ q = 22 by omega) with rfl | rfl | rfl | rfl <;> simp [u1, upd, show i ≠ n' by omega, this]
  · exact ⟨⟨n', e, hn, h120⟩, hA⟩
theorem cp_no {v : Nat → Int32} {A : Nat → Nat → Int32} {S : St} {k f t : Nat} (hR : RC v A S) (h : tI (S.2.1 f) = 0) : AR v A (aBring k f t S) 2 v A := by
  unfold aBring AR
  rw [if_pos (tI_0.mp h)]
  exact ⟨rfl, FS.refl, fun _ => ⟨hR, by show v 41 = v 41 + nI 0; rw [nI_0]; simp⟩⟩
theorem cp_same {v : Nat → Int32} {A : Nat → Nat → Int32} {S : St} {k f t : Nat} (hR : RC v A S) (h : ¬ tI (S.2.1 f) = 0) (hft : f = t) : AR v A (aBring k f t S) 0 v A := by
  unfold aBring AR
  rw [if_neg (by rw [tI_1.mp h]; decide), if_pos hft]
  exact ⟨rfl, FS.refl, fun _ => ⟨hR, by show v 41 = v 41 + nI 0; rw [nI_0]; simp⟩⟩
theorem okS_clr {S : St} (h : okS S) (g : Nat) : okS (pG S.1 g (fun _ => false), S.2) := by
  have hs : ∀ g' c', pG S.1 g (fun _ => false) g' c' = true → S.1 g' c' = true := by
    intro g' c' q; unfold pG at q; split at q
    · cases q
    · exact q
  exact ⟨fun g' c' q => h.1 g' c' (hs g' c' q), Nat.le_trans (card_le h.1 hs) h.2.1, h.2.2.1, h.2.2.2.1, fun g' c' q => h.2.2.2.2 g' c' (hs g' c' q)⟩
theorem cp_end8 {v v' : Nat → Int32} {A A' : Nat → Nat → Int32} {S : St} {f t n : Nat} {fr : Nat → Nat × Nat} {room : Int32} (ho : okS S) (ht : t < 7) (h : ¬ tI (S.2.1 f) = 0) (hft : ¬ f = t) (hm : ∀ g c, S.1 g c = true ↔ ∃ i, i < n ∧ fr i = (g, c)) (hI : cmI v A t (grl fr f n) (S.1, tS S.2.1 t true, S.2.2) room v' A') : (room = 0 → AR v A (aBring 8 f t S) 4 v' A') ∧ (¬ room = 0 → AR v A (aBring 8 f t S) 0 v' A') := by
  have e : putAll t (grl fr f n) (S.1, tS S.2.1 t true, S.2.2) = putAll t (cds (S.1 f)) (S.1, tS S.2.1 t true, S.2.2) :=
    putAll_same ht (okS_there ho t) (by simp [tS]) (fun c hc => (ho.1 f c ((hm f c).mpr (grl_mem n |>.mp hc))).2) (fun c => by rw [grl_mem, cds_mem (okP_g ho.1 f), hm])
  unfold aBring AR
  rw [if_neg (by rw [tI_1.mp h]; decide), if_neg hft, if_pos rfl, ← e]
  refine ⟨fun q => ?_, fun q => ?_⟩
  · rcases hI.2 with ⟨_, r⟩ | ⟨S', r, _⟩
    · rw [r]; exact ⟨rfl, hI.1.S, fun q => absurd q (show ¬ (4 : Nat) < 4 by decide)⟩
    · rw [q] at r; exact absurd r (by decide)
  · rcases hI.2 with ⟨r, _⟩ | ⟨S', _, r, r2, _⟩
    · exact absurd r q
    · rw [r]; exact ⟨rfl, hI.1.S, fun _ => ⟨r2, by show v' 41 = v 41 + nI 0; rw [nI_0, hI.1.1 41 (by decide) (by decide)]; simp⟩⟩
theorem cp_end6 {v v' : Nat → Int32} {A A' : Nat → Nat → Int32} {S : St} {k f t n : Nat} {fr : Nat → Nat × Nat} {room : Int32} (ho : okS S) (hf : f < 7) (ht : t < 7) (hk : ¬ k = 8) (hk7 : ¬ k = 7) (h : ¬ tI (S.2.1 f) = 0) (hft : ¬ f = t) (hm : ∀ g c, pG S.1 t (fun _ => false) g c = true ↔ ∃ i, i < n ∧ fr i = (g, c)) (hI : cmI v A t (grl fr f n) (pG S.1 t (fun _ => false), tS S.2.1 t true, S.2.2) room v' A') : (room = 0 → AR v A (aBring k f t S) 4 v' A') ∧ (¬ room = 0 → AR v A (aBring k f t S) 0 v' A') := by
  have hml : ∀ c, c ∈ grl fr f n ↔ S.1 f c = true := fun c => by rw [grl_mem, ← hm]; unfold pG; rw [if_neg hft]
  have e := putAll_set ht (grl fr f n) (pG S.1 t (fun _ => false), tS S.2.1 t true, S.2.2) (okS_there (okS_clr ho t) t) (by simp [tS]) (fun c hc => (ho.1 f c ((hml c).mp hc)).2) (S.1 f) (fun c => by
    rw [hml]; show _ ↔ pG S.1 t (fun _ => false) t c = true ∨ _; rw [pG_s]; simp)
  have e2 : pG (pG S.1 t (fun _ => false)) t (S.1 f) = pG S.1 t (S.1 f) := by funext g c; unfold pG; split <;> rfl
  simp only [e2] at e
  unfold aBring AR
  rw [if_neg (by rw [tI_1.mp h]; decide), if_neg hft, if_neg hk, if_neg hk7]
  refine ⟨fun q => ?_, fun q => ?_⟩
  · rcases hI.2 with ⟨_, r⟩ | ⟨S', r, _⟩
    · have hc : 120 < card (pG S.1 t (S.1 f)) := by
        rcases Nat.lt_or_ge 120 (card (pG S.1 t (S.1 f))) with s | s
        · exact s
        · rw [e.1 s] at r; cases r
      rw [if_pos hc]; exact ⟨rfl, hI.1.S, fun q => absurd q (show ¬ (4 : Nat) < 4 by decide)⟩
    · rw [q] at r; exact absurd r (by decide)
  · rcases hI.2 with ⟨r, _⟩ | ⟨S', _, r, r2, _⟩
    · exact absurd r q
    · have hc : ¬ 120 < card (pG S.1 t (S.1 f)) := fun s => by rw [e.2 s] at r; cases r
      rw [e.1 (by omega)] at r
      cases r
      rw [if_neg hc]; exact ⟨rfl, hI.1.S, fun _ => ⟨r2, by show v' 41 = v 41 + nI 0; rw [nI_0, hI.1.1 41 (by decide) (by decide)]; simp⟩⟩
/-- rows moved to another graph -/
def mvI (n : Nat) (fr : Nat → Nat × Nat) (f t : Nat) (v1 : Nat → Int32) (A1 : Nat → Nat → Int32) (j : Nat) (v' : Nat → Int32) (A' : Nat → Nat → Int32) : Prop := v' = v1 ∧ (∀ q, q ≠ 19 → A' q = A1 q) ∧ ∀ i, i < n → A' 19 i = if i < j ∧ (fr i).1 = f then nI t else A1 19 i
theorem mv_next {n : Nat} {fr : Nat → Nat × Nat} {f t : Nat} {v1 v' : Nat → Int32} {A1 A' : Nat → Nat → Int32} {j : Nat} (h : mvI n fr f t v1 A1 j v' A') {z : Int32} (hz : z = if (fr j).1 = f then nI t else A1 19 j) : mvI n fr f t v1 A1 (j + 1) v' (u1 A' 19 (upd (A' 19) j z)) := by
  refine ⟨h.1, fun q hq => by rw [← h.2.1 q hq]; simp [u1, hq], fun i hi => ?_⟩
  simp only [u1, if_true, upd]
  by_cases q : i = j
  · subst q
    rw [if_pos rfl, hz]
    simp
  · rw [if_neg q, h.2.2 i hi]
    have : (i < j + 1) ↔ i < j := by omega
    simp [this]
theorem mv_end {v v' : Nat → Int32} {A A' : Nat → Nat → Int32} {S : St} {n : Nat} {fr : Nat → Nat × Nat} {f t : Nat} (ho : okS S) (hL : RLs v A S n fr) (hf : f < 7) (ht : t < 7) (hft : ¬ f = t) (he : ∀ c, S.1 t c = false) (htt : S.2.1 t = true) (h : mvI n fr f t v A n v' A') : FR v A v' A' ∧ RC v' A' (pG (pG S.1 t (S.1 f)) f (fun _ => false), S.2) := by
  obtain ⟨rfl, hq, hr⟩ := h
  have hmem : ∀ g c, pG (pG S.1 t (S.1 f)) f (fun _ => false) g c = true ↔ ∃ i, i < n ∧ (if (fr i).1 = f then (t, (fr i).2) else fr i) = (g, c) := by
    intro g c
    unfold pG
    constructor
    · intro q
      split at q
      · cases q
      · rename_i hgf
        split at q
        · rename_i hgt
          obtain ⟨i, hi, r⟩ := (hL.2.2.1 f c).mp q
          exact ⟨i, hi, by rw [if_pos (by rw [r]), r, hgt]⟩
        · obtain ⟨i, hi, r⟩ := (hL.2.2.1 g c).mp q
          exact ⟨i, hi, by rw [if_neg (by rw [r]; exact hgf), r]⟩
    · rintro ⟨i, hi, r⟩
      split at r
      · rename_i e
        cases r
        rw [if_neg (fun q => hft q.symm), if_pos rfl]
        exact (hL.2.2.1 f _).mpr ⟨i, hi, by rw [← e]⟩
      · rename_i e
        have hgf : ¬ g = f := fun q => e (by rw [r]; exact q)
        have hS := (hL.2.2.1 g c).mpr ⟨i, hi, r⟩
        rw [if_neg hgf]
        split
        · rename_i hgt; rw [hgt, he] at hS; cases hS
        · exact hS
  have hinj : ∀ i j, i < n → j < n → (if (fr i).1 = f then (t, (fr i).2) else fr i) = (if (fr j).1 = f then (t, (fr j).2) else fr j) → i = j := by
    intro i j hi hj he2
    have key : ∀ i, i < n → (fr i).1 ≠ t := fun i hi q => by
      have := (hL.2.2.1 t (fr i).2).mpr ⟨i, hi, by rw [← q]⟩
      rw [he] at this; cases this
    split at he2 <;> split at he2
    · rename_i e1 e2
      refine hL.2.1 i j hi hj (Prod.ext (e1.trans e2.symm) ?_)
      exact (Prod.mk.inj he2).2
    · exact absurd (by rw [← he2]) (key j hj)
    · exact absurd (by rw [he2]) (key i hi)
    · exact hL.2.1 i j hi hj he2
  have hokP : okP (pG (pG S.1 t (S.1 f)) f (fun _ => false)) := okP_pG (okP_pG ho.1 ht (okP_g ho.1 f)) hf (fun c q => by cases q)
  have hcard : n = card (pG (pG S.1 t (S.1 f)) f (fun _ => false)) := by
    have := card_eq hokP (L := (List.range n).map (fun i => if (fr i).1 = f then (t, (fr i).2) else fr i)) (by
      unfold List.Nodup
      rw [List.pairwise_map]
      refine (List.nodup_range (n := n)).imp_of_mem (fun {a b} ha hb hne he => hne ?_)
      exact hinj a b (List.mem_range.mp ha) (List.mem_range.mp hb) he) (fun g c => by
      rw [List.mem_map, hmem]
      simp only [List.mem_range])
    simpa using this
  have hn := RL_n hL ho
  refine ⟨⟨fun _ _ _ => rfl, fun k hk => hq k (by omega)⟩, ⟨hokP, Nat.le_trans (Nat.le_of_eq hcard.symm) hn.2, ho.2.2.1, ho.2.2.2.1, ?_⟩, n, _, hL.1, hinj, hmem, ?_, ?_, hL.2.2.2.2.2⟩
  · intro g c q
    show S.2.1 g = true
    have q : pG (pG S.1 t (S.1 f)) f (fun _ => false) g c = true := q
    unfold pG at q
    split at q
    · cases q
    · split at q
      · rename_i e; rw [e]; exact htt
      · exact ho.2.2.2.2 g c q
  · intro i hi
    have hx := hL.2.2.2.1 i hi
    have hx2 := hr i hi
    rw [hq 20 (by decide), hq 21 (by decide), hq 22 (by decide), hx2]
    by_cases e : (fr i).1 = f
    · rw [if_pos ⟨hi, e⟩, if_pos e]; exact ⟨rfl, hx.2⟩
    · rw [if_neg (fun q => e q.2), if_neg e]; exact hx
  · intro g hg
    rw [hq 23 (by decide)]
    exact hL.2.2.2.2.1 g hg
def dpP (v : Nat → Int32) (A : Nat → Nat → Int32) (S : St) (g : Nat) (v' : Nat → Int32) (A' : Nat → Nat → Int32) : Prop := FR v A v' A' ∧ RC v' A' (pG S.1 g (fun _ => false), tS S.2.1 g (decide (g = 0)), S.2.2)
theorem dropOne_s {v : Nat → Int32} {A : Nat → Nat → Int32} {S : St} (hR : RC v A S) {g : Nat} (hg : g < 7) : dpP v A S g (fX9_dropOne v A (nI g)).1 (fX9_dropOne v A (nI g)).2 := by
  have h := empty_s hR hg
  unfold fX9_dropOne
  by_cases q : g = 0
  · subst q
    rw [if_pos (show nI 0 = 0 from rfl)]
    refine ⟨h.1.trans FR_set, ?_⟩
    rw [nI_clamp (by omega)]
    exact RC_setb h.2 0 (b := true) (Or.inl rfl)
  · rw [if_neg (nI_ne0 (by omega) (by omega))]
    refine ⟨h.1.trans FR_set, ?_⟩
    rw [nI_clamp (by omega)]
    have := RC_setb h.2 g (b := false) (Or.inr ⟨q, fun c => by show pG S.1 g (fun _ => false) g c = false; rw [pG_s]⟩)
    rw [show decide (g = 0) = false by simp [q]]
    exact this
theorem hX9_dropOne {l : Launch} {D : va_G} {aC : Nat → ClassId} {b0 sz r : Nat} {v : Nat → Int32} {A : Nat → Nat → Int32} {R : ZM} {S : St} {g : Nat} (hR : RC v A S) (hg : g < 7) :
    Ct l D aC b0 yX9_dropOne cX9_dropOne 2 none 2 0 0 [.ref r, .int (nI g)] (mm aC r v A R) sz (zpN (fun v A => mm aC r v A R) (dpP v A S g)) := by
  obtain ⟨n, hs, hn⟩ := RC_n hR
  exact Ct.toN (G := fun v A => mm aC r v A R) (ctX9_dropOne hs hn (vp_in_nI hg (by decide))) (dropOne_s hR hg)
theorem cp_end7 {v v' : Nat → Int32} {A A' : Nat → Nat → Int32} {S : St} {f t : Nat} (h : ¬ tI (S.2.1 f) = 0) (hft : ¬ f = t) (hf : FR v A v' A') (hR : RC v' A' (pG (pG S.1 t (S.1 f)) f (fun _ => false), tS (tS S.2.1 t true) f (decide (f = 0)), S.2.2)) : AR v A (aBring 7 f t S) 0 v' A' := by
  unfold aBring AR
  rw [if_neg (by rw [tI_1.mp h]; decide), if_neg hft, if_neg (by decide), if_pos rfl]
  exact ⟨rfl, hf.S, fun _ => ⟨hR, by show v' 41 = v 41 + nI 0; rw [nI_0, hf.1 41 (by decide) (by decide)]; simp⟩⟩
