/-! Two sorted rows held against each other. -/
def CHc (iv av : Nat → Nat → Int32) (L : List Cg) : Prop := iv 57 3 = nI L.length ∧ ∀ i g c b, L[i]? = some (g, c, b) → av 58 i = nI g ∧ av 59 i = nI c ∧ av 60 i = tI b
def FH (iv av iv' av' : Nat → Nat → Int32) : Prop := (∀ k f, k ≠ 57 → iv' k f = iv k f) ∧ ∀ k, k < 58 ∨ 60 < k → av' k = av k
theorem FH.refl {iv av : Nat → Nat → Int32} : FH iv av iv av := ⟨fun _ _ _ => rfl, fun _ _ => rfl⟩
theorem FH.trans {iv av iv1 av1 iv2 av2 : Nat → Nat → Int32} (h : FH iv av iv1 av1) (h2 : FH iv1 av1 iv2 av2) : FH iv av iv2 av2 := ⟨fun k f a => (h2.1 k f a).trans (h.1 k f a), fun k a => (h2.2 k a).trans (h.2 k a)⟩
theorem FH.G {iv av iv1 av1 : Nat → Nat → Int32} {k : Nat} {p : Nat → Bool} {t : Bool} (h : FH iv av iv1 av1) (hk : k < 57) (hG : GC iv av k p t) : GC iv1 av1 k p t := hG.kept (h.1 _ _ (by omega)) (h.1 _ _ (by omega)) (h.2 _ (by omega))
def ncP (iv av : Nat → Nat → Int32) (L : List Cg) (x : Cg) (iv' av' : Nat → Nat → Int32) : Prop := FH iv av iv' av' ∧ CHc iv' av' (L ++ [x])
theorem nc_end {iv av : Nat → Nat → Int32} {L : List Cg} {g c : Nat} {b : Bool} (h : CHc iv av L) (hl : L.length < 240) : ncP iv av L (g, c, b) (u2 iv 57 3 (nI (L.length + 1))) (u1 (u1 (u1 av 58 (upd (av 58) (Int32.toNatClampNeg (nI L.length)) (nI g))) 59 (upd (av 59) (Int32.toNatClampNeg (nI L.length)) (nI c))) 60 (upd (av 60) (Int32.toNatClampNeg (nI L.length)) (tI b))) := by
  rw [nI_clamp (by omega)]
  refine ⟨⟨fun k f hk => u2_k _ _ _ _ hk, fun k hk => by rw [u1_k _ _ (by omega), u1_k _ _ (by omega), u1_k _ _ (by omega)]⟩, by rw [u2_s, List.length_append]; rfl, fun i g' c' b' hi => ?_⟩
  rw [List.getElem?_append] at hi
  split at hi
  · rename_i hlt
    have := h.2 i g' c' b' hi
    simp [u1, upd, show i ≠ L.length by omega, this]
  · have hlt := (List.getElem?_eq_some_iff.mp hi).1
    have e : i = L.length := by simp at hlt; omega
    subst e
    simp at hi
    obtain ⟨rfl, rfl, rfl⟩ := hi
    simp [u1, upd]
def mgR (g : Nat) (l1 l2 : List Nat) (i j : Nat) (M : List Cg) : Prop := srC M ∧ (∀ y ∈ M, y.1 = g) ∧ (∀ c, (g, c, true) ∈ M ↔ c ∈ l2.take j ∧ c ∉ l1) ∧ (∀ c, (g, c, false) ∈ M ↔ c ∈ l1.take i ∧ c ∉ l2) ∧ M.length ≤ i + j ∧ i ≤ l1.length ∧ j ≤ l2.length ∧
  (∀ a ∈ l1.take i, ∀ b ∈ l2.drop j, a < b) ∧ (∀ b ∈ l2.take j, ∀ a ∈ l1.drop i, b < a)
theorem mg_0 {g : Nat} {l1 l2 : List Nat} : mgR g l1 l2 0 0 [] := ⟨List.Pairwise.nil, fun y hy => by simp at hy, fun c => by simp, fun c => by simp, by simp, Nat.zero_le _, Nat.zero_le _, fun a ha => by simp at ha, fun b hb => by simp at hb⟩
theorem drop_mem {l : List Nat} {i : Nat} (h : i < l.length) : l.drop i = l.getD i 0 :: l.drop (i + 1) := by
  rw [List.drop_eq_getElem_cons h, getD_g h]
theorem take_mem {l : List Nat} {i c : Nat} (h : i < l.length) : c ∈ l.take (i + 1) ↔ c ∈ l.take i ∨ c = l.getD i 0 := by
  rw [take_succ_of h, getD_g h, List.mem_append, List.mem_singleton]
theorem mem_td {l : List Nat} {i c : Nat} : c ∈ l ↔ c ∈ l.take i ∨ c ∈ l.drop i := by rw [← List.mem_append, List.take_append_drop]
theorem drop_lt {l : List Nat} (hs : srt l) {i : Nat} (h : i < l.length) {c : Nat} (hc : c ∈ l.drop (i + 1)) : l.getD i 0 < c := by
  have := List.Pairwise.drop (i := i) hs
  rw [drop_mem h] at this
  exact (List.pairwise_cons.mp this).1 c hc
theorem take_lt {l : List Nat} (hs : srt l) {i : Nat} (h : i < l.length) {c : Nat} (hc : c ∈ l.take i) : c < l.getD i 0 := by
  have := hs
  rw [← List.take_append_drop i l] at this
  exact (List.pairwise_append.mp this).2.2 c hc _ (by rw [drop_mem h]; simp)
theorem mg_M {g : Nat} {l1 l2 : List Nat} {i j : Nat} {M : List Cg} (h : mgR g l1 l2 i j M) {y : Cg} (hy : y ∈ M) : y.1 = g ∧ (y.2.1 ∈ l1.take i ∨ y.2.1 ∈ l2.take j) := by
  have h1 := h.2.1 y hy
  obtain ⟨g', c, b⟩ := y
  have h1 : g' = g := h1
  subst h1
  refine ⟨rfl, ?_⟩
  cases b with
  | true => exact Or.inr ((h.2.2.1 c).mp hy).1
  | false => exact Or.inl ((h.2.2.2.1 c).mp hy).1
theorem mg_sr {g : Nat} {l1 l2 : List Nat} {i j c : Nat} {b : Bool} {M : List Cg} (h : mgR g l1 l2 i j M) (h1 : ∀ a ∈ l1.take i, a < c) (h2 : ∀ a ∈ l2.take j, a < c) : srC (M ++ [(g, c, b)]) := by
  unfold srC
  rw [List.pairwise_append]
  refine ⟨h.1, List.pairwise_singleton _ _, fun y hy z hz => ?_⟩
  rw [List.mem_singleton] at hz
  subst hz
  have := mg_M h hy
  refine Or.inr ⟨this.1, ?_⟩
  rcases this.2 with q | q
  · exact h1 _ q
  · exact h2 _ q
theorem mg_a {g : Nat} {l1 l2 : List Nat} {i j : Nat} {M : List Cg} (s1 : srt l1) (s2 : srt l2) (h : mgR g l1 l2 i j M) (hi : i < l1.length) (hc : ∀ b ∈ l2.drop j, l1.getD i 0 < b) : mgR g l1 l2 (i + 1) j (M ++ [(g, l1.getD i 0, false)]) := by
  have hcd : l1.getD i 0 ∈ l1.drop i := by rw [drop_mem hi]; simp
  have hn2 : l1.getD i 0 ∉ l2 := fun q => by
    rcases mem_td (i := j).mp q with r | r
    · have := h.2.2.2.2.2.2.2.2 _ r _ hcd; omega
    · have := hc _ r; omega
  refine ⟨mg_sr h (fun a ha => take_lt s1 hi ha) (fun a ha => h.2.2.2.2.2.2.2.2 a ha _ hcd), fun y hy => ?_, fun c => ?_, fun c => ?_, by rw [List.length_append, List.length_singleton]; have := h.2.2.2.2.1; omega, by omega, h.2.2.2.2.2.2.1, fun a ha b hb => ?_, fun b hb a ha => ?_⟩
  · rcases List.mem_append.mp hy with q | q
    · exact h.2.1 y q
    · rw [List.mem_singleton] at q; rw [q]
  · rw [List.mem_append, List.mem_singleton, ← h.2.2.1 c]
    exact ⟨fun q => q.elim id (fun q => by simp at q), Or.inl⟩
  · rw [List.mem_append, List.mem_singleton, h.2.2.2.1 c, take_mem hi]
    constructor
    · rintro (q | q)
      · exact ⟨Or.inl q.1, q.2⟩
      · simp at q; exact ⟨Or.inr q, by rw [q]; exact hn2⟩
    · rintro ⟨q | q, r⟩
      · exact Or.inl ⟨q, r⟩
      · exact Or.inr (by simp [q])
  · rcases (take_mem hi).mp ha with q | q
    · exact h.2.2.2.2.2.2.2.1 a q b hb
    · rw [q]; exact hc b hb
  · exact h.2.2.2.2.2.2.2.2 b hb a (by rw [drop_mem hi]; simp [ha])
theorem mg_b {g : Nat} {l1 l2 : List Nat} {i j : Nat} {M : List Cg} (s1 : srt l1) (s2 : srt l2) (h : mgR g l1 l2 i j M) (hj : j < l2.length) (hc : ∀ a ∈ l1.drop i, l2.getD j 0 < a) : mgR g l1 l2 i (j + 1) (M ++ [(g, l2.getD j 0, true)]) := by
  have hcd : l2.getD j 0 ∈ l2.drop j := by rw [drop_mem hj]; simp
  have hn1 : l2.getD j 0 ∉ l1 := fun q => by
    rcases mem_td (i := i).mp q with r | r
    · have := h.2.2.2.2.2.2.2.1 _ r _ hcd; omega
    · have := hc _ r; omega
  refine ⟨mg_sr h (fun a ha => h.2.2.2.2.2.2.2.1 a ha _ hcd) (fun a ha => take_lt s2 hj ha), fun y hy => ?_, fun c => ?_, fun c => ?_, by rw [List.length_append, List.length_singleton]; have := h.2.2.2.2.1; omega, h.2.2.2.2.2.1, by omega, fun a ha b hb => ?_, fun b hb a ha => ?_⟩
  · rcases List.mem_append.mp hy with q | q
    · exact h.2.1 y q
    · rw [List.mem_singleton] at q; rw [q]
  · rw [List.mem_append, List.mem_singleton, h.2.2.1 c, take_mem hj]
    constructor
    · rintro (q | q)
      · exact ⟨Or.inl q.1, q.2⟩
      · simp at q; exact ⟨Or.inr q, by rw [q]; exact hn1⟩
    · rintro ⟨q | q, r⟩
      · exact Or.inl ⟨q, r⟩
      · exact Or.inr (by simp [q])
  · rw [List.mem_append, List.mem_singleton, ← h.2.2.2.1 c]
    exact ⟨fun q => q.elim id (fun q => by simp at q), Or.inl⟩
  · exact h.2.2.2.2.2.2.2.1 a ha b (by rw [drop_mem hj]; simp [hb])
  · rcases (take_mem hj).mp hb with q | q
    · exact h.2.2.2.2.2.2.2.2 b q a ha
    · rw [q]; exact hc a ha
theorem mg_c {g : Nat} {l1 l2 : List Nat} {i j : Nat} {M : List Cg} (s1 : srt l1) (s2 : srt l2) (h : mgR g l1 l2 i j M) (hi : i < l1.length) (hj : j < l2.length) (e : l1.getD i 0 = l2.getD j 0) : mgR g l1 l2 (i + 1) (j + 1) M := by
  have m1 : l2.getD j 0 ∈ l1 := by rw [← e]; exact getD_mem hi
  have m2 : l1.getD i 0 ∈ l2 := by rw [e]; exact getD_mem hj
  refine ⟨h.1, h.2.1, fun c => ?_, fun c => ?_, by have := h.2.2.2.2.1; omega, by omega, by omega, fun a ha b hb => ?_, fun b hb a ha => ?_⟩
  · rw [h.2.2.1 c, take_mem hj]
    exact ⟨fun q => ⟨Or.inl q.1, q.2⟩, fun q => ⟨q.1.resolve_right (fun r => q.2 (by rw [r]; exact m1)), q.2⟩⟩
  · rw [h.2.2.2.1 c, take_mem hi]
    exact ⟨fun q => ⟨Or.inl q.1, q.2⟩, fun q => ⟨q.1.resolve_right (fun r => q.2 (by rw [r]; exact m2)), q.2⟩⟩
  · rcases (take_mem hi).mp ha with q | q
    · exact h.2.2.2.2.2.2.2.1 a q b (by rw [drop_mem hj]; simp [hb])
    · rw [q, e]; exact drop_lt s2 hj hb
  · rcases (take_mem hj).mp hb with q | q
    · exact h.2.2.2.2.2.2.2.2 b q a (by rw [drop_mem hi]; simp [ha])
    · rw [q, ← e]; exact drop_lt s1 hi ha
theorem drop_all {l : List Nat} (hs : srt l) {j c : Nat} (h : j = l.length ∨ c < l.getD j 0) (hj : j ≤ l.length) : ∀ b ∈ l.drop j, c < b := by
  intro b hb
  rcases h with q | q
  · rw [q, List.drop_length] at hb; simp at hb
  · by_cases r : j < l.length
    · rw [drop_mem r] at hb
      rcases List.mem_cons.mp hb with s | s
      · rw [s]; exact q
      · have := drop_lt hs r s; omega
    · rw [List.drop_eq_nil_of_le (by omega)] at hb; simp at hb
def mgI (iv av : Nat → Nat → Int32) (g : Nat) (l1 l2 : List Nat) (L : List Cg) (n : Nat) (t4 t5 : Int32) (iv' av' : Nat → Nat → Int32) : Prop := FH iv av iv' av' ∧ ∃ i j M, t4 = nI i ∧ t5 = nI j ∧ n ≤ i + j ∧ mgR g l1 l2 i j M ∧ CHc iv' av' (L ++ M)
def cgP (iv av : Nat → Nat → Int32) (g : Nat) (l1 l2 : List Nat) (L : List Cg) (iv' av' : Nat → Nat → Int32) : Prop := FH iv av iv' av' ∧ ∃ M, mgR g l1 l2 l1.length l2.length M ∧ CHc iv' av' (L ++ M)
