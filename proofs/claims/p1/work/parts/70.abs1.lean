/-! A fact is one number; a graph is a predicate on facts; lists that are sorted are unique. -/
def pt (c : Nat) : Nat → Nat
  | 0 => c / 65536
  | 1 => c / 256 % 256
  | _ => c % 256
def cd (s p o : Nat) : Nat := s * 65536 + p * 256 + o
def okc (c : Nat) : Prop := pt c 0 < 160 ∧ pt c 1 < 100 ∧ pt c 2 < 160
theorem cd_pt (c : Nat) : cd (pt c 0) (pt c 1) (pt c 2) = c := by simp only [cd, pt]; omega
theorem pt_cd0 {s p o : Nat} (hp : p < 256) (ho : o < 256) : pt (cd s p o) 0 = s := by simp only [cd, pt]; omega
theorem pt_cd1 {s p o : Nat} (hp : p < 256) (ho : o < 256) : pt (cd s p o) 1 = p := by simp only [cd, pt]; omega
theorem pt_cd2 {s p o : Nat} (hp : p < 256) (ho : o < 256) : pt (cd s p o) 2 = o := by simp only [cd, pt]; omega
theorem okc_cd {s p o : Nat} (hs : s < 160) (hp : p < 100) (ho : o < 160) : okc (cd s p o) := by
  unfold okc
  rw [pt_cd0 (by omega) (by omega), pt_cd1 (by omega) (by omega), pt_cd2 (by omega) (by omega)]
  exact ⟨hs, hp, ho⟩
theorem okc_lt {c : Nat} (h : okc c) : c < 10485760 := by
  simp only [okc, pt] at h; omega
theorem pt_lt {c : Nat} (h : okc c) (k : Nat) : pt c k < 256 := by
  obtain ⟨h0, h1, h2⟩ := h
  match k with
  | 0 => omega
  | 1 => omega
  | n + 2 => show pt c 2 < 256; omega
theorem cd_inj {s p o s' p' o' : Nat} (hp : p < 256) (ho : o < 256) (hp' : p' < 256) (ho' : o' < 256) (h : cd s p o = cd s' p' o') : s = s' ∧ p = p' ∧ o = o' := by
  simp only [cd] at h; omega
theorem pt_inj {c c' : Nat} (h0 : pt c 0 = pt c' 0) (h1 : pt c 1 = pt c' 1) (h2 : pt c 2 = pt c' 2) : c = c' := by
  rw [← cd_pt c, ← cd_pt c', h0, h1, h2]
/-- the order of facts, by their parts -/
theorem pt_lex {c c' : Nat} : c < c' ↔ (if pt c 0 = pt c' 0 then (if pt c 1 = pt c' 1 then pt c 2 < pt c' 2 else pt c 1 < pt c' 1) else pt c 0 < pt c' 0) := by
  simp only [pt]
  split
  · split <;> omega
  · omega
abbrev srt (l : List Nat) : Prop := l.Pairwise (· < ·)
theorem srt_nodup {l : List Nat} (h : srt l) : l.Nodup := h.imp (fun h => Nat.ne_of_lt h)
theorem srt_uniq : ∀ {l l' : List Nat}, srt l → srt l' → (∀ x, x ∈ l ↔ x ∈ l') → l = l'
  | [], [], _, _, _ => rfl
  | [], b :: l', _, _, h => absurd ((h b).mpr (by simp)) (by simp)
  | a :: l, [], _, _, h => absurd ((h a).mp (by simp)) (by simp)
  | a :: l, b :: l', h1, h2, h => by
    have h1 := List.pairwise_cons.mp h1
    have h2 := List.pairwise_cons.mp h2
    have hab : a = b := by
      have ha := (h a).mp (by simp)
      have hb := (h b).mpr (by simp)
      rw [List.mem_cons] at ha hb
      rcases ha with ha | ha
      · exact ha
      · rcases hb with hb | hb
        · exact hb.symm
        · have := h1.1 b hb; have := h2.1 a ha; omega
    subst hab
    congr 1
    refine srt_uniq h1.2 h2.2 (fun x => ?_)
    have hx := h x
    rw [List.mem_cons, List.mem_cons] at hx
    constructor
    · intro q
      rcases hx.mp (Or.inr q) with r | r
      · have := h1.1 x q; omega
      · exact r
    · intro q
      rcases hx.mpr (Or.inr q) with r | r
      · have := h2.1 x q; omega
      · exact r
theorem nodup_len {α : Type} {l l' : List α} (h1 : l.Nodup) (h2 : l'.Nodup) (h : ∀ x, x ∈ l ↔ x ∈ l') : l.length = l'.length :=
  ((List.perm_ext_iff_of_nodup h1 h2).mpr h).length_eq
/-- the facts of a graph, in their order -/
theorem cds_ex (p : Nat → Bool) : ∃ l : List Nat, srt l ∧ ∀ c, c ∈ l ↔ c < 10485760 ∧ p c = true :=
  ⟨(List.range 10485760).filter p, List.Pairwise.filter _ List.pairwise_lt_range, fun c => by rw [List.mem_filter, List.mem_range]⟩
noncomputable def cds (p : Nat → Bool) : List Nat := Classical.choose (cds_ex p)
theorem cds_srt (p : Nat → Bool) : srt (cds p) := (Classical.choose_spec (cds_ex p)).1
theorem cds_mem {p : Nat → Bool} (h : ∀ c, p c = true → okc c) {c : Nat} : c ∈ cds p ↔ p c = true := by
  rw [show c ∈ cds p ↔ _ from (Classical.choose_spec (cds_ex p)).2 c]
  exact ⟨fun q => q.2, fun q => ⟨okc_lt (h c q), q⟩⟩
theorem cds_eq {p : Nat → Bool} (h : ∀ c, p c = true → okc c) {l : List Nat} (hs : srt l) (hm : ∀ c, c ∈ l ↔ p c = true) : l = cds p :=
  srt_uniq hs (cds_srt p) (fun x => by rw [cds_mem h, hm])
abbrev Pd := Nat → Nat → Bool
def okP (P : Pd) : Prop := ∀ g c, P g c = true → g < 7 ∧ okc c
/-- how many facts all graphs have together -/
noncomputable def card (P : Pd) : Nat := ((List.range 7).map fun g => (cds (P g)).length).sum
noncomputable def rowsOf (P : Pd) : List (Nat × Nat) := (List.range 7).flatMap fun g => (cds (P g)).map fun c => (g, c)
theorem rowsOf_mem {P : Pd} (h : okP P) {g c : Nat} : (g, c) ∈ rowsOf P ↔ P g c = true := by
  unfold rowsOf
  simp only [List.mem_flatMap, List.mem_range, List.mem_map, Prod.mk.injEq]
  constructor
  · rintro ⟨g', _, c', hc', rfl, rfl⟩
    exact (cds_mem (fun c q => (h g' c q).2)).mp hc'
  · intro q
    exact ⟨g, (h g c q).1, c, (cds_mem (fun c q => (h g c q).2)).mpr q, rfl, rfl⟩
theorem rowsOf_nodup (P : Pd) : (rowsOf P).Nodup := by
  unfold rowsOf List.Nodup
  rw [List.pairwise_flatMap]
  refine ⟨fun g _ => ?_, ?_⟩
  · rw [List.pairwise_map]
    exact (cds_srt (P g)).imp (fun hlt he => by cases he; omega)
  · exact List.pairwise_lt_range.imp (fun {a b} hlt x hx y hy he => by
      simp only [List.mem_map] at hx hy
      obtain ⟨_, _, rfl⟩ := hx
      obtain ⟨_, _, rfl⟩ := hy
      cases he; omega)
theorem rowsOf_len (P : Pd) : (rowsOf P).length = card P := by
  unfold rowsOf card
  rw [List.length_flatMap]
  simp only [List.length_map]
theorem card_eq {P : Pd} (h : okP P) {L : List (Nat × Nat)} (hn : L.Nodup) (hm : ∀ g c, (g, c) ∈ L ↔ P g c = true) : L.length = card P := by
  rw [← rowsOf_len]
  exact nodup_len hn (rowsOf_nodup P) (fun ⟨g, c⟩ => by rw [hm, rowsOf_mem h])
theorem sum7 (f : Nat → Nat) : ((List.range 7).map f).sum = f 0 + f 1 + f 2 + f 3 + f 4 + f 5 + f 6 := by
  rw [show List.range 7 = [0, 1, 2, 3, 4, 5, 6] from rfl]
  simp only [List.map_cons, List.map_nil, List.sum_cons, List.sum_nil]
  omega
theorem card_sum (P : Pd) : card P = (cds (P 0)).length + (cds (P 1)).length + (cds (P 2)).length + (cds (P 3)).length + (cds (P 4)).length + (cds (P 5)).length + (cds (P 6)).length := sum7 _
theorem cds_le_card (P : Pd) {g : Nat} (hg : g < 7) : (cds (P g)).length ≤ card P := by
  rw [card_sum]
  rcases (show g = 0 ∨ g = 1 ∨ g = 2 ∨ g = 3 ∨ g = 4 ∨ g = 5 ∨ g = 6 by omega) with rfl | rfl | rfl | rfl | rfl | rfl | rfl <;> omega
/-- a predicate changed at one graph, at one fact -/
def pG (P : Pd) (g : Nat) (p : Nat → Bool) : Pd := fun g' => if g' = g then p else P g'
def pS (P : Pd) (g c : Nat) (b : Bool) : Pd := fun g' c' => if g' = g ∧ c' = c then b else P g' c'
def tS (T : Nat → Bool) (g : Nat) (b : Bool) : Nat → Bool := fun g' => if g' = g then b else T g'
theorem pG_s (P : Pd) (g : Nat) (p : Nat → Bool) : pG P g p g = p := by simp [pG]
theorem pG_k (P : Pd) {g g' : Nat} (p : Nat → Bool) (h : g' ≠ g) : pG P g p g' = P g' := by simp [pG, h]
theorem pS_k (P : Pd) {g g' : Nat} (c : Nat) (b : Bool) (h : g' ≠ g) : pS P g c b g' = P g' := by funext c'; simp [pS, h]
theorem pS_same {P : Pd} {g c : Nat} {b : Bool} (h : P g c = b) : pS P g c b = P := by
  funext g' c'
  unfold pS
  split
  · rename_i q; rw [q.1, q.2, h]
  · rfl
theorem okP_pS {P : Pd} (h : okP P) {g c : Nat} (hg : g < 7) (hc : okc c) (b : Bool) : okP (pS P g c b) := by
  intro g' c' q
  unfold pS at q
  split at q
  · rename_i e; rw [e.1, e.2]; exact ⟨hg, hc⟩
  · exact h g' c' q
theorem okP_pG {P : Pd} (h : okP P) {g : Nat} (hg : g < 7) {p : Nat → Bool} (hp : ∀ c, p c = true → okc c) : okP (pG P g p) := by
  intro g' c' q
  unfold pG at q
  split at q
  · rename_i e; rw [e]; exact ⟨hg, hp c' q⟩
  · exact h g' c' q
theorem okP_g {P : Pd} (h : okP P) (g : Nat) : ∀ c, P g c = true → okc c := fun c q => (h g c q).2
theorem cds_none : cds (fun _ => false) = [] := by
  refine (cds_eq (l := []) (by simp) List.Pairwise.nil (by simp)).symm
theorem cds_len0 {p : Nat → Bool} (h : ∀ c, p c = false) : cds p = [] := by
  rw [show p = fun _ => false from funext h, cds_none]
