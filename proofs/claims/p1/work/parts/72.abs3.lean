/-! What the steps do, of facts, graphs that are there, and blanks. -/
abbrev St := Pd × (Nat → Bool) × Nat
def okS (S : St) : Prop := okP S.1 ∧ card S.1 ≤ 120 ∧ S.2.2 ≤ 60 ∧ S.2.1 0 = true ∧ (∀ g c, S.1 g c = true → S.2.1 g = true)
abbrev isV (t : Int32) : Prop := -4 ≤ t.toInt ∧ t.toInt ≤ -1
abbrev isNm (t : Int32) : Prop := 0 ≤ t.toInt ∧ t.toInt ≤ 99
abbrev isNw (t : Int32) : Prop := -14 ≤ t.toInt ∧ t.toInt ≤ -11
/-- a name or a blank -/
abbrev isPn (t : Int32) : Prop := 0 ≤ t.toInt ∧ t.toInt ≤ 159
abbrev TR := Int32 × Int32 × Int32 × Bool
def vl (σ : Sg) (t : Int32) : Int32 := if isV t then σ (sl t) else t
abbrev lo (σ : Sg) (t : TR) : Prop := vl σ t.1 = -1 ∨ vl σ t.2.2.1 = -1 ∨ ¬ isNm (vl σ t.2.1)
def nn (t : Int32) : Nat := Int32.toNatClampNeg t
def nsl (t : Int32) : Nat := Int32.toNatClampNeg (-11 - t)
noncomputable def stPut (S : St) (g c : Nat) : Option St :=
  if S.1 g c = true then some (S.1, tS S.2.1 g true, S.2.2) else if 120 ≤ card S.1 then none else some (pS S.1 g c true, tS S.2.1 g true, S.2.2)
def stDel (S : St) (g c : Nat) : St := (pS S.1 g c false, S.2)
def takeRow (to : Nat) (σ : Sg) (S : St) (t : TR) : St := if t.2.2.2 = true ∨ lo σ t then S else stDel S to (cd (nn (vl σ t.1)) (nn (vl σ t.2.1)) (nn (vl σ t.2.2.1)))
def takeSol (to : Nat) (ts : List TR) (S : St) (σ : Sg) : St := ts.foldl (takeRow to σ) S
def blk (σ : Sg) (b : Nat) (m : Sg) (t : Int32) : Option (Nat × Sg × Nat) :=
  if isNw t then (if m (nsl t) = -1 then (if b < 60 then some (b + 1, upd m (nsl t) (nI (100 + b)), 100 + b) else none) else some (b, m, nn (m (nsl t)))) else some (b, m, nn (vl σ t))
noncomputable def addRow (to : Nat) (σ : Sg) (S : St) (m : Sg) (t : TR) : Option (St × Sg) :=
  if t.2.2.2 = false ∨ lo σ t then some (S, m) else
    match blk σ S.2.2 m t.1 with
    | none => none
    | some (b1, m1, x) => match blk σ b1 m1 t.2.2.1 with
      | none => none
      | some (b2, m2, y) => match stPut (S.1, S.2.1, b2) to (cd x (nn (vl σ t.2.1)) y) with
        | none => none
        | some S' => some (S', m2)
noncomputable def addRows (to : Nat) (σ : Sg) : List TR → St → Sg → Option (St × Sg)
  | [], S, m => some (S, m)
  | t :: ts, S, m => match addRow to σ S m t with
    | none => none
    | some (S', m') => addRows to σ ts S' m'
noncomputable def addSol (to : Nat) (ts : List TR) (S : St) (σ : Sg) : Option St := (addRows to σ ts S (fun _ => -1)).map (·.1)
noncomputable def addSols (to : Nat) (ts : List TR) : List Sg → St → Option St
  | [], S => some S
  | σ :: σs, S => match addSol to ts S σ with
    | none => none
    | some S' => addSols to ts σs S'
noncomputable def putAll (to : Nat) : List Nat → St → Option St
  | [], S => some S
  | c :: cs, S => match stPut S to c with
    | none => none
    | some S' => putAll to cs S'
abbrev Sq := Nat × Nat × Int32 × Bool × List TR × List Rw
/-- kinds 0 to 2 -/
noncomputable def aRew (fr to : Nat) (ts : List TR) (ps : List Rw) (S : St) : Nat × St × Nat :=
  let ss := sols (cds (S.1 fr)) ps (fun _ => -1)
  let w := wk (cds (S.1 fr)) ps (fun _ => -1)
  if ss.length ≤ 100 ∧ w ≤ 5000 then
    match addSols to ts ss (ss.foldl (takeSol to ts) S) with
    | none => (4, S, 0)
    | some S' => (0, S', w)
  else (5, S, 0)
/-- kinds 3 and 5 -/
def inTo (to : Int32) (g : Nat) : Bool := decide (g < 7) && (decide (to = nI g) || decide (to = -1) || (decide (to = -2) && decide (0 < g)))
def aWipe (drops : Bool) (to : Int32) (S : St) : Nat × St × Nat :=
  if 0 ≤ to.toInt ∧ S.2.1 (nn to) = false then (2, S, 0)
  else (0, ((fun g c => S.1 g c && !inTo to g), (fun g => S.2.1 g && (!(drops && inTo to g) || decide (g = 0))), S.2.2), 0)
def aMake (to : Nat) (S : St) : Nat × St × Nat := if S.2.1 to = true then (1, S, 0) else (0, (S.1, tS S.2.1 to true, S.2.2), 0)
/-- kinds 6 to 8 -/
noncomputable def aBring (k fr to : Nat) (S : St) : Nat × St × Nat :=
  if S.2.1 fr = false then (2, S, 0) else if fr = to then (0, S, 0)
  else if k = 8 then (match putAll to (cds (S.1 fr)) (S.1, tS S.2.1 to true, S.2.2) with
    | none => (4, S, 0)
    | some S' => (0, S', 0))
  else if k = 7 then (0, (pG (pG S.1 to (S.1 fr)) fr (fun _ => false), tS (tS S.2.1 to true) fr (decide (fr = 0)), S.2.2), 0)
  else if 120 < card (pG S.1 to (S.1 fr)) then (4, S, 0) else (0, (pG S.1 to (S.1 fr), tS S.2.1 to true, S.2.2), 0)
noncomputable def aRead (tn : Bool) (fl : List Nat) (to : Nat) (S : St) : Nat × St × Nat :=
  if tn = true then (3, S, 0) else match putAll to fl (S.1, tS S.2.1 to true, S.2.2) with
    | none => (4, S, 0)
    | some S' => (0, S', 0)
noncomputable def aAct (TN : Nat → Bool) (FL : Nat → List Nat) (q : Sq) (S : St) : Nat × St × Nat :=
  if q.1 < 3 then aRew q.2.1 (nn q.2.2.1) q.2.2.2.2.1 q.2.2.2.2.2 S
  else if q.1 = 3 ∨ q.1 = 5 then aWipe (decide (q.1 = 5)) q.2.2.1 S
  else if q.1 = 4 then aMake (nn q.2.2.1) S
  else if q.1 = 9 then aRead (TN q.2.1) (FL q.2.1) (nn q.2.2.1) S
  else aBring q.1 q.2.1 (nn q.2.2.1) S
/-- a run: .inl (the step, the reason), or .inr (the state, the work) -/
noncomputable def aRun (TN : Nat → Bool) (FL : Nat → List Nat) : List Sq → Nat → St → Nat → (Nat × Nat) ⊕ (St × Nat)
  | [], _, S, w => .inr (S, w)
  | q :: qs, i, S, w => let a := aAct TN FL q S
    if a.1 = 0 ∨ (q.2.2.2.1 = true ∧ a.1 < 4) then aRun TN FL qs (i + 1) a.2.1 (w + a.2.2) else .inl (i, a.1)
/-- what keeps -/
theorem card_pS {P : Pd} (h : okP P) {g c : Nat} (hg : g < 7) (hc : okc c) (hn : P g c = false) : card (pS P g c true) = card P + 1 := by
  have hk := okP_pS h hg hc true
  have := card_eq hk (L := (g, c) :: rowsOf P) (List.nodup_cons.mpr ⟨fun q => absurd ((rowsOf_mem h).mp q) (by rw [hn]; decide), rowsOf_nodup P⟩) (fun g' c' => by
    rw [List.mem_cons, rowsOf_mem h]
    unfold pS
    by_cases q : g' = g ∧ c' = c
    · simp [q]
    · rw [if_neg q]
      constructor
      · rintro (e | e)
        · exact absurd (by cases e; exact ⟨rfl, rfl⟩) q
        · exact e
      · exact Or.inr)
  rw [List.length_cons, rowsOf_len] at this
  exact this.symm
theorem card_le {P P' : Pd} (h : okP P) (hs : ∀ g c, P' g c = true → P g c = true) : card P' ≤ card P := by
  have h' : okP P' := fun g c q => h g c (hs g c q)
  rw [← rowsOf_len, ← rowsOf_len]
  exact (rowsOf_nodup P').length_le_of_subset (fun ⟨g, c⟩ q => (rowsOf_mem h).mpr (hs g c ((rowsOf_mem h').mp q)))
theorem okS_put {S S' : St} (h : okS S) {g c : Nat} (hg : g < 7) (hc : okc c) (e : stPut S g c = some S') : okS S' := by
  obtain ⟨h1, h2, h3, h4, h5⟩ := h
  have ht : ∀ g', (tS S.2.1 g true) g' = false → S.2.1 g' = false ∧ g' ≠ g := by
    intro g' q; unfold tS at q; split at q
    · cases q
    · exact ⟨q, by assumption⟩
  have h4' : tS S.2.1 g true 0 = true := by unfold tS; split <;> first | rfl | exact h4
  unfold stPut at e
  split at e
  · cases e
    refine ⟨h1, h2, h3, h4', fun g' c' q => ?_⟩
    have := h5 g' c' q
    show tS S.2.1 g true g' = true
    unfold tS; split <;> first | rfl | exact this
  · rename_i hn
    split at e
    · cases e
    · cases e
      refine ⟨okP_pS h1 hg hc _, ?_, h3, h4', fun g' c' q => ?_⟩
      · show card (pS S.1 g c true) ≤ 120
        rw [card_pS h1 hg hc (by simpa using hn)]; omega
      · show tS S.2.1 g true g' = true
        unfold tS; split
        · rfl
        · rename_i hne
          exact h5 g' c' (by have q : pS S.1 g c true g' c' = true := q; rw [pS_k _ _ _ hne] at q; exact q)
theorem okS_del {S : St} (h : okS S) (g c : Nat) : okS (stDel S g c) := by
  obtain ⟨h1, h2, h3, h4, h5⟩ := h
  have hs : ∀ g' c', pS S.1 g c false g' c' = true → S.1 g' c' = true := by
    intro g' c' q; unfold pS at q; split at q
    · cases q
    · exact q
  exact ⟨fun g' c' q => h1 g' c' (hs g' c' q), Nat.le_trans (card_le h1 hs) h2, h3, h4, fun g' c' q => h5 g' c' (hs g' c' q)⟩
theorem okS_blk {S : St} (h : okS S) {b : Nat} (hb : b ≤ 60) : okS (S.1, S.2.1, b) := ⟨h.1, h.2.1, hb, h.2.2.2⟩
theorem okS_there {S : St} (h : okS S) (g : Nat) : okS (S.1, tS S.2.1 g true, S.2.2) := by
  obtain ⟨h1, h2, h3, h4, h5⟩ := h
  refine ⟨h1, h2, h3, ?_, fun g' c' q => ?_⟩
  · show tS S.2.1 g true 0 = true
    unfold tS; split <;> first | rfl | exact h4
  · show tS S.2.1 g true g' = true
    have := h5 g' c' q
    unfold tS; split <;> first | rfl | exact this
