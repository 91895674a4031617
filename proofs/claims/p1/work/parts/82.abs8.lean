/-! Graphs cleared and dropped, in the reference. -/
def wpP (P : Pd) (to : Int32) (j : Nat) : Pd := fun g c => P g c && !(inTo to g && decide (g < j))
def wpT (T : Nat → Bool) (d : Bool) (to : Int32) (j : Nat) : Nat → Bool := fun g => T g && (!(d && (inTo to g && decide (g < j))) || decide (g = 0))
theorem inTo_a {to : Int32} {j : Nat} (hj : j < 7) (h : to = nI j) : inTo to j = true := by simp [inTo, hj, h]
theorem inTo_b {to : Int32} {j : Nat} (hj : j < 7) (h : to = -1) : inTo to j = true := by simp [inTo, hj, h]
theorem inTo_c {to : Int32} {j : Nat} (hj : j < 7) (h : to = -2) (h2 : ¬ nI j ≤ 0) : inTo to j = true := by
  have : 0 < j := Nat.pos_of_ne_zero (fun e => h2 (by rw [e]; decide))
  simp [inTo, hj, h, this]
theorem inTo_n {to : Int32} {j : Nat} (h1 : ¬ to = nI j) (h2 : ¬ to = -1) (h3 : ¬ to = -2) : inTo to j = false := by simp [inTo, h1, h2, h3]
theorem inTo_m {to : Int32} {j : Nat} (hj : j < 7) (h1 : ¬ to = nI j) (h2 : ¬ to = -1) (h4 : nI j ≤ 0) : inTo to j = false := by
  have : j = 0 := by
    rcases Nat.eq_zero_or_pos j with q | q
    · exact q
    · exact absurd h4 (nI_ge (a := 0) q (by omega))
  subst this
  unfold inTo
  rw [decide_eq_false h1, decide_eq_false h2]
  simp
theorem wp_0 {S : St} {d : Bool} {to : Int32} : (wpP S.1 to 0, wpT S.2.1 d to 0, S.2.2) = S := by
  have e1 : wpP S.1 to 0 = S.1 := by funext g c; simp [wpP]
  have e2 : wpT S.2.1 d to 0 = S.2.1 := by funext g; simp [wpT]
  rw [e1, e2]
theorem wp_7 {S : St} {d : Bool} {to : Int32} : (wpP S.1 to 7, wpT S.2.1 d to 7, S.2.2) = ((fun g c => S.1 g c && !inTo to g, fun g => S.2.1 g && (!(d && inTo to g) || decide (g = 0)), S.2.2) : St) := by
  have e : ∀ g, (inTo to g && decide (g < 7)) = inTo to g := by intro g; unfold inTo; by_cases q : g < 7 <;> simp [q]
  have e1 : wpP S.1 to 7 = fun g c => S.1 g c && !inTo to g := by funext g c; unfold wpP; rw [e]
  have e2 : wpT S.2.1 d to 7 = fun g => S.2.1 g && (!(d && inTo to g) || decide (g = 0)) := by funext g; unfold wpT; rw [e]
  rw [e1, e2]
theorem wp_skip {S : St} {d : Bool} {to : Int32} {j : Nat} (h : inTo to j = false) : (wpP S.1 to (j + 1), wpT S.2.1 d to (j + 1), S.2.2) = (wpP S.1 to j, wpT S.2.1 d to j, S.2.2) := by
  have e : ∀ g, (inTo to g && decide (g < j + 1)) = (inTo to g && decide (g < j)) := by
    intro g
    by_cases q : g = j
    · rw [q, h]; rfl
    · have : (g < j + 1) ↔ g < j := by omega
      simp [this]
  have e1 : wpP S.1 to (j + 1) = wpP S.1 to j := by funext g c; unfold wpP; rw [e]
  have e2 : wpT S.2.1 d to (j + 1) = wpT S.2.1 d to j := by funext g; unfold wpT; rw [e]
  rw [e1, e2]
theorem wp_gone {S : St} {d : Bool} {to : Int32} {j : Nat} (ho : okS S) (h : S.2.1 j = false) : (wpP S.1 to (j + 1), wpT S.2.1 d to (j + 1), S.2.2) = (wpP S.1 to j, wpT S.2.1 d to j, S.2.2) := by
  have hp : ∀ c, S.1 j c = false := fun c => Bool.eq_false_iff.mpr (fun q => by have := ho.2.2.2.2 j c q; rw [h] at this; cases this)
  have e : ∀ g, g ≠ j → (inTo to g && decide (g < j + 1)) = (inTo to g && decide (g < j)) := by
    intro g q
    have : (g < j + 1) ↔ g < j := by omega
    simp [this]
  have e1 : wpP S.1 to (j + 1) = wpP S.1 to j := by
    funext g c; unfold wpP
    by_cases q : g = j
    · rw [q, hp]; rfl
    · rw [e g q]
  have e2 : wpT S.2.1 d to (j + 1) = wpT S.2.1 d to j := by
    funext g; unfold wpT
    by_cases q : g = j
    · rw [q, h]; rfl
    · rw [e g q]
  rw [e1, e2]
theorem wp_do {S : St} {d : Bool} {to : Int32} {j : Nat} (h : inTo to j = true) (ht : S.2.1 j = true) : (wpP S.1 to (j + 1), wpT S.2.1 d to (j + 1), S.2.2) = (pG (wpP S.1 to j) j (fun _ => false), tS (wpT S.2.1 d to j) j (!d || decide (j = 0)), S.2.2) := by
  have e : ∀ g, g ≠ j → (inTo to g && decide (g < j + 1)) = (inTo to g && decide (g < j)) := by
    intro g q
    have : (g < j + 1) ↔ g < j := by omega
    simp [this]
  have e1 : wpP S.1 to (j + 1) = pG (wpP S.1 to j) j (fun _ => false) := by
    funext g c; unfold pG
    by_cases q : g = j
    · rw [if_pos q, q]; unfold wpP; rw [h]; simp
    · rw [if_neg q]; unfold wpP; rw [e g q]
  have e2 : wpT S.2.1 d to (j + 1) = tS (wpT S.2.1 d to j) j (!d || decide (j = 0)) := by
    funext g; unfold tS
    by_cases q : g = j
    · rw [if_pos q, q]; unfold wpT; rw [h, ht]; simp
    · rw [if_neg q]; unfold wpT; rw [e g q]
  rw [e1, e2]
theorem wpT_j {T : Nat → Bool} {d : Bool} {to : Int32} {j : Nat} : wpT T d to j j = T j := by simp [wpT]
theorem RC_setb {v : Nat → Int32} {A : Nat → Nat → Int32} {S : St} (h : RC v A S) (g : Nat) {b : Bool} (hb : b = true ∨ (g ≠ 0 ∧ ∀ c, S.1 g c = false)) : RC v (u1 A 23 (upd (A 23) g (tI b))) (S.1, tS S.2.1 g b, S.2.2) := by
  obtain ⟨ho, n, f, h⟩ := h
  refine ⟨⟨ho.1, ho.2.1, ho.2.2.1, ?_, ?_⟩, n, f, h.1, h.2.1, h.2.2.1, ?_, ?_, h.2.2.2.2.2⟩
  · show tS S.2.1 g b 0 = true
    unfold tS
    split
    · rcases hb with q | q
      · exact q
      · rename_i e; exact absurd e.symm q.1
    · exact ho.2.2.2.1
  · intro g' c' q
    show tS S.2.1 g b g' = true
    unfold tS
    split
    · rename_i e
      rcases hb with r | r
      · exact r
      · have q : S.1 g' c' = true := q
        rw [e, r.2] at q; cases q
    · exact ho.2.2.2.2 g' c' q
  · intro i hi
    simp only [u1]
    exact h.2.2.2.1 i hi
  · intro g' hg'
    have := h.2.2.2.2.1 g' hg'
    simp only [u1, tS, upd]
    by_cases q : g' = g
    · simp [q, upd]
    · simp [q, this, upd]
/-- clearing, graph by graph -/
def wpI (v : Nat → Int32) (A : Nat → Nat → Int32) (S : St) (d : Bool) (to : Int32) (j : Nat) (v' : Nat → Int32) (A' : Nat → Nat → Int32) : Prop := FR v A v' A' ∧ RC v' A' (wpP S.1 to j, wpT S.2.1 d to j, S.2.2)
theorem wpI_set {v v1 v2 : Nat → Int32} {A A1 A2 : Nat → Nat → Int32} {S : St} {d : Bool} {to : Int32} {j : Nat} (hI : wpI v A S d to j v1 A1) (hin : inTo to j = true) (ht : S.2.1 j = true) (hf : FR v1 A1 v2 A2) (hR : RC v2 A2 (pG (wpP S.1 to j) j (fun _ => false), wpT S.2.1 d to j, S.2.2)) {z : Int32} (hz : z = tI (!d || decide (j = 0))) : wpI v A S d to (j + 1) v2 (u1 A2 23 (upd (A2 23) j z)) := by
  refine ⟨(hI.1.trans hf).trans FR_set, ?_⟩
  rw [wp_do hin ht, hz]
  refine RC_setb hR j ?_
  by_cases q : (!d || decide (j = 0)) = true
  · exact Or.inl q
  · refine Or.inr ⟨fun e => q (by simp [e]), fun c => ?_⟩
    show pG (wpP S.1 to j) j (fun _ => false) j c = false
    rw [pG_s]
theorem wp_end {v v' : Nat → Int32} {A A' : Nat → Nat → Int32} {S : St} {d : Bool} {to : Int32} (hR : RC v A S) (h0 : to < 0 ∨ S.2.1 (nn to) = true) (h : wpI v A S d to 7 v' A') : AR v A (aWipe d to S) 0 v' A' := by
  unfold aWipe AR
  rw [if_neg, ← wp_7]
  · exact ⟨rfl, h.1.S, fun _ => ⟨h.2, by show v' 41 = v 41 + nI 0; rw [nI_0, h.1.1 41 (by decide) (by decide)]; simp⟩⟩
  · rintro ⟨q1, q2⟩
    rcases h0 with q | q
    · rw [Int32.lt_iff_toInt_lt] at q
      have : (0 : Int32).toInt = 0 := rfl
      omega
    · rw [q] at q2; cases q2
theorem wp_no {v : Nat → Int32} {A : Nat → Nat → Int32} {S : St} {d : Bool} {to : Int32} (hR : RC v A S) (h0 : ¬ to < 0) (h : tI (S.2.1 (nn to)) = 0) : AR v A (aWipe d to S) 2 v A := by
  unfold aWipe AR
  rw [if_pos]
  · exact ⟨rfl, FS.refl, fun _ => ⟨hR, by show v 41 = v 41 + nI 0; rw [nI_0]; simp⟩⟩
  · refine ⟨?_, tI_0.mp h⟩
    rw [Int32.lt_iff_toInt_lt] at h0
    have : (0 : Int32).toInt = 0 := rfl
    omega
def emP (v : Nat → Int32) (A : Nat → Nat → Int32) (S : St) (g : Nat) (v' : Nat → Int32) (A' : Nat → Nat → Int32) : Prop := FR v A v' A' ∧ RC v' A' (pG S.1 g (fun _ => false), S.2)
theorem hX9_empty {l : Launch} {D : va_G} {aC : Nat → ClassId} {b0 sz r : Nat} {v : Nat → Int32} {A : Nat → Nat → Int32} {R : ZM} {S : St} {g : Nat} (hR : RC v A S) (hg : g < 7) :
    Ct l D aC b0 yX9_empty cX9_empty 3 none 1 0 0 [.ref r, .int (nI g)] (mm aC r v A R) sz (zpN (fun v A => mm aC r v A R) (emP v A S g)) := by
  obtain ⟨n, hs, hn⟩ := RC_n hR
  exact Ct.toN (G := fun v A => mm aC r v A R) (ctX9_empty hs hn) (empty_s hR hg)
