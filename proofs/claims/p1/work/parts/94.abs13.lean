/-! One step of the reference. -/
theorem out9 {k : Nat} (h : k ≤ 9) (h0 : ¬ nI k = 0) (h1 : ¬ nI k = 1) (h2 : ¬ nI k = 2) (h3 : ¬ nI k = 3) (h4 : ¬ nI k = 4) (h5 : ¬ nI k = 5) (h6 : ¬ nI k = 6) (h7 : ¬ nI k = 7) (h8 : ¬ nI k = 8) (h9 : ¬ nI k = 9) : False := by
  rcases (show k = 0 ∨ k = 1 ∨ k = 2 ∨ k = 3 ∨ k = 4 ∨ k = 5 ∨ k = 6 ∨ k = 7 ∨ k = 8 ∨ k = 9 by omega) with rfl | rfl | rfl | rfl | rfl | rfl | rfl | rfl | rfl | rfl
  · exact h0 rfl
  · exact h1 rfl
  · exact h2 rfl
  · exact h3 rfl
  · exact h4 rfl
  · exact h5 rfl
  · exact h6 rfl
  · exact h7 rfl
  · exact h8 rfl
  · exact h9 rfl
theorem takeSol_id {to : Nat} {σ : Sg} : ∀ (ts : List TR) (S : St), (∀ t ∈ ts, t.2.2.2 = true) → ts.foldl (takeRow to σ) S = S
  | [], _, _ => rfl
  | t :: ts, S, h => by
    rw [List.foldl_cons, tk_skip (Or.inl (h t (by simp)))]
    exact takeSol_id ts S (fun t' ht' => h t' (by simp [ht']))
theorem addRows_id {to : Nat} {σ : Sg} : ∀ (ts : List TR) (S : St) (m : Sg), (∀ t ∈ ts, t.2.2.2 = false) → addRows to σ ts S m = some (S, m)
  | [], _, _, _ => rfl
  | t :: ts, S, m, h => by
    rw [addRows]
    have : addRow to σ S m t = some (S, m) := by unfold addRow; rw [if_pos (Or.inl (h t (by simp)))]
    rw [this]
    exact addRows_id ts S m (fun t' ht' => h t' (by simp [ht']))
theorem aRew_one {fr to : Nat} {ts : List TR} {S : St} : aRew fr to ts [] S = (match addSols to ts [fun _ => -1] (takeSol to ts S (fun _ => -1)) with
    | none => (4, S, 0)
    | some S' => (0, S', 0)) := by
  unfold aRew
  dsimp only
  rw [if_pos (show (sols (cds (S.1 fr)) [] (fun _ => -1)).length ≤ 100 ∧ wk (cds (S.1 fr)) [] (fun _ => -1) ≤ 5000 from ⟨(by decide : (1 : Nat) ≤ 100), (by decide : (0 : Nat) ≤ 5000)⟩)]
  rfl
theorem aRew_put {fr to : Nat} {ts : List TR} {S : St} (h : ∀ t ∈ ts, t.2.2.2 = true) : aRew fr to ts [] S = (match addSol to ts S (fun _ => -1) with
    | none => (4, S, 0)
    | some S' => (0, S', 0)) := by
  rw [aRew_one]
  have : takeSol to ts S (fun _ => -1) = S := takeSol_id ts S h
  rw [this]
  simp only [addSols]
  cases addSol to ts S (fun _ => -1) <;> rfl
theorem aRew_take {fr to : Nat} {ts : List TR} {S : St} (h : ∀ t ∈ ts, t.2.2.2 = false) : aRew fr to ts [] S = (0, takeSol to ts S (fun _ => -1), 0) := by
  rw [aRew_one]
  simp only [addSols]
  have : addSol to ts (takeSol to ts S (fun _ => -1)) (fun _ => -1) = some (takeSol to ts S (fun _ => -1)) := by
    unfold addSol
    rw [addRows_id ts _ _ h]
    rfl
  rw [this]
/-- the start of a step: one way, without values -/
def ac0 (v : Nat → Int32) (A : Nat → Nat → Int32) (j : Nat) (v' : Nat → Int32) (A' : Nat → Nat → Int32) : Prop := v' = upd v 43 1 ∧ (∀ q, q ≠ 35 → A' q = A q) ∧ ∀ k, k < j → A' 35 k = -1
theorem ac0_next {v v' : Nat → Int32} {A A' : Nat → Nat → Int32} {j : Nat} (h : ac0 v A j v' A') : ac0 v A (j + 1) v' (u1 A' 35 (upd (A' 35) j (-1))) := by
  refine ⟨h.1, fun q hq => by rw [← h.2.1 q hq]; simp [u1, hq], fun k hk => ?_⟩
  simp only [u1, if_true, upd]
  split
  · rfl
  · exact h.2.2 k (by omega)
theorem ac0_FS {v v' : Nat → Int32} {A A' : Nat → Nat → Int32} {j : Nat} (h : ac0 v A j v' A') : FS v A v' A' ∧ v' 41 = v 41 := by
  obtain ⟨rfl, h2, _⟩ := h
  exact ⟨⟨fun k _ _ _ a _ _ => by simp [upd, a], fun k hk => h2 k (by omega)⟩, by simp [upd]⟩
theorem ac0_RC {v v' : Nat → Int32} {A A' : Nat → Nat → Int32} {j : Nat} {S : St} (h : ac0 v A j v' A') (hR : RC v A S) : RC v' A' S := by
  obtain ⟨rfl, h2, _⟩ := h
  exact RC_v hR (by simp [upd]) (by simp [upd]) (fun q _ hq => h2 q (by omega))
theorem ac0_VW {v v' : Nat → Int32} {A A' : Nat → Nat → Int32} (h : ac0 v A 4 v' A') : VW A' 0 (fun _ => -1) := by
  intro k hk
  rw [Nat.mul_zero, Nat.zero_add]
  exact h.2.2 k hk
theorem AR_act {v v1 v' : Nat → Int32} {A A1 A' : Nat → Nat → Int32} {a b : Nat × St × Nat} {w : Int32} (hf : FS v A v1 A1 ∧ v1 41 = v 41) (h : AR v1 A1 a w v' A') (e : b = a) : AR v A b w v' A' := by
  subst e
  exact ⟨h.1, hf.1.trans h.2.1, fun q => ⟨(h.2.2 q).1, by rw [(h.2.2 q).2, hf.2]⟩⟩
theorem kd {k n : Nat} {c : Int32} (hk : k ≤ 9) (hn : n < 10) (hc : c = nI n) (h : nI k = c) : k = n := (nI_eq (by omega) (by omega)).mp (h.trans hc)
theorem ad_AR {v v' : Nat → Int32} {A A' : Nat → Nat → Int32} {S : St} {fr to : Nat} {ts : List TR} {w : Int32} (ha : ∀ t ∈ ts, t.2.2.2 = true) (h : adP v A to (fun _ => -1) ts S w v' A') : (w = 0 → AR v A (aRew fr to ts [] S) 4 v' A') ∧ (¬ w = 0 → AR v A (aRew fr to ts [] S) 0 v' A') := by
  rw [aRew_put ha]
  unfold AR
  refine ⟨fun q => ?_, fun q => ?_⟩
  · rcases h.2 with r | ⟨S', _, r, _⟩
    · rw [r.1]; exact ⟨rfl, h.1.S, fun q => absurd q (show ¬ (4 : Nat) < 4 by decide)⟩
    · rw [q] at r; exact absurd r (by decide)
  · rcases h.2 with r | ⟨S', e, _, hR⟩
    · exact absurd r.2 q
    · rw [e]; exact ⟨rfl, h.1.S, fun _ => ⟨hR, by show v' 41 = v 41 + nI 0; rw [nI_0, h.1.1 41 (by decide) (by decide)]; simp⟩⟩
theorem tk_AR {v v' : Nat → Int32} {A A' : Nat → Nat → Int32} {S : St} {fr to : Nat} {ts : List TR} (ha : ∀ t ∈ ts, t.2.2.2 = false) (h : tkI v A (takeSol to ts S (fun _ => -1)) v' A') : AR v A (aRew fr to ts [] S) 0 v' A' := by
  rw [aRew_take ha]
  exact ⟨rfl, h.1.S, fun _ => ⟨h.2, by show v' 41 = v 41 + nI 0; rw [nI_0, h.1.1 41 (by decide) (by decide)]; simp⟩⟩
theorem mk_AR1 {v : Nat → Int32} {A : Nat → Nat → Int32} {S : St} {to : Nat} (hR : RC v A S) (h : ¬ tI (S.2.1 to) = 0) : AR v A (aMake to S) 1 v A := by
  unfold aMake AR
  rw [if_pos (tI_1.mp h)]
  exact ⟨rfl, FS.refl, fun _ => ⟨hR, by show v 41 = v 41 + nI 0; rw [nI_0]; simp⟩⟩
theorem mk_AR0 {v : Nat → Int32} {A : Nat → Nat → Int32} {S : St} {to : Nat} (hR : RC v A S) (h : tI (S.2.1 to) = 0) : AR v A (aMake to S) 0 v (u1 A 23 (upd (A 23) to 1)) := by
  unfold aMake AR
  rw [if_neg (by rw [tI_0.mp h]; decide)]
  exact ⟨rfl, FR_set.S, fun _ => ⟨RC_set hR to, by show v 41 = v 41 + nI 0; rw [nI_0]; simp⟩⟩
theorem aAct_0 {TN : Nat → Bool} {FL : Nat → List Nat} {q : Sq} {S : St} (h : q.1 < 3) : aAct TN FL q S = aRew q.2.1 (nn q.2.2.1) q.2.2.2.2.1 q.2.2.2.2.2 S := if_pos h
theorem aAct_3 {TN : Nat → Bool} {FL : Nat → List Nat} {q : Sq} {S : St} (h : q.1 = 3 ∨ q.1 = 5) : aAct TN FL q S = aWipe (decide (q.1 = 5)) q.2.2.1 S := by
  unfold aAct
  rw [if_neg (by omega), if_pos h]
theorem aAct_4 {TN : Nat → Bool} {FL : Nat → List Nat} {q : Sq} {S : St} (h : q.1 = 4) : aAct TN FL q S = aMake (nn q.2.2.1) S := by
  unfold aAct
  rw [if_neg (by omega), if_neg (by omega), if_pos h]
theorem aAct_9 {TN : Nat → Bool} {FL : Nat → List Nat} {q : Sq} {S : St} (h : q.1 = 9) : aAct TN FL q S = aRead (TN q.2.1) (FL q.2.1) (nn q.2.2.1) S := by
  unfold aAct
  rw [if_neg (by omega), if_neg (by omega), if_neg (by omega), if_pos h]
theorem aAct_6 {TN : Nat → Bool} {FL : Nat → List Nat} {q : Sq} {S : St} (h : 6 ≤ q.1) (h2 : q.1 ≤ 8) : aAct TN FL q S = aBring q.1 q.2.1 (nn q.2.2.1) S := by
  unfold aAct
  rw [if_neg (by omega), if_neg (by omega), if_neg (by omega), if_neg (by omega)]
