/-! A CHANGE of the reference, in its parts. -/
theorem agr_ok {σ σ' : Sg} {t : Int32} {q : Nat} (hσ : okG σ) (ht : isNm t ∨ isV t) (hq : q < 160) (h : agr σ t (nI q) = some σ') : okG σ' := by
  rcases ht with r | r
  · rw [agr_n r] at h
    split at h
    · cases h; exact hσ
    · cases h
  · rw [agr_v r] at h
    split at h
    · cases h
      intro k hk
      unfold upd
      split
      · refine Or.inr ?_
        unfold isPn
        rw [nI_toInt (by omega)]
        omega
      · exact hσ k hk
    · split at h
      · cases h; exact hσ
      · cases h
theorem mtc_ok {r : Rw} {σ σ' : Sg} {c : Nat} (hσ : okG σ) (hr : okR r) (hc : okc c) (h : mtc r σ c = some σ') : okG σ' := by
  unfold mtc at h
  cases e1 : agr σ r.1 (nI (pt c 0)) with
  | none => rw [e1] at h; cases h
  | some σ1 =>
    rw [e1, Option.bind_some] at h
    cases e2 : agr σ1 r.2.1 (nI (pt c 1)) with
    | none => rw [e2] at h; cases h
    | some σ2 =>
      rw [e2, Option.bind_some] at h
      exact agr_ok (agr_ok (agr_ok hσ hr.1 hc.1 e1) hr.2.1 (by have := hc.2.1; omega) e2) hr.2.2 hc.2.2 h
theorem sols_ok {fs : List Nat} (hf : ∀ c ∈ fs, okc c) : ∀ (ps : List Rw) (σ : Sg), (∀ t ∈ ps, okR t) → okG σ → ∀ σ' ∈ sols fs ps σ, okG σ'
  | [], σ, _, hσ => fun σ' h => by
    have : σ' = σ := by simpa [sols] using h
    rw [this]; exact hσ
  | r :: rs, σ, hr, hσ => fun σ' h => by
    unfold sols at h
    obtain ⟨σ1, h1, h2⟩ := List.mem_flatMap.mp h
    obtain ⟨c, hc, e⟩ := List.mem_filterMap.mp h1
    exact sols_ok hf rs σ1 (fun t ht => hr t (by simp [ht])) (mtc_ok hσ (hr r (by simp)) (hf c hc) e) σ' h2
theorem okG_0 : okG (fun _ => -1) := fun _ _ => Or.inl rfl
theorem foldl_takeS {β : Type} {ts : List Sg} {f : β → Sg → β} {S : β} {j : Nat} {t : Sg} (h : ts[j]? = some t) : (ts.take (j + 1)).foldl f S = f ((ts.take j).foldl f S) t := by
  rw [List.take_succ, h, List.foldl_append]
  rfl
theorem addSols_append (to : Nat) (ts : List TR) : ∀ (l l' : List Sg) (S : St), addSols to ts (l ++ l') S = (match addSols to ts l S with
    | none => none
    | some S' => addSols to ts l' S')
  | [], _, _ => rfl
  | σ :: σs, l', S => by
    rw [List.cons_append, addSols, addSols]
    cases addSol to ts S σ with
    | none => rfl
    | some S' => exact addSols_append to ts σs l' S'
theorem addSols_step {to : Nat} {ts : List TR} {ss : List Sg} {j : Nat} {σ : Sg} (h : ss[j]? = some σ) (S : St) : addSols to ts (ss.take (j + 1)) S = (match addSols to ts (ss.take j) S with
    | none => none
    | some S' => addSol to ts S' σ) := by
  rw [List.take_succ, h, addSols_append]
  cases addSols to ts (ss.take j) S with
  | none => rfl
  | some a =>
    show addSols to ts [σ] a = addSol to ts a σ
    simp only [addSols]
    cases addSol to ts a σ <;> rfl
theorem addSols_none {to : Nat} {ts : List TR} {ss : List Sg} {j : Nat} {S : St} (h : addSols to ts (ss.take j) S = none) : addSols to ts ss S = none := by
  rw [← List.take_append_drop j ss, addSols_append, h]
theorem okS_take {to : Nat} {σ : Sg} {S : St} (h : okS S) (t : TR) : okS (takeRow to σ S t) := by
  unfold takeRow
  split
  · exact h
  · exact okS_del h _ _
/-- adding, solution by solution -/
def asI (v : Nat → Int32) (A : Nat → Nat → Int32) (to : Nat) (ts : List TR) (l : List Sg) (S : St) (v' : Nat → Int32) (A' : Nat → Nat → Int32) : Prop := FR v A v' A' ∧ ∃ S', addSols to ts l S = some S' ∧ RC v' A' S'
theorem asI_next {v v1 v2 : Nat → Int32} {A A1 A2 : Nat → Nat → Int32} {to j : Nat} {ts : List TR} {ss : List Sg} {σ : Sg} {S S' : St} {w : Int32} (hj : ss[j]? = some σ) (hf : FR v A v1 A1) (e : addSols to ts (ss.take j) S = some S') (h : adP v1 A1 to σ ts S' w v2 A2) (hw : ¬ w = 0) : asI v A to ts (ss.take (j + 1)) S v2 A2 := by
  refine ⟨hf.trans h.1, ?_⟩
  rcases h.2 with q | ⟨S2, q, _, hR⟩
  · exact absurd q.2 hw
  · exact ⟨S2, by rw [addSols_step hj, e]; exact q, hR⟩
theorem asI_no {v1 v2 : Nat → Int32} {A1 A2 : Nat → Nat → Int32} {to j : Nat} {ts : List TR} {ss : List Sg} {σ : Sg} {S S' : St} {w : Int32} (hj : ss[j]? = some σ) (e : addSols to ts (ss.take j) S = some S') (h : adP v1 A1 to σ ts S' w v2 A2) (hw : w = 0) : addSols to ts ss S = none := by
  refine addSols_none (j := j + 1) ?_
  rw [addSols_step hj, e]
  rcases h.2 with q | ⟨S2, _, q, _⟩
  · exact q.1
  · rw [hw] at q; exact absurd q (by decide)
theorem slP_ok {v v' : Nat → Int32} {A A' : Nat → Nat → Int32} {S : St} {fr : Nat} {ps : List Rw} {w : Int32} (h : slP v A S fr ps w v' A') (hw : w ≤ 0) : FQ v A v' A' ∧ (sols (cds (S.1 fr)) ps (fun _ => -1)).length ≤ 100 ∧ wk (cds (S.1 fr)) ps (fun _ => -1) ≤ 5000 ∧ v' 43 = nI (sols (cds (S.1 fr)) ps (fun _ => -1)).length ∧ v' 41 = v 41 + nI (wk (cds (S.1 fr)) ps (fun _ => -1)) ∧ WV A' (sols (cds (S.1 fr)) ps (fun _ => -1)) := by
  rcases h.2 with q | q
  · exact ⟨h.1, q.2⟩
  · rw [q.1] at hw; exact absurd hw (by decide)
theorem ch_5 {v v' : Nat → Int32} {A A' : Nat → Nat → Int32} {S : St} {fr to : Nat} {ts : List TR} {ps : List Rw} {w : Int32} (h : slP v A S fr ps w v' A') (hw : ¬ w ≤ 0) : AR v A (aRew fr to ts ps S) w v' A' := by
  rcases h.2 with q | q
  · rw [q.1] at hw; exact absurd (by decide) hw
  · unfold aRew AR
    dsimp only
    rw [if_neg q.2]
    exact ⟨q.1, h.1.S, fun q => absurd q (show ¬ (5 : Nat) < 4 by decide)⟩
theorem FS_34 {v : Nat → Int32} {A : Nat → Nat → Int32} {g : Nat → Int32} : FS v A v (u1 A 34 g) := ⟨fun _ _ _ _ _ _ _ => rfl, fun k hk => by simp [u1, show k ≠ 34 by omega]⟩
theorem RC_FQ {v v' : Nat → Int32} {A A' : Nat → Nat → Int32} {S : St} {g : Nat → Int32} (h : RC v A S) (hf : FQ v A v' A') : RC v' (u1 A' 34 g) S :=
  RC_made (RC_v h (hf.1 20 (by decide) (by decide) (by decide) (by decide)) (hf.1 26 (by decide) (by decide) (by decide) (by decide)) (fun q _ h2 => hf.2 q (by omega))) (by decide)
theorem ch_4 {v v1 v' : Nat → Int32} {A A1 A' : Nat → Nat → Int32} {S : St} {fr to : Nat} {ts : List TR} {ps : List Rw} (hl : (sols (cds (S.1 fr)) ps (fun _ => -1)).length ≤ 100) (hw : wk (cds (S.1 fr)) ps (fun _ => -1) ≤ 5000) (hf : FS v A v1 A1) (hf2 : FR v1 A1 v' A') (h : addSols to ts (sols (cds (S.1 fr)) ps (fun _ => -1)) ((sols (cds (S.1 fr)) ps (fun _ => -1)).foldl (takeSol to ts) S) = none) : AR v A (aRew fr to ts ps S) 4 v' A' := by
  unfold aRew AR
  dsimp only
  rw [if_pos ⟨hl, hw⟩, h]
  exact ⟨rfl, hf.trans hf2.S, fun q => absurd q (show ¬ (4 : Nat) < 4 by decide)⟩
theorem ch_0 {v v1 v' : Nat → Int32} {A A1 A' : Nat → Nat → Int32} {S : St} {fr to : Nat} {ts : List TR} {ps : List Rw} (hl : (sols (cds (S.1 fr)) ps (fun _ => -1)).length ≤ 100) (hw : wk (cds (S.1 fr)) ps (fun _ => -1) ≤ 5000) (hf : FS v A v1 A1) (h41 : v1 41 = v 41 + nI (wk (cds (S.1 fr)) ps (fun _ => -1))) (h : asI v1 A1 to ts ((sols (cds (S.1 fr)) ps (fun _ => -1)).take (sols (cds (S.1 fr)) ps (fun _ => -1)).length) ((sols (cds (S.1 fr)) ps (fun _ => -1)).foldl (takeSol to ts) S) v' A') : AR v A (aRew fr to ts ps S) 0 v' A' := by
  rw [List.take_length] at h
  obtain ⟨hf2, S', e, hR⟩ := h
  unfold aRew AR
  dsimp only
  rw [if_pos ⟨hl, hw⟩, e]
  exact ⟨rfl, hf.trans hf2.S, fun _ => ⟨hR, by rw [hf2.1 41 (by decide) (by decide)]; exact h41⟩⟩
theorem WV_34 {A : Nat → Nat → Int32} {ws : List Sg} {g : Nat → Int32} (h : WV A ws) : WV (u1 A 34 g) ws := WV_same h (by simp [u1])
