/-! Rows of a template for one solution, for all; a CHANGE in the cells. -/
def tfI (iv av : Nat → Nat → Int32) (S : St) (iv' av' : Nat → Nat → Int32) : Prop := FC iv av iv' av' ∧ SC iv' av' S
theorem tf_skip {iv av iv1 av1 : Nat → Nat → Int32} {S : St} {to j : Nat} {σ : Sg} {ts : List TR} {t : TR} (hj : ts[j]? = some t) (h : t.2.2.2 = true) (hI : tfI iv av ((ts.take j).foldl (takeRow to σ) S) iv1 av1) : tfI iv av ((ts.take (j + 1)).foldl (takeRow to σ) S) iv1 av1 := by
  rw [foldl_take hj, tk_skip (Or.inl h)]; exact hI
theorem tf_next {iv av iv1 av1 iv2 av2 : Nat → Nat → Int32} {S : St} {to j : Nat} {σ : Sg} {ts : List TR} {t : TR} (hj : ts[j]? = some t) (hI : tfI iv av ((ts.take j).foldl (takeRow to σ) S) iv1 av1) (h : FC iv1 av1 iv2 av2 ∧ SC iv2 av2 (takeRow to σ ((ts.take j).foldl (takeRow to σ) S) t)) : tfI iv av ((ts.take (j + 1)).foldl (takeRow to σ) S) iv2 av2 := by
  rw [foldl_take hj]; exact ⟨hI.1.trans h.1, h.2⟩
/-- adding for one solution -/
def afI (iv av : Nat → Nat → Int32) (to : Nat) (σ : Sg) (l : List TR) (S : St) (res : Int32) (iv' av' : Nat → Nat → Int32) : Prop := FC iv av iv' av' ∧ ((res = 0 ∧ addRows to σ l S (fun _ => -1) = none) ∨ ∃ S' m', res = 1 ∧ addRows to σ l S (fun _ => -1) = some (S', m') ∧ SC iv' av' S' ∧ BL av' m' ∧ okm m')
theorem af_b {iv av iv' av' : Nat → Nat → Int32} {to : Nat} {σ : Sg} {l : List TR} {S : St} {res : Int32} (h : afI iv av to σ l S res iv' av') : res = 0 ∨ res = 1 := by
  rcases h.2 with q | ⟨_, _, q, _⟩
  · exact Or.inl q.1
  · exact Or.inr q
theorem af_in {iv av iv' av' : Nat → Nat → Int32} {to : Nat} {σ : Sg} {l : List TR} {S : St} {res : Int32} (h : afI iv av to σ l S res iv' av') (hz : ¬ res = 0) : ∃ S' m', addRows to σ l S (fun _ => -1) = some (S', m') ∧ SC iv' av' S' ∧ BL av' m' ∧ okm m' := by
  rcases h.2 with q | ⟨S', m', _, q⟩
  · exact absurd q.1 hz
  · exact ⟨S', m', q⟩
theorem af_skip {iv av iv1 av1 : Nat → Nat → Int32} {S S' : St} {m' : Sg} {to j : Nat} {σ : Sg} {ts : List TR} {t : TR} (hj : ts[j]? = some t) (h : t.2.2.2 = false) (hf : FC iv av iv1 av1) (e : addRows to σ (ts.take j) S (fun _ => -1) = some (S', m')) (hS : SC iv1 av1 S') (hB : BL av1 m') (hk : okm m') : afI iv av to σ (ts.take (j + 1)) S 1 iv1 av1 := by
  refine ⟨hf, Or.inr ⟨S', m', rfl, ?_, hS, hB, hk⟩⟩
  rw [addRows_step hj, e]
  show addRow to σ S' m' t = _
  unfold addRow
  rw [if_pos (Or.inl h)]
theorem af_next {iv av iv1 av1 iv2 av2 : Nat → Nat → Int32} {S S' : St} {m' : Sg} {to j : Nat} {σ : Sg} {ts : List TR} {t : TR} {w : Int32} (hj : ts[j]? = some t) (hf : FC iv av iv1 av1) (e : addRows to σ (ts.take j) S (fun _ => -1) = some (S', m')) (h : arP iv1 av1 to σ S' m' t w iv2 av2) : (w = 0 → afI iv av to σ (ts.take (j + 1)) S 0 iv2 av2) ∧ (¬ w = 0 → afI iv av to σ (ts.take (j + 1)) S 1 iv2 av2) := by
  have e2 : addRows to σ (ts.take (j + 1)) S (fun _ => -1) = addRow to σ S' m' t := by rw [addRows_step hj, e]
  refine ⟨fun q => ⟨hf.trans h.1, Or.inl ⟨rfl, ?_⟩⟩, fun q => ⟨hf.trans h.1, Or.inr ?_⟩⟩
  · rcases h.2 with r | ⟨_, _, r, _⟩
    · rw [e2]; exact r.2
    · rw [q] at r; exact absurd r (by decide)
  · rcases h.2 with r | ⟨S2, m2, _, r, r2⟩
    · exact absurd r.1 q
    · exact ⟨S2, m2, rfl, by rw [e2]; exact r, r2⟩
def afP (iv av : Nat → Nat → Int32) (to : Nat) (σ : Sg) (ts : List TR) (S : St) (w : Int32) (iv' av' : Nat → Nat → Int32) : Prop := FC iv av iv' av' ∧ ((w = 0 ∧ addSol to ts S σ = none) ∨ ∃ S', w = 1 ∧ addSol to ts S σ = some S' ∧ SC iv' av' S')
theorem af_out {iv av iv' av' : Nat → Nat → Int32} {to j : Nat} {σ : Sg} {ts : List TR} {S : St} {res : Int32} (h : afI iv av to σ (ts.take j) S res iv' av') (hz : res = 0) : afP iv av to σ ts S res iv' av' := by
  refine ⟨h.1, Or.inl ⟨hz, ?_⟩⟩
  rcases h.2 with q | ⟨_, _, q, _⟩
  · unfold addSol; rw [addRows_none q.2]; rfl
  · rw [hz] at q; exact absurd q (by decide)
theorem af_end {iv av iv' av' : Nat → Nat → Int32} {to : Nat} {σ : Sg} {ts : List TR} {S : St} {res : Int32} (h : afI iv av to σ (ts.take ts.length) S res iv' av') : afP iv av to σ ts S res iv' av' := by
  rw [List.take_length] at h
  refine ⟨h.1, ?_⟩
  rcases h.2 with q | ⟨S', m', q, e, hS, _⟩
  · exact Or.inl ⟨q.1, by unfold addSol; rw [q.2]; rfl⟩
  · exact Or.inr ⟨S', q, by unfold addSol; rw [e]; rfl, hS⟩
theorem fl_FC {iv av iv1 av1 : Nat → Nat → Int32} {a : Int32} (h : flP 28 a 4 iv av iv1 av1) : FC iv av iv1 av1 := by
  obtain ⟨rfl, h2, _⟩ := h
  exact ⟨fun _ _ _ => rfl, fun k hk => h2 k (by omega)⟩
theorem fl_SC {iv av iv1 av1 : Nat → Nat → Int32} {a : Int32} {S : St} (h : flP 28 a 4 iv av iv1 av1) (hS : SC iv av S) : SC iv1 av1 S := by
  obtain ⟨rfl, h2, _⟩ := h
  exact ⟨hS.1, fun g hg => (hS.2.1 g hg).kept rfl rfl (h2 _ (by omega)), hS.2.2⟩
/-- all solutions -/
def adI2 (iv av : Nat → Nat → Int32) (to : Nat) (ts : List TR) (l : List Sg) (S : St) (iv' av' : Nat → Nat → Int32) : Prop := FC iv av iv' av' ∧ ∃ S', addSols to ts l S = some S' ∧ SC iv' av' S'
theorem ad2_next {iv av iv1 av1 iv2 av2 : Nat → Nat → Int32} {to j : Nat} {ts : List TR} {ss : List Sg} {σ : Sg} {S S' : St} {w : Int32} (hj : ss[j]? = some σ) (hf : FC iv av iv1 av1) (e : addSols to ts (ss.take j) S = some S') (h : afP iv1 av1 to σ ts S' w iv2 av2) (hw : ¬ w = 0) : adI2 iv av to ts (ss.take (j + 1)) S iv2 av2 := by
  refine ⟨hf.trans h.1, ?_⟩
  rcases h.2 with q | ⟨S2, _, q, hR⟩
  · exact absurd q.1 hw
  · exact ⟨S2, by rw [addSols_step hj, e]; exact q, hR⟩
theorem ad2_no {iv1 av1 iv2 av2 : Nat → Nat → Int32} {to j : Nat} {ts : List TR} {ss : List Sg} {σ : Sg} {S S' : St} {w : Int32} (hj : ss[j]? = some σ) (e : addSols to ts (ss.take j) S = some S') (h : afP iv1 av1 to σ ts S' w iv2 av2) (hw : w = 0) : addSols to ts ss S = none := by
  refine addSols_none (j := j + 1) ?_
  rw [addSols_step hj, e]
  rcases h.2 with q | ⟨S2, q, _⟩
  · exact q.2
  · rw [hw] at q; exact absurd q (by decide)
/-- behind the search: the work counted, what was found told -/
def rwF (iv av iv' av' : Nat → Nat → Int32) (fs : List Nat) (ps : List Rw) : Prop := FK iv av iv' av' ∧ (∀ k f, (2 < k ∧ k < 19) → iv' k f = iv k f) ∧ (∀ k, k < 22 ∨ 27 < k → av' k = av k) ∧ iv' 2 4 = iv 2 4 + nI (wk fs ps (fun _ => -1)) ∧ SE iv' av' (sols fs ps (fun _ => -1)) (wk fs ps (fun _ => -1))
theorem rw_SC {iv av iv' av' : Nat → Nat → Int32} {fs : List Nat} {ps : List Rw} {S : St} (h : rwF iv av iv' av' fs ps) (hS : SC iv av S) : SC iv' av' S :=
  ⟨hS.1, fun g hg => (hS.2.1 g hg).kept (h.2.1 _ _ (by omega)) (h.2.1 _ _ (by omega)) (h.2.2.1 _ (by omega)), by rw [h.2.1 3 1 (by omega)]; exact hS.2.2⟩
theorem fi_ok {iv av iv1 av1 : Nat → Nat → Int32} {fs : List Nat} {ps : List Rw} {res : Int32} (h : fiP iv av fs ps res iv1 av1) (hz : ¬ res = 0) : SE iv1 av1 (sols fs ps (fun _ => -1)) (wk fs ps (fun _ => -1)) := by
  rcases h.2.2 with q | q
  · exact q.2
  · exact absurd q.1 hz
theorem fi_no {iv av iv1 av1 : Nat → Nat → Int32} {fs : List Nat} {ps : List Rw} {res : Int32} (h : fiP iv av fs ps res iv1 av1) (hz : res = 0) : ¬ lim (sols fs ps (fun _ => -1)).length (wk fs ps (fun _ => -1)) := by
  rcases h.2.2 with q | q
  · rw [hz] at q; exact absurd q.1 (by decide)
  · exact q.2
theorem SE_u {iv av : Nat → Nat → Int32} {acc : List Sg} {w k f : Nat} {z : Int32} (h : SE iv av acc w) (hk : k ≠ 20) : SE (u2 iv k f z) av acc w := ⟨by rw [u2_k _ _ _ _ (Ne.symm hk)]; exact h.1, h.2.1, by rw [u2_k _ _ _ _ (Ne.symm hk)]; exact h.2.2.1, h.2.2.2⟩
theorem rw_a {iv av iv1 av1 : Nat → Nat → Int32} {fs : List Nat} {ps : List Rw} {res : Int32} (h : fiP iv av fs ps res iv1 av1) (hz : ¬ res = 0) {z : Int32} (hw : z = iv 2 4 + nI (wk fs ps (fun _ => -1))) : rwF iv av (u2 iv1 2 4 z) av1 fs ps := by
  refine ⟨⟨fun k f a b => by rw [u2_k _ _ _ _ (by omega)]; exact h.1 k f (by omega), fun k a => h.2.1 k (by omega)⟩, fun k f a => by rw [u2_k _ _ _ _ (by omega)]; exact h.1 k f (by omega), h.2.1, by rw [u2_s]; exact hw, SE_u (fi_ok h hz) (by decide)⟩
theorem rw_b {iv av iv1 av1 : Nat → Nat → Int32} {fs : List Nat} {ps : List Rw} {i : Nat} {z : Int32} (h : rwF iv av iv1 av1 fs ps) : rwF iv av (u2 iv1 (61 + 6 * i) 7 z) av1 fs ps := by
  refine ⟨⟨fun k f a b => ?_, h.1.2⟩, fun k f a => by rw [u2_k _ _ _ _ (by omega)]; exact h.2.1 k f a, h.2.2.1, by rw [u2_k _ _ _ _ (by omega)]; exact h.2.2.2.1, SE_u h.2.2.2.2 (by omega)⟩
  by_cases q : k = 61 + 6 * i
  · subst q
    rw [u2_f _ _ _ (fun r => b ⟨by omega, r⟩)]
    exact h.1.1 _ f a b
  · rw [u2_k _ _ _ _ q]; exact h.1.1 k f a b
theorem fi_FK {iv av iv1 av1 : Nat → Nat → Int32} {fs : List Nat} {ps : List Rw} {res z : Int32} (h : fiP iv av fs ps res iv1 av1) : FK iv av (u2 iv1 2 4 z) av1 := ⟨fun k f a b => by rw [u2_k _ _ _ _ (by omega)]; exact h.1 k f (by omega), fun k a => h.2.1 k (by omega)⟩
theorem FK_7 {iv av iv1 av1 : Nat → Nat → Int32} {i : Nat} {z : Int32} (h : FK iv av iv1 av1) : FK iv av (u2 iv1 (61 + 6 * i) 7 z) av1 := by
  refine ⟨fun k f a b => ?_, h.2⟩
  by_cases q : k = 61 + 6 * i
  · subst q
    rw [u2_f _ _ _ (fun r => b ⟨by omega, r⟩)]
    exact h.1 _ f a b
  · rw [u2_k _ _ _ _ q]; exact h.1 k f a b
theorem rwc_5 {iv av iv' av' : Nat → Nat → Int32} {S : St} {fr to : Nat} {ts : List TR} {ps : List Rw} (h : ¬ lim (sols (cds (S.1 fr)) ps (fun _ => -1)).length (wk (cds (S.1 fr)) ps (fun _ => -1))) (hf : FK iv av iv' av') : AC iv av (aRew fr to ts ps S) 5 iv' av' := by
  unfold aRew
  dsimp only
  rw [if_neg (show ¬ ((sols (cds (S.1 fr)) ps (fun _ => -1)).length ≤ 100 ∧ wk (cds (S.1 fr)) ps (fun _ => -1) ≤ 5000) from h)]
  exact AC_no rfl (by decide) hf
theorem rwc_4 {iv av iv1 av1 iv' av' : Nat → Nat → Int32} {S : St} {fr to : Nat} {ts : List TR} {ps : List Rw} (h : rwF iv av iv1 av1 (cds (S.1 fr)) ps) (hf : FC iv1 av1 iv' av') (e : addSols to ts (sols (cds (S.1 fr)) ps (fun _ => -1)) ((sols (cds (S.1 fr)) ps (fun _ => -1)).foldl (takeSol to ts) S) = none) : AC iv av (aRew fr to ts ps S) 4 iv' av' := by
  unfold aRew
  dsimp only
  rw [if_pos ⟨h.2.2.2.2.2.1, h.2.2.2.2.2.2.2.1⟩, e]
  exact AC_no rfl (by decide) (h.1.trans hf.K)
theorem rwc_0 {iv av iv1 av1 iv' av' : Nat → Nat → Int32} {S : St} {fr to : Nat} {ts : List TR} {ps : List Rw} (h : rwF iv av iv1 av1 (cds (S.1 fr)) ps) (hI : adI2 iv1 av1 to ts ((sols (cds (S.1 fr)) ps (fun _ => -1)).take (sols (cds (S.1 fr)) ps (fun _ => -1)).length) ((sols (cds (S.1 fr)) ps (fun _ => -1)).foldl (takeSol to ts) S) iv' av') : AC iv av (aRew fr to ts ps S) 0 iv' av' := by
  rw [List.take_length] at hI
  obtain ⟨hf, S', e, hS⟩ := hI
  unfold aRew
  dsimp only
  rw [if_pos ⟨h.2.2.2.2.2.1, h.2.2.2.2.2.2.2.1⟩, e]
  exact ⟨rfl, h.1.trans hf.K, fun _ => ⟨hS, by rw [hf.1 2 4 (by omega)]; exact h.2.2.2.1⟩⟩
