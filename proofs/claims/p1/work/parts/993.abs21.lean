/-! The search by depth, as the cells hold it. -/
def SE (iv av : Nat → Nat → Int32) (acc : List Sg) (w : Nat) : Prop := iv 20 2 = nI acc.length ∧ acc.length ≤ 100 ∧ iv 20 3 = nI w ∧ w ≤ 5000 ∧ ∀ u σ', acc[u]? = some σ' → ∀ k, k < 4 → av 27 (4 * u + k) = σ' k
def FQc (row : Nat) (iv av iv' av' : Nat → Nat → Int32) : Prop := (∀ k f, k ≠ 20 → iv' k f = iv k f) ∧ ∀ k, k ≤ 22 + row ∨ 27 < k → av' k = av k
theorem FQc.refl {row : Nat} {iv av : Nat → Nat → Int32} : FQc row iv av iv av := ⟨fun _ _ _ => rfl, fun _ _ => rfl⟩
theorem FQc.trans {row : Nat} {iv av iv1 av1 iv2 av2 : Nat → Nat → Int32} (h : FQc row iv av iv1 av1) (h2 : FQc row iv1 av1 iv2 av2) : FQc row iv av iv2 av2 := ⟨fun k f a => (h2.1 k f a).trans (h.1 k f a), fun k a => (h2.2 k a).trans (h.2 k a)⟩
theorem FQc.up {row : Nat} {iv av iv1 av1 : Nat → Nat → Int32} (h : FQc (row + 1) iv av iv1 av1) : FQc row iv av iv1 av1 := ⟨h.1, fun k a => h.2 k (by omega)⟩
theorem FQc.G {row : Nat} {iv av iv1 av1 : Nat → Nat → Int32} {g : Nat} {p : Nat → Bool} {t : Bool} (h : FQc row iv av iv1 av1) (hg : g < 7) (hG : GC iv av (4 + 1 + 2 * g) p t) : GC iv1 av1 (4 + 1 + 2 * g) p t := hG.kept (h.1 _ _ (by omega)) (h.1 _ _ (by omega)) (h.2 _ (by omega))
theorem FQc.P {row : Nat} {iv av iv1 av1 : Nat → Nat → Int32} {i : Nat} {ps : List Rw} (h : FQc row iv av iv1 av1) (hP : PRc iv av i ps) : PRc iv1 av1 i ps := by
  unfold PRc at hP ⊢
  rw [h.1 (61 + 6 * i + 4) 2 (by omega), h.2 (61 + 6 * i + 4 + 1) (by omega)]
  exact hP
theorem FQc.V {row : Nat} {iv av iv1 av1 : Nat → Nat → Int32} {σ : Sg} (h : FQc row iv av iv1 av1) (hV : VA av row σ) : VA av1 row σ := fun k hk => by rw [h.2 (22 + row) (by omega)]; exact hV k hk
def goP (iv av : Nat → Nat → Int32) (row : Nat) (acc : List Sg) (w : Nat) (ss : List Sg) (n : Nat) (res : Int32) (iv' av' : Nat → Nat → Int32) : Prop :=
  FQc row iv av iv' av' ∧ ((res = 1 ∧ SE iv' av' (acc ++ ss) (w + n)) ∨ (res = 0 ∧ ¬ lim (acc.length + ss.length) (w + n)))
theorem goP_b {iv av iv' av' : Nat → Nat → Int32} {row w n : Nat} {acc ss : List Sg} {res : Int32} (h : goP iv av row acc w ss n res iv' av') : res = 0 ∨ res = 1 := by
  rcases h.2 with q | q
  · exact Or.inr q.1
  · exact Or.inl q.1
theorem ke_no {iv av : Nat → Nat → Int32} {row w : Nat} {acc : List Sg} {σ : Sg} {z : Int32} (hS : SE iv av acc w) (h : ¬ nI (acc.length + 1) ≤ nI 100) : goP iv av row acc w [σ] 0 0 (u2 iv 20 2 z) av := by
  have h1 := hS.2.1
  rw [nI_leI (by omega) (by decide)] at h
  exact ⟨⟨fun k f hk => u2_k _ _ _ _ hk, fun _ _ => rfl⟩, Or.inr ⟨rfl, fun q => h q.1⟩⟩
theorem ke_ok {iv av : Nat → Nat → Int32} {row w : Nat} {acc : List Sg} {σ : Sg} (hr : row < 5) (hS : SE iv av acc w) (hV : VA av row σ) (h : nI (acc.length + 1) ≤ nI 100) : goP iv av row acc w [σ] 0 1 (u2 iv 20 2 (nI (acc.length + 1))) (u1 av 27 (va_cpy (av (22 + row)) (av 27) (Int32.toNatClampNeg 0) (Int32.toNatClampNeg (nI (acc.length * 4))) (Int32.toNatClampNeg 4))) := by
  have h1 := hS.2.1
  rw [nI_leI (by omega) (by decide)] at h
  rw [show Int32.toNatClampNeg 0 = 0 by decide, show Int32.toNatClampNeg 4 = 4 by decide, nI_clamp (by omega)]
  refine ⟨⟨fun k f hk => u2_k _ _ _ _ hk, fun k hk => u1_k _ _ (by omega)⟩, Or.inl ⟨rfl, ?_⟩⟩
  refine ⟨by rw [u2_s, List.length_append]; rfl, by rw [List.length_append]; exact h, by rw [u2_f _ _ _ (by decide)]; exact hS.2.2.1, hS.2.2.2.1, fun u σ' hu k hk => ?_⟩
  rw [u1_s]
  unfold va_cpy
  rw [List.getElem?_append] at hu
  split at hu
  · rename_i hlt
    rw [if_neg (by omega)]
    exact hS.2.2.2.2 u σ' hu k hk
  · have hlt := (List.getElem?_eq_some_iff.mp hu).1
    have e : u = acc.length := by simp at hlt; omega
    subst e
    simp at hu
    subst hu
    rw [if_pos (by omega), Nat.zero_add, show 4 * acc.length + k - acc.length * 4 = k by omega]
    exact hV k hk
theorem SE_w {iv av : Nat → Nat → Int32} {acc : List Sg} {w : Nat} (hS : SE iv av acc w) (h : nI (w + 1) ≤ nI 5000) : SE (u2 iv 20 3 (nI (w + 1))) av acc (w + 1) := by
  have h1 := hS.2.2.2.1
  rw [nI_leI (by omega) (by decide)] at h
  exact ⟨by rw [u2_f _ _ _ (by decide)]; exact hS.1, hS.2.1, u2_s _ _ _ _, h, hS.2.2.2.2⟩
theorem FQc_w {row : Nat} {iv av : Nat → Nat → Int32} {z : Int32} : FQc row iv av (u2 iv 20 3 z) av := ⟨fun k f hk => u2_k _ _ _ _ hk, fun _ _ => rfl⟩
theorem SE_av {iv av av' : Nat → Nat → Int32} {acc : List Sg} {w : Nat} (hS : SE iv av acc w) (h : av' 27 = av 27) : SE iv av' acc w := ⟨hS.1, hS.2.1, hS.2.2.1, hS.2.2.2.1, by rw [h]; exact hS.2.2.2.2⟩
theorem ho_5 {iv av : Nat → Nat → Int32} {row w : Nat} {acc : List Sg} {fs : List Nat} {rw' : Rw} {rs : List Rw} {σ : Sg} {c : Nat} {z : Int32} (hS : SE iv av acc w) (h : ¬ nI (w + 1) ≤ nI 5000) : goP iv av row acc w (solP fs rw' rs σ [c]) (wkP fs rw' rs σ [c]) 0 (u2 iv 20 3 z) av := by
  have h1 := hS.2.2.2.1
  rw [nI_leI (by omega) (by decide)] at h
  refine ⟨FQc_w, Or.inr ⟨rfl, fun q => ?_⟩⟩
  have h2 : 1 ≤ wkP fs rw' rs σ [c] := by unfold wkP; simp
  have := q.2
  omega
theorem fc_FQ {iv av iv' av' : Nat → Nat → Int32} {r : Nat} {rw' : Rw} {σ : Sg} {c : Nat} {w : Int32} (hr : r < 4) (h : fcP iv av r rw' σ c w iv' av') : FQc r iv av iv' av' ∧ av' 27 = av 27 := by
  obtain ⟨rfl, h2, _⟩ := h
  exact ⟨⟨fun _ _ _ => rfl, fun k hk => h2 k (by omega)⟩, h2 27 (by omega)⟩
theorem ho_n {iv av iv' av' : Nat → Nat → Int32} {r w : Nat} {acc : List Sg} {fs : List Nat} {rw' : Rw} {rs : List Rw} {σ : Sg} {c : Nat} {z : Int32} (hr : r < 4) (hS : SE iv av acc w) (hw : nI (w + 1) ≤ nI 5000) (h : fcP (u2 iv 20 3 (nI (w + 1))) av r rw' σ c z iv' av') (hz : z = 0) : goP iv av r acc w (solP fs rw' rs σ [c]) (wkP fs rw' rs σ [c]) 1 iv' av' := by
  have hm : mtc rw' σ c = none := by
    rcases h.2.2 with q | ⟨_, q, _⟩
    · exact q.2
    · rw [hz] at q; exact absurd q (by decide)
  have hf := fc_FQ hr h
  refine ⟨FQc_w.trans hf.1, Or.inl ⟨rfl, ?_⟩⟩
  rw [solP_one_n hm, wkP_one_n hm, List.append_nil]
  have := SE_av (SE_w hS hw) hf.2
  rw [← h.1] at this
  exact this
theorem fc_ok {iv av iv' av' : Nat → Nat → Int32} {r : Nat} {rw' : Rw} {σ : Sg} {c : Nat} {w : Int32} (h : fcP iv av r rw' σ c w iv' av') (hw : ¬ w = 0) : ∃ σ', mtc rw' σ c = some σ' ∧ VA av' (r + 1) σ' := by
  rcases h.2.2 with q | ⟨σ', _, q⟩
  · exact absurd q.1 hw
  · exact ⟨σ', q⟩
theorem ho_s {iv av iv1 av1 iv2 av2 : Nat → Nat → Int32} {r w : Nat} {acc : List Sg} {fs : List Nat} {rw' : Rw} {rs : List Rw} {σ σ' : Sg} {c : Nat} {z : Int32} (hf : FQc r iv av iv1 av1) (hm : mtc rw' σ c = some σ') (h : goP iv1 av1 (r + 1) acc (w + 1) (sols fs rs σ') (wk fs rs σ') z iv2 av2) : goP iv av r acc w (solP fs rw' rs σ [c]) (wkP fs rw' rs σ [c]) z iv2 av2 := by
  rw [solP_one_s hm, wkP_one_s hm]
  refine ⟨hf.trans h.1.up, ?_⟩
  rcases h.2 with q | q
  · exact Or.inl ⟨q.1, by rw [← Nat.add_assoc]; exact q.2⟩
  · exact Or.inr ⟨q.1, by rw [← Nat.add_assoc]; exact q.2⟩
/-- the facts held against a row so far -/
def goI (iv av : Nat → Nat → Int32) (row : Nat) (acc : List Sg) (w : Nat) (fs : List Nat) (r : Rw) (rs : List Rw) (σ : Sg) (j : Nat) (res : Int32) (iv' av' : Nat → Nat → Int32) : Prop := goP iv av row acc w (solP fs r rs σ (fs.take j)) (wkP fs r rs σ (fs.take j)) res iv' av'
theorem goI_0 {iv av : Nat → Nat → Int32} {row w : Nat} {acc : List Sg} {fs : List Nat} {r : Rw} {rs : List Rw} {σ : Sg} (hS : SE iv av acc w) : goI iv av row acc w fs r rs σ 0 1 iv av := by
  refine ⟨FQc.refl, Or.inl ⟨rfl, ?_⟩⟩
  rw [List.take_zero, show solP fs r rs σ [] = [] by simp [solP], show wkP fs r rs σ [] = 0 by simp [wkP], List.append_nil]
  exact hS
theorem goI_S {iv av iv1 av1 : Nat → Nat → Int32} {row w j : Nat} {acc : List Sg} {fs : List Nat} {r : Rw} {rs : List Rw} {σ : Sg} {res : Int32} (h : goI iv av row acc w fs r rs σ j res iv1 av1) (hz : ¬ res = 0) : SE iv1 av1 (acc ++ solP fs r rs σ (fs.take j)) (w + wkP fs r rs σ (fs.take j)) := by
  rcases h.2 with q | q
  · exact q.2
  · exact absurd q.1 hz
theorem goI_next {iv av iv1 av1 iv2 av2 : Nat → Nat → Int32} {row w j : Nat} {acc : List Sg} {fs : List Nat} {r : Rw} {rs : List Rw} {σ : Sg} {res z : Int32} (hj : j < fs.length) (h : goI iv av row acc w fs r rs σ j res iv1 av1) (h2 : goP iv1 av1 row (acc ++ solP fs r rs σ (fs.take j)) (w + wkP fs r rs σ (fs.take j)) (solP fs r rs σ [fs.getD j 0]) (wkP fs r rs σ [fs.getD j 0]) z iv2 av2) : goI iv av row acc w fs r rs σ (j + 1) z iv2 av2 := by
  refine ⟨h.1.trans h2.1, ?_⟩
  rw [take_succ_of hj, getD_g hj, solP_append, wkP_append]
  rcases h2.2 with q | q
  · exact Or.inl ⟨q.1, by rw [← List.append_assoc, ← Nat.add_assoc]; exact q.2⟩
  · exact Or.inr ⟨q.1, by rw [List.length_append, ← Nat.add_assoc, ← Nat.add_assoc]; have h9 := q.2; rw [List.length_append] at h9; exact h9⟩
theorem goI_out {iv av iv1 av1 : Nat → Nat → Int32} {row w j : Nat} {acc : List Sg} {fs : List Nat} {r : Rw} {rs : List Rw} {σ : Sg} {res : Int32} (h : goI iv av row acc w fs r rs σ j res iv1 av1) (hz : res = 0) : goP iv av row acc w (sols fs (r :: rs) σ) (wk fs (r :: rs) σ) res iv1 av1 := by
  refine ⟨h.1, ?_⟩
  rcases h.2 with q | q
  · rw [hz] at q; exact absurd q.1 (by decide)
  · refine Or.inr ⟨q.1, fun s => q.2 ?_⟩
    have hl := P_take_le fs r rs σ fs j
    exact lim_mono s (by rw [sols_P]; omega) (by rw [wk_P]; omega)
theorem goI_end {iv av iv1 av1 : Nat → Nat → Int32} {row w : Nat} {acc : List Sg} {fs : List Nat} {r : Rw} {rs : List Rw} {σ : Sg} {res : Int32} (h : goI iv av row acc w fs r rs σ fs.length res iv1 av1) : goP iv av row acc w (sols fs (r :: rs) σ) (wk fs (r :: rs) σ) res iv1 av1 := by
  unfold goI at h
  rw [List.take_length] at h
  exact h
theorem drop_c {ps : List Rw} {j : Nat} {r : Rw} (h : ps[j]? = some r) : ps.drop j = r :: ps.drop (j + 1) := by
  have hl := (List.getElem?_eq_some_iff.mp h)
  rw [List.drop_eq_getElem_cons hl.1, hl.2]
