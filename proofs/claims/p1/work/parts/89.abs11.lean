/-! The search by breadth: from head to head of its loops. -/
theorem sl1_0 {v v' : Nat → Int32} {A A' : Nat → Nat → Int32} {S : St} {fr : Nat} {ps : List Rw} (h : sl0 v A S fr 4 v' A') : sl1 v A S fr ps 0 0 v' A' := by
  unfold sl1
  rw [sN_0, sW_0]
  refine ⟨h.1, rfl, by decide, h.2.1, by decide, fun u σ hu k hk => ?_⟩
  have hu1 := (List.getElem?_eq_some_iff.mp hu).1
  have e : u = 0 := by simp at hu1; omega
  subst e
  simp at hu
  rw [← hu, Nat.mul_zero, Nat.zero_add]
  exact h.2.2 k hk
theorem sl0_next {v v' : Nat → Int32} {A A' : Nat → Nat → Int32} {S : St} {fr j : Nat} (h : sl0 v A S fr j v' A') : sl0 v A S fr (j + 1) v' (u1 A' 35 (upd (A' 35) j (-1))) := by
  refine ⟨slB_to h.1 (fun _ _ _ => rfl) (fun k hk _ => by simp [u1, hk]), h.2.1, fun k hk => ?_⟩
  simp only [u1, if_true, upd]
  split
  · rfl
  · exact h.2.2 k (by omega)
theorem sl2_0 {v v' : Nat → Int32} {A A' : Nat → Nat → Int32} {S : St} {fr j : Nat} {ps : List Rw} {sp : Int32} (r : Rw) (h : sl1 v A S fr ps j sp v' A') : sl2 v A S fr ps j r 0 sp (upd v' 45 0) A' := by
  refine ⟨slB_to h.1 (fun k _ hk => by simp [upd, hk]) (fun _ _ _ => rfl), by rw [Nat.zero_mul, Nat.add_zero]; exact h.2.1, by rw [Nat.zero_mul, Nat.add_zero]; exact h.2.2.1, by simp [upd, h.2.2.2.1], h.2.2.2.2.2, by rw [nxt_0]; simp [upd]; rfl, ?_⟩
  rw [nxt_0]
  intro u σ hu
  simp at hu
theorem sp_next {sp : Int32} {a w n : Nat} (h : sp = nI (a + w * n)) : sp + nI n = nI (a + (w + 1) * n) := by
  rw [h, nI_add, Nat.add_mul, Nat.one_mul, Nat.add_assoc]
theorem sl3_0 {v v' : Nat → Int32} {A A' : Nat → Nat → Int32} {S : St} {fr j w : Nat} {ps : List Rw} {r : Rw} {sp : Int32} (h : sl2 v A S fr ps j r w sp v' A') : sl3 v A S fr (sW S fr ps j) r w 0 v' A' :=
  ⟨h.1, h.2.2.2.1, h.2.2.2.2.1, h.2.2.2.2.2.1, h.2.2.2.2.2.2⟩
theorem getD_of {ws : List Sg} {w : Nat} {σ : Sg} (h : ws[w]? = some σ) : ws.getD w (fun _ => -1) = σ := by
  rw [List.getD_eq_getElem?_getD, h]; rfl
theorem getD_g {l : List Nat} {i : Nat} (h : i < l.length) : l[i] = l.getD i 0 := by
  rw [List.getD_eq_getElem?_getD, List.getElem?_eq_getElem h]; rfl
/-- behind the three parts of a row: kept but for one row of next -/
def kp4 (M : Nat) (v3 : Nat → Int32) (A3 : Nat → Nat → Int32) (v' : Nat → Int32) (A' : Nat → Nat → Int32) : Prop := v' = v3 ∧ (∀ q, q ≠ 36 → A' q = A3 q) ∧ (∀ x, x < 4 * M → A' 36 x = A3 36 x)
theorem kp4_4 {σ : Sg} {M k : Nat} {v3 v' : Nat → Int32} {A3 A' : Nat → Nat → Int32} (h : sl4 σ M v3 A3 k v' A') : kp4 M v3 A3 v' A' := ⟨h.1, h.2.1, h.2.2.1⟩
theorem kp4_f {σ : Sg} {M q : Nat} {v3 v1 v' : Nat → Int32} {A3 A1 A' : Nat → Nat → Int32} {a w : Int32} (h : kp4 M v3 A3 v1 A1) (hf : ftP v1 A1 σ a q M w v' A') : kp4 M v3 A3 v' A' :=
  ⟨hf.1.trans h.1, fun k hk => (hf.2.1 k hk).trans (h.2.1 k hk), fun x hx => (hf.2.2.1 x hx).trans (h.2.2 x hx)⟩
theorem ft_no {σ : Sg} {M q : Nat} {v1 v' : Nat → Int32} {A1 A' : Nat → Nat → Int32} {a w : Int32} (hf : ftP v1 A1 σ a q M w v' A') (hw : w = 0) : agr σ a (nI q) = none := by
  rcases hf.2.2.2 with h | ⟨σ', h, _⟩
  · exact h.2
  · rw [hw] at h; exact absurd h (by decide)
theorem ft_ok {σ : Sg} {M q : Nat} {v1 v' : Nat → Int32} {A1 A' : Nat → Nat → Int32} {a w : Int32} (hf : ftP v1 A1 σ a q M w v' A') (hw : ¬ w = 0) : ∃ σ', agr σ a (nI q) = some σ' ∧ NX A' M σ' := by
  rcases hf.2.2.2 with h | ⟨σ', _, h⟩
  · exact absurd h.1 hw
  · exact ⟨σ', h⟩
theorem mtc_1 {r : Rw} {σ : Sg} {c : Nat} (h : agr σ r.1 (nI (pt c 0)) = none) : mtc r σ c = none := by simp [mtc, h]
theorem mtc_2 {r : Rw} {σ σ1 : Sg} {c : Nat} (h : agr σ r.1 (nI (pt c 0)) = some σ1) (h2 : agr σ1 r.2.1 (nI (pt c 1)) = none) : mtc r σ c = none := by simp [mtc, h, h2]
theorem mtc_3 {r : Rw} {σ σ1 σ2 : Sg} {c : Nat} (h : agr σ r.1 (nI (pt c 0)) = some σ1) (h2 : agr σ1 r.2.1 (nI (pt c 1)) = some σ2) : mtc r σ c = agr σ2 r.2.2 (nI (pt c 2)) := by simp [mtc, h, h2]
theorem sl3_no {v v3 v6 : Nat → Int32} {A A3 A6 : Nat → Nat → Int32} {S : St} {fr w i : Nat} {ws : List Sg} {σ : Sg} {r : Rw} (hi : i < (cds (S.1 fr)).length) (hw : ws[w]? = some σ) (h : sl3 v A S fr ws r w i v3 A3) (hk : kp4 (nxt (cds (S.1 fr)) r ws w i).length v3 A3 v6 A6) (hm : mtc r σ ((cds (S.1 fr)).getD i 0) = none) : sl3 v A S fr ws r w (i + 1) (upd v6 45 (nI (nxt (cds (S.1 fr)) r ws w i).length + 0)) A6 := by
  obtain ⟨rfl, hq, hx⟩ := hk
  have e : nxt (cds (S.1 fr)) r ws w (i + 1) = nxt (cds (S.1 fr)) r ws w i := nxt_n hi (by rw [getD_of hw, getD_g hi]; exact hm)
  refine ⟨slB_to h.1 (fun k _ hk => by simp [upd, hk]) (fun k _ hk => hq k hk), by simp [upd, h.2.1], WV_same h.2.2.1 (hq 35 (by decide)), by rw [e]; simp [upd], ?_⟩
  rw [e]
  exact NV_low h.2.2.2.2 hx
theorem sl3_yes {v v3 v6 : Nat → Int32} {A A3 A6 : Nat → Nat → Int32} {S : St} {fr w i : Nat} {ws : List Sg} {σ σ' : Sg} {r : Rw} (hi : i < (cds (S.1 fr)).length) (hw : ws[w]? = some σ) (h : sl3 v A S fr ws r w i v3 A3) (hk : kp4 (nxt (cds (S.1 fr)) r ws w i).length v3 A3 v6 A6) (hm : mtc r σ ((cds (S.1 fr)).getD i 0) = some σ') (hN : NX A6 (nxt (cds (S.1 fr)) r ws w i).length σ') : sl3 v A S fr ws r w (i + 1) (upd v6 45 (nI (nxt (cds (S.1 fr)) r ws w i).length + 1)) A6 := by
  obtain ⟨rfl, hq, hx⟩ := hk
  have e : nxt (cds (S.1 fr)) r ws w (i + 1) = nxt (cds (S.1 fr)) r ws w i ++ [σ'] := nxt_s hi (by rw [getD_of hw, getD_g hi]; exact hm)
  refine ⟨slB_to h.1 (fun k _ hk => by simp [upd, hk]) (fun k _ hk => hq k hk), by simp [upd, h.2.1], WV_same h.2.2.1 (hq 35 (by decide)), by rw [e, List.length_append]; simp [upd, nI_1], ?_⟩
  rw [e]
  exact NV_add (NV_low h.2.2.2.2 hx) hN
theorem sl2_next {v v' : Nat → Int32} {A A' : Nat → Nat → Int32} {S : St} {fr j w : Nat} {ps : List Rw} {r : Rw} (hw : w < (sW S fr ps j).length) (hs : sN S fr ps j + (w + 1) * (cds (S.1 fr)).length ≤ 5000) (h : sl3 v A S fr (sW S fr ps j) r w (cds (S.1 fr)).length v' A') : sl2 v A S fr ps j r (w + 1) (nI (sN S fr ps j + (w + 1) * (cds (S.1 fr)).length)) v' A' := by
  refine ⟨h.1, rfl, hs, h.2.1, h.2.2.1, ?_, ?_⟩
  · rw [← nxt_row hw]; exact h.2.2.2.1
  · rw [← nxt_row hw]; exact h.2.2.2.2
/-- copying back -/
def sl5 (v5 : Nat → Int32) (A5 : Nat → Nat → Int32) (j : Nat) (v' : Nat → Int32) (A' : Nat → Nat → Int32) : Prop := v' = v5 ∧ (∀ q, q ≠ 35 → A' q = A5 q) ∧ ∀ x, x < j → A' 35 x = A5 36 x
theorem sl5_next {v5 v' : Nat → Int32} {A5 A' : Nat → Nat → Int32} {j : Nat} (h : sl5 v5 A5 j v' A') : sl5 v5 A5 (j + 1) v' (u1 A' 35 (upd (A' 35) j (A' 36 j))) := by
  refine ⟨h.1, fun q hq => by rw [← h.2.1 q hq]; simp [u1, hq], fun x hx => ?_⟩
  simp only [u1, if_true, upd]
  split
  · rename_i e; rw [h.2.1 36 (by decide), e]
  · exact h.2.2 x (by omega)
theorem sl1_next {v v2 v5 : Nat → Int32} {A A2 A5 : Nat → Nat → Int32} {S : St} {fr j : Nat} {ps : List Rw} {r : Rw} {sp : Int32} (hj : ps[j]? = some r) (h : sl2 v A S fr ps j r (sW S fr ps j).length sp v2 A2) (h5 : sl5 (upd v2 43 (nI (nxt (cds (S.1 fr)) r (sW S fr ps j) (sW S fr ps j).length 0).length)) A2 (4 * (nxt (cds (S.1 fr)) r (sW S fr ps j) (sW S fr ps j).length 0).length) v5 A5) : sl1 v A S fr ps (j + 1) sp v5 A5 := by
  obtain ⟨rfl, hq, hx⟩ := h5
  have eW : sW S fr ps (j + 1) = nxt (cds (S.1 fr)) r (sW S fr ps j) (sW S fr ps j).length 0 := by rw [nxt_all, sW_step hj]
  have eN : sN S fr ps (j + 1) = sN S fr ps j + (sW S fr ps j).length * (cds (S.1 fr)).length := sN_step hj
  have hl := lev_len (cds (S.1 fr)) r (sW S fr ps j)
  have h5 := h.2.2.1
  refine ⟨slB_to h.1 (fun k hk _ => by simp [upd, hk]) (fun k hk _ => hq k hk), by rw [eN]; exact h.2.1, by rw [eN]; exact h5, by rw [eW]; simp [upd], by rw [sW_step hj]; omega, ?_⟩
  rw [eW]
  intro u σ hu k hk
  have hu1 := (List.getElem?_eq_some_iff.mp hu).1
  rw [hx _ (by omega)]
  exact h.2.2.2.2.2.2 u σ hu k hk
def slP (v : Nat → Int32) (A : Nat → Nat → Int32) (S : St) (fr : Nat) (ps : List Rw) (w' : Int32) (v' : Nat → Int32) (A' : Nat → Nat → Int32) : Prop :=
  FQ v A v' A' ∧ ((w' = 0 ∧ (sols (cds (S.1 fr)) ps (fun _ => -1)).length ≤ 100 ∧ wk (cds (S.1 fr)) ps (fun _ => -1) ≤ 5000 ∧ v' 43 = nI (sols (cds (S.1 fr)) ps (fun _ => -1)).length ∧ v' 41 = v 41 + nI (wk (cds (S.1 fr)) ps (fun _ => -1)) ∧ WV A' (sols (cds (S.1 fr)) ps (fun _ => -1)))
    ∨ (w' = 5 ∧ ¬ ((sols (cds (S.1 fr)) ps (fun _ => -1)).length ≤ 100 ∧ wk (cds (S.1 fr)) ps (fun _ => -1) ≤ 5000)))
theorem sl_no {v v' : Nat → Int32} {A A' : Nat → Nat → Int32} {S : St} {fr j w : Nat} {ps : List Rw} {r : Rw} (hj : ps[j]? = some r) (hw : w < (sW S fr ps j).length) (hf : slB v A S fr v' A') (hs : sN S fr ps j + w * (cds (S.1 fr)).length ≤ 5000) (hl : (cds (S.1 fr)).length ≤ 120) (h : ¬ nI (sN S fr ps j + (w + 1) * (cds (S.1 fr)).length) ≤ nI 5000) : slP v A S fr ps 5 v' A' := by
  refine ⟨hf.1, Or.inr ⟨rfl, fun q => h ?_⟩⟩
  have := sN_lt hj hw
  exact nI_le (by omega) (by decide)
theorem sl_end {v v' : Nat → Int32} {A A' : Nat → Nat → Int32} {S : St} {fr : Nat} {ps : List Rw} {sp : Int32} (h : sl1 v A S fr ps ps.length sp v' A') : (nI (sW S fr ps ps.length).length ≤ nI 100 → slP v A S fr ps 0 (upd v' 41 (v' 41 + sp)) A') ∧ (¬ nI (sW S fr ps ps.length).length ≤ nI 100 → slP v A S fr ps 5 (upd v' 41 (v' 41 + sp)) A') := by
  obtain ⟨hB, hsp, h5, h43, hl, hW⟩ := h
  have hF : FQ v A (upd v' 41 (v' 41 + sp)) A' := ⟨fun k a b c d => by simp [upd, a]; exact hB.1.1 k a b c d, hB.1.2⟩
  have e := sW_end (S := S) (fr := fr) (ps := ps)
  rw [e.1] at h43 hl hW ⊢
  rw [e.2] at hsp h5
  refine ⟨fun q => ⟨hF, Or.inl ⟨rfl, (nI_leI (by omega) (by decide)).mp q, h5, by simp [upd, h43], by simp [upd, hsp, hB.2.1], hW⟩⟩, fun q => ⟨hF, Or.inr ⟨rfl, fun r => q (nI_le r.1 (by decide))⟩⟩⟩
theorem hs5_of {a w n : Nat} (h1 : a + w * n ≤ 5000) (hn : n ≤ 120) (h : nI (a + (w + 1) * n) ≤ nI 5000) : a + (w + 1) * n ≤ 5000 := by
  have h2 : (w + 1) * n = w * n + n := by rw [Nat.add_mul, Nat.one_mul]
  exact (nI_leI (by omega) (by decide)).mp h
theorem nxt_5 {fs : List Nat} {r : Rw} {ws : List Sg} {w i a : Nat} (h : a + (w + 1) * fs.length ≤ 5000) (hi : i < fs.length) : (nxt fs r ws w i).length ≤ 5000 := by
  have h1 := nxt_len (fs := fs) (r := r) (ws := ws) (w := w) (i := i)
  have h2 : (w + 1) * fs.length = w * fs.length + fs.length := by rw [Nat.add_mul, Nat.one_mul]
  omega
theorem nxt_5e {fs : List Nat} {r : Rw} {ws : List Sg} {w a : Nat} (h : a + w * fs.length ≤ 5000) : (nxt fs r ws w 0).length ≤ 5000 := by
  have h1 := nxt_len (fs := fs) (r := r) (ws := ws) (w := w) (i := 0)
  omega
