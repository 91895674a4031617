/-! A row of a template, in the cells. -/
theorem Ct.ofS {l : Launch} {D : va_G} {aC : Nat → ClassId} {b0 : Nat} {y : MethodName} {cc : ByteArray} {maxL : Nat} {ret : Option FieldType} {n mc ms : Nat} {av9 : List Value} {M : ZM} {sz x : Nat} {R : ZM} {iv av : Nat → Nat → Int32} {z : Int32} (h : Ct l D aC b0 y cc maxL ret n mc ms av9 M sz (zpI (fun iv av => cm aC x iv av R) (saP iv av z))) : Ct l D aC b0 y cc maxL ret n mc ms av9 M sz (zd (some (.int z)) (cm aC x iv av R)) :=
  h.imp (fun r M' sz' q => by obtain ⟨w, a, b, rfl, rfl, rfl, rfl, rfl⟩ := q; exact ⟨rfl, rfl⟩)
def TRc (iv av : Nat → Nat → Int32) (i : Nat) (ts : List TR) : Prop := iv (61 + 6 * i + 1) 2 = nI ts.length ∧ ts.length ≤ 6 ∧ (∀ t ∈ ts, okT t) ∧ ∀ j t, ts[j]? = some t → av (61 + 6 * i + 1 + 1) (3 * j) = t.1 ∧ av (61 + 6 * i + 1 + 1) (3 * j + 1) = t.2.1 ∧ av (61 + 6 * i + 1 + 1) (3 * j + 2) = t.2.2.1 ∧ av (61 + 6 * i + 3) j = tI t.2.2.2
theorem TRc.kept {iv av iv' av' : Nat → Nat → Int32} {i : Nat} {ts : List TR} (h : TRc iv av i ts) (hf : FK iv av iv' av') : TRc iv' av' i ts := by
  unfold TRc at h ⊢
  rw [hf.1 (61 + 6 * i + 1) 2 (by omega) (by omega), hf.2 (61 + 6 * i + 1 + 1) (by omega), hf.2 (61 + 6 * i + 3) (by omega)]
  exact h
theorem EC.T {iv av : Nat → Nat → Int32} {i : Nat} {q : Sq} (h : EC iv av i q) (hq : okQ q) : TRc iv av i q.2.2.2.2.1 := ⟨h.2.2.2.2.1, hq.2.2.2.2.2.2.2.2.1, hq.2.2.2.2.2.1, h.2.2.2.2.2.2.1⟩
theorem EC.P {iv av : Nat → Nat → Int32} {i : Nat} {q : Sq} (h : EC iv av i q) (hq : okQ q) : PRc iv av i q.2.2.2.2.2 := ⟨h.2.2.2.2.2.2.2.1, hq.2.2.2.2.2.2.2.2.2.2.1, hq.2.2.2.2.2.2.2.2.2.1, h.2.2.2.2.2.2.2.2.2⟩
theorem SV.kept {iv av iv' av' : Nat → Nat → Int32} {u : Nat} {σ : Sg} (h : SV av u σ) (hf : FC iv av iv' av') : SV av' u σ := fun k hk => by rw [hf.2 27 (by omega)]; exact h k hk
theorem lo_1 {σ : Sg} {t : TR} (h : vl σ t.1 = -1) : lo σ t := Or.inl h
theorem lo_2 {σ : Sg} {t : TR} (h : vl σ t.2.2.1 = -1) : lo σ t := Or.inr (Or.inl h)
theorem lo_3 {σ : Sg} {t : TR} (h : fX8_isName (vl σ t.2.1) = 0) : lo σ t := Or.inr (Or.inr (isName8.mp h))
theorem lo_n {σ : Sg} {t : TR} (h1 : ¬ vl σ t.1 = -1) (h2 : ¬ vl σ t.2.2.1 = -1) (h3 : ¬ fX8_isName (vl σ t.2.1) = 0) : ¬ lo σ t := by
  rintro (q | q | q)
  · exact h1 q
  · exact h2 q
  · exact h3 (isName8.mpr q)
theorem tcd_f {σ : Sg} (hσ : okG σ) {t : TR} (ht : okT t) (ha : t.2.2.2 = false) (hl : ¬ lo σ t) : fX8_factOf (vl σ t.1) (vl σ t.2.1) (vl σ t.2.2.1) = nI (tcd σ t) := by
  have h := tcd_s hσ ht ha hl
  rw [h.2.1, h.2.2.1, h.2.2.2]
  exact factOf_s h.1
theorem SC_del {iv av iv' av' : Nat → Nat → Int32} {S : St} {g c : Nat} (h : SC iv av S) (hg : g < 7) (hi : GC iv' av' (4 + 1 + 2 * g) (pC (S.1 g) c false) (S.2.1 g) ∧ GF (4 + 1 + 2 * g) iv av iv' av') : SC iv' av' (stDel S g c) := by
  refine SC_put1 h hg (okS_del h.1 g c) ?_ hi.2 (fun g' q => pS_k _ _ _ q) (fun _ _ => rfl) rfl
  show GC iv' av' (4 + 1 + 2 * g) (pS S.1 g c false g) (S.2.1 g)
  rw [pS_s]
  exact hi.1
theorem nw_nv {t : Int32} (h : isNw t) : ¬ isV t := fun q => by have := h.2; have := q.1; omega
theorem wb_hid {iv av : Nat → Nat → Int32} {S : St} {σ mk : Sg} {t : Int32} (hS : SC iv av S) (hB : BL av mk) (hok : okm mk) (ht : isNw t ∨ isPn (vl σ t)) : fX8_isNewBlank (vl σ t) = 0 → wbP iv av S σ mk t (vl σ t) iv av := by
  intro h
  have hn : ¬ isNw t := fun q => isNew8.mp h (by rw [show vl σ t = t from if_neg (nw_nv q)]; exact q)
  exact wb_id hS hB hok h hn (ht.resolve_left hn)
theorem wb_het {σ : Sg} {t : Int32} (ht : isNw t ∨ isPn (vl σ t)) : isNw (vl σ t) → vl σ t = t := by
  intro h
  have hn : isNw t := by
    rcases ht with q | q
    · exact q
    · have := q.1; have := h.2; omega
  exact if_neg (nw_nv hn)
theorem wb_no {iv av iv' av' : Nat → Nat → Int32} {S : St} {σ mk : Sg} {t w : Int32} (h : wbP iv av S σ mk t w iv' av') (hw : w = -1) : blk σ S.2.2 mk t = none := by
  rcases h.2 with q | ⟨b1, m1, y, _, hy, e, _⟩
  · exact q.1
  · rw [hw] at e; exact absurd e.symm (nI_n1 (by omega))
theorem wb_ok {iv av iv' av' : Nat → Nat → Int32} {S : St} {σ mk : Sg} {t w : Int32} (h : wbP iv av S σ mk t w iv' av') (hw : ¬ w = -1) : ∃ b1 m1 y, blk σ S.2.2 mk t = some (b1, m1, y) ∧ y < 160 ∧ w = nI y ∧ SC iv' av' (S.1, S.2.1, b1) ∧ BL av' m1 ∧ okm m1 := by
  rcases h.2 with q | q
  · exact absurd q.2.1 hw
  · exact q
def arP (iv av : Nat → Nat → Int32) (to : Nat) (σ : Sg) (S : St) (mk : Sg) (t : TR) (w : Int32) (iv' av' : Nat → Nat → Int32) : Prop := FC iv av iv' av' ∧ ((w = 0 ∧ addRow to σ S mk t = none) ∨ ∃ S' m', w = 1 ∧ addRow to σ S mk t = some (S', m') ∧ SC iv' av' S' ∧ BL av' m' ∧ okm m')
theorem ar_skip {iv av : Nat → Nat → Int32} {to : Nat} {σ : Sg} {S : St} {mk : Sg} {t : TR} (hS : SC iv av S) (hB : BL av mk) (hok : okm mk) (h : lo σ t) : arP iv av to σ S mk t 1 iv av := ⟨FC.refl, Or.inr ⟨S, mk, rfl, if_pos (Or.inr h), hS, hB, hok⟩⟩
theorem ar_no1 {iv av iv' av' : Nat → Nat → Int32} {to : Nat} {σ : Sg} {S : St} {mk : Sg} {t : TR} (ha : t.2.2.2 = true) (hl : ¬ lo σ t) (hf : FC iv av iv' av') (hb : blk σ S.2.2 mk t.1 = none) : arP iv av to σ S mk t 0 iv' av' := ⟨hf, Or.inl ⟨rfl, by rw [addRow_eq ha hl, hb]⟩⟩
theorem ar_no2 {iv av iv' av' : Nat → Nat → Int32} {to : Nat} {σ : Sg} {S : St} {mk m1 : Sg} {t : TR} {b1 y : Nat} (ha : t.2.2.2 = true) (hl : ¬ lo σ t) (hf : FC iv av iv' av') (hb : blk σ S.2.2 mk t.1 = some (b1, m1, y)) (hc : blk σ b1 m1 t.2.2.1 = none) : arP iv av to σ S mk t 0 iv' av' := ⟨hf, Or.inl ⟨rfl, by rw [addRow_eq ha hl, hb]; simp only [hc]⟩⟩
theorem ar_no3 {iv av iv' av' : Nat → Nat → Int32} {to : Nat} {σ : Sg} {S : St} {mk m1 m2 : Sg} {t : TR} {b1 y b2 z : Nat} (ha : t.2.2.2 = true) (hl : ¬ lo σ t) (hf : FC iv av iv' av') (hb : blk σ S.2.2 mk t.1 = some (b1, m1, y)) (hc : blk σ b1 m1 t.2.2.1 = some (b2, m2, z)) (hd : stPut (S.1, S.2.1, b2) to (cd y (nn (vl σ t.2.1)) z) = none) : arP iv av to σ S mk t 0 iv' av' := ⟨hf, Or.inl ⟨rfl, by rw [addRow_eq ha hl, hb]; simp only [hc, hd]⟩⟩
theorem ar_ok {iv av iv' av' : Nat → Nat → Int32} {to : Nat} {σ : Sg} {S S' : St} {mk m1 m2 : Sg} {t : TR} {b1 y b2 z : Nat} (ha : t.2.2.2 = true) (hl : ¬ lo σ t) (hf : FC iv av iv' av') (hb : blk σ S.2.2 mk t.1 = some (b1, m1, y)) (hc : blk σ b1 m1 t.2.2.1 = some (b2, m2, z)) (hd : stPut (S.1, S.2.1, b2) to (cd y (nn (vl σ t.2.1)) z) = some S') (hS : SC iv' av' S') (hB : BL av' m2) (hok : okm m2) : arP iv av to σ S mk t 1 iv' av' := ⟨hf, Or.inr ⟨S', m2, rfl, by rw [addRow_eq ha hl, hb]; simp only [hc, hd], hS, hB, hok⟩⟩
theorem pt_nn {iv av iv' av' : Nat → Nat → Int32} {S : St} {g c : Nat} {w : Int32} (h : ptP iv av S g c w iv' av') (hw : w = 0) : stPut S g c = none := by
  rcases h.2.2 with q | ⟨_, e, _⟩
  · exact q.2
  · rw [hw] at e; exact absurd e (by decide)
theorem pt_ok {iv av iv' av' : Nat → Nat → Int32} {S : St} {g c : Nat} {w : Int32} (h : ptP iv av S g c w iv' av') (hw : ¬ w = 0) : ∃ S', stPut S g c = some S' ∧ SC iv' av' S' := by
  rcases h.2.2 with q | ⟨S', _, e⟩
  · exact absurd q.1 hw
  · exact ⟨S', e⟩
