/-! The reference's store, and what its small methods do to it. -/
def tI (b : Bool) : Int32 := if b then 1 else 0
theorem tI_b (b : Bool) : tI b = 0 ∨ tI b = 1 := by cases b <;> simp [tI]
def RLs (v : Nat → Int32) (A : Nat → Nat → Int32) (S : St) (n : Nat) (rw' : Nat → Nat × Nat) : Prop :=
  v 20 = nI n ∧ (∀ i j, i < n → j < n → rw' i = rw' j → i = j) ∧ (∀ g c, S.1 g c = true ↔ ∃ i, i < n ∧ rw' i = (g, c)) ∧
  (∀ i, i < n → A 19 i = nI (rw' i).1 ∧ A 20 i = nI (pt (rw' i).2 0) ∧ A 21 i = nI (pt (rw' i).2 1) ∧ A 22 i = nI (pt (rw' i).2 2)) ∧
  (∀ g, g < 7 → A 23 g = tI (S.2.1 g)) ∧ v 26 = nI S.2.2
def RC (v : Nat → Int32) (A : Nat → Nat → Int32) (S : St) : Prop := okS S ∧ ∃ n f, RLs v A S n f
/-- what the methods of the reference's store leave as it is -/
def FR (v : Nat → Int32) (A : Nat → Nat → Int32) (v' : Nat → Int32) (A' : Nat → Nat → Int32) : Prop :=
  (∀ k, k ≠ 20 → k ≠ 26 → v' k = v k) ∧ (∀ k, k < 19 ∨ (23 < k ∧ k ≠ 38) → A' k = A k)
theorem FR.refl {v : Nat → Int32} {A : Nat → Nat → Int32} : FR v A v A := ⟨fun _ _ _ => rfl, fun _ _ => rfl⟩
theorem FR.trans {v v1 v2 : Nat → Int32} {A A1 A2 : Nat → Nat → Int32} (h : FR v A v1 A1) (h2 : FR v1 A1 v2 A2) : FR v A v2 A2 :=
  ⟨fun k a b => (h2.1 k a b).trans (h.1 k a b), fun k a => (h2.2 k a).trans (h.2 k a)⟩
theorem RL_n {v : Nat → Int32} {A : Nat → Nat → Int32} {S : St} {n : Nat} {f : Nat → Nat × Nat} (h : RLs v A S n f) (ho : okS S) : n = card S.1 ∧ n ≤ 120 := by
  have e : n = card S.1 := by
    have := card_eq ho.1 (L := (List.range n).map f) (by
      unfold List.Nodup
      rw [List.pairwise_map]
      refine (List.nodup_range (n := n)).imp_of_mem (fun {a b} ha hb hne he => hne ?_)
      exact h.2.1 a b (List.mem_range.mp ha) (List.mem_range.mp hb) he) (fun g c => by
      rw [List.mem_map, h.2.2.1]
      simp only [List.mem_range])
    simpa using this
  exact ⟨e, e ▸ ho.2.1⟩
theorem RL_ok {v : Nat → Int32} {A : Nat → Nat → Int32} {S : St} {n : Nat} {f : Nat → Nat × Nat} (h : RLs v A S n f) (ho : okS S) {i : Nat} (hi : i < n) : (f i).1 < 7 ∧ okc (f i).2 :=
  ho.1 _ _ ((h.2.2.1 _ _).mpr ⟨i, hi, rfl⟩)
/-- find, whatever the numbers are -/
theorem find_g (A : Nat → Nat → Int32) (a b c d : Int32) : ∀ n, n < 2 ^ 31 → (stX9_find_6 A a b c d (-1) n = -1 ∧ ∀ i, i < n → ¬ (A 19 i = a ∧ A 20 i = b ∧ A 21 i = c ∧ A 22 i = d)) ∨ ∃ j, j < n ∧ stX9_find_6 A a b c d (-1) n = nI j ∧ A 19 j = a ∧ A 20 j = b ∧ A 21 j = c ∧ A 22 j = d := by
  intro n
  induction n with
  | zero => intro _; exact Or.inl ⟨rfl, fun i hi => absurd hi (Nat.not_lt_zero _)⟩
  | succ n ih =>
    intro hn
    have ih := ih (by omega)
    by_cases q : A 19 n = a ∧ A 20 n = b ∧ A 21 n = c ∧ A 22 n = d
    · refine Or.inr ⟨n, by omega, ?_, q⟩
      simp only [stX9_find_6, nI_clamp (show n < 2 ^ 31 by omega)]
      rw [if_pos q.1, if_pos q.2.1, if_pos q.2.2.1, if_pos q.2.2.2]
    · have e : stX9_find_6 A a b c d (-1) (n + 1) = stX9_find_6 A a b c d (-1) n := by
        simp only [stX9_find_6, nI_clamp (show n < 2 ^ 31 by omega)]
        split
        · split
          · split
            · split
              · rename_i h1 h2 h3 h4; exact absurd ⟨h1, h2, h3, h4⟩ q
              · rfl
            · rfl
          · rfl
        · rfl
      rw [e]
      rcases ih with ⟨h1, h2⟩ | ⟨j, hj, h⟩
      · refine Or.inl ⟨h1, fun i hi => ?_⟩
        by_cases hin : i = n
        · rw [hin]; exact q
        · exact h2 i (by omega)
      · exact Or.inr ⟨j, by omega, h⟩
theorem nIpt {c c' : Nat} (h : okc c) (h' : okc c') (e0 : nI (pt c 0) = nI (pt c' 0)) (e1 : nI (pt c 1) = nI (pt c' 1)) (e2 : nI (pt c 2) = nI (pt c' 2)) : c = c' := by
  have b : ∀ k, pt c k < 2 ^ 31 := fun k => by have := pt_lt h k; omega
  have b' : ∀ k, pt c' k < 2 ^ 31 := fun k => by have := pt_lt h' k; omega
  rw [nI_eq (b 0) (b' 0)] at e0
  rw [nI_eq (b 1) (b' 1)] at e1
  rw [nI_eq (b 2) (b' 2)] at e2
  exact pt_inj e0 e1 e2
theorem find_s {v : Nat → Int32} {A : Nat → Nat → Int32} {S : St} {n : Nat} {f : Nat → Nat × Nat} (h : RLs v A S n f) (ho : okS S) {g c : Nat} (hg : g < 7) (hc : okc c) :
    (S.1 g c = false ∧ fX9_find v A (nI g) (nI (pt c 0)) (nI (pt c 1)) (nI (pt c 2)) = -1) ∨ ∃ j, j < n ∧ f j = (g, c) ∧ S.1 g c = true ∧ fX9_find v A (nI g) (nI (pt c 0)) (nI (pt c 1)) (nI (pt c 2)) = nI j := by
  have hn := (RL_n h ho).2
  unfold fX9_find
  rw [h.1, nI_clamp (by omega)]
  rcases find_g A (nI g) (nI (pt c 0)) (nI (pt c 1)) (nI (pt c 2)) n (by omega) with ⟨h1, h2⟩ | ⟨j, hj, h1, h2⟩
  · refine Or.inl ⟨?_, h1⟩
    rw [← Bool.not_eq_true]
    intro q
    obtain ⟨i, hi, e⟩ := (h.2.2.1 g c).mp q
    have r := h.2.2.2.1 i hi
    rw [e] at r
    exact h2 i hi r
  · have r := h.2.2.2.1 j hj
    have hk := RL_ok h ho hj
    have e1 : (f j).1 = g := by
      have := r.1.symm.trans h2.1
      rwa [nI_eq (by omega) (by omega)] at this
    have e2 : (f j).2 = c := nIpt hk.2 hc (r.2.1.symm.trans h2.2.1) (r.2.2.1.symm.trans h2.2.2.1) (r.2.2.2.symm.trans h2.2.2.2)
    have e : f j = (g, c) := by rw [← e1, ← e2]
    exact Or.inr ⟨j, hj, e, (h.2.2.1 g c).mpr ⟨j, hj, e⟩, h1⟩
theorem neg1_lt : (-1 : Int32) < 0 := by decide
theorem come_s {v : Nat → Int32} {A : Nat → Nat → Int32} {S : St} (h : RC v A S) {g c : Nat} (hg : g < 7) (hc : okc c) (ht : S.2.1 g = true) :
    FR v A (fX9_come v A (nI g) (nI (pt c 0)) (nI (pt c 1)) (nI (pt c 2))).2.1 (fX9_come v A (nI g) (nI (pt c 0)) (nI (pt c 1)) (nI (pt c 2))).2.2 ∧
    ((stPut S g c = none ∧ (fX9_come v A (nI g) (nI (pt c 0)) (nI (pt c 1)) (nI (pt c 2))).1 = 0) ∨ ∃ S', stPut S g c = some S' ∧ (fX9_come v A (nI g) (nI (pt c 0)) (nI (pt c 1)) (nI (pt c 2))).1 = 1 ∧ RC (fX9_come v A (nI g) (nI (pt c 0)) (nI (pt c 1)) (nI (pt c 2))).2.1 (fX9_come v A (nI g) (nI (pt c 0)) (nI (pt c 1)) (nI (pt c 2))).2.2 S') := by
  obtain ⟨ho, n, f, h⟩ := h
  have hn := RL_n h ho
  have htt : tS S.2.1 g true = S.2.1 := by
    funext g'; unfold tS; split
    · rename_i e; rw [e, ht]
    · rfl
  rcases find_s h ho hg hc with ⟨hf, e⟩ | ⟨j, hj, hfj, hf, e⟩
  · have e0 : fX9_find v A (nI g) (nI (pt c 0)) (nI (pt c 1)) (nI (pt c 2)) < 0 := by rw [e]; exact neg1_lt
    by_cases hfull : n = 120
    · have e1 : v 20 = 120 := by rw [h.1, hfull]; rfl
      refine ⟨?_, Or.inl ⟨?_, ?_⟩⟩
      · simp only [fX9_come, if_pos e0, if_pos e1]; exact FR.refl
      · unfold stPut; rw [if_neg (by rw [hf]; decide), if_pos (by omega)]
      · simp only [fX9_come, if_pos e0, if_pos e1]
    · have e1 : ¬ v 20 = 120 := by
        rw [h.1, show (120 : Int32) = nI 120 from rfl, nI_eq (by omega) (by omega)]; exact hfull
      have e2 : (v 20).toNatClampNeg = n := by rw [h.1, nI_clamp (by omega)]
      simp only [fX9_come, if_pos e0, if_neg e1, e2]
      refine ⟨⟨fun k a _ => by simp [upd, a], fun k a => ?_⟩, Or.inr ⟨(pS S.1 g c true, S.2.1, S.2.2), ?_, trivial, ?_, n + 1, fun i => if i = n then (g, c) else f i, ?_⟩⟩
      · simp [u1, show k ≠ 19 by omega, show k ≠ 20 by omega, show k ≠ 21 by omega, show k ≠ 22 by omega]
      · unfold stPut; rw [if_neg (by rw [hf]; decide), if_neg (by omega), htt]
      · have := okS_put (S' := (pS S.1 g c true, S.2.1, S.2.2)) ho hg hc (by unfold stPut; rw [if_neg (by rw [hf]; decide), if_neg (by omega), htt])
        exact this
      · refine ⟨?_, ?_, ?_, ?_, ?_, ?_⟩
        · simp [upd, h.1, nI_1]
        · intro i j hi hj he
          dsimp only at he
          have key : ∀ j, j < n → f j ≠ (g, c) := fun j hj q => by
            have := (h.2.2.1 g c).mpr ⟨j, hj, q⟩
            rw [hf] at this; cases this
          split at he <;> split at he
          · omega
          · exact absurd he.symm (key j (by omega))
          · exact absurd he (key i (by omega))
          · exact h.2.1 i j (by omega) (by omega) he
        · intro g' c'
          show pS S.1 g c true g' c' = true ↔ _
          unfold pS
          constructor
          · intro q
            split at q
            · rename_i e; exact ⟨n, by omega, by simp [e.1, e.2]⟩
            · obtain ⟨i, hi, r⟩ := (h.2.2.1 g' c').mp q
              exact ⟨i, by omega, by simp [show i ≠ n by omega, r]⟩
          · rintro ⟨i, hi, r⟩
            split
            · rfl
            · rename_i hne
              dsimp only at r
              split at r
              · cases r; exact absurd ⟨rfl, rfl⟩ hne
              · exact (h.2.2.1 g' c').mpr ⟨i, by omega, r⟩
        · intro i hi
          by_cases q : i = n
          · simp [u1, upd, q]
          · have := h.2.2.2.1 i (by omega)
            simp [u1, upd, q, this]
        · intro g' hg'
          simp only [u1]
          exact h.2.2.2.2.1 g' hg'
        · simp only [upd]
          exact h.2.2.2.2.2
  · have e0 : ¬ fX9_find v A (nI g) (nI (pt c 0)) (nI (pt c 1)) (nI (pt c 2)) < 0 := by rw [e]; exact nI_pos (by omega)
    simp only [fX9_come, if_neg e0]
    refine ⟨FR.refl, Or.inr ⟨S, ?_, trivial, ho, n, f, h⟩⟩
    unfold stPut; rw [if_pos hf, htt]
theorem leave_s {v : Nat → Int32} {A : Nat → Nat → Int32} {S : St} {n : Nat} {f : Nat → Nat × Nat} (h : RLs v A S (n + 1) f) (hn : n + 1 ≤ 120) {k : Nat} (hk : k < n + 1) :
    FR v A (fX9_leave v A (nI k)).1 (fX9_leave v A (nI k)).2 ∧ RLs (fX9_leave v A (nI k)).1 (fX9_leave v A (nI k)).2 (stDel S (f k).1 (f k).2) n (fun i => if i = k then f n else f i) := by
  have e1 : v 20 - 1 = nI n := by rw [h.1]; exact nI_p1 n
  simp only [fX9_leave, e1, nI_clamp (show n < 2 ^ 31 by omega), nI_clamp (show k < 2 ^ 31 by omega)]
  refine ⟨⟨fun k a _ => by simp [upd, a], fun k a => ?_⟩, ?_, ?_, ?_, ?_, ?_, ?_⟩
  · simp [u1, show k ≠ 19 by omega, show k ≠ 20 by omega, show k ≠ 21 by omega, show k ≠ 22 by omega]
  · simp [upd]
  · intro i j hi hj he
    dsimp only at he
    split at he <;> split at he
    · omega
    · have := h.2.1 n j (by omega) (by omega) he; omega
    · have := h.2.1 i n (by omega) (by omega) he; omega
    · exact h.2.1 i j (by omega) (by omega) he
  · intro g c
    show pS S.1 (f k).1 (f k).2 false g c = true ↔ _
    unfold pS
    constructor
    · intro q
      split at q
      · cases q
      · rename_i hne
        obtain ⟨i, hi, r⟩ := (h.2.2.1 g c).mp q
        have hik : i ≠ k := fun e => hne (by rw [← e, r]; exact ⟨rfl, rfl⟩)
        by_cases hin : i = n
        · subst hin; exact ⟨k, by omega, by simp [r]⟩
        · exact ⟨i, by omega, by simp [hik, r]⟩
    · rintro ⟨i, hi, r⟩
      dsimp only at r
      have key : ∀ j, j < n + 1 → f j = (g, c) → j ≠ k → (if g = (f k).1 ∧ c = (f k).2 then false else S.1 g c) = true := by
        intro j hj hr hjk
        rw [if_neg (fun e => hjk (h.2.1 j k hj hk (by rw [hr, e.1, e.2]))), (h.2.2.1 g c).mpr ⟨j, hj, hr⟩]
      split at r
      · exact key n (by omega) r (by omega)
      · exact key i (by omega) r (by assumption)
  · intro i hi
    by_cases q : i = k
    · have := h.2.2.2.1 n (by omega)
      simp [u1, upd, q, this]
    · have := h.2.2.2.1 i (by omega)
      simp [u1, upd, q, this]
  · intro g' hg'
    simp only [u1]
    exact h.2.2.2.2.1 g' hg'
  · simp only [upd]
    exact h.2.2.2.2.2
theorem take_s {v : Nat → Int32} {A : Nat → Nat → Int32} {S : St} (h : RC v A S) {g c : Nat} (hg : g < 7) (hc : okc c) :
    FR v A (fX9_take v A (nI g) (nI (pt c 0)) (nI (pt c 1)) (nI (pt c 2))).1 (fX9_take v A (nI g) (nI (pt c 0)) (nI (pt c 1)) (nI (pt c 2))).2 ∧ RC (fX9_take v A (nI g) (nI (pt c 0)) (nI (pt c 1)) (nI (pt c 2))).1 (fX9_take v A (nI g) (nI (pt c 0)) (nI (pt c 1)) (nI (pt c 2))).2 (stDel S g c) := by
  obtain ⟨ho, n, f, h⟩ := h
  have hn := RL_n h ho
  rcases find_s h ho hg hc with ⟨hf, e⟩ | ⟨j, hj, hfj, hf, e⟩
  · have e0 : fX9_find v A (nI g) (nI (pt c 0)) (nI (pt c 1)) (nI (pt c 2)) < 0 := by rw [e]; exact neg1_lt
    simp only [fX9_take, if_pos e0]
    refine ⟨FR.refl, okS_del ho g c, n, f, ?_⟩
    unfold stDel
    rw [pS_same hf]
    exact h
  · have e0 : ¬ fX9_find v A (nI g) (nI (pt c 0)) (nI (pt c 1)) (nI (pt c 2)) < 0 := by rw [e]; exact nI_pos (by omega)
    simp only [fX9_take, if_neg e0]
    rw [e]
    obtain ⟨m, rfl⟩ : ∃ m, n = m + 1 := ⟨n - 1, by omega⟩
    have := leave_s h hn.2 hj
    rw [hfj] at this
    exact ⟨this.1, okS_del ho g c, _, _, this.2⟩
theorem emS_s (g : Nat) (hg : g < 7) : ∀ (d k : Nat) (v : Nat → Int32) (A : Nat → Nat → Int32) (S : St) (f : Nat → Nat × Nat), RLs v A S (k + d) f → okS S → (∀ i, i < k → (f i).1 ≠ g) →
    FR v A (emS (nI g) d k v A).1 (emS (nI g) d k v A).2 ∧ RC (emS (nI g) d k v A).1 (emS (nI g) d k v A).2 (pG S.1 g (fun _ => false), S.2)
  | 0, k, v, A, S, f, h, ho, hk => by
    refine ⟨FR.refl, ?_, k, f, ?_⟩
    all_goals
      have e : pG S.1 g (fun _ => false) = S.1 := by
        funext g' c'
        unfold pG
        split
        · rename_i e
          subst e
          refine (Bool.eq_false_iff.mpr (fun q => ?_)).symm
          obtain ⟨i, hi, r⟩ := (h.2.2.1 g' c').mp q
          exact hk i hi (by rw [r])
        · rfl
      rw [e]
    · exact ho
    · exact h
  | d + 1, k, v, A, S, f, h, ho, hk => by
    have hn := (RL_n h ho).2
    have hr := (h.2.2.2.1 k (by omega)).1
    have hlt := (RL_ok h ho (show k < k + (d + 1) by omega)).1
    by_cases q : (f k).1 = g
    · have c1 : A 19 (Int32.toNatClampNeg (nI k)) = nI g := by rw [nI_clamp (by omega), hr, q]
      simp only [emS, if_pos c1]
      have hL := leave_s (n := k + d) h hn (k := k) (by omega)
      have := emS_s g hg d k _ _ _ _ hL.2 (okS_del ho _ _) (fun i hi => by simp [show i ≠ k by omega, hk i hi])
      refine ⟨hL.1.trans this.1, ?_⟩
      have e : pG (stDel S (f k).1 (f k).2).1 g (fun _ => false) = pG S.1 g (fun _ => false) := by
        funext g' c'
        unfold pG stDel pS
        split
        · rfl
        · rename_i hne
          dsimp only
          rw [if_neg (fun e => hne (by rw [e.1, q]))]
      rw [e] at this
      exact this.2
    · have c1 : ¬ A 19 (Int32.toNatClampNeg (nI k)) = nI g := by
        rw [nI_clamp (by omega), hr, nI_eq (by omega) (by omega)]; exact q
      simp only [emS, if_neg c1]
      exact emS_s g hg d (k + 1) v A S f (by rw [show k + 1 + d = k + (d + 1) by omega]; exact h) ho (fun i hi => by
        by_cases e : i = k
        · rw [e]; exact q
        · exact hk i (by omega))
theorem empty_s {v : Nat → Int32} {A : Nat → Nat → Int32} {S : St} (h : RC v A S) {g : Nat} (hg : g < 7) : FR v A (fX9_empty v A (nI g)).1 (fX9_empty v A (nI g)).2 ∧ RC (fX9_empty v A (nI g)).1 (fX9_empty v A (nI g)).2 (pG S.1 g (fun _ => false), S.2) := by
  obtain ⟨ho, n, f, h⟩ := h
  have hn := RL_n h ho
  simp only [fX9_empty]
  rw [h.1, nI_clamp (by omega)]
  exact emS_s g hg n 0 v A S f (by rw [Nat.zero_add]; exact h) ho (fun i hi => absurd hi (Nat.not_lt_zero _))
