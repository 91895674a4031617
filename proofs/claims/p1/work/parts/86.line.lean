/-! The facts of a graph lined up: the reference's order is the sorted one. -/
theorem grl_nodup {v : Nat → Int32} {A : Nat → Nat → Int32} {S : St} {n : Nat} {f : Nat → Nat × Nat} (h : RLs v A S n f) (g : Nat) : ∀ m, m ≤ n → (grl f g m).Nodup
  | 0, _ => by simp [grl]
  | m + 1, hm => by
    unfold grl
    have ih := grl_nodup h g m (by omega)
    split
    · rename_i e
      refine List.nodup_append.mpr ⟨ih, by simp, fun a ha b hb => ?_⟩
      rw [List.mem_singleton] at hb
      subst hb
      intro q
      subst q
      obtain ⟨i, hi, r⟩ := (grl_mem m).mp ha
      have := h.2.1 i m (by omega) (by omega) (by rw [r, ← e])
      omega
    · exact ih
theorem grl_perm {v : Nat → Int32} {A : Nat → Nat → Int32} {S : St} {n : Nat} {f : Nat → Nat × Nat} (h : RLs v A S n f) (ho : okS S) (g : Nat) : (grl f g n).Perm (cds (S.1 g)) :=
  (List.perm_ext_iff_of_nodup (grl_nodup h g n (Nat.le_refl _)) (srt_nodup (cds_srt _))).mpr (fun c => by rw [grl_mem, cds_mem (okP_g ho.1 g), h.2.2.1])
theorem isBefore_s {v : Nat → Int32} {A : Nat → Nat → Int32} {S : St} {n : Nat} {f : Nat → Nat × Nat} (h : RLs v A S n f) (ho : okS S) {i k : Nat} (hi : i < n) (hk : k < n) : fX9_isBefore A (nI i) (nI k) = 0 ↔ ¬ (f i).2 < (f k).2 := by
  have hn := (RL_n h ho).2
  have ri := h.2.2.2.1 i hi
  have rk := h.2.2.2.1 k hk
  have oi := (RL_ok h ho hi).2
  have ok := (RL_ok h ho hk).2
  have bi : ∀ q, pt (f i).2 q < 2 ^ 31 := fun q => by have := pt_lt oi q; omega
  have bk : ∀ q, pt (f k).2 q < 2 ^ 31 := fun q => by have := pt_lt ok q; omega
  unfold fX9_isBefore
  rw [nI_clamp (show i < 2 ^ 31 by omega), nI_clamp (show k < 2 ^ 31 by omega), ri.2.1, ri.2.2.1, ri.2.2.2, rk.2.1, rk.2.2.1, rk.2.2.2, pt_lex]
  simp only [nI_eq (bi 0) (bk 0), nI_eq (bi 1) (bk 1), nI_leI (bk 0) (bi 0), nI_leI (bk 1) (bi 1), nI_leI (bk 2) (bi 2)]
  by_cases q0 : pt (f i).2 0 = pt (f k).2 0
  · rw [if_pos q0, if_pos q0]
    by_cases q1 : pt (f i).2 1 = pt (f k).2 1
    · rw [if_pos q1, if_pos q1]
      by_cases q2 : pt (f k).2 2 ≤ pt (f i).2 2
      · rw [if_pos q2]; exact ⟨fun _ => by omega, fun _ => rfl⟩
      · rw [if_neg q2]; exact ⟨fun r => absurd r (by decide), fun r => by omega⟩
    · rw [if_neg q1, if_neg q1]
      by_cases q2 : pt (f k).2 1 ≤ pt (f i).2 1
      · rw [if_pos q2]; exact ⟨fun _ => by omega, fun _ => rfl⟩
      · rw [if_neg q2]; exact ⟨fun r => absurd r (by decide), fun r => by omega⟩
  · rw [if_neg q0, if_neg q0]
    by_cases q2 : pt (f k).2 0 ≤ pt (f i).2 0
    · rw [if_pos q2]; exact ⟨fun _ => by omega, fun _ => rfl⟩
    · rw [if_neg q2]; exact ⟨fun r => absurd r (by decide), fun r => by omega⟩
theorem lu7_s {v : Nat → Int32} {A : Nat → Nat → Int32} {S : St} {n : Nat} {f : Nat → Nat × Nat} (h : RLs v A S n f) (ho : okS S) {g : Nat} (hg : g < 7) : ∀ m, m ≤ n → stX9_lineUp_7 A (nI g) 0 m = nI (grl f g m).length
  | 0, _ => rfl
  | m + 1, hm => by
    have hn := (RL_n h ho).2
    have r := (h.2.2.2.1 m (by omega)).1
    have o7 := (RL_ok h ho (show m < n by omega)).1
    simp only [stX9_lineUp_7, lu7_s h ho hg m (by omega), nI_clamp (show m < 2 ^ 31 by omega), r, grl, nI_eq (show (f m).1 < 2 ^ 31 by omega) (show g < 2 ^ 31 by omega)]
    split
    · rw [List.length_append, nI_1]; rfl
    · simp
theorem lu70_s {v : Nat → Int32} {A : Nat → Nat → Int32} {S : St} {n : Nat} {f : Nat → Nat × Nat} (h : RLs v A S n f) (ho : okS S) {g k : Nat} (hg : g < 7) (hk : k < n) (B : Nat → Nat → Int32) (hB : ∀ q, q ≠ 37 → B q = A q) : ∀ m, m ≤ n → stX9_lineUp_70 B k (nI g) 0 m = nI ((grl f g m).countP (fun c => decide (c < (f k).2)))
  | 0, _ => rfl
  | m + 1, hm => by
    have hn := (RL_n h ho).2
    have r := (h.2.2.2.1 m (by omega)).1
    have o7 := (RL_ok h ho (show m < n by omega)).1
    have hb : fX9_isBefore B (nI m) (nI k) = fX9_isBefore A (nI m) (nI k) := by
      unfold fX9_isBefore
      rw [hB 20 (by decide), hB 21 (by decide), hB 22 (by decide)]
    have hbs := isBefore_s h ho (show m < n by omega) hk
    simp only [stX9_lineUp_70, lu70_s h ho hg hk B hB m (by omega), nI_clamp (show m < 2 ^ 31 by omega), hB 19 (by decide), r, grl, nI_eq (show (f m).1 < 2 ^ 31 by omega) (show g < 2 ^ 31 by omega), hb]
    split
    · rw [List.countP_append]
      split
      · rename_i q
        rw [List.countP_cons_of_neg (by simpa using hbs.mp q)]
        simp
      · rename_i q
        have q2 : (f m).2 < (f k).2 := Decidable.not_not.mp (fun s => q (hbs.mpr s))
        rw [List.countP_cons_of_pos (by simpa using q2), nI_1]
        rfl
    · simp
/-- how many facts stand before one: its place -/
theorem countP_srt {l : List Nat} (h : srt l) : ∀ {i : Nat}, i < l.length → l.countP (fun c => decide (c < l.getD i 0)) = i := by
  induction l with
  | nil => intro i hi; exact absurd hi (Nat.not_lt_zero _)
  | cons a l ih =>
    intro i hi
    have hp := List.pairwise_cons.mp h
    cases i with
    | zero =>
      rw [List.countP_eq_zero]
      intro b hb
      rcases List.mem_cons.mp hb with q | q
      · simp [q]
      · have := hp.1 b q; simp; omega
    | succ i =>
      have hi : i < l.length := by simpa using hi
      have e : (a :: l).getD (i + 1) 0 = l.getD i 0 := by simp
      rw [e, List.countP_cons_of_pos (by have := hp.1 _ (getD_mem hi); simpa using this), ih hp.2 hi]
theorem lu47_s {v : Nat → Int32} {A : Nat → Nat → Int32} {S : St} {n : Nat} {f : Nat → Nat × Nat} (h : RLs v A S n f) (ho : okS S) {g : Nat} (hg : g < 7) (v1 : Nat → Int32) (hv1 : v1 20 = nI n) (o : Nat → Int32) : ∀ m, m ≤ n → ∀ i k, k < m → (f k).1 = g → i < (cds (S.1 g)).length → (f k).2 = (cds (S.1 g)).getD i 0 → stX9_lineUp_47 v1 A (nI g) o m i = nI k
  | 0, _ => fun i k hk => absurd hk (Nat.not_lt_zero _)
  | m + 1, hm => by
    intro i k hk hgk hi hc
    have hn := (RL_n h ho).2
    have r := (h.2.2.2.1 m (by omega)).1
    have o7 := (RL_ok h ho (show m < n by omega)).1
    have ih := lu47_s h ho hg v1 hv1 o m (by omega)
    simp only [stX9_lineUp_47, nI_clamp (show m < 2 ^ 31 by omega), r, nI_eq (show (f m).1 < 2 ^ 31 by omega) (show g < 2 ^ 31 by omega), hv1, nI_clamp (show n < 2 ^ 31 by omega)]
    have hcnt : ∀ q, q < n → (f q).1 = g → ∀ i', i' < (cds (S.1 g)).length → (f q).2 = (cds (S.1 g)).getD i' 0 → (grl f g n).countP (fun c => decide (c < (f q).2)) = i' := by
      intro q hq hgq i' hi' hcq
      rw [(grl_perm h ho g).countP_eq, hcq, countP_srt (cds_srt _) hi']
    split
    · rename_i e
      have hmc : (f m).2 ∈ cds (S.1 g) := (cds_mem (okP_g ho.1 g)).mpr ((h.2.2.1 g _).mpr ⟨m, by omega, by rw [← e]⟩)
      obtain ⟨im, him, eim⟩ := mem_getD hmc
      have hle : (cds (S.1 g)).length ≤ 120 := Nat.le_trans (cds_le_card S.1 hg) ho.2.1
      rw [lu70_s h ho hg (show m < n by omega) _ (fun q hq => by simp [u1, hq]) n (Nat.le_refl _), hcnt m (by omega) e im him eim.symm, nI_clamp (by omega)]
      unfold upd
      split
      · rename_i q
        subst q
        have : k = m := h.2.1 k m (by omega) (by omega) (Prod.ext (hgk.trans e.symm) (hc.trans eim))
        rw [this]
      · rename_i q
        have hkm : k ≠ m := fun s => by
          subst s
          rw [hc] at eim
          rcases Nat.lt_trichotomy i im with s | s | s
          · have := srt_get (cds_srt (S.1 g)) s him; omega
          · exact q s
          · have := srt_get (cds_srt (S.1 g)) s hi; omega
        exact ih i k (by omega) hgk hi hc
    · rename_i e
      have hkm : k ≠ m := fun s => e (by rw [← s]; exact hgk)
      exact ih i k (by omega) hgk hi hc
theorem lineUp_s {v : Nat → Int32} {A : Nat → Nat → Int32} {S : St} {n : Nat} {f : Nat → Nat × Nat} (h : RLs v A S n f) (ho : okS S) {g : Nat} (hg : g < 7) :
    (fX9_lineUp v A (nI g)).1 47 = nI (cds (S.1 g)).length ∧ (∀ k, k ≠ 47 → (fX9_lineUp v A (nI g)).1 k = v k) ∧ (∀ k, k ≠ 37 → (fX9_lineUp v A (nI g)).2 k = A k) ∧
    ∀ i, i < (cds (S.1 g)).length → ∃ t, t < n ∧ (fX9_lineUp v A (nI g)).2 37 i = nI t ∧ f t = (g, (cds (S.1 g)).getD i 0) := by
  have hn := (RL_n h ho).2
  simp only [fX9_lineUp, h.1, nI_clamp (show n < 2 ^ 31 by omega), lu7_s h ho hg n (Nat.le_refl _), (grl_perm h ho g).length_eq]
  refine ⟨by simp [upd], fun k hk => by simp [upd, hk], fun k hk => by simp [u1, hk], fun i hi => ?_⟩
  have hm := getD_mem hi
  obtain ⟨t, ht, e⟩ := (h.2.2.1 g _).mp ((cds_mem (okP_g ho.1 g)).mp hm)
  refine ⟨t, ht, ?_, e⟩
  simp only [u1, if_true]
  exact lu47_s h ho hg _ (by simp [upd, h.1]) _ n (Nat.le_refl _) i t ht (by rw [e]) hi (by rw [e])
/-- what lineUp leaves behind -/
def luP (v : Nat → Int32) (A : Nat → Nat → Int32) (S : St) (g : Nat) (v' : Nat → Int32) (A' : Nat → Nat → Int32) : Prop :=
  v' 47 = nI (cds (S.1 g)).length ∧ (∀ k, k ≠ 47 → v' k = v k) ∧ (∀ k, k ≠ 37 → A' k = A k) ∧ ∀ i, i < (cds (S.1 g)).length → ∃ t, t < 120 ∧ A' 37 i = nI t ∧ A' 20 t = nI (pt ((cds (S.1 g)).getD i 0) 0) ∧ A' 21 t = nI (pt ((cds (S.1 g)).getD i 0) 1) ∧ A' 22 t = nI (pt ((cds (S.1 g)).getD i 0) 2)
theorem lineUp_p {v : Nat → Int32} {A : Nat → Nat → Int32} {S : St} (hR : RC v A S) {g : Nat} (hg : g < 7) : luP v A S g (fX9_lineUp v A (nI g)).1 (fX9_lineUp v A (nI g)).2 := by
  obtain ⟨ho, n, f, h⟩ := hR
  have hn := (RL_n h ho).2
  have hs := lineUp_s h ho hg
  refine ⟨hs.1, hs.2.1, hs.2.2.1, fun i hi => ?_⟩
  obtain ⟨t, ht, e1, e2⟩ := hs.2.2.2 i hi
  have r := h.2.2.2.1 t ht
  rw [e2] at r
  exact ⟨t, by omega, e1, by rw [hs.2.2.1 20 (by decide)]; exact r.2.1, by rw [hs.2.2.1 21 (by decide)]; exact r.2.2.1, by rw [hs.2.2.1 22 (by decide)]; exact r.2.2.2⟩
theorem hX9_lineUp {l : Launch} {D : va_G} {aC : Nat → ClassId} {b0 sz r : Nat} {v : Nat → Int32} {A : Nat → Nat → Int32} {R : ZM} {S : St} {g : Nat} (hR : RC v A S) (hg : g < 7) :
    Ct l D aC b0 yX9_lineUp cX9_lineUp 5 none 1 0 0 [.ref r, .int (nI g)] (mm aC r v A R) sz (zpN (fun v A => mm aC r v A R) (luP v A S g)) := by
  obtain ⟨n, hs, hn⟩ := RC_n hR
  exact Ct.toN (G := fun v A => mm aC r v A R) (ctX9_lineUp hs hn) (lineUp_p hR hg)
