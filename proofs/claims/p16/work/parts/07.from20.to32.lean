section
/-- one cell's field, one array, changed -/
def u2 (iv : Nat → Nat → Int32) (k f : Nat) (v : Int32) : Nat → Nat → Int32 := fun k1 f1 => if k1 = k ∧ f1 = f then v else iv k1 f1
def u1 (av : Nat → Nat → Int32) (k : Nat) (g : Nat → Int32) : Nat → Nat → Int32 := fun k1 => if k1 = k then g else av k1
theorem u2_s (iv : Nat → Nat → Int32) (k f : Nat) (v : Int32) : u2 iv k f v k f = v := by simp [u2]
theorem u2_f (iv : Nat → Nat → Int32) (k : Nat) {f g : Nat} (v : Int32) (h : g ≠ f) : u2 iv k f v k g = iv k g := by simp [u2, h]
theorem u2_k (iv : Nat → Nat → Int32) {k j : Nat} (f g : Nat) (v : Int32) (h : j ≠ k) : u2 iv k f v j g = iv j g := by simp [u2, h]
theorem u1_s (av : Nat → Nat → Int32) (k : Nat) (g : Nat → Int32) : u1 av k g k = g := by simp [u1]
theorem u1_k (av : Nat → Nat → Int32) {k j : Nat} (g : Nat → Int32) (h : j ≠ k) : u1 av k g j = av j := by simp [u1, h]
/-- the kinds of the cells of an UpdateSteps, by their places behind it -/
def ctab : List Nat := [1, 2, 3, 4, 5, 6, 7, 6, 7, 6, 7, 6, 7, 6, 7, 6, 7, 6, 7, 8, 9, 10, 11, 11, 11, 11, 11, 12, 11, 13, 14, 15, 13, 14, 15, 13, 14, 15, 13, 14, 15, 4, 5, 6, 7, 6, 7, 6, 7, 6, 7, 6, 7, 6, 7, 6, 7, 16, 17, 17, 17, 18, 14, 19, 20, 14, 21, 18, 14, 19, 20, 14, 21, 18, 14, 19, 20, 14, 21, 18, 14, 19, 20, 14, 21, 18, 14, 19, 20, 14, 21, 18, 14, 19, 20, 14, 21, 18, 14, 19, 20, 14, 21, 18, 14, 19, 20, 14, 21, 18, 14, 19, 20, 14, 21, 18, 14, 19, 20, 14, 21, 18, 14, 19, 20, 14, 21, 18, 14, 19, 20, 14, 21]
def ck (k : Nat) : Nat := ctab.getD k 0
theorem ck_lt {k n : Nat} (h : ck k = n) (hn : n ≠ 0) : k < 133 := by
  rcases Nat.lt_or_ge k 133 with q | q
  · exact q
  · have h2 : ck k = 0 := by
      unfold ck
      rw [List.getD_eq_getElem?_getD, List.getElem?_eq_none (l := ctab) q]
      rfl
    exact absurd (h.symm.trans h2) hn
def cc (aC : Nat → ClassId) (x : Nat) (iv av : Nat → Nat → Int32) (k : Nat) : va_E := match ck k with
  | 1 => .inr (8, [.ref (x + 1), .ref (x + 2), .ref (x + 3), .ref (x + 41), .ref (x + 57), .int (iv k 5), .int (iv k 6), .int (iv k 7)])
  | 2 => .inl (aC 4, 12, .inr (.inr (.inr (.inr (fun i => if i < 12 then some (x + (61 + 6 * i)) else none)))))
  | 3 => .inr (7, [.ref (x + 3), .ref (x + 19), .ref (x + 20), .ref (x + 28), .int (iv k 4)])
  | 4 => .inr (6, [.ref (x + (k + 1)), .int (iv k 1)])
  | 5 => .inl (aC 3, 7, .inr (.inr (.inr (.inr (fun i => if i < 7 then some (x + (k + 1 + 2 * i)) else none)))))
  | 6 => .inr (2, [.ref (x + (k + 1)), .int (iv k 1), .int (iv k 2)])
  | 7 => .inl (aC 0, 120, .inl (av k))
  | 8 => .inl (aC 2, 4, .inr (.inr (.inr (.inr (fun i => if i < 4 then some (x + (29 + 3 * i)) else none)))))
  | 9 => .inr (4, [.ref (x + 21), .ref (x + 27), .int (iv k 2), .int (iv k 3)])
  | 10 => .inl (aC 5, 5, .inr (.inr (.inr (.inr (fun i => if i < 5 then some (x + (22 + i)) else none)))))
  | 11 => .inl (aC 0, 4, .inl (av k))
  | 12 => .inl (aC 0, 400, .inl (av k))
  | 13 => .inr (1, [.ref (x + (k + 1)), .int (iv k 1)])
  | 14 => .inr (3, [.ref (x + (k + 1)), .int (iv k 1), .int (iv k 2)])
  | 15 => .inl (aC 0, 30, .inl (av k))
  | 16 => .inr (0, [.ref (x + 58), .ref (x + 59), .ref (x + 60), .int (iv k 3)])
  | 17 => .inl (aC 0, 240, .inl (av k))
  | 18 => .inr (5, [.ref (x + (k + 1)), .ref (x + (k + 3)), .ref (x + (k + 4)), .int (iv k 3), .int (iv k 4), .int (iv k 5), .int (iv k 6), .int (iv k 7)])
  | 19 => .inl (aC 0, 18, .inl (av k))
  | 20 => .inl (aC 1, 6, .inl (av k))
  | _ => .inl (aC 0, 12, .inl (av k))
def cm (aC : Nat → ClassId) (x : Nat) (iv av : Nat → Nat → Int32) (R : ZM) : ZM := fun q => if x ≤ q ∧ q < x + 133 then some (cc aC x iv av (q - x)) else R q
theorem cm_at {aC : Nat → ClassId} {x : Nat} {iv av : Nat → Nat → Int32} {R : ZM} {k : Nat} (h : k < 133) : cm aC x iv av R (x + k) = some (cc aC x iv av k) := by
  simp only [cm]
  rw [if_pos ⟨Nat.le_add_right _ _, by omega⟩, Nat.add_sub_cancel_left]
theorem cm_out {aC : Nat → ClassId} {x : Nat} {iv av : Nat → Nat → Int32} {R : ZM} {q : Nat} (h : q < x ∨ x + 133 ≤ q) : cm aC x iv av R q = R q := by
  simp only [cm]
  rw [if_neg (by omega)]
theorem cc_eq {aC : Nat → ClassId} {x : Nat} {iv av iv' av' : Nat → Nat → Int32} {k : Nat} (h1 : ∀ f, iv' k f = iv k f) (h2 : av' k = av k) : cc aC x iv' av' k = cc aC x iv av k := by
  unfold cc
  split <;> simp only [h1, h2]
theorem cm_wr {aC : Nat → ClassId} {x : Nat} {iv av iv' av' : Nat → Nat → Int32} {R : ZM} {k : Nat} {e : va_E} (hk : k < 133) (h0 : cc aC x iv' av' k = e) (h1 : ∀ j, j ≠ k → (∀ f, iv' j f = iv j f) ∧ av' j = av j) : zup (cm aC x iv av R) (x + k) e = cm aC x iv' av' R := by
  funext q
  by_cases hq : q = x + k
  · subst hq
    rw [zup_self, cm_at hk, h0]
  · rw [zup_ne _ _ hq]
    by_cases hb : x ≤ q ∧ q < x + 133
    · obtain ⟨j, rfl⟩ : ∃ j, q = x + j := ⟨q - x, by omega⟩
      have hj : j ≠ k := fun e => hq (by rw [e])
      rw [cm_at (by omega), cm_at (by omega), cc_eq (h1 j hj).1 (h1 j hj).2]
    · rw [cm_out (by omega), cm_out (by omega)]
theorem rd_1 {aC : Nat → ClassId} {x : Nat} {iv av : Nat → Nat → Int32} {R : ZM} {k : Nat} (h : ck k = 1) : cm aC x iv av R (x + k) = some (.inr (8, [.ref (x + 1), .ref (x + 2), .ref (x + 3), .ref (x + 41), .ref (x + 57), .int (iv k 5), .int (iv k 6), .int (iv k 7)])) := by
  rw [cm_at (ck_lt h (by decide))]
  simp [cc, h]
theorem wr_1_5 {aC : Nat → ClassId} {x : Nat} {iv av : Nat → Nat → Int32} {R : ZM} {k : Nat} {v : Int32} (h : ck k = 1) : zup (cm aC x iv av R) (x + k) (.inr (8, [.ref (x + 1), .ref (x + 2), .ref (x + 3), .ref (x + 41), .ref (x + 57), .int v, .int (iv k 6), .int (iv k 7)])) = cm aC x (u2 iv k 5 v) av R := by
  refine cm_wr (ck_lt h (by decide)) (by simp [cc, h, u2]) (fun j hj => ⟨fun f => u2_k _ _ _ _ hj, rfl⟩)
theorem wr_1_6 {aC : Nat → ClassId} {x : Nat} {iv av : Nat → Nat → Int32} {R : ZM} {k : Nat} {v : Int32} (h : ck k = 1) : zup (cm aC x iv av R) (x + k) (.inr (8, [.ref (x + 1), .ref (x + 2), .ref (x + 3), .ref (x + 41), .ref (x + 57), .int (iv k 5), .int v, .int (iv k 7)])) = cm aC x (u2 iv k 6 v) av R := by
  refine cm_wr (ck_lt h (by decide)) (by simp [cc, h, u2]) (fun j hj => ⟨fun f => u2_k _ _ _ _ hj, rfl⟩)
theorem wr_1_7 {aC : Nat → ClassId} {x : Nat} {iv av : Nat → Nat → Int32} {R : ZM} {k : Nat} {v : Int32} (h : ck k = 1) : zup (cm aC x iv av R) (x + k) (.inr (8, [.ref (x + 1), .ref (x + 2), .ref (x + 3), .ref (x + 41), .ref (x + 57), .int (iv k 5), .int (iv k 6), .int v])) = cm aC x (u2 iv k 7 v) av R := by
  refine cm_wr (ck_lt h (by decide)) (by simp [cc, h, u2]) (fun j hj => ⟨fun f => u2_k _ _ _ _ hj, rfl⟩)
theorem rd_2 {aC : Nat → ClassId} {x : Nat} {iv av : Nat → Nat → Int32} {R : ZM} {k : Nat} (h : ck k = 2) : cm aC x iv av R (x + k) = some (.inl (aC 4, 12, .inr (.inr (.inr (.inr (fun i => if i < 12 then some (x + (61 + 6 * i)) else none)))))) := by
  rw [cm_at (ck_lt h (by decide))]
  simp [cc, h]
theorem rd_3 {aC : Nat → ClassId} {x : Nat} {iv av : Nat → Nat → Int32} {R : ZM} {k : Nat} (h : ck k = 3) : cm aC x iv av R (x + k) = some (.inr (7, [.ref (x + 3), .ref (x + 19), .ref (x + 20), .ref (x + 28), .int (iv k 4)])) := by
  rw [cm_at (ck_lt h (by decide))]
  simp [cc, h]
theorem wr_3_4 {aC : Nat → ClassId} {x : Nat} {iv av : Nat → Nat → Int32} {R : ZM} {k : Nat} {v : Int32} (h : ck k = 3) : zup (cm aC x iv av R) (x + k) (.inr (7, [.ref (x + 3), .ref (x + 19), .ref (x + 20), .ref (x + 28), .int v])) = cm aC x (u2 iv k 4 v) av R := by
  refine cm_wr (ck_lt h (by decide)) (by simp [cc, h, u2]) (fun j hj => ⟨fun f => u2_k _ _ _ _ hj, rfl⟩)
theorem rd_4 {aC : Nat → ClassId} {x : Nat} {iv av : Nat → Nat → Int32} {R : ZM} {k : Nat} (h : ck k = 4) : cm aC x iv av R (x + k) = some (.inr (6, [.ref (x + (k + 1)), .int (iv k 1)])) := by
  rw [cm_at (ck_lt h (by decide))]
  simp [cc, h]
theorem wr_4_1 {aC : Nat → ClassId} {x : Nat} {iv av : Nat → Nat → Int32} {R : ZM} {k : Nat} {v : Int32} (h : ck k = 4) : zup (cm aC x iv av R) (x + k) (.inr (6, [.ref (x + (k + 1)), .int v])) = cm aC x (u2 iv k 1 v) av R := by
  refine cm_wr (ck_lt h (by decide)) (by simp [cc, h, u2]) (fun j hj => ⟨fun f => u2_k _ _ _ _ hj, rfl⟩)
theorem rd_5 {aC : Nat → ClassId} {x : Nat} {iv av : Nat → Nat → Int32} {R : ZM} {k : Nat} (h : ck k = 5) : cm aC x iv av R (x + k) = some (.inl (aC 3, 7, .inr (.inr (.inr (.inr (fun i => if i < 7 then some (x + (k + 1 + 2 * i)) else none)))))) := by
  rw [cm_at (ck_lt h (by decide))]
  simp [cc, h]
theorem rd_6 {aC : Nat → ClassId} {x : Nat} {iv av : Nat → Nat → Int32} {R : ZM} {k : Nat} (h : ck k = 6) : cm aC x iv av R (x + k) = some (.inr (2, [.ref (x + (k + 1)), .int (iv k 1), .int (iv k 2)])) := by
  rw [cm_at (ck_lt h (by decide))]
  simp [cc, h]
theorem wr_6_1 {aC : Nat → ClassId} {x : Nat} {iv av : Nat → Nat → Int32} {R : ZM} {k : Nat} {v : Int32} (h : ck k = 6) : zup (cm aC x iv av R) (x + k) (.inr (2, [.ref (x + (k + 1)), .int v, .int (iv k 2)])) = cm aC x (u2 iv k 1 v) av R := by
  refine cm_wr (ck_lt h (by decide)) (by simp [cc, h, u2]) (fun j hj => ⟨fun f => u2_k _ _ _ _ hj, rfl⟩)
theorem wr_6_2 {aC : Nat → ClassId} {x : Nat} {iv av : Nat → Nat → Int32} {R : ZM} {k : Nat} {v : Int32} (h : ck k = 6) : zup (cm aC x iv av R) (x + k) (.inr (2, [.ref (x + (k + 1)), .int (iv k 1), .int v])) = cm aC x (u2 iv k 2 v) av R := by
  refine cm_wr (ck_lt h (by decide)) (by simp [cc, h, u2]) (fun j hj => ⟨fun f => u2_k _ _ _ _ hj, rfl⟩)
theorem rd_7 {aC : Nat → ClassId} {x : Nat} {iv av : Nat → Nat → Int32} {R : ZM} {k : Nat} (h : ck k = 7) : cm aC x iv av R (x + k) = some (.inl (aC 0, 120, .inl (av k))) := by
  rw [cm_at (ck_lt h (by decide))]
  simp [cc, h]
theorem wr_7 {aC : Nat → ClassId} {x : Nat} {iv av : Nat → Nat → Int32} {R : ZM} {k : Nat} {g : Nat → Int32} (h : ck k = 7) : zup (cm aC x iv av R) (x + k) (.inl (aC 0, 120, .inl g)) = cm aC x iv (u1 av k g) R := by
  refine cm_wr (ck_lt h (by decide)) (by simp [cc, h, u1]) (fun j hj => ⟨fun f => rfl, u1_k _ _ hj⟩)
theorem rd_8 {aC : Nat → ClassId} {x : Nat} {iv av : Nat → Nat → Int32} {R : ZM} {k : Nat} (h : ck k = 8) : cm aC x iv av R (x + k) = some (.inl (aC 2, 4, .inr (.inr (.inr (.inr (fun i => if i < 4 then some (x + (29 + 3 * i)) else none)))))) := by
  rw [cm_at (ck_lt h (by decide))]
  simp [cc, h]
theorem rd_9 {aC : Nat → ClassId} {x : Nat} {iv av : Nat → Nat → Int32} {R : ZM} {k : Nat} (h : ck k = 9) : cm aC x iv av R (x + k) = some (.inr (4, [.ref (x + 21), .ref (x + 27), .int (iv k 2), .int (iv k 3)])) := by
  rw [cm_at (ck_lt h (by decide))]
  simp [cc, h]
theorem wr_9_2 {aC : Nat → ClassId} {x : Nat} {iv av : Nat → Nat → Int32} {R : ZM} {k : Nat} {v : Int32} (h : ck k = 9) : zup (cm aC x iv av R) (x + k) (.inr (4, [.ref (x + 21), .ref (x + 27), .int v, .int (iv k 3)])) = cm aC x (u2 iv k 2 v) av R := by
  refine cm_wr (ck_lt h (by decide)) (by simp [cc, h, u2]) (fun j hj => ⟨fun f => u2_k _ _ _ _ hj, rfl⟩)
theorem wr_9_3 {aC : Nat → ClassId} {x : Nat} {iv av : Nat → Nat → Int32} {R : ZM} {k : Nat} {v : Int32} (h : ck k = 9) : zup (cm aC x iv av R) (x + k) (.inr (4, [.ref (x + 21), .ref (x + 27), .int (iv k 2), .int v])) = cm aC x (u2 iv k 3 v) av R := by
  refine cm_wr (ck_lt h (by decide)) (by simp [cc, h, u2]) (fun j hj => ⟨fun f => u2_k _ _ _ _ hj, rfl⟩)
theorem rd_10 {aC : Nat → ClassId} {x : Nat} {iv av : Nat → Nat → Int32} {R : ZM} {k : Nat} (h : ck k = 10) : cm aC x iv av R (x + k) = some (.inl (aC 5, 5, .inr (.inr (.inr (.inr (fun i => if i < 5 then some (x + (22 + i)) else none)))))) := by
  rw [cm_at (ck_lt h (by decide))]
  simp [cc, h]
theorem rd_11 {aC : Nat → ClassId} {x : Nat} {iv av : Nat → Nat → Int32} {R : ZM} {k : Nat} (h : ck k = 11) : cm aC x iv av R (x + k) = some (.inl (aC 0, 4, .inl (av k))) := by
  rw [cm_at (ck_lt h (by decide))]
  simp [cc, h]
theorem wr_11 {aC : Nat → ClassId} {x : Nat} {iv av : Nat → Nat → Int32} {R : ZM} {k : Nat} {g : Nat → Int32} (h : ck k = 11) : zup (cm aC x iv av R) (x + k) (.inl (aC 0, 4, .inl g)) = cm aC x iv (u1 av k g) R := by
  refine cm_wr (ck_lt h (by decide)) (by simp [cc, h, u1]) (fun j hj => ⟨fun f => rfl, u1_k _ _ hj⟩)
theorem rd_12 {aC : Nat → ClassId} {x : Nat} {iv av : Nat → Nat → Int32} {R : ZM} {k : Nat} (h : ck k = 12) : cm aC x iv av R (x + k) = some (.inl (aC 0, 400, .inl (av k))) := by
  rw [cm_at (ck_lt h (by decide))]
  simp [cc, h]
theorem wr_12 {aC : Nat → ClassId} {x : Nat} {iv av : Nat → Nat → Int32} {R : ZM} {k : Nat} {g : Nat → Int32} (h : ck k = 12) : zup (cm aC x iv av R) (x + k) (.inl (aC 0, 400, .inl g)) = cm aC x iv (u1 av k g) R := by
  refine cm_wr (ck_lt h (by decide)) (by simp [cc, h, u1]) (fun j hj => ⟨fun f => rfl, u1_k _ _ hj⟩)
theorem rd_13 {aC : Nat → ClassId} {x : Nat} {iv av : Nat → Nat → Int32} {R : ZM} {k : Nat} (h : ck k = 13) : cm aC x iv av R (x + k) = some (.inr (1, [.ref (x + (k + 1)), .int (iv k 1)])) := by
  rw [cm_at (ck_lt h (by decide))]
  simp [cc, h]
theorem wr_13_1 {aC : Nat → ClassId} {x : Nat} {iv av : Nat → Nat → Int32} {R : ZM} {k : Nat} {v : Int32} (h : ck k = 13) : zup (cm aC x iv av R) (x + k) (.inr (1, [.ref (x + (k + 1)), .int v])) = cm aC x (u2 iv k 1 v) av R := by
  refine cm_wr (ck_lt h (by decide)) (by simp [cc, h, u2]) (fun j hj => ⟨fun f => u2_k _ _ _ _ hj, rfl⟩)
theorem rd_14 {aC : Nat → ClassId} {x : Nat} {iv av : Nat → Nat → Int32} {R : ZM} {k : Nat} (h : ck k = 14) : cm aC x iv av R (x + k) = some (.inr (3, [.ref (x + (k + 1)), .int (iv k 1), .int (iv k 2)])) := by
  rw [cm_at (ck_lt h (by decide))]
  simp [cc, h]
theorem wr_14_1 {aC : Nat → ClassId} {x : Nat} {iv av : Nat → Nat → Int32} {R : ZM} {k : Nat} {v : Int32} (h : ck k = 14) : zup (cm aC x iv av R) (x + k) (.inr (3, [.ref (x + (k + 1)), .int v, .int (iv k 2)])) = cm aC x (u2 iv k 1 v) av R := by
  refine cm_wr (ck_lt h (by decide)) (by simp [cc, h, u2]) (fun j hj => ⟨fun f => u2_k _ _ _ _ hj, rfl⟩)
theorem wr_14_2 {aC : Nat → ClassId} {x : Nat} {iv av : Nat → Nat → Int32} {R : ZM} {k : Nat} {v : Int32} (h : ck k = 14) : zup (cm aC x iv av R) (x + k) (.inr (3, [.ref (x + (k + 1)), .int (iv k 1), .int v])) = cm aC x (u2 iv k 2 v) av R := by
  refine cm_wr (ck_lt h (by decide)) (by simp [cc, h, u2]) (fun j hj => ⟨fun f => u2_k _ _ _ _ hj, rfl⟩)
theorem rd_15 {aC : Nat → ClassId} {x : Nat} {iv av : Nat → Nat → Int32} {R : ZM} {k : Nat} (h : ck k = 15) : cm aC x iv av R (x + k) = some (.inl (aC 0, 30, .inl (av k))) := by
  rw [cm_at (ck_lt h (by decide))]
  simp [cc, h]
theorem wr_15 {aC : Nat → ClassId} {x : Nat} {iv av : Nat → Nat → Int32} {R : ZM} {k : Nat} {g : Nat → Int32} (h : ck k = 15) : zup (cm aC x iv av R) (x + k) (.inl (aC 0, 30, .inl g)) = cm aC x iv (u1 av k g) R := by
  refine cm_wr (ck_lt h (by decide)) (by simp [cc, h, u1]) (fun j hj => ⟨fun f => rfl, u1_k _ _ hj⟩)
theorem rd_16 {aC : Nat → ClassId} {x : Nat} {iv av : Nat → Nat → Int32} {R : ZM} {k : Nat} (h : ck k = 16) : cm aC x iv av R (x + k) = some (.inr (0, [.ref (x + 58), .ref (x + 59), .ref (x + 60), .int (iv k 3)])) := by
  rw [cm_at (ck_lt h (by decide))]
  simp [cc, h]
theorem wr_16_3 {aC : Nat → ClassId} {x : Nat} {iv av : Nat → Nat → Int32} {R : ZM} {k : Nat} {v : Int32} (h : ck k = 16) : zup (cm aC x iv av R) (x + k) (.inr (0, [.ref (x + 58), .ref (x + 59), .ref (x + 60), .int v])) = cm aC x (u2 iv k 3 v) av R := by
  refine cm_wr (ck_lt h (by decide)) (by simp [cc, h, u2]) (fun j hj => ⟨fun f => u2_k _ _ _ _ hj, rfl⟩)
theorem rd_17 {aC : Nat → ClassId} {x : Nat} {iv av : Nat → Nat → Int32} {R : ZM} {k : Nat} (h : ck k = 17) : cm aC x iv av R (x + k) = some (.inl (aC 0, 240, .inl (av k))) := by
  rw [cm_at (ck_lt h (by decide))]
  simp [cc, h]
theorem wr_17 {aC : Nat → ClassId} {x : Nat} {iv av : Nat → Nat → Int32} {R : ZM} {k : Nat} {g : Nat → Int32} (h : ck k = 17) : zup (cm aC x iv av R) (x + k) (.inl (aC 0, 240, .inl g)) = cm aC x iv (u1 av k g) R := by
  refine cm_wr (ck_lt h (by decide)) (by simp [cc, h, u1]) (fun j hj => ⟨fun f => rfl, u1_k _ _ hj⟩)
theorem rd_18 {aC : Nat → ClassId} {x : Nat} {iv av : Nat → Nat → Int32} {R : ZM} {k : Nat} (h : ck k = 18) : cm aC x iv av R (x + k) = some (.inr (5, [.ref (x + (k + 1)), .ref (x + (k + 3)), .ref (x + (k + 4)), .int (iv k 3), .int (iv k 4), .int (iv k 5), .int (iv k 6), .int (iv k 7)])) := by
  rw [cm_at (ck_lt h (by decide))]
  simp [cc, h]
theorem wr_18_3 {aC : Nat → ClassId} {x : Nat} {iv av : Nat → Nat → Int32} {R : ZM} {k : Nat} {v : Int32} (h : ck k = 18) : zup (cm aC x iv av R) (x + k) (.inr (5, [.ref (x + (k + 1)), .ref (x + (k + 3)), .ref (x + (k + 4)), .int v, .int (iv k 4), .int (iv k 5), .int (iv k 6), .int (iv k 7)])) = cm aC x (u2 iv k 3 v) av R := by
  refine cm_wr (ck_lt h (by decide)) (by simp [cc, h, u2]) (fun j hj => ⟨fun f => u2_k _ _ _ _ hj, rfl⟩)
theorem wr_18_4 {aC : Nat → ClassId} {x : Nat} {iv av : Nat → Nat → Int32} {R : ZM} {k : Nat} {v : Int32} (h : ck k = 18) : zup (cm aC x iv av R) (x + k) (.inr (5, [.ref (x + (k + 1)), .ref (x + (k + 3)), .ref (x + (k + 4)), .int (iv k 3), .int v, .int (iv k 5), .int (iv k 6), .int (iv k 7)])) = cm aC x (u2 iv k 4 v) av R := by
  refine cm_wr (ck_lt h (by decide)) (by simp [cc, h, u2]) (fun j hj => ⟨fun f => u2_k _ _ _ _ hj, rfl⟩)
theorem wr_18_5 {aC : Nat → ClassId} {x : Nat} {iv av : Nat → Nat → Int32} {R : ZM} {k : Nat} {v : Int32} (h : ck k = 18) : zup (cm aC x iv av R) (x + k) (.inr (5, [.ref (x + (k + 1)), .ref (x + (k + 3)), .ref (x + (k + 4)), .int (iv k 3), .int (iv k 4), .int v, .int (iv k 6), .int (iv k 7)])) = cm aC x (u2 iv k 5 v) av R := by
  refine cm_wr (ck_lt h (by decide)) (by simp [cc, h, u2]) (fun j hj => ⟨fun f => u2_k _ _ _ _ hj, rfl⟩)
theorem wr_18_6 {aC : Nat → ClassId} {x : Nat} {iv av : Nat → Nat → Int32} {R : ZM} {k : Nat} {v : Int32} (h : ck k = 18) : zup (cm aC x iv av R) (x + k) (.inr (5, [.ref (x + (k + 1)), .ref (x + (k + 3)), .ref (x + (k + 4)), .int (iv k 3), .int (iv k 4), .int (iv k 5), .int v, .int (iv k 7)])) = cm aC x (u2 iv k 6 v) av R := by
  refine cm_wr (ck_lt h (by decide)) (by simp [cc, h, u2]) (fun j hj => ⟨fun f => u2_k _ _ _ _ hj, rfl⟩)
theorem wr_18_7 {aC : Nat → ClassId} {x : Nat} {iv av : Nat → Nat → Int32} {R : ZM} {k : Nat} {v : Int32} (h : ck k = 18) : zup (cm aC x iv av R) (x + k) (.inr (5, [.ref (x + (k + 1)), .ref (x + (k + 3)), .ref (x + (k + 4)), .int (iv k 3), .int (iv k 4), .int (iv k 5), .int (iv k 6), .int v])) = cm aC x (u2 iv k 7 v) av R := by
  refine cm_wr (ck_lt h (by decide)) (by simp [cc, h, u2]) (fun j hj => ⟨fun f => u2_k _ _ _ _ hj, rfl⟩)
theorem rd_19 {aC : Nat → ClassId} {x : Nat} {iv av : Nat → Nat → Int32} {R : ZM} {k : Nat} (h : ck k = 19) : cm aC x iv av R (x + k) = some (.inl (aC 0, 18, .inl (av k))) := by
  rw [cm_at (ck_lt h (by decide))]
  simp [cc, h]
theorem wr_19 {aC : Nat → ClassId} {x : Nat} {iv av : Nat → Nat → Int32} {R : ZM} {k : Nat} {g : Nat → Int32} (h : ck k = 19) : zup (cm aC x iv av R) (x + k) (.inl (aC 0, 18, .inl g)) = cm aC x iv (u1 av k g) R := by
  refine cm_wr (ck_lt h (by decide)) (by simp [cc, h, u1]) (fun j hj => ⟨fun f => rfl, u1_k _ _ hj⟩)
theorem rd_20 {aC : Nat → ClassId} {x : Nat} {iv av : Nat → Nat → Int32} {R : ZM} {k : Nat} (h : ck k = 20) : cm aC x iv av R (x + k) = some (.inl (aC 1, 6, .inl (av k))) := by
  rw [cm_at (ck_lt h (by decide))]
  simp [cc, h]
theorem wr_20 {aC : Nat → ClassId} {x : Nat} {iv av : Nat → Nat → Int32} {R : ZM} {k : Nat} {g : Nat → Int32} (h : ck k = 20) : zup (cm aC x iv av R) (x + k) (.inl (aC 1, 6, .inl g)) = cm aC x iv (u1 av k g) R := by
  refine cm_wr (ck_lt h (by decide)) (by simp [cc, h, u1]) (fun j hj => ⟨fun f => rfl, u1_k _ _ hj⟩)
theorem rd_21 {aC : Nat → ClassId} {x : Nat} {iv av : Nat → Nat → Int32} {R : ZM} {k : Nat} (h : ck k = 21) : cm aC x iv av R (x + k) = some (.inl (aC 0, 12, .inl (av k))) := by
  rw [cm_at (ck_lt h (by decide))]
  simp [cc, h]
theorem wr_21 {aC : Nat → ClassId} {x : Nat} {iv av : Nat → Nat → Int32} {R : ZM} {k : Nat} {g : Nat → Int32} (h : ck k = 21) : zup (cm aC x iv av R) (x + k) (.inl (aC 0, 12, .inl g)) = cm aC x iv (u1 av k g) R := by
  refine cm_wr (ck_lt h (by decide)) (by simp [cc, h, u1]) (fun j hj => ⟨fun f => rfl, u1_k _ _ hj⟩)
def tl (k : Nat) : Nat := if ck (k + 1) = 15 then 30 else if ck (k + 1) = 19 then 18 else 12
theorem nb_t {k : Nat} (h : ck k = 14) : ck (k + 1) = 15 ∨ ck (k + 1) = 19 ∨ ck (k + 1) = 21 := by
  have hk := ck_lt h (by decide)
  revert h
  revert k
  decide +kernel
theorem rd_t {aC : Nat → ClassId} {x : Nat} {iv av : Nat → Nat → Int32} {R : ZM} {k : Nat} (h : ck k = 14) : cm aC x iv av R (x + (k + 1)) = some (.inl (aC 0, tl k, .inl (av (k + 1)))) := by
  rcases nb_t h with q | q | q
  · rw [rd_15 q]; simp [tl, q]
  · rw [rd_19 q]; simp [tl, q]
  · rw [rd_21 q]; simp [tl, q]
theorem wr_t {aC : Nat → ClassId} {x : Nat} {iv av : Nat → Nat → Int32} {R : ZM} {k : Nat} {g : Nat → Int32} (h : ck k = 14) : zup (cm aC x iv av R) (x + (k + 1)) (.inl (aC 0, tl k, .inl g)) = cm aC x iv (u1 av (k + 1) g) R := by
  rcases nb_t h with q | q | q
  · rw [← wr_15 q]; simp [tl, q]
  · rw [← wr_19 q]; simp [tl, q]
  · rw [← wr_21 q]; simp [tl, q]
theorem nb_4_1 {k : Nat} (h : ck k = 4) : ck (k + 1) = 5 := by
  have hk := ck_lt h (by decide)
  revert h
  revert k
  decide +kernel
theorem nb_6_1 {k : Nat} (h : ck k = 6) : ck (k + 1) = 7 := by
  have hk := ck_lt h (by decide)
  revert h
  revert k
  decide +kernel
theorem nb_13_1 {k : Nat} (h : ck k = 13) : ck (k + 1) = 14 := by
  have hk := ck_lt h (by decide)
  revert h
  revert k
  decide +kernel
theorem nb_18_1 {k : Nat} (h : ck k = 18) : ck (k + 1) = 14 := by
  have hk := ck_lt h (by decide)
  revert h
  revert k
  decide +kernel
theorem nb_18_3 {k : Nat} (h : ck k = 18) : ck (k + 3) = 20 := by
  have hk := ck_lt h (by decide)
  revert h
  revert k
  decide +kernel
theorem nb_18_4 {k : Nat} (h : ck k = 18) : ck (k + 4) = 14 := by
  have hk := ck_lt h (by decide)
  revert h
  revert k
  decide +kernel
end
section
/-- the reference: v its numbers by their fields, A its arrays by their places behind it -/
def mlen : List Nat := [0, 12, 12, 12, 12, 12, 72, 72, 72, 72, 12, 48, 48, 48, 4, 40, 40, 40, 4, 120, 120, 120, 120, 7, 120, 120, 120, 120, 7, 240, 240, 240, 240, 240, 12, 20400, 20400, 120, 4]
def mbool : List Bool := [false, false, false, false, true, false, false, false, false, true, false, false, false, false, false, false, false, false, true, false, false, false, false, true, false, false, false, false, true, false, false, false, false, true, false, false, false, false, false]
def mobj (r : Nat) (v : Nat → Int32) : List Value := [.int (v 0), .int (v 1), .ref (r + 1), .ref (r + 2), .ref (r + 3), .ref (r + 4), .ref (r + 5), .ref (r + 6), .ref (r + 7), .ref (r + 8), .ref (r + 9), .ref (r + 10), .ref (r + 11), .ref (r + 12), .ref (r + 13), .ref (r + 14), .ref (r + 15), .ref (r + 16), .ref (r + 17), .ref (r + 18), .int (v 20), .ref (r + 19), .ref (r + 20), .ref (r + 21), .ref (r + 22), .ref (r + 23), .int (v 26), .int (v 27), .ref (r + 24), .ref (r + 25), .ref (r + 26), .ref (r + 27), .ref (r + 28), .int (v 33), .int (v 34), .ref (r + 29), .ref (r + 30), .ref (r + 31), .ref (r + 32), .ref (r + 33), .ref (r + 34), .int (v 41), .int (v 42), .int (v 43), .ref (r + 35), .int (v 45), .ref (r + 36), .int (v 47), .ref (r + 37), .ref (r + 38)]
def mc (aC : Nat → ClassId) (r : Nat) (v : Nat → Int32) (A : Nat → Nat → Int32) (k : Nat) : va_E := if k = 0 then .inr (9, mobj r v) else .inl (if mbool.getD k false then aC 1 else aC 0, mlen.getD k 0, .inl (A k))
def mm (aC : Nat → ClassId) (r : Nat) (v : Nat → Int32) (A : Nat → Nat → Int32) (R : ZM) : ZM := fun q => if r ≤ q ∧ q < r + 39 then some (mc aC r v A (q - r)) else R q
theorem mm_at {aC : Nat → ClassId} {r : Nat} {v : Nat → Int32} {A : Nat → Nat → Int32} {R : ZM} {k : Nat} (h : k < 39) : mm aC r v A R (r + k) = some (mc aC r v A k) := by
  simp only [mm]
  rw [if_pos ⟨Nat.le_add_right _ _, by omega⟩, Nat.add_sub_cancel_left]
theorem mm_out {aC : Nat → ClassId} {r : Nat} {v : Nat → Int32} {A : Nat → Nat → Int32} {R : ZM} {q : Nat} (h : q < r ∨ r + 39 ≤ q) : mm aC r v A R q = R q := by
  simp only [mm]
  rw [if_neg (by omega)]
theorem mm_wr {aC : Nat → ClassId} {r : Nat} {v v' : Nat → Int32} {A A' : Nat → Nat → Int32} {R : ZM} {k : Nat} {e : va_E} (hk : k < 39) (h0 : mc aC r v' A' k = e) (h1 : ∀ j, j ≠ k → mc aC r v' A' j = mc aC r v A j) : zup (mm aC r v A R) (r + k) e = mm aC r v' A' R := by
  funext q
  by_cases hq : q = r + k
  · subst hq
    rw [zup_self, mm_at hk, h0]
  · rw [zup_ne _ _ hq]
    by_cases hb : r ≤ q ∧ q < r + 39
    · obtain ⟨j, rfl⟩ : ∃ j, q = r + j := ⟨q - r, by omega⟩
      have hj : j ≠ k := fun e => hq (by rw [e])
      rw [mm_at (by omega), mm_at (by omega), h1 j hj]
    · rw [mm_out (by omega), mm_out (by omega)]
theorem rm_0 {aC : Nat → ClassId} {r : Nat} {v : Nat → Int32} {A : Nat → Nat → Int32} {R : ZM} : mm aC r v A R r = some (.inr (9, [.int (v 0), .int (v 1), .ref (r + 1), .ref (r + 2), .ref (r + 3), .ref (r + 4), .ref (r + 5), .ref (r + 6), .ref (r + 7), .ref (r + 8), .ref (r + 9), .ref (r + 10), .ref (r + 11), .ref (r + 12), .ref (r + 13), .ref (r + 14), .ref (r + 15), .ref (r + 16), .ref (r + 17), .ref (r + 18), .int (v 20), .ref (r + 19), .ref (r + 20), .ref (r + 21), .ref (r + 22), .ref (r + 23), .int (v 26), .int (v 27), .ref (r + 24), .ref (r + 25), .ref (r + 26), .ref (r + 27), .ref (r + 28), .int (v 33), .int (v 34), .ref (r + 29), .ref (r + 30), .ref (r + 31), .ref (r + 32), .ref (r + 33), .ref (r + 34), .int (v 41), .int (v 42), .int (v 43), .ref (r + 35), .int (v 45), .ref (r + 36), .int (v 47), .ref (r + 37), .ref (r + 38)])) := mm_at (k := 0) (by decide)
theorem wm_f0 {aC : Nat → ClassId} {r : Nat} {v : Nat → Int32} {A : Nat → Nat → Int32} {R : ZM} {y : Int32} : zup (mm aC r v A R) r (.inr (9, [.int y, .int (v 1), .ref (r + 1), .ref (r + 2), .ref (r + 3), .ref (r + 4), .ref (r + 5), .ref (r + 6), .ref (r + 7), .ref (r + 8), .ref (r + 9), .ref (r + 10), .ref (r + 11), .ref (r + 12), .ref (r + 13), .ref (r + 14), .ref (r + 15), .ref (r + 16), .ref (r + 17), .ref (r + 18), .int (v 20), .ref (r + 19), .ref (r + 20), .ref (r + 21), .ref (r + 22), .ref (r + 23), .int (v 26), .int (v 27), .ref (r + 24), .ref (r + 25), .ref (r + 26), .ref (r + 27), .ref (r + 28), .int (v 33), .int (v 34), .ref (r + 29), .ref (r + 30), .ref (r + 31), .ref (r + 32), .ref (r + 33), .ref (r + 34), .int (v 41), .int (v 42), .int (v 43), .ref (r + 35), .int (v 45), .ref (r + 36), .int (v 47), .ref (r + 37), .ref (r + 38)])) = mm aC r (upd v 0 y) A R := by
  refine mm_wr (k := 0) (by decide) (by simp [mc, mobj, upd]) (fun j hj => by simp [mc, hj])
theorem wm_f1 {aC : Nat → ClassId} {r : Nat} {v : Nat → Int32} {A : Nat → Nat → Int32} {R : ZM} {y : Int32} : zup (mm aC r v A R) r (.inr (9, [.int (v 0), .int y, .ref (r + 1), .ref (r + 2), .ref (r + 3), .ref (r + 4), .ref (r + 5), .ref (r + 6), .ref (r + 7), .ref (r + 8), .ref (r + 9), .ref (r + 10), .ref (r + 11), .ref (r + 12), .ref (r + 13), .ref (r + 14), .ref (r + 15), .ref (r + 16), .ref (r + 17), .ref (r + 18), .int (v 20), .ref (r + 19), .ref (r + 20), .ref (r + 21), .ref (r + 22), .ref (r + 23), .int (v 26), .int (v 27), .ref (r + 24), .ref (r + 25), .ref (r + 26), .ref (r + 27), .ref (r + 28), .int (v 33), .int (v 34), .ref (r + 29), .ref (r + 30), .ref (r + 31), .ref (r + 32), .ref (r + 33), .ref (r + 34), .int (v 41), .int (v 42), .int (v 43), .ref (r + 35), .int (v 45), .ref (r + 36), .int (v 47), .ref (r + 37), .ref (r + 38)])) = mm aC r (upd v 1 y) A R := by
  refine mm_wr (k := 0) (by decide) (by simp [mc, mobj, upd]) (fun j hj => by simp [mc, hj])
theorem wm_f20 {aC : Nat → ClassId} {r : Nat} {v : Nat → Int32} {A : Nat → Nat → Int32} {R : ZM} {y : Int32} : zup (mm aC r v A R) r (.inr (9, [.int (v 0), .int (v 1), .ref (r + 1), .ref (r + 2), .ref (r + 3), .ref (r + 4), .ref (r + 5), .ref (r + 6), .ref (r + 7), .ref (r + 8), .ref (r + 9), .ref (r + 10), .ref (r + 11), .ref (r + 12), .ref (r + 13), .ref (r + 14), .ref (r + 15), .ref (r + 16), .ref (r + 17), .ref (r + 18), .int y, .ref (r + 19), .ref (r + 20), .ref (r + 21), .ref (r + 22), .ref (r + 23), .int (v 26), .int (v 27), .ref (r + 24), .ref (r + 25), .ref (r + 26), .ref (r + 27), .ref (r + 28), .int (v 33), .int (v 34), .ref (r + 29), .ref (r + 30), .ref (r + 31), .ref (r + 32), .ref (r + 33), .ref (r + 34), .int (v 41), .int (v 42), .int (v 43), .ref (r + 35), .int (v 45), .ref (r + 36), .int (v 47), .ref (r + 37), .ref (r + 38)])) = mm aC r (upd v 20 y) A R := by
  refine mm_wr (k := 0) (by decide) (by simp [mc, mobj, upd]) (fun j hj => by simp [mc, hj])
theorem wm_f26 {aC : Nat → ClassId} {r : Nat} {v : Nat → Int32} {A : Nat → Nat → Int32} {R : ZM} {y : Int32} : zup (mm aC r v A R) r (.inr (9, [.int (v 0), .int (v 1), .ref (r + 1), .ref (r + 2), .ref (r + 3), .ref (r + 4), .ref (r + 5), .ref (r + 6), .ref (r + 7), .ref (r + 8), .ref (r + 9), .ref (r + 10), .ref (r + 11), .ref (r + 12), .ref (r + 13), .ref (r + 14), .ref (r + 15), .ref (r + 16), .ref (r + 17), .ref (r + 18), .int (v 20), .ref (r + 19), .ref (r + 20), .ref (r + 21), .ref (r + 22), .ref (r + 23), .int y, .int (v 27), .ref (r + 24), .ref (r + 25), .ref (r + 26), .ref (r + 27), .ref (r + 28), .int (v 33), .int (v 34), .ref (r + 29), .ref (r + 30), .ref (r + 31), .ref (r + 32), .ref (r + 33), .ref (r + 34), .int (v 41), .int (v 42), .int (v 43), .ref (r + 35), .int (v 45), .ref (r + 36), .int (v 47), .ref (r + 37), .ref (r + 38)])) = mm aC r (upd v 26 y) A R := by
  refine mm_wr (k := 0) (by decide) (by simp [mc, mobj, upd]) (fun j hj => by simp [mc, hj])
theorem wm_f27 {aC : Nat → ClassId} {r : Nat} {v : Nat → Int32} {A : Nat → Nat → Int32} {R : ZM} {y : Int32} : zup (mm aC r v A R) r (.inr (9, [.int (v 0), .int (v 1), .ref (r + 1), .ref (r + 2), .ref (r + 3), .ref (r + 4), .ref (r + 5), .ref (r + 6), .ref (r + 7), .ref (r + 8), .ref (r + 9), .ref (r + 10), .ref (r + 11), .ref (r + 12), .ref (r + 13), .ref (r + 14), .ref (r + 15), .ref (r + 16), .ref (r + 17), .ref (r + 18), .int (v 20), .ref (r + 19), .ref (r + 20), .ref (r + 21), .ref (r + 22), .ref (r + 23), .int (v 26), .int y, .ref (r + 24), .ref (r + 25), .ref (r + 26), .ref (r + 27), .ref (r + 28), .int (v 33), .int (v 34), .ref (r + 29), .ref (r + 30), .ref (r + 31), .ref (r + 32), .ref (r + 33), .ref (r + 34), .int (v 41), .int (v 42), .int (v 43), .ref (r + 35), .int (v 45), .ref (r + 36), .int (v 47), .ref (r + 37), .ref (r + 38)])) = mm aC r (upd v 27 y) A R := by
  refine mm_wr (k := 0) (by decide) (by simp [mc, mobj, upd]) (fun j hj => by simp [mc, hj])
theorem wm_f33 {aC : Nat → ClassId} {r : Nat} {v : Nat → Int32} {A : Nat → Nat → Int32} {R : ZM} {y : Int32} : zup (mm aC r v A R) r (.inr (9, [.int (v 0), .int (v 1), .ref (r + 1), .ref (r + 2), .ref (r + 3), .ref (r + 4), .ref (r + 5), .ref (r + 6), .ref (r + 7), .ref (r + 8), .ref (r + 9), .ref (r + 10), .ref (r + 11), .ref (r + 12), .ref (r + 13), .ref (r + 14), .ref (r + 15), .ref (r + 16), .ref (r + 17), .ref (r + 18), .int (v 20), .ref (r + 19), .ref (r + 20), .ref (r + 21), .ref (r + 22), .ref (r + 23), .int (v 26), .int (v 27), .ref (r + 24), .ref (r + 25), .ref (r + 26), .ref (r + 27), .ref (r + 28), .int y, .int (v 34), .ref (r + 29), .ref (r + 30), .ref (r + 31), .ref (r + 32), .ref (r + 33), .ref (r + 34), .int (v 41), .int (v 42), .int (v 43), .ref (r + 35), .int (v 45), .ref (r + 36), .int (v 47), .ref (r + 37), .ref (r + 38)])) = mm aC r (upd v 33 y) A R := by
  refine mm_wr (k := 0) (by decide) (by simp [mc, mobj, upd]) (fun j hj => by simp [mc, hj])
theorem wm_f34 {aC : Nat → ClassId} {r : Nat} {v : Nat → Int32} {A : Nat → Nat → Int32} {R : ZM} {y : Int32} : zup (mm aC r v A R) r (.inr (9, [.int (v 0), .int (v 1), .ref (r + 1), .ref (r + 2), .ref (r + 3), .ref (r + 4), .ref (r + 5), .ref (r + 6), .ref (r + 7), .ref (r + 8), .ref (r + 9), .ref (r + 10), .ref (r + 11), .ref (r + 12), .ref (r + 13), .ref (r + 14), .ref (r + 15), .ref (r + 16), .ref (r + 17), .ref (r + 18), .int (v 20), .ref (r + 19), .ref (r + 20), .ref (r + 21), .ref (r + 22), .ref (r + 23), .int (v 26), .int (v 27), .ref (r + 24), .ref (r + 25), .ref (r + 26), .ref (r + 27), .ref (r + 28), .int (v 33), .int y, .ref (r + 29), .ref (r + 30), .ref (r + 31), .ref (r + 32), .ref (r + 33), .ref (r + 34), .int (v 41), .int (v 42), .int (v 43), .ref (r + 35), .int (v 45), .ref (r + 36), .int (v 47), .ref (r + 37), .ref (r + 38)])) = mm aC r (upd v 34 y) A R := by
  refine mm_wr (k := 0) (by decide) (by simp [mc, mobj, upd]) (fun j hj => by simp [mc, hj])
theorem wm_f41 {aC : Nat → ClassId} {r : Nat} {v : Nat → Int32} {A : Nat → Nat → Int32} {R : ZM} {y : Int32} : zup (mm aC r v A R) r (.inr (9, [.int (v 0), .int (v 1), .ref (r + 1), .ref (r + 2), .ref (r + 3), .ref (r + 4), .ref (r + 5), .ref (r + 6), .ref (r + 7), .ref (r + 8), .ref (r + 9), .ref (r + 10), .ref (r + 11), .ref (r + 12), .ref (r + 13), .ref (r + 14), .ref (r + 15), .ref (r + 16), .ref (r + 17), .ref (r + 18), .int (v 20), .ref (r + 19), .ref (r + 20), .ref (r + 21), .ref (r + 22), .ref (r + 23), .int (v 26), .int (v 27), .ref (r + 24), .ref (r + 25), .ref (r + 26), .ref (r + 27), .ref (r + 28), .int (v 33), .int (v 34), .ref (r + 29), .ref (r + 30), .ref (r + 31), .ref (r + 32), .ref (r + 33), .ref (r + 34), .int y, .int (v 42), .int (v 43), .ref (r + 35), .int (v 45), .ref (r + 36), .int (v 47), .ref (r + 37), .ref (r + 38)])) = mm aC r (upd v 41 y) A R := by
  refine mm_wr (k := 0) (by decide) (by simp [mc, mobj, upd]) (fun j hj => by simp [mc, hj])
theorem wm_f42 {aC : Nat → ClassId} {r : Nat} {v : Nat → Int32} {A : Nat → Nat → Int32} {R : ZM} {y : Int32} : zup (mm aC r v A R) r (.inr (9, [.int (v 0), .int (v 1), .ref (r + 1), .ref (r + 2), .ref (r + 3), .ref (r + 4), .ref (r + 5), .ref (r + 6), .ref (r + 7), .ref (r + 8), .ref (r + 9), .ref (r + 10), .ref (r + 11), .ref (r + 12), .ref (r + 13), .ref (r + 14), .ref (r + 15), .ref (r + 16), .ref (r + 17), .ref (r + 18), .int (v 20), .ref (r + 19), .ref (r + 20), .ref (r + 21), .ref (r + 22), .ref (r + 23), .int (v 26), .int (v 27), .ref (r + 24), .ref (r + 25), .ref (r + 26), .ref (r + 27), .ref (r + 28), .int (v 33), .int (v 34), .ref (r + 29), .ref (r + 30), .ref (r + 31), .ref (r + 32), .ref (r + 33), .ref (r + 34), .int (v 41), .int y, .int (v 43), .ref (r + 35), .int (v 45), .ref (r + 36), .int (v 47), .ref (r + 37), .ref (r + 38)])) = mm aC r (upd v 42 y) A R := by
  refine mm_wr (k := 0) (by decide) (by simp [mc, mobj, upd]) (fun j hj => by simp [mc, hj])
theorem wm_f43 {aC : Nat → ClassId} {r : Nat} {v : Nat → Int32} {A : Nat → Nat → Int32} {R : ZM} {y : Int32} : zup (mm aC r v A R) r (.inr (9, [.int (v 0), .int (v 1), .ref (r + 1), .ref (r + 2), .ref (r + 3), .ref (r + 4), .ref (r + 5), .ref (r + 6), .ref (r + 7), .ref (r + 8), .ref (r + 9), .ref (r + 10), .ref (r + 11), .ref (r + 12), .ref (r + 13), .ref (r + 14), .ref (r + 15), .ref (r + 16), .ref (r + 17), .ref (r + 18), .int (v 20), .ref (r + 19), .ref (r + 20), .ref (r + 21), .ref (r + 22), .ref (r + 23), .int (v 26), .int (v 27), .ref (r + 24), .ref (r + 25), .ref (r + 26), .ref (r + 27), .ref (r + 28), .int (v 33), .int (v 34), .ref (r + 29), .ref (r + 30), .ref (r + 31), .ref (r + 32), .ref (r + 33), .ref (r + 34), .int (v 41), .int (v 42), .int y, .ref (r + 35), .int (v 45), .ref (r + 36), .int (v 47), .ref (r + 37), .ref (r + 38)])) = mm aC r (upd v 43 y) A R := by
  refine mm_wr (k := 0) (by decide) (by simp [mc, mobj, upd]) (fun j hj => by simp [mc, hj])
theorem wm_f45 {aC : Nat → ClassId} {r : Nat} {v : Nat → Int32} {A : Nat → Nat → Int32} {R : ZM} {y : Int32} : zup (mm aC r v A R) r (.inr (9, [.int (v 0), .int (v 1), .ref (r + 1), .ref (r + 2), .ref (r + 3), .ref (r + 4), .ref (r + 5), .ref (r + 6), .ref (r + 7), .ref (r + 8), .ref (r + 9), .ref (r + 10), .ref (r + 11), .ref (r + 12), .ref (r + 13), .ref (r + 14), .ref (r + 15), .ref (r + 16), .ref (r + 17), .ref (r + 18), .int (v 20), .ref (r + 19), .ref (r + 20), .ref (r + 21), .ref (r + 22), .ref (r + 23), .int (v 26), .int (v 27), .ref (r + 24), .ref (r + 25), .ref (r + 26), .ref (r + 27), .ref (r + 28), .int (v 33), .int (v 34), .ref (r + 29), .ref (r + 30), .ref (r + 31), .ref (r + 32), .ref (r + 33), .ref (r + 34), .int (v 41), .int (v 42), .int (v 43), .ref (r + 35), .int y, .ref (r + 36), .int (v 47), .ref (r + 37), .ref (r + 38)])) = mm aC r (upd v 45 y) A R := by
  refine mm_wr (k := 0) (by decide) (by simp [mc, mobj, upd]) (fun j hj => by simp [mc, hj])
theorem wm_f47 {aC : Nat → ClassId} {r : Nat} {v : Nat → Int32} {A : Nat → Nat → Int32} {R : ZM} {y : Int32} : zup (mm aC r v A R) r (.inr (9, [.int (v 0), .int (v 1), .ref (r + 1), .ref (r + 2), .ref (r + 3), .ref (r + 4), .ref (r + 5), .ref (r + 6), .ref (r + 7), .ref (r + 8), .ref (r + 9), .ref (r + 10), .ref (r + 11), .ref (r + 12), .ref (r + 13), .ref (r + 14), .ref (r + 15), .ref (r + 16), .ref (r + 17), .ref (r + 18), .int (v 20), .ref (r + 19), .ref (r + 20), .ref (r + 21), .ref (r + 22), .ref (r + 23), .int (v 26), .int (v 27), .ref (r + 24), .ref (r + 25), .ref (r + 26), .ref (r + 27), .ref (r + 28), .int (v 33), .int (v 34), .ref (r + 29), .ref (r + 30), .ref (r + 31), .ref (r + 32), .ref (r + 33), .ref (r + 34), .int (v 41), .int (v 42), .int (v 43), .ref (r + 35), .int (v 45), .ref (r + 36), .int y, .ref (r + 37), .ref (r + 38)])) = mm aC r (upd v 47 y) A R := by
  refine mm_wr (k := 0) (by decide) (by simp [mc, mobj, upd]) (fun j hj => by simp [mc, hj])
theorem rm_1 {aC : Nat → ClassId} {r : Nat} {v : Nat → Int32} {A : Nat → Nat → Int32} {R : ZM} : mm aC r v A R (r + 1) = some (.inl (aC 0, 12, .inl (A 1))) := mm_at (k := 1) (by decide)
theorem wm_1 {aC : Nat → ClassId} {r : Nat} {v : Nat → Int32} {A : Nat → Nat → Int32} {R : ZM} {g : Nat → Int32} : zup (mm aC r v A R) (r + 1) (.inl (aC 0, 12, .inl g)) = mm aC r v (u1 A 1 g) R := by
  refine mm_wr (k := 1) (by decide) (by simp [mc, u1, mbool, mlen]) (fun j hj => by simp [mc, u1, hj])
theorem rm_2 {aC : Nat → ClassId} {r : Nat} {v : Nat → Int32} {A : Nat → Nat → Int32} {R : ZM} : mm aC r v A R (r + 2) = some (.inl (aC 0, 12, .inl (A 2))) := mm_at (k := 2) (by decide)
theorem wm_2 {aC : Nat → ClassId} {r : Nat} {v : Nat → Int32} {A : Nat → Nat → Int32} {R : ZM} {g : Nat → Int32} : zup (mm aC r v A R) (r + 2) (.inl (aC 0, 12, .inl g)) = mm aC r v (u1 A 2 g) R := by
  refine mm_wr (k := 2) (by decide) (by simp [mc, u1, mbool, mlen]) (fun j hj => by simp [mc, u1, hj])
theorem rm_3 {aC : Nat → ClassId} {r : Nat} {v : Nat → Int32} {A : Nat → Nat → Int32} {R : ZM} : mm aC r v A R (r + 3) = some (.inl (aC 0, 12, .inl (A 3))) := mm_at (k := 3) (by decide)
theorem wm_3 {aC : Nat → ClassId} {r : Nat} {v : Nat → Int32} {A : Nat → Nat → Int32} {R : ZM} {g : Nat → Int32} : zup (mm aC r v A R) (r + 3) (.inl (aC 0, 12, .inl g)) = mm aC r v (u1 A 3 g) R := by
  refine mm_wr (k := 3) (by decide) (by simp [mc, u1, mbool, mlen]) (fun j hj => by simp [mc, u1, hj])
theorem rm_4 {aC : Nat → ClassId} {r : Nat} {v : Nat → Int32} {A : Nat → Nat → Int32} {R : ZM} : mm aC r v A R (r + 4) = some (.inl (aC 1, 12, .inl (A 4))) := mm_at (k := 4) (by decide)
theorem wm_4 {aC : Nat → ClassId} {r : Nat} {v : Nat → Int32} {A : Nat → Nat → Int32} {R : ZM} {g : Nat → Int32} : zup (mm aC r v A R) (r + 4) (.inl (aC 1, 12, .inl g)) = mm aC r v (u1 A 4 g) R := by
  refine mm_wr (k := 4) (by decide) (by simp [mc, u1, mbool, mlen]) (fun j hj => by simp [mc, u1, hj])
theorem rm_5 {aC : Nat → ClassId} {r : Nat} {v : Nat → Int32} {A : Nat → Nat → Int32} {R : ZM} : mm aC r v A R (r + 5) = some (.inl (aC 0, 12, .inl (A 5))) := mm_at (k := 5) (by decide)
theorem wm_5 {aC : Nat → ClassId} {r : Nat} {v : Nat → Int32} {A : Nat → Nat → Int32} {R : ZM} {g : Nat → Int32} : zup (mm aC r v A R) (r + 5) (.inl (aC 0, 12, .inl g)) = mm aC r v (u1 A 5 g) R := by
  refine mm_wr (k := 5) (by decide) (by simp [mc, u1, mbool, mlen]) (fun j hj => by simp [mc, u1, hj])
theorem rm_6 {aC : Nat → ClassId} {r : Nat} {v : Nat → Int32} {A : Nat → Nat → Int32} {R : ZM} : mm aC r v A R (r + 6) = some (.inl (aC 0, 72, .inl (A 6))) := mm_at (k := 6) (by decide)
theorem wm_6 {aC : Nat → ClassId} {r : Nat} {v : Nat → Int32} {A : Nat → Nat → Int32} {R : ZM} {g : Nat → Int32} : zup (mm aC r v A R) (r + 6) (.inl (aC 0, 72, .inl g)) = mm aC r v (u1 A 6 g) R := by
  refine mm_wr (k := 6) (by decide) (by simp [mc, u1, mbool, mlen]) (fun j hj => by simp [mc, u1, hj])
theorem rm_7 {aC : Nat → ClassId} {r : Nat} {v : Nat → Int32} {A : Nat → Nat → Int32} {R : ZM} : mm aC r v A R (r + 7) = some (.inl (aC 0, 72, .inl (A 7))) := mm_at (k := 7) (by decide)
theorem wm_7 {aC : Nat → ClassId} {r : Nat} {v : Nat → Int32} {A : Nat → Nat → Int32} {R : ZM} {g : Nat → Int32} : zup (mm aC r v A R) (r + 7) (.inl (aC 0, 72, .inl g)) = mm aC r v (u1 A 7 g) R := by
  refine mm_wr (k := 7) (by decide) (by simp [mc, u1, mbool, mlen]) (fun j hj => by simp [mc, u1, hj])
theorem rm_8 {aC : Nat → ClassId} {r : Nat} {v : Nat → Int32} {A : Nat → Nat → Int32} {R : ZM} : mm aC r v A R (r + 8) = some (.inl (aC 0, 72, .inl (A 8))) := mm_at (k := 8) (by decide)
theorem wm_8 {aC : Nat → ClassId} {r : Nat} {v : Nat → Int32} {A : Nat → Nat → Int32} {R : ZM} {g : Nat → Int32} : zup (mm aC r v A R) (r + 8) (.inl (aC 0, 72, .inl g)) = mm aC r v (u1 A 8 g) R := by
  refine mm_wr (k := 8) (by decide) (by simp [mc, u1, mbool, mlen]) (fun j hj => by simp [mc, u1, hj])
theorem rm_9 {aC : Nat → ClassId} {r : Nat} {v : Nat → Int32} {A : Nat → Nat → Int32} {R : ZM} : mm aC r v A R (r + 9) = some (.inl (aC 1, 72, .inl (A 9))) := mm_at (k := 9) (by decide)
theorem wm_9 {aC : Nat → ClassId} {r : Nat} {v : Nat → Int32} {A : Nat → Nat → Int32} {R : ZM} {g : Nat → Int32} : zup (mm aC r v A R) (r + 9) (.inl (aC 1, 72, .inl g)) = mm aC r v (u1 A 9 g) R := by
  refine mm_wr (k := 9) (by decide) (by simp [mc, u1, mbool, mlen]) (fun j hj => by simp [mc, u1, hj])
theorem rm_10 {aC : Nat → ClassId} {r : Nat} {v : Nat → Int32} {A : Nat → Nat → Int32} {R : ZM} : mm aC r v A R (r + 10) = some (.inl (aC 0, 12, .inl (A 10))) := mm_at (k := 10) (by decide)
theorem wm_10 {aC : Nat → ClassId} {r : Nat} {v : Nat → Int32} {A : Nat → Nat → Int32} {R : ZM} {g : Nat → Int32} : zup (mm aC r v A R) (r + 10) (.inl (aC 0, 12, .inl g)) = mm aC r v (u1 A 10 g) R := by
  refine mm_wr (k := 10) (by decide) (by simp [mc, u1, mbool, mlen]) (fun j hj => by simp [mc, u1, hj])
theorem rm_11 {aC : Nat → ClassId} {r : Nat} {v : Nat → Int32} {A : Nat → Nat → Int32} {R : ZM} : mm aC r v A R (r + 11) = some (.inl (aC 0, 48, .inl (A 11))) := mm_at (k := 11) (by decide)
theorem wm_11 {aC : Nat → ClassId} {r : Nat} {v : Nat → Int32} {A : Nat → Nat → Int32} {R : ZM} {g : Nat → Int32} : zup (mm aC r v A R) (r + 11) (.inl (aC 0, 48, .inl g)) = mm aC r v (u1 A 11 g) R := by
  refine mm_wr (k := 11) (by decide) (by simp [mc, u1, mbool, mlen]) (fun j hj => by simp [mc, u1, hj])
theorem rm_12 {aC : Nat → ClassId} {r : Nat} {v : Nat → Int32} {A : Nat → Nat → Int32} {R : ZM} : mm aC r v A R (r + 12) = some (.inl (aC 0, 48, .inl (A 12))) := mm_at (k := 12) (by decide)
theorem wm_12 {aC : Nat → ClassId} {r : Nat} {v : Nat → Int32} {A : Nat → Nat → Int32} {R : ZM} {g : Nat → Int32} : zup (mm aC r v A R) (r + 12) (.inl (aC 0, 48, .inl g)) = mm aC r v (u1 A 12 g) R := by
  refine mm_wr (k := 12) (by decide) (by simp [mc, u1, mbool, mlen]) (fun j hj => by simp [mc, u1, hj])
theorem rm_13 {aC : Nat → ClassId} {r : Nat} {v : Nat → Int32} {A : Nat → Nat → Int32} {R : ZM} : mm aC r v A R (r + 13) = some (.inl (aC 0, 48, .inl (A 13))) := mm_at (k := 13) (by decide)
theorem wm_13 {aC : Nat → ClassId} {r : Nat} {v : Nat → Int32} {A : Nat → Nat → Int32} {R : ZM} {g : Nat → Int32} : zup (mm aC r v A R) (r + 13) (.inl (aC 0, 48, .inl g)) = mm aC r v (u1 A 13 g) R := by
  refine mm_wr (k := 13) (by decide) (by simp [mc, u1, mbool, mlen]) (fun j hj => by simp [mc, u1, hj])
theorem rm_14 {aC : Nat → ClassId} {r : Nat} {v : Nat → Int32} {A : Nat → Nat → Int32} {R : ZM} : mm aC r v A R (r + 14) = some (.inl (aC 0, 4, .inl (A 14))) := mm_at (k := 14) (by decide)
theorem wm_14 {aC : Nat → ClassId} {r : Nat} {v : Nat → Int32} {A : Nat → Nat → Int32} {R : ZM} {g : Nat → Int32} : zup (mm aC r v A R) (r + 14) (.inl (aC 0, 4, .inl g)) = mm aC r v (u1 A 14 g) R := by
  refine mm_wr (k := 14) (by decide) (by simp [mc, u1, mbool, mlen]) (fun j hj => by simp [mc, u1, hj])
theorem rm_15 {aC : Nat → ClassId} {r : Nat} {v : Nat → Int32} {A : Nat → Nat → Int32} {R : ZM} : mm aC r v A R (r + 15) = some (.inl (aC 0, 40, .inl (A 15))) := mm_at (k := 15) (by decide)
theorem wm_15 {aC : Nat → ClassId} {r : Nat} {v : Nat → Int32} {A : Nat → Nat → Int32} {R : ZM} {g : Nat → Int32} : zup (mm aC r v A R) (r + 15) (.inl (aC 0, 40, .inl g)) = mm aC r v (u1 A 15 g) R := by
  refine mm_wr (k := 15) (by decide) (by simp [mc, u1, mbool, mlen]) (fun j hj => by simp [mc, u1, hj])
theorem rm_16 {aC : Nat → ClassId} {r : Nat} {v : Nat → Int32} {A : Nat → Nat → Int32} {R : ZM} : mm aC r v A R (r + 16) = some (.inl (aC 0, 40, .inl (A 16))) := mm_at (k := 16) (by decide)
theorem wm_16 {aC : Nat → ClassId} {r : Nat} {v : Nat → Int32} {A : Nat → Nat → Int32} {R : ZM} {g : Nat → Int32} : zup (mm aC r v A R) (r + 16) (.inl (aC 0, 40, .inl g)) = mm aC r v (u1 A 16 g) R := by
  refine mm_wr (k := 16) (by decide) (by simp [mc, u1, mbool, mlen]) (fun j hj => by simp [mc, u1, hj])
theorem rm_17 {aC : Nat → ClassId} {r : Nat} {v : Nat → Int32} {A : Nat → Nat → Int32} {R : ZM} : mm aC r v A R (r + 17) = some (.inl (aC 0, 40, .inl (A 17))) := mm_at (k := 17) (by decide)
theorem wm_17 {aC : Nat → ClassId} {r : Nat} {v : Nat → Int32} {A : Nat → Nat → Int32} {R : ZM} {g : Nat → Int32} : zup (mm aC r v A R) (r + 17) (.inl (aC 0, 40, .inl g)) = mm aC r v (u1 A 17 g) R := by
  refine mm_wr (k := 17) (by decide) (by simp [mc, u1, mbool, mlen]) (fun j hj => by simp [mc, u1, hj])
theorem rm_18 {aC : Nat → ClassId} {r : Nat} {v : Nat → Int32} {A : Nat → Nat → Int32} {R : ZM} : mm aC r v A R (r + 18) = some (.inl (aC 1, 4, .inl (A 18))) := mm_at (k := 18) (by decide)
theorem wm_18 {aC : Nat → ClassId} {r : Nat} {v : Nat → Int32} {A : Nat → Nat → Int32} {R : ZM} {g : Nat → Int32} : zup (mm aC r v A R) (r + 18) (.inl (aC 1, 4, .inl g)) = mm aC r v (u1 A 18 g) R := by
  refine mm_wr (k := 18) (by decide) (by simp [mc, u1, mbool, mlen]) (fun j hj => by simp [mc, u1, hj])
theorem rm_19 {aC : Nat → ClassId} {r : Nat} {v : Nat → Int32} {A : Nat → Nat → Int32} {R : ZM} : mm aC r v A R (r + 19) = some (.inl (aC 0, 120, .inl (A 19))) := mm_at (k := 19) (by decide)
theorem wm_19 {aC : Nat → ClassId} {r : Nat} {v : Nat → Int32} {A : Nat → Nat → Int32} {R : ZM} {g : Nat → Int32} : zup (mm aC r v A R) (r + 19) (.inl (aC 0, 120, .inl g)) = mm aC r v (u1 A 19 g) R := by
  refine mm_wr (k := 19) (by decide) (by simp [mc, u1, mbool, mlen]) (fun j hj => by simp [mc, u1, hj])
theorem rm_20 {aC : Nat → ClassId} {r : Nat} {v : Nat → Int32} {A : Nat → Nat → Int32} {R : ZM} : mm aC r v A R (r + 20) = some (.inl (aC 0, 120, .inl (A 20))) := mm_at (k := 20) (by decide)
theorem wm_20 {aC : Nat → ClassId} {r : Nat} {v : Nat → Int32} {A : Nat → Nat → Int32} {R : ZM} {g : Nat → Int32} : zup (mm aC r v A R) (r + 20) (.inl (aC 0, 120, .inl g)) = mm aC r v (u1 A 20 g) R := by
  refine mm_wr (k := 20) (by decide) (by simp [mc, u1, mbool, mlen]) (fun j hj => by simp [mc, u1, hj])
theorem rm_21 {aC : Nat → ClassId} {r : Nat} {v : Nat → Int32} {A : Nat → Nat → Int32} {R : ZM} : mm aC r v A R (r + 21) = some (.inl (aC 0, 120, .inl (A 21))) := mm_at (k := 21) (by decide)
theorem wm_21 {aC : Nat → ClassId} {r : Nat} {v : Nat → Int32} {A : Nat → Nat → Int32} {R : ZM} {g : Nat → Int32} : zup (mm aC r v A R) (r + 21) (.inl (aC 0, 120, .inl g)) = mm aC r v (u1 A 21 g) R := by
  refine mm_wr (k := 21) (by decide) (by simp [mc, u1, mbool, mlen]) (fun j hj => by simp [mc, u1, hj])
theorem rm_22 {aC : Nat → ClassId} {r : Nat} {v : Nat → Int32} {A : Nat → Nat → Int32} {R : ZM} : mm aC r v A R (r + 22) = some (.inl (aC 0, 120, .inl (A 22))) := mm_at (k := 22) (by decide)
theorem wm_22 {aC : Nat → ClassId} {r : Nat} {v : Nat → Int32} {A : Nat → Nat → Int32} {R : ZM} {g : Nat → Int32} : zup (mm aC r v A R) (r + 22) (.inl (aC 0, 120, .inl g)) = mm aC r v (u1 A 22 g) R := by
  refine mm_wr (k := 22) (by decide) (by simp [mc, u1, mbool, mlen]) (fun j hj => by simp [mc, u1, hj])
theorem rm_23 {aC : Nat → ClassId} {r : Nat} {v : Nat → Int32} {A : Nat → Nat → Int32} {R : ZM} : mm aC r v A R (r + 23) = some (.inl (aC 1, 7, .inl (A 23))) := mm_at (k := 23) (by decide)
theorem wm_23 {aC : Nat → ClassId} {r : Nat} {v : Nat → Int32} {A : Nat → Nat → Int32} {R : ZM} {g : Nat → Int32} : zup (mm aC r v A R) (r + 23) (.inl (aC 1, 7, .inl g)) = mm aC r v (u1 A 23 g) R := by
  refine mm_wr (k := 23) (by decide) (by simp [mc, u1, mbool, mlen]) (fun j hj => by simp [mc, u1, hj])
theorem rm_24 {aC : Nat → ClassId} {r : Nat} {v : Nat → Int32} {A : Nat → Nat → Int32} {R : ZM} : mm aC r v A R (r + 24) = some (.inl (aC 0, 120, .inl (A 24))) := mm_at (k := 24) (by decide)
theorem wm_24 {aC : Nat → ClassId} {r : Nat} {v : Nat → Int32} {A : Nat → Nat → Int32} {R : ZM} {g : Nat → Int32} : zup (mm aC r v A R) (r + 24) (.inl (aC 0, 120, .inl g)) = mm aC r v (u1 A 24 g) R := by
  refine mm_wr (k := 24) (by decide) (by simp [mc, u1, mbool, mlen]) (fun j hj => by simp [mc, u1, hj])
theorem rm_25 {aC : Nat → ClassId} {r : Nat} {v : Nat → Int32} {A : Nat → Nat → Int32} {R : ZM} : mm aC r v A R (r + 25) = some (.inl (aC 0, 120, .inl (A 25))) := mm_at (k := 25) (by decide)
theorem wm_25 {aC : Nat → ClassId} {r : Nat} {v : Nat → Int32} {A : Nat → Nat → Int32} {R : ZM} {g : Nat → Int32} : zup (mm aC r v A R) (r + 25) (.inl (aC 0, 120, .inl g)) = mm aC r v (u1 A 25 g) R := by
  refine mm_wr (k := 25) (by decide) (by simp [mc, u1, mbool, mlen]) (fun j hj => by simp [mc, u1, hj])
theorem rm_26 {aC : Nat → ClassId} {r : Nat} {v : Nat → Int32} {A : Nat → Nat → Int32} {R : ZM} : mm aC r v A R (r + 26) = some (.inl (aC 0, 120, .inl (A 26))) := mm_at (k := 26) (by decide)
theorem wm_26 {aC : Nat → ClassId} {r : Nat} {v : Nat → Int32} {A : Nat → Nat → Int32} {R : ZM} {g : Nat → Int32} : zup (mm aC r v A R) (r + 26) (.inl (aC 0, 120, .inl g)) = mm aC r v (u1 A 26 g) R := by
  refine mm_wr (k := 26) (by decide) (by simp [mc, u1, mbool, mlen]) (fun j hj => by simp [mc, u1, hj])
theorem rm_27 {aC : Nat → ClassId} {r : Nat} {v : Nat → Int32} {A : Nat → Nat → Int32} {R : ZM} : mm aC r v A R (r + 27) = some (.inl (aC 0, 120, .inl (A 27))) := mm_at (k := 27) (by decide)
theorem wm_27 {aC : Nat → ClassId} {r : Nat} {v : Nat → Int32} {A : Nat → Nat → Int32} {R : ZM} {g : Nat → Int32} : zup (mm aC r v A R) (r + 27) (.inl (aC 0, 120, .inl g)) = mm aC r v (u1 A 27 g) R := by
  refine mm_wr (k := 27) (by decide) (by simp [mc, u1, mbool, mlen]) (fun j hj => by simp [mc, u1, hj])
theorem rm_28 {aC : Nat → ClassId} {r : Nat} {v : Nat → Int32} {A : Nat → Nat → Int32} {R : ZM} : mm aC r v A R (r + 28) = some (.inl (aC 1, 7, .inl (A 28))) := mm_at (k := 28) (by decide)
theorem wm_28 {aC : Nat → ClassId} {r : Nat} {v : Nat → Int32} {A : Nat → Nat → Int32} {R : ZM} {g : Nat → Int32} : zup (mm aC r v A R) (r + 28) (.inl (aC 1, 7, .inl g)) = mm aC r v (u1 A 28 g) R := by
  refine mm_wr (k := 28) (by decide) (by simp [mc, u1, mbool, mlen]) (fun j hj => by simp [mc, u1, hj])
theorem rm_29 {aC : Nat → ClassId} {r : Nat} {v : Nat → Int32} {A : Nat → Nat → Int32} {R : ZM} : mm aC r v A R (r + 29) = some (.inl (aC 0, 240, .inl (A 29))) := mm_at (k := 29) (by decide)
theorem wm_29 {aC : Nat → ClassId} {r : Nat} {v : Nat → Int32} {A : Nat → Nat → Int32} {R : ZM} {g : Nat → Int32} : zup (mm aC r v A R) (r + 29) (.inl (aC 0, 240, .inl g)) = mm aC r v (u1 A 29 g) R := by
  refine mm_wr (k := 29) (by decide) (by simp [mc, u1, mbool, mlen]) (fun j hj => by simp [mc, u1, hj])
theorem rm_30 {aC : Nat → ClassId} {r : Nat} {v : Nat → Int32} {A : Nat → Nat → Int32} {R : ZM} : mm aC r v A R (r + 30) = some (.inl (aC 0, 240, .inl (A 30))) := mm_at (k := 30) (by decide)
theorem wm_30 {aC : Nat → ClassId} {r : Nat} {v : Nat → Int32} {A : Nat → Nat → Int32} {R : ZM} {g : Nat → Int32} : zup (mm aC r v A R) (r + 30) (.inl (aC 0, 240, .inl g)) = mm aC r v (u1 A 30 g) R := by
  refine mm_wr (k := 30) (by decide) (by simp [mc, u1, mbool, mlen]) (fun j hj => by simp [mc, u1, hj])
theorem rm_31 {aC : Nat → ClassId} {r : Nat} {v : Nat → Int32} {A : Nat → Nat → Int32} {R : ZM} : mm aC r v A R (r + 31) = some (.inl (aC 0, 240, .inl (A 31))) := mm_at (k := 31) (by decide)
theorem wm_31 {aC : Nat → ClassId} {r : Nat} {v : Nat → Int32} {A : Nat → Nat → Int32} {R : ZM} {g : Nat → Int32} : zup (mm aC r v A R) (r + 31) (.inl (aC 0, 240, .inl g)) = mm aC r v (u1 A 31 g) R := by
  refine mm_wr (k := 31) (by decide) (by simp [mc, u1, mbool, mlen]) (fun j hj => by simp [mc, u1, hj])
theorem rm_32 {aC : Nat → ClassId} {r : Nat} {v : Nat → Int32} {A : Nat → Nat → Int32} {R : ZM} : mm aC r v A R (r + 32) = some (.inl (aC 0, 240, .inl (A 32))) := mm_at (k := 32) (by decide)
theorem wm_32 {aC : Nat → ClassId} {r : Nat} {v : Nat → Int32} {A : Nat → Nat → Int32} {R : ZM} {g : Nat → Int32} : zup (mm aC r v A R) (r + 32) (.inl (aC 0, 240, .inl g)) = mm aC r v (u1 A 32 g) R := by
  refine mm_wr (k := 32) (by decide) (by simp [mc, u1, mbool, mlen]) (fun j hj => by simp [mc, u1, hj])
theorem rm_33 {aC : Nat → ClassId} {r : Nat} {v : Nat → Int32} {A : Nat → Nat → Int32} {R : ZM} : mm aC r v A R (r + 33) = some (.inl (aC 1, 240, .inl (A 33))) := mm_at (k := 33) (by decide)
theorem wm_33 {aC : Nat → ClassId} {r : Nat} {v : Nat → Int32} {A : Nat → Nat → Int32} {R : ZM} {g : Nat → Int32} : zup (mm aC r v A R) (r + 33) (.inl (aC 1, 240, .inl g)) = mm aC r v (u1 A 33 g) R := by
  refine mm_wr (k := 33) (by decide) (by simp [mc, u1, mbool, mlen]) (fun j hj => by simp [mc, u1, hj])
theorem rm_34 {aC : Nat → ClassId} {r : Nat} {v : Nat → Int32} {A : Nat → Nat → Int32} {R : ZM} : mm aC r v A R (r + 34) = some (.inl (aC 0, 12, .inl (A 34))) := mm_at (k := 34) (by decide)
theorem wm_34 {aC : Nat → ClassId} {r : Nat} {v : Nat → Int32} {A : Nat → Nat → Int32} {R : ZM} {g : Nat → Int32} : zup (mm aC r v A R) (r + 34) (.inl (aC 0, 12, .inl g)) = mm aC r v (u1 A 34 g) R := by
  refine mm_wr (k := 34) (by decide) (by simp [mc, u1, mbool, mlen]) (fun j hj => by simp [mc, u1, hj])
theorem rm_35 {aC : Nat → ClassId} {r : Nat} {v : Nat → Int32} {A : Nat → Nat → Int32} {R : ZM} : mm aC r v A R (r + 35) = some (.inl (aC 0, 20400, .inl (A 35))) := mm_at (k := 35) (by decide)
theorem wm_35 {aC : Nat → ClassId} {r : Nat} {v : Nat → Int32} {A : Nat → Nat → Int32} {R : ZM} {g : Nat → Int32} : zup (mm aC r v A R) (r + 35) (.inl (aC 0, 20400, .inl g)) = mm aC r v (u1 A 35 g) R := by
  refine mm_wr (k := 35) (by decide) (by simp [mc, u1, mbool, mlen]) (fun j hj => by simp [mc, u1, hj])
theorem rm_36 {aC : Nat → ClassId} {r : Nat} {v : Nat → Int32} {A : Nat → Nat → Int32} {R : ZM} : mm aC r v A R (r + 36) = some (.inl (aC 0, 20400, .inl (A 36))) := mm_at (k := 36) (by decide)
theorem wm_36 {aC : Nat → ClassId} {r : Nat} {v : Nat → Int32} {A : Nat → Nat → Int32} {R : ZM} {g : Nat → Int32} : zup (mm aC r v A R) (r + 36) (.inl (aC 0, 20400, .inl g)) = mm aC r v (u1 A 36 g) R := by
  refine mm_wr (k := 36) (by decide) (by simp [mc, u1, mbool, mlen]) (fun j hj => by simp [mc, u1, hj])
theorem rm_37 {aC : Nat → ClassId} {r : Nat} {v : Nat → Int32} {A : Nat → Nat → Int32} {R : ZM} : mm aC r v A R (r + 37) = some (.inl (aC 0, 120, .inl (A 37))) := mm_at (k := 37) (by decide)
theorem wm_37 {aC : Nat → ClassId} {r : Nat} {v : Nat → Int32} {A : Nat → Nat → Int32} {R : ZM} {g : Nat → Int32} : zup (mm aC r v A R) (r + 37) (.inl (aC 0, 120, .inl g)) = mm aC r v (u1 A 37 g) R := by
  refine mm_wr (k := 37) (by decide) (by simp [mc, u1, mbool, mlen]) (fun j hj => by simp [mc, u1, hj])
theorem rm_38 {aC : Nat → ClassId} {r : Nat} {v : Nat → Int32} {A : Nat → Nat → Int32} {R : ZM} : mm aC r v A R (r + 38) = some (.inl (aC 0, 4, .inl (A 38))) := mm_at (k := 38) (by decide)
theorem wm_38 {aC : Nat → ClassId} {r : Nat} {v : Nat → Int32} {A : Nat → Nat → Int32} {R : ZM} {g : Nat → Int32} : zup (mm aC r v A R) (r + 38) (.inl (aC 0, 4, .inl g)) = mm aC r v (u1 A 38 g) R := by
  refine mm_wr (k := 38) (by decide) (by simp [mc, u1, mbool, mlen]) (fun j hj => by simp [mc, u1, hj])
end
section
/-! contracts whose end is one value and one map -/
def zd (r0 : Option Value) (M0 : ZM) : Option Value → ZM → Nat → Prop := fun r M' _ => r = r0 ∧ M' = M0
def zdz (r0 : Option Value) (M0 : ZM) (s0 : Nat) : Option Value → ZM → Nat → Prop := fun r M' sz' => r = r0 ∧ M' = M0 ∧ sz' = s0
def bI (p : Prop) [Decidable p] : Int32 := if p then 1 else 0
theorem bI_t {p : Prop} [Decidable p] (h : p) : bI p = 1 := if_pos h
theorem bI_f {p : Prop} [Decidable p] (h : ¬ p) : bI p = 0 := if_neg h
theorem bI_0 {p : Prop} [Decidable p] : bI p = 0 ↔ ¬ p := by
  by_cases h : p <;> simp [bI, h]
theorem bI_n {p : Prop} [Decidable p] : ¬ bI p = 0 ↔ p := by
  by_cases h : p <;> simp [bI, h]
theorem bI_nar {p : Prop} [Decidable p] : narrow .boolean (.int (bI p)) = .int (bI p) := by
  by_cases h : p <;> simp [bI, h] <;> rfl
theorem bI_fit {p : Prop} [Decidable p] : fits .boolean (.int (bI p)) = true := by
  by_cases h : p <;> simp [bI, h] <;> rfl
section ZR6
variable {p : Program} {l : Launch} {e : Env} {R : Room} {s : State} {m : MethodId} {args : Array Value} {below : List Frame} {meth : Method} {c : Code} {D : va_G} {aC : Nat → ClassId} {b0 : Nat} {M : ZM} {sz cells slots : Nat} {Q : State → Prop} {own : String} {cc : ByteArray} {nL pc : Nat} {ls : Array Slot} {rest : List Value} {a : Nat}
theorem zbn {g g2 g3 : JFrame} {P : Prop} (h : ∀ (H : Heap) (locs : List Loc), (¬ P → W p l e R s m args below meth c H locs cells slots Q g2) → (P → W p l e R s m args below meth c H locs cells slots Q g3) → W p l e R s m args below meth c H locs cells slots Q g)
    (k1 : ¬ P → Z p l e R s m args below meth c D b0 M sz cells slots Q g2) (k2 : P → Z p l e R s m args below meth c D b0 M sz cells slots Q g3) : Z p l e R s m args below meth c D b0 M sz cells slots Q g :=
  fun H locs h1 h2 h3 => h H locs (fun q => k1 q H locs h1 h2 h3) (fun q => k2 q H locs h1 h2 h3)
theorem zst {st st' : List Value} (h : st = st') (k : Z p l e R s m args below meth c D b0 M sz cells slots Q (F0 m pc ls st')) : Z p l e R s m args below meth c D b0 M sz cells slots Q (F0 m pc ls st) := h ▸ k
theorem zdV (C : zC p l s m c D aC b0 own cc nL) (hml : ls.size = nL) {idx : Nat} {y : MethodName} {cy : ByteArray} {maxL n nv mc ms ci : Nat} {ret : Option FieldType} {As fs : List Value} {r0 : Option Value} {M0 : ZM} {st st' : List Value} {T : u_T} {N : Nat} (F : zLkV own idx y cy maxL ret n)
    (hM : Ct l D aC b0 y cy maxL ret nv mc ms (.ref a :: As) M sz (zd r0 M0)) (ha : M a = some (.inr (ci, fs))) (hci : vwCl[ci]? = some (y.cls, T, N)) (hn : As.length = n) (hst : st = As.reverse ++ .ref a :: rest) (hW : (rest.map fun v => v.category).sum ≤ 8)
    (hR : 20 * nv + 21 ≤ R.frames ∧ maxL + (200 * nv + 219) ≤ R.locals ∧ cells + mc ≤ R.cells ∧ slots + ms ≤ R.slots) (hdg : decode cc pc = .ok (.invokevirtual idx, 3)) (hs : r0.toList ++ rest = st')
    (kk : ∀ sz' : Nat, Z p l e R s m args below meth c D b0 M0 sz' (cells + mc) (slots + ms) Q (F0 m (pc + 3) ls st')) : Z p l e R s m args below meth c D b0 M sz cells slots Q (F0 m pc ls st) :=
  z_callV C hml F hM ha hci hn hst hW hR hdg (fun r M' sz' hp => by obtain ⟨rfl, rfl⟩ := hp; rw [hs]; exact kk sz')
theorem zdS (C : zC p l s m c D aC b0 own cc nL) (hml : ls.size = nL) {idx : Nat} {y : MethodName} {cy : ByteArray} {maxL n nv mc ms : Nat} {ret : Option FieldType} {As : List Value} {r0 : Option Value} {M0 : ZM} {st st' : List Value} (F : zLkS own idx y cy maxL ret n)
    (hM : Ct l D aC b0 y cy maxL ret nv mc ms As M sz (zd r0 M0)) (hn : As.length = n) (hst : st = As.reverse ++ rest) (hW : (rest.map fun v => v.category).sum ≤ 8)
    (hR : 20 * nv + 21 ≤ R.frames ∧ maxL + (200 * nv + 219) ≤ R.locals ∧ cells + mc ≤ R.cells ∧ slots + ms ≤ R.slots) (hdg : decode cc pc = .ok (.invokestatic idx, 3)) (hs : r0.toList ++ rest = st')
    (kk : ∀ sz' : Nat, Z p l e R s m args below meth c D b0 M0 sz' (cells + mc) (slots + ms) Q (F0 m (pc + 3) ls st')) : Z p l e R s m args below meth c D b0 M sz cells slots Q (F0 m pc ls st) :=
  z_callS C hml F hM hn hst hW hR hdg (fun r M' sz' hp => by obtain ⟨rfl, rfl⟩ := hp; rw [hs]; exact kk sz')
end ZR6
end
section
/-! contracts that end in one value, or in one throw: f = 0 the method returns; else it throws exN f -/
def exN : Nat → String
  | 1 => "java/lang/IllegalArgumentException"
  | 2 => "java/lang/IllegalStateException"
  | _ => "java/lang/IndexOutOfBoundsException"
def zdx (f : Nat) (r0 : Option Value) (M0 : ZM) : Option Value → ZM → Nat → Prop := fun r M' _ => f = 0 ∧ r = r0 ∧ M' = M0
def zxx (f : Nat) (M0 : ZM) : String → ZM → Prop := fun E M' => ¬ f = 0 ∧ E = exN f ∧ M' = M0
theorem rf_if2 {f : Nat → Nat} {n m : Nat} (hj : m < n) : va_rf ((fun q => if q < n then some (f q) else none) m) = .ref (f m) := by
  simp [va_rf, hj]
end
section
theorem u1_id (A : Nat → Nat → Int32) (k : Nat) : u1 A k (A k) = A := by
  funext j
  by_cases h : j = k
  · subst h; exact u1_s _ _ _
  · exact u1_k _ _ h
theorem upd_id (v : Nat → Int32) (k : Nat) : upd v k (v k) = v := by
  funext j
  by_cases h : j = k
  · subst h; simp [upd]
  · simp [upd, h]
theorem u2_id (iv : Nat → Nat → Int32) (k f : Nat) : u2 iv k f (iv k f) = iv := by
  funext j g
  by_cases h : j = k ∧ g = f
  · obtain ⟨rfl, rfl⟩ := h; exact u2_s _ _ _ _
  · simp [u2, h]
theorem u1_u1 (A : Nat → Nat → Int32) (k : Nat) (g h : Nat → Int32) : u1 (u1 A k g) k h = u1 A k h := by
  funext j
  by_cases q : j = k <;> simp [u1, q]
theorem upd_upd (v : Nat → Int32) (k : Nat) (g h : Int32) : upd (upd v k g) k h = upd v k h := by
  funext j
  by_cases q : j = k <;> simp [upd, q]
theorem u2_u2 (iv : Nat → Nat → Int32) (k f : Nat) (g h : Int32) : u2 (u2 iv k f g) k f h = u2 iv k f h := by
  funext j i
  by_cases q : j = k ∧ i = f <;> simp [u2, q]
theorem fl_lt {b : Int32} {j N : Nat} (hb : b = nI N) (hj : j ≤ N) (hN : N < 2 ^ 31) (c : ¬ b ≤ nI j) : j < N := by
  rw [hb] at c
  rcases Nat.lt_or_ge j N with q | q
  · exact q
  · exact absurd (nI_le q (by omega)) c
theorem fl_eq {b : Int32} {j N : Nat} (hb : b = nI N) (hj : j ≤ N) (hN : N < 2 ^ 31) (c : b ≤ nI j) : j = N := by
  rw [hb] at c
  rcases Nat.lt_or_ge j N with q | q
  · exact absurd c (nI_ge q hN)
  · omega
theorem nI_self {a : Int32} {n : Nat} (h : a = nI n) (hn : n < 2 ^ 31) : a = nI a.toNatClampNeg := by
  rw [h, nI_clamp hn]
theorem nI_sle {a : Int32} {n N : Nat} (h : a = nI n) (hn : n ≤ N) (hN : N < 2 ^ 31) : a.toNatClampNeg ≤ N := by
  rw [h, nI_clamp (by omega)]
  exact hn
theorem nI_sn {a : Int32} {n N : Nat} (h : a = nI n) (hn : n ≤ N) (hN : N < 2 ^ 31) : a = nI a.toNatClampNeg := nI_self h (by omega)
theorem u1_sw {A : Nat → Nat → Int32} {k j : Nat} {g h : Nat → Int32} (n : k ≠ j) : u1 (u1 A k g) j h = u1 (u1 A j h) k g := by
  funext q
  by_cases h1 : q = k
  · subst h1; simp [u1, n]
  · by_cases h2 : q = j
    · subst h2; simp [u1, h1]
    · simp [u1, h1, h2]
theorem upd_sw {v : Nat → Int32} {k j : Nat} {g h : Int32} (n : k ≠ j) : upd (upd v k g) j h = upd (upd v j h) k g := by
  funext q
  by_cases h1 : q = k
  · subst h1; simp [upd, n]
  · by_cases h2 : q = j
    · subst h2; simp [upd, h1]
    · simp [upd, h1, h2]
theorem u1_id2 {A : Nat → Nat → Int32} {k : Nat} {g : Nat → Int32} (h : g = A k) : u1 A k g = A := by rw [h, u1_id]
theorem upd_id2 {v : Nat → Int32} {k : Nat} {g : Int32} (h : g = v k) : upd v k g = v := by rw [h, upd_id]
theorem u2_id2 {iv : Nat → Nat → Int32} {k f : Nat} {g : Int32} (h : g = iv k f) : u2 iv k f g = iv := by rw [h, u2_id]
end
section
section ZR7
variable {p : Program} {l : Launch} {e : Env} {R : Room} {s : State} {m : MethodId} {args : Array Value} {below : List Frame} {meth : Method} {c : Code} {D : va_G} {aC : Nat → ClassId} {b0 : Nat} {M : ZM} {sz cells slots : Nat} {Q : State → Prop} {own : String} {cc : ByteArray} {nL pc : Nat} {ls : Array Slot} {rest : List Value} {a : Nat}
theorem zsz {g : JFrame} {sz' : Nat} (h : sz = sz') (k : Z p l e R s m args below meth c D b0 M sz' cells slots Q g) : Z p l e R s m args below meth c D b0 M sz cells slots Q g := h ▸ k
theorem zcs {g : JFrame} {k n : Nat} (h1 : cells = k) (h2 : slots = n) (kk : Z p l e R s m args below meth c D b0 M sz k n Q g) : Z p l e R s m args below meth c D b0 M sz cells slots Q g := by subst h1; subst h2; exact kk
theorem zdI (C : zC p l s m c D aC b0 own cc nL) (hml : ls.size = nL) {idx : Nat} {y : MethodName} {cy : ByteArray} {maxL n nv mc ms : Nat} {As : List Value} {M0 : ZM} {s0 : Nat} {st : List Value} (F : zLkI own idx y cy maxL n)
    (hM : Ct l D aC b0 y cy maxL none nv mc ms (.ref a :: As) M sz (zdz none M0 s0)) (hn : As.length = n) (hst : st = As.reverse ++ .ref a :: rest) (hW : (rest.map fun v => v.category).sum ≤ 8)
    (hR : 20 * nv + 21 ≤ R.frames ∧ maxL + (200 * nv + 219) ≤ R.locals ∧ cells + mc ≤ R.cells ∧ slots + ms ≤ R.slots) (hdg : decode cc pc = .ok (.invokespecial idx, 3))
    (kk : Z p l e R s m args below meth c D b0 M0 s0 (cells + mc) (slots + ms) Q (F0 m (pc + 3) ls rest)) : Z p l e R s m args below meth c D b0 M sz cells slots Q (F0 m pc ls st) :=
  z_callI C hml F hM hn hst hW hR hdg (fun r M' sz' hp => by obtain ⟨rfl, rfl, rfl⟩ := hp; exact kk)
/-- new int[n], new boolean[n] with n written out -/
theorem z_newi (C : zC p l s m c D aC b0 own cc nL) {n : Int32} {N' : Nat} (hn : ¬ n < 0) (hN : n.toNatClampNeg = N') (hb : N' ≤ 100000) (hcells : cells + 1 ≤ R.cells) (hslots : slots + N' ≤ R.slots) (hdg : decode cc pc = .ok (.newarray .int, 2))
    (kk : Z p l e R s m args below meth c D b0 (zup M sz (.inl (aC 0, N', .inl (fun _ => 0)))) (sz + 1) (cells + 1) (slots + N') Q (F0 m (pc + 2) ls (.ref sz :: rest))) : Z p l e R s m args below meth c D b0 M sz cells slots Q (F0 m pc ls (.int n :: rest)) :=
  z_newa (atype := .int) (a0 := (N', .inl (fun _ => 0))) C 0 rfl aw_int (fun _ _ => rfl) (fun _ => rfl) hn hN (by show N' * 4 ≤ _; omega) hcells hslots hdg kk
theorem z_newz (C : zC p l s m c D aC b0 own cc nL) {n : Int32} {N' : Nat} (hn : ¬ n < 0) (hN : n.toNatClampNeg = N') (hb : N' ≤ 100000) (hcells : cells + 1 ≤ R.cells) (hslots : slots + N' ≤ R.slots) (hdg : decode cc pc = .ok (.newarray .boolean, 2))
    (kk : Z p l e R s m args below meth c D b0 (zup M sz (.inl (aC 1, N', .inl (fun _ => 0)))) (sz + 1) (cells + 1) (slots + N') Q (F0 m (pc + 2) ls (.ref sz :: rest))) : Z p l e R s m args below meth c D b0 M sz cells slots Q (F0 m pc ls (.int n :: rest)) :=
  z_newa (atype := .boolean) (a0 := (N', .inl (fun _ => 0))) C 1 rfl aw_boolean (fun _ _ => rfl) (fun _ => rfl) hn hN (by show N' * 1 ≤ _; omega) hcells hslots hdg kk
end ZR7
end
section
def fX8_isGraph (a_ : Int32) : Int32 := if a_ < 0 then (0) else if 7 ≤ a_ then (0) else (1)
theorem nbfX8_isGraph {a_ : Int32} : narrow .boolean (.int (fX8_isGraph a_)) = .int (fX8_isGraph a_) := by
  unfold fX8_isGraph
  repeat' split
  all_goals try dsimp only
  all_goals first | rfl | assumption
set_option maxHeartbeats 1000000 in
set_option maxRecDepth 10000 in
theorem ctX8_isGraph {l : Launch} {D : va_G} {aC : Nat → ClassId} {b0 sz : Nat} {M : ZM} {a_ : Int32} : Ct l D aC b0 yX8_isGraph cX8_isGraph 1 (some .boolean) 0 0 0 [.int (a_)] M sz (zd (some (.int (fX8_isGraph a_))) M) := by
  refine Ct.of (by decide) (Nat.le_of_ble_eq_true rfl) ?_
  intro p e s m below meth c ls C hr hlk hnm hl
  have hl : lv_has ls 1 [(0, .int (a_))] := hl
  obtain ⟨hx, hb, -, -, -⟩ := id C
  refine zz (fun _ _ => lv_iload_n hx hb dX8_isGraph_0 rfl (lv_at hl 0 rfl)) ?_
  refine zb (fun _ _ => lv_if_lt (tgt := 14) hx hb dX8_isGraph_1 (by decide)) (fun c_1 => ?_) (fun c_1 => ?_)
  · refine zz (fun _ _ => lv_iconst (v := 0) hx hb dX8_isGraph_14 (by decide)) ?_
    exact z_zret C hr rfl hlk dX8_isGraph_15 (by simp only [zd, fX8_isGraph, if_pos c_1, and_self])
  · refine zz (fun _ _ => lv_iload_n hx hb dX8_isGraph_4 rfl (lv_at hl 0 rfl)) ?_
    refine zz (fun _ _ => lv_bipush (v := 7) hx hb dX8_isGraph_5 (by decide)) ?_
    refine zb (fun _ _ => lv_icmp_ge (tgt := 14) hx hb dX8_isGraph_7 (by decide)) (fun c_2 => ?_) (fun c_2 => ?_)
    · refine zz (fun _ _ => lv_iconst (v := 0) hx hb dX8_isGraph_14 (by decide)) ?_
      exact z_zret C hr rfl hlk dX8_isGraph_15 (by simp only [zd, fX8_isGraph, if_neg c_1, if_pos c_2, and_self])
    · refine zz (fun _ _ => lv_iconst (v := 1) hx hb dX8_isGraph_10 (by decide)) ?_
      refine zz (fun _ _ => lv_goto (tgt := 15) hx hb dX8_isGraph_11 (by decide)) ?_
      exact z_zret C hr rfl hlk dX8_isGraph_15 (by simp only [zd, fX8_isGraph, if_neg c_1, if_neg c_2, and_self])
def fX8_fromCounts (a_ : Int32) : Int32 := if a_ = 2 then (1) else if a_ < 6 then (0) else (1)
theorem nbfX8_fromCounts {a_ : Int32} : narrow .boolean (.int (fX8_fromCounts a_)) = .int (fX8_fromCounts a_) := by
  unfold fX8_fromCounts
  repeat' split
  all_goals try dsimp only
  all_goals first | rfl | assumption
set_option maxHeartbeats 1000000 in
set_option maxRecDepth 10000 in
theorem ctX8_fromCounts {l : Launch} {D : va_G} {aC : Nat → ClassId} {b0 sz : Nat} {M : ZM} {a_ : Int32} : Ct l D aC b0 yX8_fromCounts cX8_fromCounts 1 (some .boolean) 0 0 0 [.int (a_)] M sz (zd (some (.int (fX8_fromCounts a_))) M) := by
  refine Ct.of (by decide) (Nat.le_of_ble_eq_true rfl) ?_
  intro p e s m below meth c ls C hr hlk hnm hl
  have hl : lv_has ls 1 [(0, .int (a_))] := hl
  obtain ⟨hx, hb, -, -, -⟩ := id C
  refine zz (fun _ _ => lv_iload_n hx hb dX8_fromCounts_0 rfl (lv_at hl 0 rfl)) ?_
  refine zz (fun _ _ => lv_iconst (v := 2) hx hb dX8_fromCounts_1 (by decide)) ?_
  refine zb (fun _ _ => lv_icmp_eq (tgt := 11) hx hb dX8_fromCounts_2 (by decide)) (fun c_1 => ?_) (fun c_1 => ?_)
  · refine zz (fun _ _ => lv_iconst (v := 1) hx hb dX8_fromCounts_11 (by decide)) ?_
    refine zz (fun _ _ => lv_goto (tgt := 16) hx hb dX8_fromCounts_12 (by decide)) ?_
    exact z_zret C hr rfl hlk dX8_fromCounts_16 (by simp only [zd, fX8_fromCounts, if_pos c_1, and_self])
  · refine zz (fun _ _ => lv_iload_n hx hb dX8_fromCounts_5 rfl (lv_at hl 0 rfl)) ?_
    refine zz (fun _ _ => lv_bipush (v := 6) hx hb dX8_fromCounts_6 (by decide)) ?_
    refine zb (fun _ _ => lv_icmp_lt (tgt := 15) hx hb dX8_fromCounts_8 (by decide)) (fun c_2 => ?_) (fun c_2 => ?_)
    · refine zz (fun _ _ => lv_iconst (v := 0) hx hb dX8_fromCounts_15 (by decide)) ?_
      exact z_zret C hr rfl hlk dX8_fromCounts_16 (by simp only [zd, fX8_fromCounts, if_neg c_1, if_pos c_2, and_self])
    · refine zz (fun _ _ => lv_iconst (v := 1) hx hb dX8_fromCounts_11 (by decide)) ?_
      refine zz (fun _ _ => lv_goto (tgt := 16) hx hb dX8_fromCounts_12 (by decide)) ?_
      exact z_zret C hr rfl hlk dX8_fromCounts_16 (by simp only [zd, fX8_fromCounts, if_neg c_1, if_neg c_2, and_self])
def fX8_fromMayBe (a_ : Int32) (b_ : Int32) : Int32 := if a_ = 9 then if b_ < 0 then (0) else if 4 ≤ b_ then (0) else (1) else if (fX8_fromCounts a_) = 0 then (1) else if (fX8_isGraph b_) = 0 then (0) else (1)
theorem nbfX8_fromMayBe {a_ : Int32} {b_ : Int32} : narrow .boolean (.int (fX8_fromMayBe a_ b_)) = .int (fX8_fromMayBe a_ b_) := by
  unfold fX8_fromMayBe
  repeat' split
  all_goals try dsimp only
  all_goals first | rfl | assumption | exact nbfX8_fromCounts | exact nbfX8_isGraph
set_option maxHeartbeats 1000000 in
set_option maxRecDepth 10000 in
theorem ctX8_fromMayBe {l : Launch} {D : va_G} {aC : Nat → ClassId} {b0 sz : Nat} {M : ZM} {a_ : Int32} {b_ : Int32} : Ct l D aC b0 yX8_fromMayBe cX8_fromMayBe 2 (some .boolean) 1 0 0 [.int (a_), .int (b_)] M sz (zd (some (.int (fX8_fromMayBe a_ b_))) M) := by
  refine Ct.of (by decide) (Nat.le_of_ble_eq_true rfl) ?_
  intro p e s m below meth c ls C hr hlk hnm hl
  have hl : lv_has ls 2 [(0, .int (a_)), (1, .int (b_))] := hl
  obtain ⟨hx, hb, -, -, -⟩ := id C
  refine zz (fun _ _ => lv_iload_n hx hb dX8_fromMayBe_0 rfl (lv_at hl 0 rfl)) ?_
  refine zz (fun _ _ => lv_bipush (v := 9) hx hb dX8_fromMayBe_1 (by decide)) ?_
  refine zbn (fun _ _ => lv_icmp_ne (tgt := 21) hx hb dX8_fromMayBe_3 (by decide)) (fun c_1 => ?_) (fun c_1 => ?_)
  · refine zz (fun _ _ => lv_iload_n hx hb dX8_fromMayBe_21 rfl (lv_at hl 0 rfl)) ?_
    refine zdS (As := [.int (a_)]) (rest := []) (st' := [.int ((fX8_fromCounts a_))]) C hl.1 lk_X8_70 (ctX8_fromCounts) rfl rfl (Nat.le_of_ble_eq_true rfl) ⟨by decide, by decide, by decide, by decide⟩ dX8_fromMayBe_22 rfl (fun sz => ?_)
    refine zb (fun _ _ => lv_if_eq (tgt := 35) hx hb dX8_fromMayBe_25 (by decide)) (fun c_2 => ?_) (fun c_2 => ?_)
    · refine zz (fun _ _ => lv_iconst (v := 1) hx hb dX8_fromMayBe_35 (by decide)) ?_
      refine zz (fun _ _ => lv_goto (tgt := 40) hx hb dX8_fromMayBe_36 (by decide)) ?_
      exact z_zret C hr rfl hlk dX8_fromMayBe_40 (by simp only [zd, fX8_fromMayBe, if_neg c_1, if_pos c_2, and_self])
    · refine zz (fun _ _ => lv_iload_n hx hb dX8_fromMayBe_28 rfl (lv_at hl 1 rfl)) ?_
      refine zdS (As := [.int (b_)]) (rest := []) (st' := [.int ((fX8_isGraph b_))]) C hl.1 lk_X8_242 (ctX8_isGraph) rfl rfl (Nat.le_of_ble_eq_true rfl) ⟨by decide, by decide, by decide, by decide⟩ dX8_fromMayBe_29 rfl (fun sz => ?_)
      refine zb (fun _ _ => lv_if_eq (tgt := 39) hx hb dX8_fromMayBe_32 (by decide)) (fun c_3 => ?_) (fun c_3 => ?_)
      · refine zz (fun _ _ => lv_iconst (v := 0) hx hb dX8_fromMayBe_39 (by decide)) ?_
        exact z_zret C hr rfl hlk dX8_fromMayBe_40 (by simp only [zd, fX8_fromMayBe, if_neg c_1, if_neg c_2, if_pos c_3, and_self])
      · refine zz (fun _ _ => lv_iconst (v := 1) hx hb dX8_fromMayBe_35 (by decide)) ?_
        refine zz (fun _ _ => lv_goto (tgt := 40) hx hb dX8_fromMayBe_36 (by decide)) ?_
        exact z_zret C hr rfl hlk dX8_fromMayBe_40 (by simp only [zd, fX8_fromMayBe, if_neg c_1, if_neg c_2, if_neg c_3, and_self])
  · refine zz (fun _ _ => lv_iload_n hx hb dX8_fromMayBe_6 rfl (lv_at hl 1 rfl)) ?_
    refine zb (fun _ _ => lv_if_lt (tgt := 19) hx hb dX8_fromMayBe_7 (by decide)) (fun c_4 => ?_) (fun c_4 => ?_)
    · refine zz (fun _ _ => lv_iconst (v := 0) hx hb dX8_fromMayBe_19 (by decide)) ?_
      exact z_zret C hr rfl hlk dX8_fromMayBe_20 (by simp only [zd, fX8_fromMayBe, if_pos c_1, if_pos c_4, and_self])
    · refine zz (fun _ _ => lv_iload_n hx hb dX8_fromMayBe_10 rfl (lv_at hl 1 rfl)) ?_
      refine zz (fun _ _ => lv_iconst (v := 4) hx hb dX8_fromMayBe_11 (by decide)) ?_
      refine zb (fun _ _ => lv_icmp_ge (tgt := 19) hx hb dX8_fromMayBe_12 (by decide)) (fun c_5 => ?_) (fun c_5 => ?_)
      · refine zz (fun _ _ => lv_iconst (v := 0) hx hb dX8_fromMayBe_19 (by decide)) ?_
        exact z_zret C hr rfl hlk dX8_fromMayBe_20 (by simp only [zd, fX8_fromMayBe, if_pos c_1, if_neg c_4, if_pos c_5, and_self])
      · refine zz (fun _ _ => lv_iconst (v := 1) hx hb dX8_fromMayBe_15 (by decide)) ?_
        refine zz (fun _ _ => lv_goto (tgt := 20) hx hb dX8_fromMayBe_16 (by decide)) ?_
        exact z_zret C hr rfl hlk dX8_fromMayBe_20 (by simp only [zd, fX8_fromMayBe, if_pos c_1, if_neg c_4, if_neg c_5, and_self])
def fX8_toMayBe (a_ : Int32) (b_ : Int32) : Int32 := if b_ = (-1) then if a_ = 3 then (1) else if a_ = 5 then (1) else (0) else if b_ = (-2) then if a_ = 3 then (1) else if a_ = 5 then (1) else (0) else if (fX8_isGraph b_) = 0 then (0) else if a_ = 4 then if b_ = 0 then (0) else (1) else (1)
theorem nbfX8_toMayBe {a_ : Int32} {b_ : Int32} : narrow .boolean (.int (fX8_toMayBe a_ b_)) = .int (fX8_toMayBe a_ b_) := by
  unfold fX8_toMayBe
  repeat' split
  all_goals try dsimp only
  all_goals first | rfl | assumption | exact nbfX8_isGraph
set_option maxHeartbeats 1000000 in
set_option maxRecDepth 10000 in
theorem ctX8_toMayBe {l : Launch} {D : va_G} {aC : Nat → ClassId} {b0 sz : Nat} {M : ZM} {a_ : Int32} {b_ : Int32} : Ct l D aC b0 yX8_toMayBe cX8_toMayBe 2 (some .boolean) 1 0 0 [.int (a_), .int (b_)] M sz (zd (some (.int (fX8_toMayBe a_ b_))) M) := by
  refine Ct.of (by decide) (Nat.le_of_ble_eq_true rfl) ?_
  intro p e s m below meth c ls C hr hlk hnm hl
  have hl : lv_has ls 2 [(0, .int (a_)), (1, .int (b_))] := hl
  obtain ⟨hx, hb, -, -, -⟩ := id C
  refine zz (fun _ _ => lv_iload_n hx hb dX8_toMayBe_0 rfl (lv_at hl 1 rfl)) ?_
  refine zz (fun _ _ => lv_iconst (v := (-1)) hx hb dX8_toMayBe_1 (by decide)) ?_
  refine zb (fun _ _ => lv_icmp_eq (tgt := 11) hx hb dX8_toMayBe_2 (by decide)) (fun c_1 => ?_) (fun c_1 => ?_)
  · refine zz (fun _ _ => lv_iload_n hx hb dX8_toMayBe_11 rfl (lv_at hl 0 rfl)) ?_
    refine zz (fun _ _ => lv_iconst (v := 3) hx hb dX8_toMayBe_12 (by decide)) ?_
    refine zb (fun _ _ => lv_icmp_eq (tgt := 21) hx hb dX8_toMayBe_13 (by decide)) (fun c_2 => ?_) (fun c_2 => ?_)
    · refine zz (fun _ _ => lv_iconst (v := 1) hx hb dX8_toMayBe_21 (by decide)) ?_
      refine zz (fun _ _ => lv_goto (tgt := 26) hx hb dX8_toMayBe_22 (by decide)) ?_
      exact z_zret C hr rfl hlk dX8_toMayBe_26 (by simp only [zd, fX8_toMayBe, if_pos c_1, if_pos c_2, and_self])
    · refine zz (fun _ _ => lv_iload_n hx hb dX8_toMayBe_16 rfl (lv_at hl 0 rfl)) ?_
      refine zz (fun _ _ => lv_iconst (v := 5) hx hb dX8_toMayBe_17 (by decide)) ?_
      refine zbn (fun _ _ => lv_icmp_ne (tgt := 25) hx hb dX8_toMayBe_18 (by decide)) (fun c_3 => ?_) (fun c_3 => ?_)
      · refine zz (fun _ _ => lv_iconst (v := 0) hx hb dX8_toMayBe_25 (by decide)) ?_
        exact z_zret C hr rfl hlk dX8_toMayBe_26 (by simp only [zd, fX8_toMayBe, if_pos c_1, if_neg c_2, if_neg c_3, and_self])
      · refine zz (fun _ _ => lv_iconst (v := 1) hx hb dX8_toMayBe_21 (by decide)) ?_
        refine zz (fun _ _ => lv_goto (tgt := 26) hx hb dX8_toMayBe_22 (by decide)) ?_
        exact z_zret C hr rfl hlk dX8_toMayBe_26 (by simp only [zd, fX8_toMayBe, if_pos c_1, if_neg c_2, if_pos c_3, and_self])
  · refine zz (fun _ _ => lv_iload_n hx hb dX8_toMayBe_5 rfl (lv_at hl 1 rfl)) ?_
    refine zz (fun _ _ => lv_bipush (v := (-2)) hx hb dX8_toMayBe_6 (by decide)) ?_
    refine zbn (fun _ _ => lv_icmp_ne (tgt := 27) hx hb dX8_toMayBe_8 (by decide)) (fun c_4 => ?_) (fun c_4 => ?_)
    · refine zz (fun _ _ => lv_iload_n hx hb dX8_toMayBe_27 rfl (lv_at hl 1 rfl)) ?_
      refine zdS (As := [.int (b_)]) (rest := []) (st' := [.int ((fX8_isGraph b_))]) C hl.1 lk_X8_242 (ctX8_isGraph) rfl rfl (Nat.le_of_ble_eq_true rfl) ⟨by decide, by decide, by decide, by decide⟩ dX8_toMayBe_28 rfl (fun sz => ?_)
      refine zb (fun _ _ => lv_if_eq (tgt := 47) hx hb dX8_toMayBe_31 (by decide)) (fun c_5 => ?_) (fun c_5 => ?_)
      · refine zz (fun _ _ => lv_iconst (v := 0) hx hb dX8_toMayBe_47 (by decide)) ?_
        exact z_zret C hr rfl hlk dX8_toMayBe_48 (by simp only [zd, fX8_toMayBe, if_neg c_1, if_neg c_4, if_pos c_5, and_self])
      · refine zz (fun _ _ => lv_iload_n hx hb dX8_toMayBe_34 rfl (lv_at hl 0 rfl)) ?_
        refine zz (fun _ _ => lv_iconst (v := 4) hx hb dX8_toMayBe_35 (by decide)) ?_
        refine zbn (fun _ _ => lv_icmp_ne (tgt := 43) hx hb dX8_toMayBe_36 (by decide)) (fun c_6 => ?_) (fun c_6 => ?_)
        · refine zz (fun _ _ => lv_iconst (v := 1) hx hb dX8_toMayBe_43 (by decide)) ?_
          refine zz (fun _ _ => lv_goto (tgt := 48) hx hb dX8_toMayBe_44 (by decide)) ?_
          exact z_zret C hr rfl hlk dX8_toMayBe_48 (by simp only [zd, fX8_toMayBe, if_neg c_1, if_neg c_4, if_neg c_5, if_neg c_6, and_self])
        · refine zz (fun _ _ => lv_iload_n hx hb dX8_toMayBe_39 rfl (lv_at hl 1 rfl)) ?_
          refine zb (fun _ _ => lv_if_eq (tgt := 47) hx hb dX8_toMayBe_40 (by decide)) (fun c_7 => ?_) (fun c_7 => ?_)
          · refine zz (fun _ _ => lv_iconst (v := 0) hx hb dX8_toMayBe_47 (by decide)) ?_
            exact z_zret C hr rfl hlk dX8_toMayBe_48 (by simp only [zd, fX8_toMayBe, if_neg c_1, if_neg c_4, if_neg c_5, if_pos c_6, if_pos c_7, and_self])
          · refine zz (fun _ _ => lv_iconst (v := 1) hx hb dX8_toMayBe_43 (by decide)) ?_
            refine zz (fun _ _ => lv_goto (tgt := 48) hx hb dX8_toMayBe_44 (by decide)) ?_
            exact z_zret C hr rfl hlk dX8_toMayBe_48 (by simp only [zd, fX8_toMayBe, if_neg c_1, if_neg c_4, if_neg c_5, if_pos c_6, if_neg c_7, and_self])
    · refine zz (fun _ _ => lv_iload_n hx hb dX8_toMayBe_11 rfl (lv_at hl 0 rfl)) ?_
      refine zz (fun _ _ => lv_iconst (v := 3) hx hb dX8_toMayBe_12 (by decide)) ?_
      refine zb (fun _ _ => lv_icmp_eq (tgt := 21) hx hb dX8_toMayBe_13 (by decide)) (fun c_8 => ?_) (fun c_8 => ?_)
      · refine zz (fun _ _ => lv_iconst (v := 1) hx hb dX8_toMayBe_21 (by decide)) ?_
        refine zz (fun _ _ => lv_goto (tgt := 26) hx hb dX8_toMayBe_22 (by decide)) ?_
        exact z_zret C hr rfl hlk dX8_toMayBe_26 (by simp only [zd, fX8_toMayBe, if_neg c_1, if_pos c_4, if_pos c_8, and_self])
      · refine zz (fun _ _ => lv_iload_n hx hb dX8_toMayBe_16 rfl (lv_at hl 0 rfl)) ?_
        refine zz (fun _ _ => lv_iconst (v := 5) hx hb dX8_toMayBe_17 (by decide)) ?_
        refine zbn (fun _ _ => lv_icmp_ne (tgt := 25) hx hb dX8_toMayBe_18 (by decide)) (fun c_9 => ?_) (fun c_9 => ?_)
        · refine zz (fun _ _ => lv_iconst (v := 0) hx hb dX8_toMayBe_25 (by decide)) ?_
          exact z_zret C hr rfl hlk dX8_toMayBe_26 (by simp only [zd, fX8_toMayBe, if_neg c_1, if_pos c_4, if_neg c_8, if_neg c_9, and_self])
        · refine zz (fun _ _ => lv_iconst (v := 1) hx hb dX8_toMayBe_21 (by decide)) ?_
          refine zz (fun _ _ => lv_goto (tgt := 26) hx hb dX8_toMayBe_22 (by decide)) ?_
          exact z_zret C hr rfl hlk dX8_toMayBe_26 (by simp only [zd, fX8_toMayBe, if_neg c_1, if_pos c_4, if_neg c_8, if_pos c_9, and_self])
def fX8_templateMayBe (a_ : Int32) (b_ : Int32) : Int32 := if a_ = 2 then (1) else if a_ = 0 then if b_ = 0 then if a_ = 1 then (1) else (0) else (1) else if a_ = 1 then if b_ = 0 then (1) else (0) else (0)
theorem nbfX8_templateMayBe {a_ : Int32} {b_ : Int32} : narrow .boolean (.int (fX8_templateMayBe a_ b_)) = .int (fX8_templateMayBe a_ b_) := by
  unfold fX8_templateMayBe
  repeat' split
  all_goals try dsimp only
  all_goals first | rfl | assumption
set_option maxHeartbeats 1000000 in
set_option maxRecDepth 10000 in
theorem ctX8_templateMayBe {l : Launch} {D : va_G} {aC : Nat → ClassId} {b0 sz : Nat} {M : ZM} {a_ : Int32} {b_ : Int32} : Ct l D aC b0 yX8_templateMayBe cX8_templateMayBe 2 (some .boolean) 0 0 0 [.int (a_), .int (b_)] M sz (zd (some (.int (fX8_templateMayBe a_ b_))) M) := by
  refine Ct.of (by decide) (Nat.le_of_ble_eq_true rfl) ?_
  intro p e s m below meth c ls C hr hlk hnm hl
  have hl : lv_has ls 2 [(0, .int (a_)), (1, .int (b_))] := hl
  obtain ⟨hx, hb, -, -, -⟩ := id C
  refine zz (fun _ _ => lv_iload_n hx hb dX8_templateMayBe_0 rfl (lv_at hl 0 rfl)) ?_
  refine zz (fun _ _ => lv_iconst (v := 2) hx hb dX8_templateMayBe_1 (by decide)) ?_
  refine zb (fun _ _ => lv_icmp_eq (tgt := 22) hx hb dX8_templateMayBe_2 (by decide)) (fun c_1 => ?_) (fun c_1 => ?_)
  · refine zz (fun _ _ => lv_iconst (v := 1) hx hb dX8_templateMayBe_22 (by decide)) ?_
    refine zz (fun _ _ => lv_goto (tgt := 27) hx hb dX8_templateMayBe_23 (by decide)) ?_
    exact z_zret C hr rfl hlk dX8_templateMayBe_27 (by simp only [zd, fX8_templateMayBe, if_pos c_1, and_self])
  · refine zz (fun _ _ => lv_iload_n hx hb dX8_templateMayBe_5 rfl (lv_at hl 0 rfl)) ?_
    refine zbn (fun _ _ => lv_if_ne (tgt := 13) hx hb dX8_templateMayBe_6 (by decide)) (fun c_2 => ?_) (fun c_2 => ?_)
    · refine zz (fun _ _ => lv_iload_n hx hb dX8_templateMayBe_13 rfl (lv_at hl 0 rfl)) ?_
      refine zz (fun _ _ => lv_iconst (v := 1) hx hb dX8_templateMayBe_14 (by decide)) ?_
      refine zbn (fun _ _ => lv_icmp_ne (tgt := 26) hx hb dX8_templateMayBe_15 (by decide)) (fun c_3 => ?_) (fun c_3 => ?_)
      · refine zz (fun _ _ => lv_iconst (v := 0) hx hb dX8_templateMayBe_26 (by decide)) ?_
        exact z_zret C hr rfl hlk dX8_templateMayBe_27 (by simp only [zd, fX8_templateMayBe, if_neg c_1, if_neg c_2, if_neg c_3, and_self])
      · refine zz (fun _ _ => lv_iload_n hx hb dX8_templateMayBe_18 rfl (lv_at hl 1 rfl)) ?_
        refine zbn (fun _ _ => lv_if_ne (tgt := 26) hx hb dX8_templateMayBe_19 (by decide)) (fun c_4 => ?_) (fun c_4 => ?_)
        · refine zz (fun _ _ => lv_iconst (v := 0) hx hb dX8_templateMayBe_26 (by decide)) ?_
          exact z_zret C hr rfl hlk dX8_templateMayBe_27 (by simp only [zd, fX8_templateMayBe, if_neg c_1, if_neg c_2, if_pos c_3, if_neg c_4, and_self])
        · refine zz (fun _ _ => lv_iconst (v := 1) hx hb dX8_templateMayBe_22 (by decide)) ?_
          refine zz (fun _ _ => lv_goto (tgt := 27) hx hb dX8_templateMayBe_23 (by decide)) ?_
          exact z_zret C hr rfl hlk dX8_templateMayBe_27 (by simp only [zd, fX8_templateMayBe, if_neg c_1, if_neg c_2, if_pos c_3, if_pos c_4, and_self])
    · refine zz (fun _ _ => lv_iload_n hx hb dX8_templateMayBe_9 rfl (lv_at hl 1 rfl)) ?_
      refine zbn (fun _ _ => lv_if_ne (tgt := 22) hx hb dX8_templateMayBe_10 (by decide)) (fun c_5 => ?_) (fun c_5 => ?_)
      · refine zz (fun _ _ => lv_iconst (v := 1) hx hb dX8_templateMayBe_22 (by decide)) ?_
        refine zz (fun _ _ => lv_goto (tgt := 27) hx hb dX8_templateMayBe_23 (by decide)) ?_
        exact z_zret C hr rfl hlk dX8_templateMayBe_27 (by simp only [zd, fX8_templateMayBe, if_neg c_1, if_pos c_2, if_neg c_5, and_self])
      · refine zz (fun _ _ => lv_iload_n hx hb dX8_templateMayBe_13 rfl (lv_at hl 0 rfl)) ?_
        refine zz (fun _ _ => lv_iconst (v := 1) hx hb dX8_templateMayBe_14 (by decide)) ?_
        refine zbn (fun _ _ => lv_icmp_ne (tgt := 26) hx hb dX8_templateMayBe_15 (by decide)) (fun c_6 => ?_) (fun c_6 => ?_)
        · refine zz (fun _ _ => lv_iconst (v := 0) hx hb dX8_templateMayBe_26 (by decide)) ?_
          exact z_zret C hr rfl hlk dX8_templateMayBe_27 (by simp only [zd, fX8_templateMayBe, if_neg c_1, if_pos c_2, if_pos c_5, if_neg c_6, and_self])
        · refine zz (fun _ _ => lv_iload_n hx hb dX8_templateMayBe_18 rfl (lv_at hl 1 rfl)) ?_
          refine zbn (fun _ _ => lv_if_ne (tgt := 26) hx hb dX8_templateMayBe_19 (by decide)) (fun c_7 => ?_) (fun c_7 => ?_)
          · exact absurd c_5 c_7
          · refine zz (fun _ _ => lv_iconst (v := 1) hx hb dX8_templateMayBe_22 (by decide)) ?_
            refine zz (fun _ _ => lv_goto (tgt := 27) hx hb dX8_templateMayBe_23 (by decide)) ?_
            exact z_zret C hr rfl hlk dX8_templateMayBe_27 (by simp only [zd, fX8_templateMayBe, if_neg c_1, if_pos c_2, if_pos c_5, if_pos c_6, and_self])
def fX8_isName (a_ : Int32) : Int32 := if a_ < 0 then (0) else if 100 ≤ a_ then (0) else (1)
theorem nbfX8_isName {a_ : Int32} : narrow .boolean (.int (fX8_isName a_)) = .int (fX8_isName a_) := by
  unfold fX8_isName
  repeat' split
  all_goals try dsimp only
  all_goals first | rfl | assumption
set_option maxHeartbeats 1000000 in
set_option maxRecDepth 10000 in
theorem ctX8_isName {l : Launch} {D : va_G} {aC : Nat → ClassId} {b0 sz : Nat} {M : ZM} {a_ : Int32} : Ct l D aC b0 yX8_isName cX8_isName 1 (some .boolean) 0 0 0 [.int (a_)] M sz (zd (some (.int (fX8_isName a_))) M) := by
  refine Ct.of (by decide) (Nat.le_of_ble_eq_true rfl) ?_
  intro p e s m below meth c ls C hr hlk hnm hl
  have hl : lv_has ls 1 [(0, .int (a_))] := hl
  obtain ⟨hx, hb, -, -, -⟩ := id C
  refine zz (fun _ _ => lv_iload_n hx hb dX8_isName_0 rfl (lv_at hl 0 rfl)) ?_
  refine zb (fun _ _ => lv_if_lt (tgt := 14) hx hb dX8_isName_1 (by decide)) (fun c_1 => ?_) (fun c_1 => ?_)
  · refine zz (fun _ _ => lv_iconst (v := 0) hx hb dX8_isName_14 (by decide)) ?_
    exact z_zret C hr rfl hlk dX8_isName_15 (by simp only [zd, fX8_isName, if_pos c_1, and_self])
  · refine zz (fun _ _ => lv_iload_n hx hb dX8_isName_4 rfl (lv_at hl 0 rfl)) ?_
    refine zz (fun _ _ => lv_bipush (v := 100) hx hb dX8_isName_5 (by decide)) ?_
    refine zb (fun _ _ => lv_icmp_ge (tgt := 14) hx hb dX8_isName_7 (by decide)) (fun c_2 => ?_) (fun c_2 => ?_)
    · refine zz (fun _ _ => lv_iconst (v := 0) hx hb dX8_isName_14 (by decide)) ?_
      exact z_zret C hr rfl hlk dX8_isName_15 (by simp only [zd, fX8_isName, if_neg c_1, if_pos c_2, and_self])
    · refine zz (fun _ _ => lv_iconst (v := 1) hx hb dX8_isName_10 (by decide)) ?_
      refine zz (fun _ _ => lv_goto (tgt := 15) hx hb dX8_isName_11 (by decide)) ?_
      exact z_zret C hr rfl hlk dX8_isName_15 (by simp only [zd, fX8_isName, if_neg c_1, if_neg c_2, and_self])
def fX8_isVariable (a_ : Int32) : Int32 := if (-1) < a_ then (0) else if a_ ≤ (-5) then (0) else (1)
theorem nbfX8_isVariable {a_ : Int32} : narrow .boolean (.int (fX8_isVariable a_)) = .int (fX8_isVariable a_) := by
  unfold fX8_isVariable
  repeat' split
  all_goals try dsimp only
  all_goals first | rfl | assumption
set_option maxHeartbeats 1000000 in
set_option maxRecDepth 10000 in
theorem ctX8_isVariable {l : Launch} {D : va_G} {aC : Nat → ClassId} {b0 sz : Nat} {M : ZM} {a_ : Int32} : Ct l D aC b0 yX8_isVariable cX8_isVariable 1 (some .boolean) 0 0 0 [.int (a_)] M sz (zd (some (.int (fX8_isVariable a_))) M) := by
  refine Ct.of (by decide) (Nat.le_of_ble_eq_true rfl) ?_
  intro p e s m below meth c ls C hr hlk hnm hl
  have hl : lv_has ls 1 [(0, .int (a_))] := hl
  obtain ⟨hx, hb, -, -, -⟩ := id C
  refine zz (fun _ _ => lv_iload_n hx hb dX8_isVariable_0 rfl (lv_at hl 0 rfl)) ?_
  refine zz (fun _ _ => lv_iconst (v := (-1)) hx hb dX8_isVariable_1 (by decide)) ?_
  refine zb (fun _ _ => lv_icmp_gt (tgt := 15) hx hb dX8_isVariable_2 (by decide)) (fun c_1 => ?_) (fun c_1 => ?_)
  · refine zz (fun _ _ => lv_iconst (v := 0) hx hb dX8_isVariable_15 (by decide)) ?_
    exact z_zret C hr rfl hlk dX8_isVariable_16 (by simp only [zd, fX8_isVariable, if_pos c_1, and_self])
  · refine zz (fun _ _ => lv_iload_n hx hb dX8_isVariable_5 rfl (lv_at hl 0 rfl)) ?_
    refine zz (fun _ _ => lv_bipush (v := (-5)) hx hb dX8_isVariable_6 (by decide)) ?_
    refine zb (fun _ _ => lv_icmp_le (tgt := 15) hx hb dX8_isVariable_8 (by decide)) (fun c_2 => ?_) (fun c_2 => ?_)
    · refine zz (fun _ _ => lv_iconst (v := 0) hx hb dX8_isVariable_15 (by decide)) ?_
      exact z_zret C hr rfl hlk dX8_isVariable_16 (by simp only [zd, fX8_isVariable, if_neg c_1, if_pos c_2, and_self])
    · refine zz (fun _ _ => lv_iconst (v := 1) hx hb dX8_isVariable_11 (by decide)) ?_
      refine zz (fun _ _ => lv_goto (tgt := 16) hx hb dX8_isVariable_12 (by decide)) ?_
      exact z_zret C hr rfl hlk dX8_isVariable_16 (by simp only [zd, fX8_isVariable, if_neg c_1, if_neg c_2, and_self])
def fX8_isNewBlank (a_ : Int32) : Int32 := if (-11) < a_ then (0) else if a_ ≤ (-15) then (0) else (1)
theorem nbfX8_isNewBlank {a_ : Int32} : narrow .boolean (.int (fX8_isNewBlank a_)) = .int (fX8_isNewBlank a_) := by
  unfold fX8_isNewBlank
  repeat' split
  all_goals try dsimp only
  all_goals first | rfl | assumption
set_option maxHeartbeats 1000000 in
set_option maxRecDepth 10000 in
theorem ctX8_isNewBlank {l : Launch} {D : va_G} {aC : Nat → ClassId} {b0 sz : Nat} {M : ZM} {a_ : Int32} : Ct l D aC b0 yX8_isNewBlank cX8_isNewBlank 1 (some .boolean) 0 0 0 [.int (a_)] M sz (zd (some (.int (fX8_isNewBlank a_))) M) := by
  refine Ct.of (by decide) (Nat.le_of_ble_eq_true rfl) ?_
  intro p e s m below meth c ls C hr hlk hnm hl
  have hl : lv_has ls 1 [(0, .int (a_))] := hl
  obtain ⟨hx, hb, -, -, -⟩ := id C
  refine zz (fun _ _ => lv_iload_n hx hb dX8_isNewBlank_0 rfl (lv_at hl 0 rfl)) ?_
  refine zz (fun _ _ => lv_bipush (v := (-11)) hx hb dX8_isNewBlank_1 (by decide)) ?_
  refine zb (fun _ _ => lv_icmp_gt (tgt := 16) hx hb dX8_isNewBlank_3 (by decide)) (fun c_1 => ?_) (fun c_1 => ?_)
  · refine zz (fun _ _ => lv_iconst (v := 0) hx hb dX8_isNewBlank_16 (by decide)) ?_
    exact z_zret C hr rfl hlk dX8_isNewBlank_17 (by simp only [zd, fX8_isNewBlank, if_pos c_1, and_self])
  · refine zz (fun _ _ => lv_iload_n hx hb dX8_isNewBlank_6 rfl (lv_at hl 0 rfl)) ?_
    refine zz (fun _ _ => lv_bipush (v := (-15)) hx hb dX8_isNewBlank_7 (by decide)) ?_
    refine zb (fun _ _ => lv_icmp_le (tgt := 16) hx hb dX8_isNewBlank_9 (by decide)) (fun c_2 => ?_) (fun c_2 => ?_)
    · refine zz (fun _ _ => lv_iconst (v := 0) hx hb dX8_isNewBlank_16 (by decide)) ?_
      exact z_zret C hr rfl hlk dX8_isNewBlank_17 (by simp only [zd, fX8_isNewBlank, if_neg c_1, if_pos c_2, and_self])
    · refine zz (fun _ _ => lv_iconst (v := 1) hx hb dX8_isNewBlank_12 (by decide)) ?_
      refine zz (fun _ _ => lv_goto (tgt := 17) hx hb dX8_isNewBlank_13 (by decide)) ?_
      exact z_zret C hr rfl hlk dX8_isNewBlank_17 (by simp only [zd, fX8_isNewBlank, if_neg c_1, if_neg c_2, and_self])
def fX8_templateTermMayBe (a_ : Int32) (b_ : Int32) (c_ : Int32) : Int32 := if (fX8_isName c_) = 0 then if (fX8_isVariable c_) = 0 then if (fX8_isNewBlank c_) = 0 then (0) else if b_ = 0 then (0) else (1) else if a_ = 2 then (1) else if (fX8_isNewBlank c_) = 0 then (0) else if b_ = 0 then (0) else (1) else (1)
theorem nbfX8_templateTermMayBe {a_ : Int32} {b_ : Int32} {c_ : Int32} : narrow .boolean (.int (fX8_templateTermMayBe a_ b_ c_)) = .int (fX8_templateTermMayBe a_ b_ c_) := by
  unfold fX8_templateTermMayBe
  repeat' split
  all_goals try dsimp only
  all_goals first | rfl | assumption | exact nbfX8_isName | exact nbfX8_isNewBlank | exact nbfX8_isVariable
set_option maxHeartbeats 1000000 in
set_option maxRecDepth 10000 in
theorem ctX8_templateTermMayBe {l : Launch} {D : va_G} {aC : Nat → ClassId} {b0 sz : Nat} {M : ZM} {a_ : Int32} {b_ : Int32} {c_ : Int32} : Ct l D aC b0 yX8_templateTermMayBe cX8_templateTermMayBe 3 (some .boolean) 1 0 0 [.int (a_), .int (b_), .int (c_)] M sz (zd (some (.int (fX8_templateTermMayBe a_ b_ c_))) M) := by
  refine Ct.of (by decide) (Nat.le_of_ble_eq_true rfl) ?_
  intro p e s m below meth c ls C hr hlk hnm hl
  have hl : lv_has ls 3 [(0, .int (a_)), (1, .int (b_)), (2, .int (c_))] := hl
  obtain ⟨hx, hb, -, -, -⟩ := id C
  refine zz (fun _ _ => lv_iload_n hx hb dX8_templateTermMayBe_0 rfl (lv_at hl 2 rfl)) ?_
  refine zdS (As := [.int (c_)]) (rest := []) (st' := [.int ((fX8_isName c_))]) C hl.1 lk_X8_136 (ctX8_isName) rfl rfl (Nat.le_of_ble_eq_true rfl) ⟨by decide, by decide, by decide, by decide⟩ dX8_templateTermMayBe_1 rfl (fun sz => ?_)
  refine zbn (fun _ _ => lv_if_ne (tgt := 30) hx hb dX8_templateTermMayBe_4 (by decide)) (fun c_1 => ?_) (fun c_1 => ?_)
  · refine zz (fun _ _ => lv_iconst (v := 1) hx hb dX8_templateTermMayBe_30 (by decide)) ?_
    refine zz (fun _ _ => lv_goto (tgt := 35) hx hb dX8_templateTermMayBe_31 (by decide)) ?_
    exact z_zret C hr rfl hlk dX8_templateTermMayBe_35 (by simp only [zd, fX8_templateTermMayBe, if_neg c_1, and_self])
  · refine zz (fun _ _ => lv_iload_n hx hb dX8_templateTermMayBe_7 rfl (lv_at hl 2 rfl)) ?_
    refine zdS (As := [.int (c_)]) (rest := []) (st' := [.int ((fX8_isVariable c_))]) C hl.1 lk_X8_251 (ctX8_isVariable) rfl rfl (Nat.le_of_ble_eq_true rfl) ⟨by decide, by decide, by decide, by decide⟩ dX8_templateTermMayBe_8 rfl (fun sz => ?_)
    refine zb (fun _ _ => lv_if_eq (tgt := 19) hx hb dX8_templateTermMayBe_11 (by decide)) (fun c_2 => ?_) (fun c_2 => ?_)
    · refine zz (fun _ _ => lv_iload_n hx hb dX8_templateTermMayBe_19 rfl (lv_at hl 2 rfl)) ?_
      refine zdS (As := [.int (c_)]) (rest := []) (st' := [.int ((fX8_isNewBlank c_))]) C hl.1 lk_X8_97 (ctX8_isNewBlank) rfl rfl (Nat.le_of_ble_eq_true rfl) ⟨by decide, by decide, by decide, by decide⟩ dX8_templateTermMayBe_20 rfl (fun sz => ?_)
      refine zb (fun _ _ => lv_if_eq (tgt := 34) hx hb dX8_templateTermMayBe_23 (by decide)) (fun c_3 => ?_) (fun c_3 => ?_)
      · refine zz (fun _ _ => lv_iconst (v := 0) hx hb dX8_templateTermMayBe_34 (by decide)) ?_
        exact z_zret C hr rfl hlk dX8_templateTermMayBe_35 (by simp only [zd, fX8_templateTermMayBe, if_pos c_1, if_pos c_2, if_pos c_3, and_self])
      · refine zz (fun _ _ => lv_iload_n hx hb dX8_templateTermMayBe_26 rfl (lv_at hl 1 rfl)) ?_
        refine zb (fun _ _ => lv_if_eq (tgt := 34) hx hb dX8_templateTermMayBe_27 (by decide)) (fun c_4 => ?_) (fun c_4 => ?_)
        · refine zz (fun _ _ => lv_iconst (v := 0) hx hb dX8_templateTermMayBe_34 (by decide)) ?_
          exact z_zret C hr rfl hlk dX8_templateTermMayBe_35 (by simp only [zd, fX8_templateTermMayBe, if_pos c_1, if_pos c_2, if_neg c_3, if_pos c_4, and_self])
        · refine zz (fun _ _ => lv_iconst (v := 1) hx hb dX8_templateTermMayBe_30 (by decide)) ?_
          refine zz (fun _ _ => lv_goto (tgt := 35) hx hb dX8_templateTermMayBe_31 (by decide)) ?_
          exact z_zret C hr rfl hlk dX8_templateTermMayBe_35 (by simp only [zd, fX8_templateTermMayBe, if_pos c_1, if_pos c_2, if_neg c_3, if_neg c_4, and_self])
    · refine zz (fun _ _ => lv_iload_n hx hb dX8_templateTermMayBe_14 rfl (lv_at hl 0 rfl)) ?_
      refine zz (fun _ _ => lv_iconst (v := 2) hx hb dX8_templateTermMayBe_15 (by decide)) ?_
      refine zb (fun _ _ => lv_icmp_eq (tgt := 30) hx hb dX8_templateTermMayBe_16 (by decide)) (fun c_5 => ?_) (fun c_5 => ?_)
      · refine zz (fun _ _ => lv_iconst (v := 1) hx hb dX8_templateTermMayBe_30 (by decide)) ?_
        refine zz (fun _ _ => lv_goto (tgt := 35) hx hb dX8_templateTermMayBe_31 (by decide)) ?_
        exact z_zret C hr rfl hlk dX8_templateTermMayBe_35 (by simp only [zd, fX8_templateTermMayBe, if_pos c_1, if_neg c_2, if_pos c_5, and_self])
      · refine zz (fun _ _ => lv_iload_n hx hb dX8_templateTermMayBe_19 rfl (lv_at hl 2 rfl)) ?_
        refine zdS (As := [.int (c_)]) (rest := []) (st' := [.int ((fX8_isNewBlank c_))]) C hl.1 lk_X8_97 (ctX8_isNewBlank) rfl rfl (Nat.le_of_ble_eq_true rfl) ⟨by decide, by decide, by decide, by decide⟩ dX8_templateTermMayBe_20 rfl (fun sz => ?_)
        refine zb (fun _ _ => lv_if_eq (tgt := 34) hx hb dX8_templateTermMayBe_23 (by decide)) (fun c_6 => ?_) (fun c_6 => ?_)
        · refine zz (fun _ _ => lv_iconst (v := 0) hx hb dX8_templateTermMayBe_34 (by decide)) ?_
          exact z_zret C hr rfl hlk dX8_templateTermMayBe_35 (by simp only [zd, fX8_templateTermMayBe, if_pos c_1, if_neg c_2, if_neg c_5, if_pos c_6, and_self])
        · refine zz (fun _ _ => lv_iload_n hx hb dX8_templateTermMayBe_26 rfl (lv_at hl 1 rfl)) ?_
          refine zb (fun _ _ => lv_if_eq (tgt := 34) hx hb dX8_templateTermMayBe_27 (by decide)) (fun c_7 => ?_) (fun c_7 => ?_)
          · refine zz (fun _ _ => lv_iconst (v := 0) hx hb dX8_templateTermMayBe_34 (by decide)) ?_
            exact z_zret C hr rfl hlk dX8_templateTermMayBe_35 (by simp only [zd, fX8_templateTermMayBe, if_pos c_1, if_neg c_2, if_neg c_5, if_neg c_6, if_pos c_7, and_self])
          · refine zz (fun _ _ => lv_iconst (v := 1) hx hb dX8_templateTermMayBe_30 (by decide)) ?_
            refine zz (fun _ _ => lv_goto (tgt := 35) hx hb dX8_templateTermMayBe_31 (by decide)) ?_
            exact z_zret C hr rfl hlk dX8_templateTermMayBe_35 (by simp only [zd, fX8_templateTermMayBe, if_pos c_1, if_neg c_2, if_neg c_5, if_neg c_6, if_neg c_7, and_self])
def fX8_patternTermMayBe (a_ : Int32) : Int32 := if (fX8_isName a_) = 0 then if (fX8_isVariable a_) = 0 then (0) else (1) else (1)
theorem nbfX8_patternTermMayBe {a_ : Int32} : narrow .boolean (.int (fX8_patternTermMayBe a_)) = .int (fX8_patternTermMayBe a_) := by
  unfold fX8_patternTermMayBe
  repeat' split
  all_goals try dsimp only
  all_goals first | rfl | assumption | exact nbfX8_isName | exact nbfX8_isVariable
set_option maxHeartbeats 1000000 in
set_option maxRecDepth 10000 in
theorem ctX8_patternTermMayBe {l : Launch} {D : va_G} {aC : Nat → ClassId} {b0 sz : Nat} {M : ZM} {a_ : Int32} : Ct l D aC b0 yX8_patternTermMayBe cX8_patternTermMayBe 1 (some .boolean) 1 0 0 [.int (a_)] M sz (zd (some (.int (fX8_patternTermMayBe a_))) M) := by
  refine Ct.of (by decide) (Nat.le_of_ble_eq_true rfl) ?_
  intro p e s m below meth c ls C hr hlk hnm hl
  have hl : lv_has ls 1 [(0, .int (a_))] := hl
  obtain ⟨hx, hb, -, -, -⟩ := id C
  refine zz (fun _ _ => lv_iload_n hx hb dX8_patternTermMayBe_0 rfl (lv_at hl 0 rfl)) ?_
  refine zdS (As := [.int (a_)]) (rest := []) (st' := [.int ((fX8_isName a_))]) C hl.1 lk_X8_136 (ctX8_isName) rfl rfl (Nat.le_of_ble_eq_true rfl) ⟨by decide, by decide, by decide, by decide⟩ dX8_patternTermMayBe_1 rfl (fun sz => ?_)
  refine zbn (fun _ _ => lv_if_ne (tgt := 14) hx hb dX8_patternTermMayBe_4 (by decide)) (fun c_1 => ?_) (fun c_1 => ?_)
  · refine zz (fun _ _ => lv_iconst (v := 1) hx hb dX8_patternTermMayBe_14 (by decide)) ?_
    refine zz (fun _ _ => lv_goto (tgt := 19) hx hb dX8_patternTermMayBe_15 (by decide)) ?_
    exact z_zret C hr rfl hlk dX8_patternTermMayBe_19 (by simp only [zd, fX8_patternTermMayBe, if_neg c_1, and_self])
  · refine zz (fun _ _ => lv_iload_n hx hb dX8_patternTermMayBe_7 rfl (lv_at hl 0 rfl)) ?_
    refine zdS (As := [.int (a_)]) (rest := []) (st' := [.int ((fX8_isVariable a_))]) C hl.1 lk_X8_251 (ctX8_isVariable) rfl rfl (Nat.le_of_ble_eq_true rfl) ⟨by decide, by decide, by decide, by decide⟩ dX8_patternTermMayBe_8 rfl (fun sz => ?_)
    refine zb (fun _ _ => lv_if_eq (tgt := 18) hx hb dX8_patternTermMayBe_11 (by decide)) (fun c_2 => ?_) (fun c_2 => ?_)
    · refine zz (fun _ _ => lv_iconst (v := 0) hx hb dX8_patternTermMayBe_18 (by decide)) ?_
      exact z_zret C hr rfl hlk dX8_patternTermMayBe_19 (by simp only [zd, fX8_patternTermMayBe, if_pos c_1, if_pos c_2, and_self])
    · refine zz (fun _ _ => lv_iconst (v := 1) hx hb dX8_patternTermMayBe_14 (by decide)) ?_
      refine zz (fun _ _ => lv_goto (tgt := 19) hx hb dX8_patternTermMayBe_15 (by decide)) ?_
      exact z_zret C hr rfl hlk dX8_patternTermMayBe_19 (by simp only [zd, fX8_patternTermMayBe, if_pos c_1, if_neg c_2, and_self])
def fX8_isPart (a_ : Int32) : Int32 := if a_ < 0 then (0) else if 255 < a_ then (0) else (1)
theorem nbfX8_isPart {a_ : Int32} : narrow .boolean (.int (fX8_isPart a_)) = .int (fX8_isPart a_) := by
  unfold fX8_isPart
  repeat' split
  all_goals try dsimp only
  all_goals first | rfl | assumption
set_option maxHeartbeats 1000000 in
set_option maxRecDepth 10000 in
theorem ctX8_isPart {l : Launch} {D : va_G} {aC : Nat → ClassId} {b0 sz : Nat} {M : ZM} {a_ : Int32} : Ct l D aC b0 yX8_isPart cX8_isPart 1 (some .boolean) 0 0 0 [.int (a_)] M sz (zd (some (.int (fX8_isPart a_))) M) := by
  refine Ct.of (by decide) (Nat.le_of_ble_eq_true rfl) ?_
  intro p e s m below meth c ls C hr hlk hnm hl
  have hl : lv_has ls 1 [(0, .int (a_))] := hl
  obtain ⟨hx, hb, -, -, -⟩ := id C
  refine zz (fun _ _ => lv_iload_n hx hb dX8_isPart_0 rfl (lv_at hl 0 rfl)) ?_
  refine zb (fun _ _ => lv_if_lt (tgt := 15) hx hb dX8_isPart_1 (by decide)) (fun c_1 => ?_) (fun c_1 => ?_)
  · refine zz (fun _ _ => lv_iconst (v := 0) hx hb dX8_isPart_15 (by decide)) ?_
    exact z_zret C hr rfl hlk dX8_isPart_16 (by simp only [zd, fX8_isPart, if_pos c_1, and_self])
  · refine zz (fun _ _ => lv_iload_n hx hb dX8_isPart_4 rfl (lv_at hl 0 rfl)) ?_
    refine zz (fun _ _ => lv_sipush (v := 255) hx hb dX8_isPart_5 (by decide)) ?_
    refine zb (fun _ _ => lv_icmp_gt (tgt := 15) hx hb dX8_isPart_8 (by decide)) (fun c_2 => ?_) (fun c_2 => ?_)
    · refine zz (fun _ _ => lv_iconst (v := 0) hx hb dX8_isPart_15 (by decide)) ?_
      exact z_zret C hr rfl hlk dX8_isPart_16 (by simp only [zd, fX8_isPart, if_neg c_1, if_pos c_2, and_self])
    · refine zz (fun _ _ => lv_iconst (v := 1) hx hb dX8_isPart_11 (by decide)) ?_
      refine zz (fun _ _ => lv_goto (tgt := 16) hx hb dX8_isPart_12 (by decide)) ?_
      exact z_zret C hr rfl hlk dX8_isPart_16 (by simp only [zd, fX8_isPart, if_neg c_1, if_neg c_2, and_self])
def fX8_factOf (a_ : Int32) (b_ : Int32) (c_ : Int32) : Int32 := ((((a_) <<< ((16) &&& 31)) ||| ((b_) <<< ((8) &&& 31))) ||| (c_))
set_option maxHeartbeats 1000000 in
set_option maxRecDepth 10000 in
theorem ctX8_factOf {l : Launch} {D : va_G} {aC : Nat → ClassId} {b0 sz : Nat} {M : ZM} {a_ : Int32} {b_ : Int32} {c_ : Int32} : Ct l D aC b0 yX8_factOf cX8_factOf 3 (some .int) 0 0 0 [.int (a_), .int (b_), .int (c_)] M sz (zd (some (.int (fX8_factOf a_ b_ c_))) M) := by
  refine Ct.of (by decide) (Nat.le_of_ble_eq_true rfl) ?_
  intro p e s m below meth c ls C hr hlk hnm hl
  have hl : lv_has ls 3 [(0, .int (a_)), (1, .int (b_)), (2, .int (c_))] := hl
  obtain ⟨hx, hb, -, -, -⟩ := id C
  refine zz (fun _ _ => lv_iload_n hx hb dX8_factOf_0 rfl (lv_at hl 0 rfl)) ?_
  refine zz (fun _ _ => lv_bipush (v := 16) hx hb dX8_factOf_1 (by decide)) ?_
  refine zz (fun _ _ => lv_ishl hx hb dX8_factOf_3) ?_
  refine zz (fun _ _ => lv_iload_n hx hb dX8_factOf_4 rfl (lv_at hl 1 rfl)) ?_
  refine zz (fun _ _ => lv_bipush (v := 8) hx hb dX8_factOf_5 (by decide)) ?_
  refine zz (fun _ _ => lv_ishl hx hb dX8_factOf_7) ?_
  refine zz (fun _ _ => lv_ior hx hb dX8_factOf_8) ?_
  refine zz (fun _ _ => lv_iload_n hx hb dX8_factOf_9 rfl (lv_at hl 2 rfl)) ?_
  refine zz (fun _ _ => lv_ior hx hb dX8_factOf_10) ?_
  exact z_iret C hr hlk dX8_factOf_11 (by simp only [zd, fX8_factOf, and_self])
def fX8_partOf (a_ : Int32) (b_ : Int32) : Int32 := (((a_) >>> (((16) - ((8) * (b_))) &&& 31)) &&& (255))
set_option maxHeartbeats 1000000 in
set_option maxRecDepth 10000 in
theorem ctX8_partOf {l : Launch} {D : va_G} {aC : Nat → ClassId} {b0 sz : Nat} {M : ZM} {a_ : Int32} {b_ : Int32} : Ct l D aC b0 yX8_partOf cX8_partOf 2 (some .int) 0 0 0 [.int (a_), .int (b_)] M sz (zd (some (.int (fX8_partOf a_ b_))) M) := by
  refine Ct.of (by decide) (Nat.le_of_ble_eq_true rfl) ?_
  intro p e s m below meth c ls C hr hlk hnm hl
  have hl : lv_has ls 2 [(0, .int (a_)), (1, .int (b_))] := hl
  obtain ⟨hx, hb, -, -, -⟩ := id C
  refine zz (fun _ _ => lv_iload_n hx hb dX8_partOf_0 rfl (lv_at hl 0 rfl)) ?_
  refine zz (fun _ _ => lv_bipush (v := 16) hx hb dX8_partOf_1 (by decide)) ?_
  refine zz (fun _ _ => lv_bipush (v := 8) hx hb dX8_partOf_3 (by decide)) ?_
  refine zz (fun _ _ => lv_iload_n hx hb dX8_partOf_5 rfl (lv_at hl 1 rfl)) ?_
  refine zz (fun _ _ => lv_imul hx hb dX8_partOf_6) ?_
  refine zz (fun _ _ => lv_isub hx hb dX8_partOf_7) ?_
  refine zz (fun _ _ => lv_ishr hx hb dX8_partOf_8) ?_
  refine zz (fun _ _ => lv_sipush (v := 255) hx hb dX8_partOf_9 (by decide)) ?_
  refine zz (fun _ _ => lv_iand hx hb dX8_partOf_12) ?_
  exact z_iret C hr hlk dX8_partOf_13 (by simp only [zd, fX8_partOf, and_self])
def fX9_isIn (a_ : Int32) (b_ : Int32) (c_ : Int32) : Int32 := if a_ < b_ then (0) else if c_ < a_ then (0) else (1)
theorem nbfX9_isIn {a_ : Int32} {b_ : Int32} {c_ : Int32} : narrow .boolean (.int (fX9_isIn a_ b_ c_)) = .int (fX9_isIn a_ b_ c_) := by
  unfold fX9_isIn
  repeat' split
  all_goals try dsimp only
  all_goals first | rfl | assumption
set_option maxHeartbeats 1000000 in
set_option maxRecDepth 10000 in
theorem ctX9_isIn {l : Launch} {D : va_G} {aC : Nat → ClassId} {b0 sz : Nat} {M : ZM} {a_ : Int32} {b_ : Int32} {c_ : Int32} : Ct l D aC b0 yX9_isIn cX9_isIn 3 (some .boolean) 0 0 0 [.int (a_), .int (b_), .int (c_)] M sz (zd (some (.int (fX9_isIn a_ b_ c_))) M) := by
  refine Ct.of (by decide) (Nat.le_of_ble_eq_true rfl) ?_
  intro p e s m below meth c ls C hr hlk hnm hl
  have hl : lv_has ls 3 [(0, .int (a_)), (1, .int (b_)), (2, .int (c_))] := hl
  obtain ⟨hx, hb, -, -, -⟩ := id C
  refine zz (fun _ _ => lv_iload_n hx hb dX9_isIn_0 rfl (lv_at hl 0 rfl)) ?_
  refine zz (fun _ _ => lv_iload_n hx hb dX9_isIn_1 rfl (lv_at hl 1 rfl)) ?_
  refine zb (fun _ _ => lv_icmp_lt (tgt := 14) hx hb dX9_isIn_2 (by decide)) (fun c_1 => ?_) (fun c_1 => ?_)
  · refine zz (fun _ _ => lv_iconst (v := 0) hx hb dX9_isIn_14 (by decide)) ?_
    exact z_zret C hr rfl hlk dX9_isIn_15 (by simp only [zd, fX9_isIn, if_pos c_1, and_self])
  · refine zz (fun _ _ => lv_iload_n hx hb dX9_isIn_5 rfl (lv_at hl 0 rfl)) ?_
    refine zz (fun _ _ => lv_iload_n hx hb dX9_isIn_6 rfl (lv_at hl 2 rfl)) ?_
    refine zb (fun _ _ => lv_icmp_gt (tgt := 14) hx hb dX9_isIn_7 (by decide)) (fun c_2 => ?_) (fun c_2 => ?_)
    · refine zz (fun _ _ => lv_iconst (v := 0) hx hb dX9_isIn_14 (by decide)) ?_
      exact z_zret C hr rfl hlk dX9_isIn_15 (by simp only [zd, fX9_isIn, if_neg c_1, if_pos c_2, and_self])
    · refine zz (fun _ _ => lv_iconst (v := 1) hx hb dX9_isIn_10 (by decide)) ?_
      refine zz (fun _ _ => lv_goto (tgt := 15) hx hb dX9_isIn_11 (by decide)) ?_
      exact z_zret C hr rfl hlk dX9_isIn_15 (by simp only [zd, fX9_isIn, if_neg c_1, if_neg c_2, and_self])
def fX9_isTo (a_ : Int32) (b_ : Int32) : Int32 := if a_ = 3 then ((fX9_isIn b_ (-2) 6)) else if a_ = 5 then ((fX9_isIn b_ (-2) 6)) else if a_ = 4 then ((fX9_isIn b_ 1 6)) else ((fX9_isIn b_ 0 6))
theorem nbfX9_isTo {a_ : Int32} {b_ : Int32} : narrow .boolean (.int (fX9_isTo a_ b_)) = .int (fX9_isTo a_ b_) := by
  unfold fX9_isTo
  repeat' split
  all_goals try dsimp only
  all_goals first | rfl | assumption | exact nbfX9_isIn
set_option maxHeartbeats 1000000 in
set_option maxRecDepth 10000 in
theorem ctX9_isTo {l : Launch} {D : va_G} {aC : Nat → ClassId} {b0 sz : Nat} {M : ZM} {a_ : Int32} {b_ : Int32} : Ct l D aC b0 yX9_isTo cX9_isTo 2 (some .boolean) 1 0 0 [.int (a_), .int (b_)] M sz (zd (some (.int (fX9_isTo a_ b_))) M) := by
  refine Ct.of (by decide) (Nat.le_of_ble_eq_true rfl) ?_
  intro p e s m below meth c ls C hr hlk hnm hl
  have hl : lv_has ls 2 [(0, .int (a_)), (1, .int (b_))] := hl
  obtain ⟨hx, hb, -, -, -⟩ := id C
  refine zz (fun _ _ => lv_iload_n hx hb dX9_isTo_0 rfl (lv_at hl 0 rfl)) ?_
  refine zz (fun _ _ => lv_iconst (v := 3) hx hb dX9_isTo_1 (by decide)) ?_
  refine zb (fun _ _ => lv_icmp_eq (tgt := 10) hx hb dX9_isTo_2 (by decide)) (fun c_1 => ?_) (fun c_1 => ?_)
  · refine zz (fun _ _ => lv_iload_n hx hb dX9_isTo_10 rfl (lv_at hl 1 rfl)) ?_
    refine zz (fun _ _ => lv_bipush (v := (-2)) hx hb dX9_isTo_11 (by decide)) ?_
    refine zz (fun _ _ => lv_bipush (v := 6) hx hb dX9_isTo_13 (by decide)) ?_
    refine zdS (As := [.int (b_), .int ((-2)), .int (6)]) (rest := []) (st' := [.int ((fX9_isIn b_ (-2) 6))]) C hl.1 lk_X9_135 (ctX9_isIn) rfl rfl (Nat.le_of_ble_eq_true rfl) ⟨by decide, by decide, by decide, by decide⟩ dX9_isTo_15 rfl (fun sz => ?_)
    exact z_zret C hr nbfX9_isIn hlk dX9_isTo_18 (by simp only [zd, fX9_isTo, if_pos c_1, and_self])
  · refine zz (fun _ _ => lv_iload_n hx hb dX9_isTo_5 rfl (lv_at hl 0 rfl)) ?_
    refine zz (fun _ _ => lv_iconst (v := 5) hx hb dX9_isTo_6 (by decide)) ?_
    refine zbn (fun _ _ => lv_icmp_ne (tgt := 19) hx hb dX9_isTo_7 (by decide)) (fun c_2 => ?_) (fun c_2 => ?_)
    · refine zz (fun _ _ => lv_iload_n hx hb dX9_isTo_19 rfl (lv_at hl 1 rfl)) ?_
      refine zz (fun _ _ => lv_iload_n hx hb dX9_isTo_20 rfl (lv_at hl 0 rfl)) ?_
      refine zz (fun _ _ => lv_iconst (v := 4) hx hb dX9_isTo_21 (by decide)) ?_
      refine zbn (fun _ _ => lv_icmp_ne (tgt := 29) hx hb dX9_isTo_22 (by decide)) (fun c_3 => ?_) (fun c_3 => ?_)
      · refine zz (fun _ _ => lv_iconst (v := 0) hx hb dX9_isTo_29 (by decide)) ?_
        refine zz (fun _ _ => lv_bipush (v := 6) hx hb dX9_isTo_30 (by decide)) ?_
        refine zdS (As := [.int (b_), .int (0), .int (6)]) (rest := []) (st' := [.int ((fX9_isIn b_ 0 6))]) C hl.1 lk_X9_135 (ctX9_isIn) rfl rfl (Nat.le_of_ble_eq_true rfl) ⟨by decide, by decide, by decide, by decide⟩ dX9_isTo_32 rfl (fun sz => ?_)
        exact z_zret C hr nbfX9_isIn hlk dX9_isTo_35 (by simp only [zd, fX9_isTo, if_neg c_1, if_neg c_2, if_neg c_3, and_self])
      · refine zz (fun _ _ => lv_iconst (v := 1) hx hb dX9_isTo_25 (by decide)) ?_
        refine zz (fun _ _ => lv_goto (tgt := 30) hx hb dX9_isTo_26 (by decide)) ?_
        refine zz (fun _ _ => lv_bipush (v := 6) hx hb dX9_isTo_30 (by decide)) ?_
        refine zdS (As := [.int (b_), .int (1), .int (6)]) (rest := []) (st' := [.int ((fX9_isIn b_ 1 6))]) C hl.1 lk_X9_135 (ctX9_isIn) rfl rfl (Nat.le_of_ble_eq_true rfl) ⟨by decide, by decide, by decide, by decide⟩ dX9_isTo_32 rfl (fun sz => ?_)
        exact z_zret C hr nbfX9_isIn hlk dX9_isTo_35 (by simp only [zd, fX9_isTo, if_neg c_1, if_neg c_2, if_pos c_3, and_self])
    · refine zz (fun _ _ => lv_iload_n hx hb dX9_isTo_10 rfl (lv_at hl 1 rfl)) ?_
      refine zz (fun _ _ => lv_bipush (v := (-2)) hx hb dX9_isTo_11 (by decide)) ?_
      refine zz (fun _ _ => lv_bipush (v := 6) hx hb dX9_isTo_13 (by decide)) ?_
      refine zdS (As := [.int (b_), .int ((-2)), .int (6)]) (rest := []) (st' := [.int ((fX9_isIn b_ (-2) 6))]) C hl.1 lk_X9_135 (ctX9_isIn) rfl rfl (Nat.le_of_ble_eq_true rfl) ⟨by decide, by decide, by decide, by decide⟩ dX9_isTo_15 rfl (fun sz => ?_)
      exact z_zret C hr nbfX9_isIn hlk dX9_isTo_18 (by simp only [zd, fX9_isTo, if_neg c_1, if_pos c_2, and_self])
def fX9_isName (a_ : Int32) : Int32 := ((fX9_isIn a_ 0 99))
theorem nbfX9_isName {a_ : Int32} : narrow .boolean (.int (fX9_isName a_)) = .int (fX9_isName a_) := by
  unfold fX9_isName
  repeat' split
  all_goals try dsimp only
  all_goals first | rfl | assumption | exact nbfX9_isIn
set_option maxHeartbeats 1000000 in
set_option maxRecDepth 10000 in
theorem ctX9_isName {l : Launch} {D : va_G} {aC : Nat → ClassId} {b0 sz : Nat} {M : ZM} {a_ : Int32} : Ct l D aC b0 yX9_isName cX9_isName 1 (some .boolean) 1 0 0 [.int (a_)] M sz (zd (some (.int (fX9_isName a_))) M) := by
  refine Ct.of (by decide) (Nat.le_of_ble_eq_true rfl) ?_
  intro p e s m below meth c ls C hr hlk hnm hl
  have hl : lv_has ls 1 [(0, .int (a_))] := hl
  obtain ⟨hx, hb, -, -, -⟩ := id C
  refine zz (fun _ _ => lv_iload_n hx hb dX9_isName_0 rfl (lv_at hl 0 rfl)) ?_
  refine zz (fun _ _ => lv_iconst (v := 0) hx hb dX9_isName_1 (by decide)) ?_
  refine zz (fun _ _ => lv_bipush (v := 99) hx hb dX9_isName_2 (by decide)) ?_
  refine zdS (As := [.int (a_), .int (0), .int (99)]) (rest := []) (st' := [.int ((fX9_isIn a_ 0 99))]) C hl.1 lk_X9_135 (ctX9_isIn) rfl rfl (Nat.le_of_ble_eq_true rfl) ⟨by decide, by decide, by decide, by decide⟩ dX9_isName_4 rfl (fun sz => ?_)
  exact z_zret C hr nbfX9_isIn hlk dX9_isName_7 (by simp only [zd, fX9_isName, and_self])
def fX9_isVariable (a_ : Int32) : Int32 := ((fX9_isIn a_ (-4) (-1)))
theorem nbfX9_isVariable {a_ : Int32} : narrow .boolean (.int (fX9_isVariable a_)) = .int (fX9_isVariable a_) := by
  unfold fX9_isVariable
  repeat' split
  all_goals try dsimp only
  all_goals first | rfl | assumption | exact nbfX9_isIn
set_option maxHeartbeats 1000000 in
set_option maxRecDepth 10000 in
theorem ctX9_isVariable {l : Launch} {D : va_G} {aC : Nat → ClassId} {b0 sz : Nat} {M : ZM} {a_ : Int32} : Ct l D aC b0 yX9_isVariable cX9_isVariable 1 (some .boolean) 1 0 0 [.int (a_)] M sz (zd (some (.int (fX9_isVariable a_))) M) := by
  refine Ct.of (by decide) (Nat.le_of_ble_eq_true rfl) ?_
  intro p e s m below meth c ls C hr hlk hnm hl
  have hl : lv_has ls 1 [(0, .int (a_))] := hl
  obtain ⟨hx, hb, -, -, -⟩ := id C
  refine zz (fun _ _ => lv_iload_n hx hb dX9_isVariable_0 rfl (lv_at hl 0 rfl)) ?_
  refine zz (fun _ _ => lv_bipush (v := (-4)) hx hb dX9_isVariable_1 (by decide)) ?_
  refine zz (fun _ _ => lv_iconst (v := (-1)) hx hb dX9_isVariable_3 (by decide)) ?_
  refine zdS (As := [.int (a_), .int ((-4)), .int ((-1))]) (rest := []) (st' := [.int ((fX9_isIn a_ (-4) (-1)))]) C hl.1 lk_X9_135 (ctX9_isIn) rfl rfl (Nat.le_of_ble_eq_true rfl) ⟨by decide, by decide, by decide, by decide⟩ dX9_isVariable_4 rfl (fun sz => ?_)
  exact z_zret C hr nbfX9_isIn hlk dX9_isVariable_7 (by simp only [zd, fX9_isVariable, and_self])
def fX9_isNew (a_ : Int32) : Int32 := ((fX9_isIn a_ (-14) (-11)))
theorem nbfX9_isNew {a_ : Int32} : narrow .boolean (.int (fX9_isNew a_)) = .int (fX9_isNew a_) := by
  unfold fX9_isNew
  repeat' split
  all_goals try dsimp only
  all_goals first | rfl | assumption | exact nbfX9_isIn
set_option maxHeartbeats 1000000 in
set_option maxRecDepth 10000 in
theorem ctX9_isNew {l : Launch} {D : va_G} {aC : Nat → ClassId} {b0 sz : Nat} {M : ZM} {a_ : Int32} : Ct l D aC b0 yX9_isNew cX9_isNew 1 (some .boolean) 1 0 0 [.int (a_)] M sz (zd (some (.int (fX9_isNew a_))) M) := by
  refine Ct.of (by decide) (Nat.le_of_ble_eq_true rfl) ?_
  intro p e s m below meth c ls C hr hlk hnm hl
  have hl : lv_has ls 1 [(0, .int (a_))] := hl
  obtain ⟨hx, hb, -, -, -⟩ := id C
  refine zz (fun _ _ => lv_iload_n hx hb dX9_isNew_0 rfl (lv_at hl 0 rfl)) ?_
  refine zz (fun _ _ => lv_bipush (v := (-14)) hx hb dX9_isNew_1 (by decide)) ?_
  refine zz (fun _ _ => lv_bipush (v := (-11)) hx hb dX9_isNew_3 (by decide)) ?_
  refine zdS (As := [.int (a_), .int ((-14)), .int ((-11))]) (rest := []) (st' := [.int ((fX9_isIn a_ (-14) (-11)))]) C hl.1 lk_X9_135 (ctX9_isIn) rfl rfl (Nat.le_of_ble_eq_true rfl) ⟨by decide, by decide, by decide, by decide⟩ dX9_isNew_5 rfl (fun sz => ?_)
  exact z_zret C hr nbfX9_isIn hlk dX9_isNew_8 (by simp only [zd, fX9_isNew, and_self])
def fX9_mayStand (a_ : Int32) (b_ : Int32) (c_ : Int32) : Int32 := if (fX9_isName a_) = 0 then if b_ = 2 then if (fX9_isVariable a_) = 0 then if c_ = 0 then (0) else if (fX9_isNew a_) = 0 then (0) else (1) else (1) else if c_ = 0 then (0) else if (fX9_isNew a_) = 0 then (0) else (1) else (1)
theorem nbfX9_mayStand {a_ : Int32} {b_ : Int32} {c_ : Int32} : narrow .boolean (.int (fX9_mayStand a_ b_ c_)) = .int (fX9_mayStand a_ b_ c_) := by
  unfold fX9_mayStand
  repeat' split
  all_goals try dsimp only
  all_goals first | rfl | assumption | exact nbfX9_isName | exact nbfX9_isNew | exact nbfX9_isVariable
set_option maxHeartbeats 1000000 in
set_option maxRecDepth 10000 in
theorem ctX9_mayStand {l : Launch} {D : va_G} {aC : Nat → ClassId} {b0 sz : Nat} {M : ZM} {a_ : Int32} {b_ : Int32} {c_ : Int32} : Ct l D aC b0 yX9_mayStand cX9_mayStand 3 (some .boolean) 2 0 0 [.int (a_), .int (b_), .int (c_)] M sz (zd (some (.int (fX9_mayStand a_ b_ c_))) M) := by
  refine Ct.of (by decide) (Nat.le_of_ble_eq_true rfl) ?_
  intro p e s m below meth c ls C hr hlk hnm hl
  have hl : lv_has ls 3 [(0, .int (a_)), (1, .int (b_)), (2, .int (c_))] := hl
  obtain ⟨hx, hb, -, -, -⟩ := id C
  refine zz (fun _ _ => lv_iload_n hx hb dX9_mayStand_0 rfl (lv_at hl 0 rfl)) ?_
  refine zdS (As := [.int (a_)]) (rest := []) (st' := [.int ((fX9_isName a_))]) C hl.1 lk_X9_147 (ctX9_isName) rfl rfl (Nat.le_of_ble_eq_true rfl) ⟨by decide, by decide, by decide, by decide⟩ dX9_mayStand_1 rfl (fun sz => ?_)
  refine zbn (fun _ _ => lv_if_ne (tgt := 30) hx hb dX9_mayStand_4 (by decide)) (fun c_1 => ?_) (fun c_1 => ?_)
  · refine zz (fun _ _ => lv_iconst (v := 1) hx hb dX9_mayStand_30 (by decide)) ?_
    refine zz (fun _ _ => lv_goto (tgt := 35) hx hb dX9_mayStand_31 (by decide)) ?_
    exact z_zret C hr rfl hlk dX9_mayStand_35 (by simp only [zd, fX9_mayStand, if_neg c_1, and_self])
  · refine zz (fun _ _ => lv_iload_n hx hb dX9_mayStand_7 rfl (lv_at hl 1 rfl)) ?_
    refine zz (fun _ _ => lv_iconst (v := 2) hx hb dX9_mayStand_8 (by decide)) ?_
    refine zbn (fun _ _ => lv_icmp_ne (tgt := 19) hx hb dX9_mayStand_9 (by decide)) (fun c_2 => ?_) (fun c_2 => ?_)
    · refine zz (fun _ _ => lv_iload_n hx hb dX9_mayStand_19 rfl (lv_at hl 2 rfl)) ?_
      refine zb (fun _ _ => lv_if_eq (tgt := 34) hx hb dX9_mayStand_20 (by decide)) (fun c_3 => ?_) (fun c_3 => ?_)
      · refine zz (fun _ _ => lv_iconst (v := 0) hx hb dX9_mayStand_34 (by decide)) ?_
        exact z_zret C hr rfl hlk dX9_mayStand_35 (by simp only [zd, fX9_mayStand, if_pos c_1, if_neg c_2, if_pos c_3, and_self])
      · refine zz (fun _ _ => lv_iload_n hx hb dX9_mayStand_23 rfl (lv_at hl 0 rfl)) ?_
        refine zdS (As := [.int (a_)]) (rest := []) (st' := [.int ((fX9_isNew a_))]) C hl.1 lk_X9_153 (ctX9_isNew) rfl rfl (Nat.le_of_ble_eq_true rfl) ⟨by decide, by decide, by decide, by decide⟩ dX9_mayStand_24 rfl (fun sz => ?_)
        refine zb (fun _ _ => lv_if_eq (tgt := 34) hx hb dX9_mayStand_27 (by decide)) (fun c_4 => ?_) (fun c_4 => ?_)
        · refine zz (fun _ _ => lv_iconst (v := 0) hx hb dX9_mayStand_34 (by decide)) ?_
          exact z_zret C hr rfl hlk dX9_mayStand_35 (by simp only [zd, fX9_mayStand, if_pos c_1, if_neg c_2, if_neg c_3, if_pos c_4, and_self])
        · refine zz (fun _ _ => lv_iconst (v := 1) hx hb dX9_mayStand_30 (by decide)) ?_
          refine zz (fun _ _ => lv_goto (tgt := 35) hx hb dX9_mayStand_31 (by decide)) ?_
          exact z_zret C hr rfl hlk dX9_mayStand_35 (by simp only [zd, fX9_mayStand, if_pos c_1, if_neg c_2, if_neg c_3, if_neg c_4, and_self])
    · refine zz (fun _ _ => lv_iload_n hx hb dX9_mayStand_12 rfl (lv_at hl 0 rfl)) ?_
      refine zdS (As := [.int (a_)]) (rest := []) (st' := [.int ((fX9_isVariable a_))]) C hl.1 lk_X9_150 (ctX9_isVariable) rfl rfl (Nat.le_of_ble_eq_true rfl) ⟨by decide, by decide, by decide, by decide⟩ dX9_mayStand_13 rfl (fun sz => ?_)
      refine zbn (fun _ _ => lv_if_ne (tgt := 30) hx hb dX9_mayStand_16 (by decide)) (fun c_5 => ?_) (fun c_5 => ?_)
      · refine zz (fun _ _ => lv_iconst (v := 1) hx hb dX9_mayStand_30 (by decide)) ?_
        refine zz (fun _ _ => lv_goto (tgt := 35) hx hb dX9_mayStand_31 (by decide)) ?_
        exact z_zret C hr rfl hlk dX9_mayStand_35 (by simp only [zd, fX9_mayStand, if_pos c_1, if_pos c_2, if_neg c_5, and_self])
      · refine zz (fun _ _ => lv_iload_n hx hb dX9_mayStand_19 rfl (lv_at hl 2 rfl)) ?_
        refine zb (fun _ _ => lv_if_eq (tgt := 34) hx hb dX9_mayStand_20 (by decide)) (fun c_6 => ?_) (fun c_6 => ?_)
        · refine zz (fun _ _ => lv_iconst (v := 0) hx hb dX9_mayStand_34 (by decide)) ?_
          exact z_zret C hr rfl hlk dX9_mayStand_35 (by simp only [zd, fX9_mayStand, if_pos c_1, if_pos c_2, if_pos c_5, if_pos c_6, and_self])
        · refine zz (fun _ _ => lv_iload_n hx hb dX9_mayStand_23 rfl (lv_at hl 0 rfl)) ?_
          refine zdS (As := [.int (a_)]) (rest := []) (st' := [.int ((fX9_isNew a_))]) C hl.1 lk_X9_153 (ctX9_isNew) rfl rfl (Nat.le_of_ble_eq_true rfl) ⟨by decide, by decide, by decide, by decide⟩ dX9_mayStand_24 rfl (fun sz => ?_)
          refine zb (fun _ _ => lv_if_eq (tgt := 34) hx hb dX9_mayStand_27 (by decide)) (fun c_7 => ?_) (fun c_7 => ?_)
          · refine zz (fun _ _ => lv_iconst (v := 0) hx hb dX9_mayStand_34 (by decide)) ?_
            exact z_zret C hr rfl hlk dX9_mayStand_35 (by simp only [zd, fX9_mayStand, if_pos c_1, if_pos c_2, if_pos c_5, if_neg c_6, if_pos c_7, and_self])
          · refine zz (fun _ _ => lv_iconst (v := 1) hx hb dX9_mayStand_30 (by decide)) ?_
            refine zz (fun _ _ => lv_goto (tgt := 35) hx hb dX9_mayStand_31 (by decide)) ?_
            exact z_zret C hr rfl hlk dX9_mayStand_35 (by simp only [zd, fX9_mayStand, if_pos c_1, if_pos c_2, if_pos c_5, if_neg c_6, if_neg c_7, and_self])
end
section
theorem ix3 {c mo n : Nat} {a : Int32} (ha : a = nI c) (hc : c < mo) (hn : 3 * mo ≤ n) (hb : n < 2 ^ 31) : vp_in (3 * a) n ∧ vp_in (3 * a + 1) n ∧ vp_in (3 * a + 2) n := by
  subst ha
  have e : (3 : Int32) * nI c = nI (3 * c) := pk_mul 3 c
  refine ⟨?_, ?_, ?_⟩
  · rw [e]; exact vp_in_nI (by omega) hb
  · rw [e, show (1 : Int32) = nI 1 from rfl, nI_add]; exact vp_in_nI (by omega) hb
  · rw [e, show (2 : Int32) = nI 2 from rfl, nI_add]; exact vp_in_nI (by omega) hb
theorem tl_lt (k : Nat) : tl k < 2 ^ 31 := by
  unfold tl
  repeat' split
  all_goals decide
def fX3_isFull (iv : Nat → Nat → Int32) (k : Nat) : Int32 := if iv k 2 < iv k 1 then (0) else (1)
theorem nbfX3_isFull {iv : Nat → Nat → Int32} {k : Nat} : narrow .boolean (.int (fX3_isFull iv k)) = .int (fX3_isFull iv k) := by
  unfold fX3_isFull
  repeat' split
  all_goals try dsimp only
  all_goals first | rfl | assumption
set_option maxHeartbeats 1000000 in
set_option maxRecDepth 10000 in
theorem ctX3_isFull {l : Launch} {D : va_G} {aC : Nat → ClassId} {b0 sz : Nat} {x : Nat} {iv av : Nat → Nat → Int32} {R : ZM} {k : Nat} (hk : ck k = 14) : Ct l D aC b0 yX3_isFull cX3_isFull 1 (some .boolean) 0 0 0 [.ref (x + k)] (cm aC x iv av R) sz (zd (some (.int (fX3_isFull iv k))) (cm aC x iv av R)) := by
  refine Ct.of (by decide) (Nat.le_of_ble_eq_true rfl) ?_
  intro p e s m below meth c ls C hr hlk hnm hl
  have hl : lv_has ls 1 [(0, .ref (x + k))] := hl
  obtain ⟨hx, hb, -, -, -⟩ := id C
  refine zz (fun _ _ => lv_aload_n hx hb dX3_isFull_0 rfl (lv_at hl 0 rfl)) ?_
  refine z_get (v := .int (iv k 2)) C fd_X3_7 (rd_14 hk) rfl dX3_isFull_1 ?_
  refine zz (fun _ _ => lv_aload_n hx hb dX3_isFull_4 rfl (lv_at hl 0 rfl)) ?_
  refine z_get (v := .int (iv k 1)) C fd_X3_13 (rd_14 hk) rfl dX3_isFull_5 ?_
  refine zb (fun _ _ => lv_icmp_lt (tgt := 15) hx hb dX3_isFull_8 (by decide)) (fun c_1 => ?_) (fun c_1 => ?_)
  · refine zz (fun _ _ => lv_iconst (v := 0) hx hb dX3_isFull_15 (by decide)) ?_
    exact z_zret C hr rfl hlk dX3_isFull_16 (by simp only [zd, fX3_isFull, if_pos c_1, and_self])
  · refine zz (fun _ _ => lv_iconst (v := 1) hx hb dX3_isFull_11 (by decide)) ?_
    refine zz (fun _ _ => lv_goto (tgt := 16) hx hb dX3_isFull_12 (by decide)) ?_
    exact z_zret C hr rfl hlk dX3_isFull_16 (by simp only [zd, fX3_isFull, if_neg c_1, and_self])
def fX3_subject (av : Nat → Nat → Int32) (k : Nat) (a_ : Int32) : Int32 := (av (k + 1) (Int32.toNatClampNeg ((3) * (a_))))
set_option maxHeartbeats 1000000 in
set_option maxRecDepth 10000 in
theorem ctX3_subject {l : Launch} {D : va_G} {aC : Nat → ClassId} {b0 sz : Nat} {x : Nat} {iv av : Nat → Nat → Int32} {R : ZM} {k : Nat} {a_ : Int32} (hk : ck k = 14) {c_0 j_0 : Nat} (hj : a_ = nI c_0) (hc : 3 * c_0 + 3 ≤ tl k) : Ct l D aC b0 yX3_subject cX3_subject 2 (some .int) 0 0 0 [.ref (x + k), .int (a_)] (cm aC x iv av R) sz (zd (some (.int (fX3_subject av k a_))) (cm aC x iv av R)) := by
  refine Ct.of (by decide) (Nat.le_of_ble_eq_true rfl) ?_
  intro p e s m below meth c ls C hr hlk hnm hl
  have hl : lv_has ls 2 [(0, .ref (x + k)), (1, .int (a_))] := hl
  obtain ⟨hx, hb, -, -, -⟩ := id C
  refine zz (fun _ _ => lv_aload_n hx hb dX3_subject_0 rfl (lv_at hl 0 rfl)) ?_
  refine z_get (v := .ref (x + (k + 1))) C fd_X3_16 (rd_14 hk) rfl dX3_subject_1 ?_
  refine zz (fun _ _ => lv_iconst (v := 3) hx hb dX3_subject_4 (by decide)) ?_
  refine zz (fun _ _ => lv_iload_n hx hb dX3_subject_5 rfl (lv_at hl 1 rfl)) ?_
  refine zz (fun _ _ => lv_imul hx hb dX3_subject_6) ?_
  refine z_iald (f := av (k + 1)) C (rd_t hk) (ix3 (mo := c_0 + 1) hj (by omega) (by omega) (tl_lt k)).1 dX3_subject_7 ?_
  exact z_iret C hr hlk dX3_subject_8 (by simp only [zd, fX3_subject, and_self])
def fX3_property (av : Nat → Nat → Int32) (k : Nat) (a_ : Int32) : Int32 := (av (k + 1) (Int32.toNatClampNeg (((3) * (a_)) + (1))))
set_option maxHeartbeats 1000000 in
set_option maxRecDepth 10000 in
theorem ctX3_property {l : Launch} {D : va_G} {aC : Nat → ClassId} {b0 sz : Nat} {x : Nat} {iv av : Nat → Nat → Int32} {R : ZM} {k : Nat} {a_ : Int32} (hk : ck k = 14) {c_0 j_0 : Nat} (hj : a_ = nI c_0) (hc : 3 * c_0 + 3 ≤ tl k) : Ct l D aC b0 yX3_property cX3_property 2 (some .int) 0 0 0 [.ref (x + k), .int (a_)] (cm aC x iv av R) sz (zd (some (.int (fX3_property av k a_))) (cm aC x iv av R)) := by
  refine Ct.of (by decide) (Nat.le_of_ble_eq_true rfl) ?_
  intro p e s m below meth c ls C hr hlk hnm hl
  have hl : lv_has ls 2 [(0, .ref (x + k)), (1, .int (a_))] := hl
  obtain ⟨hx, hb, -, -, -⟩ := id C
  refine zz (fun _ _ => lv_aload_n hx hb dX3_property_0 rfl (lv_at hl 0 rfl)) ?_
  refine z_get (v := .ref (x + (k + 1))) C fd_X3_16 (rd_14 hk) rfl dX3_property_1 ?_
  refine zz (fun _ _ => lv_iconst (v := 3) hx hb dX3_property_4 (by decide)) ?_
  refine zz (fun _ _ => lv_iload_n hx hb dX3_property_5 rfl (lv_at hl 1 rfl)) ?_
  refine zz (fun _ _ => lv_imul hx hb dX3_property_6) ?_
  refine zz (fun _ _ => lv_iconst (v := 1) hx hb dX3_property_7 (by decide)) ?_
  refine zz (fun _ _ => lv_iadd hx hb dX3_property_8) ?_
  refine z_iald (f := av (k + 1)) C (rd_t hk) (ix3 (mo := c_0 + 1) hj (by omega) (by omega) (tl_lt k)).2.1 dX3_property_9 ?_
  exact z_iret C hr hlk dX3_property_10 (by simp only [zd, fX3_property, and_self])
def fX3_object (av : Nat → Nat → Int32) (k : Nat) (a_ : Int32) : Int32 := (av (k + 1) (Int32.toNatClampNeg (((3) * (a_)) + (2))))
set_option maxHeartbeats 1000000 in
set_option maxRecDepth 10000 in
theorem ctX3_object {l : Launch} {D : va_G} {aC : Nat → ClassId} {b0 sz : Nat} {x : Nat} {iv av : Nat → Nat → Int32} {R : ZM} {k : Nat} {a_ : Int32} (hk : ck k = 14) {c_0 j_0 : Nat} (hj : a_ = nI c_0) (hc : 3 * c_0 + 3 ≤ tl k) : Ct l D aC b0 yX3_object cX3_object 2 (some .int) 0 0 0 [.ref (x + k), .int (a_)] (cm aC x iv av R) sz (zd (some (.int (fX3_object av k a_))) (cm aC x iv av R)) := by
  refine Ct.of (by decide) (Nat.le_of_ble_eq_true rfl) ?_
  intro p e s m below meth c ls C hr hlk hnm hl
  have hl : lv_has ls 2 [(0, .ref (x + k)), (1, .int (a_))] := hl
  obtain ⟨hx, hb, -, -, -⟩ := id C
  refine zz (fun _ _ => lv_aload_n hx hb dX3_object_0 rfl (lv_at hl 0 rfl)) ?_
  refine z_get (v := .ref (x + (k + 1))) C fd_X3_16 (rd_14 hk) rfl dX3_object_1 ?_
  refine zz (fun _ _ => lv_iconst (v := 3) hx hb dX3_object_4 (by decide)) ?_
  refine zz (fun _ _ => lv_iload_n hx hb dX3_object_5 rfl (lv_at hl 1 rfl)) ?_
  refine zz (fun _ _ => lv_imul hx hb dX3_object_6) ?_
  refine zz (fun _ _ => lv_iconst (v := 2) hx hb dX3_object_7 (by decide)) ?_
  refine zz (fun _ _ => lv_iadd hx hb dX3_object_8) ?_
  refine z_iald (f := av (k + 1)) C (rd_t hk) (ix3 (mo := c_0 + 1) hj (by omega) (by omega) (tl_lt k)).2.2 dX3_object_9 ?_
  exact z_iret C hr hlk dX3_object_10 (by simp only [zd, fX3_object, and_self])
theorem full0 {iv : Nat → Nat → Int32} {k c mo : Nat} (hc : iv k 2 = nI c) (hm : iv k 1 = nI mo) (hcm : c ≤ mo) (hmo : mo < 2 ^ 31) (h : fX3_isFull iv k = 0) : c < mo := by
  unfold fX3_isFull at h
  rw [hc, hm] at h
  rcases Nat.lt_or_ge c mo with q | q
  · exact q
  · rw [if_neg (nI_nlt q (by omega))] at h
    exact absurd h (by decide)
def fX3_append (iv : Nat → Nat → Int32) (av : Nat → Nat → Int32) (k : Nat) (a_ : Int32) (b_ : Int32) (c_ : Int32) : Int32 × (Nat → Nat → Int32) × (Nat → Nat → Int32) := if (fX3_isFull iv k) = 0 then ((iv k 2) + (1), (u2 iv k 2 ((iv k 2) + (1))), (u1 (u1 (u1 av (k + 1) (upd (av (k + 1)) (Int32.toNatClampNeg ((3) * (iv k 2))) (a_))) (k + 1) (upd ((upd (av (k + 1)) (Int32.toNatClampNeg ((3) * (iv k 2))) (a_))) (Int32.toNatClampNeg (((3) * (iv k 2)) + (1))) (b_))) (k + 1) (upd ((upd ((upd (av (k + 1)) (Int32.toNatClampNeg ((3) * (iv k 2))) (a_))) (Int32.toNatClampNeg (((3) * (iv k 2)) + (1))) (b_))) (Int32.toNatClampNeg (((3) * (iv k 2)) + (2))) (c_)))) else (iv k 2, iv, av)
set_option maxHeartbeats 1000000 in
set_option maxRecDepth 10000 in
theorem ctX3_append {l : Launch} {D : va_G} {aC : Nat → ClassId} {b0 sz : Nat} {x : Nat} {iv av : Nat → Nat → Int32} {R : ZM} {k : Nat} {a_ : Int32} {b_ : Int32} {c_ : Int32} (hk : ck k = 14) {c_0 mo : Nat} (hc : iv k 2 = nI c_0) (hm : iv k 1 = nI mo) (hcm : c_0 ≤ mo) (hml : 3 * mo ≤ tl k) : Ct l D aC b0 yX3_append cX3_append 4 (some .int) 1 0 0 [.ref (x + k), .int (a_), .int (b_), .int (c_)] (cm aC x iv av R) sz (zd (some (.int (fX3_append iv av k a_ b_ c_).1)) (cm aC x (fX3_append iv av k a_ b_ c_).2.1 (fX3_append iv av k a_ b_ c_).2.2 R)) := by
  refine Ct.of (by decide) (Nat.le_of_ble_eq_true rfl) ?_
  intro p e s m below meth c ls C hr hlk hnm hl
  have hl : lv_has ls 4 [(0, .ref (x + k)), (1, .int (a_)), (2, .int (b_)), (3, .int (c_))] := hl
  obtain ⟨hx, hb, -, -, -⟩ := id C
  refine zz (fun _ _ => lv_aload_n hx hb dX3_append_0 rfl (lv_at hl 0 rfl)) ?_
  refine zdV (As := []) (rest := []) (st' := [.int ((fX3_isFull iv k))]) C hl.1 lk_X3_20 (ctX3_isFull hk) (rd_14 hk) rfl rfl rfl (Nat.le_of_ble_eq_true rfl) ⟨by decide, by decide, by decide, by decide⟩ dX3_append_1 rfl (fun sz => ?_)
  refine zbn (fun _ _ => lv_if_ne (tgt := 57) hx hb dX3_append_4 (by decide)) (fun c_1 => ?_) (fun c_1 => ?_)
  · refine zz (fun _ _ => lv_aload_n hx hb dX3_append_57 rfl (lv_at hl 0 rfl)) ?_
    refine z_get (v := .int (iv k 2)) C fd_X3_7 (rd_14 hk) rfl dX3_append_58 ?_
    exact z_iret C hr hlk dX3_append_61 (by simp only [zd, fX3_append, if_neg c_1, and_self])
  · refine zz (fun _ _ => lv_aload_n hx hb dX3_append_7 rfl (lv_at hl 0 rfl)) ?_
    refine z_get (v := .ref (x + (k + 1))) C fd_X3_16 (rd_14 hk) rfl dX3_append_8 ?_
    refine zz (fun _ _ => lv_iconst (v := 3) hx hb dX3_append_11 (by decide)) ?_
    refine zz (fun _ _ => lv_aload_n hx hb dX3_append_12 rfl (lv_at hl 0 rfl)) ?_
    refine z_get (v := .int (iv k 2)) C fd_X3_7 (rd_14 hk) rfl dX3_append_13 ?_
    refine zz (fun _ _ => lv_imul hx hb dX3_append_16) ?_
    refine zz (fun _ _ => lv_iload_n hx hb dX3_append_17 rfl (lv_at hl 1 rfl)) ?_
    refine z_iast (f := av (k + 1)) C (rd_t hk) (ix3 hc (full0 hc hm hcm (by have := tl_lt k; omega) c_1) hml (tl_lt k)).1 dX3_append_18 ?_
    refine zeq (wr_t hk) ?_
    refine zz (fun _ _ => lv_aload_n hx hb dX3_append_19 rfl (lv_at hl 0 rfl)) ?_
    refine z_get (v := .ref (x + (k + 1))) C fd_X3_16 (rd_14 hk) rfl dX3_append_20 ?_
    refine zz (fun _ _ => lv_iconst (v := 3) hx hb dX3_append_23 (by decide)) ?_
    refine zz (fun _ _ => lv_aload_n hx hb dX3_append_24 rfl (lv_at hl 0 rfl)) ?_
    refine z_get (v := .int (iv k 2)) C fd_X3_7 (rd_14 hk) rfl dX3_append_25 ?_
    refine zz (fun _ _ => lv_imul hx hb dX3_append_28) ?_
    refine zz (fun _ _ => lv_iconst (v := 1) hx hb dX3_append_29 (by decide)) ?_
    refine zz (fun _ _ => lv_iadd hx hb dX3_append_30) ?_
    refine zz (fun _ _ => lv_iload_n hx hb dX3_append_31 rfl (lv_at hl 2 rfl)) ?_
    refine z_iast (n := (tl k)) (f := (upd (av (k + 1)) (Int32.toNatClampNeg ((3) * (iv k 2))) (a_))) C ((rd_t hk).trans (by simp [u1])) (ix3 hc (full0 hc hm hcm (by have := tl_lt k; omega) c_1) hml (tl_lt k)).2.1 dX3_append_32 ?_
    refine zeq (wr_t hk) ?_
    refine zz (fun _ _ => lv_aload_n hx hb dX3_append_33 rfl (lv_at hl 0 rfl)) ?_
    refine z_get (v := .ref (x + (k + 1))) C fd_X3_16 (rd_14 hk) rfl dX3_append_34 ?_
    refine zz (fun _ _ => lv_iconst (v := 3) hx hb dX3_append_37 (by decide)) ?_
    refine zz (fun _ _ => lv_aload_n hx hb dX3_append_38 rfl (lv_at hl 0 rfl)) ?_
    refine z_get (v := .int (iv k 2)) C fd_X3_7 (rd_14 hk) rfl dX3_append_39 ?_
    refine zz (fun _ _ => lv_imul hx hb dX3_append_42) ?_
    refine zz (fun _ _ => lv_iconst (v := 2) hx hb dX3_append_43 (by decide)) ?_
    refine zz (fun _ _ => lv_iadd hx hb dX3_append_44) ?_
    refine zz (fun _ _ => lv_iload_n hx hb dX3_append_45 rfl (lv_at hl 3 rfl)) ?_
    refine z_iast (n := (tl k)) (f := (upd ((upd (av (k + 1)) (Int32.toNatClampNeg ((3) * (iv k 2))) (a_))) (Int32.toNatClampNeg (((3) * (iv k 2)) + (1))) (b_))) C ((rd_t hk).trans (by simp [u1])) (ix3 hc (full0 hc hm hcm (by have := tl_lt k; omega) c_1) hml (tl_lt k)).2.2 dX3_append_46 ?_
    refine zeq (wr_t hk) ?_
    refine zz (fun _ _ => lv_aload_n hx hb dX3_append_47 rfl (lv_at hl 0 rfl)) ?_
    refine zz (fun _ _ => lv_dup hx hb dX3_append_48 rfl) ?_
    refine z_get (v := .int (iv k 2)) C fd_X3_7 (rd_14 hk) rfl dX3_append_49 ?_
    refine zz (fun _ _ => lv_iconst (v := 1) hx hb dX3_append_52 (by decide)) ?_
    refine zz (fun _ _ => lv_iadd hx hb dX3_append_53) ?_
    refine z_put C fp_X3_7 (fun h => by cases h) (rd_14 hk) (Nat.le_of_ble_eq_true rfl) rfl rfl dX3_append_54 ?_
    refine zeq (wr_14_2 hk) ?_
    refine zz (fun _ _ => lv_aload_n hx hb dX3_append_57 rfl (lv_at hl 0 rfl)) ?_
    refine z_get (v := .int ((iv k 2) + (1))) C fd_X3_7 (rd_14 hk) (by simp [u2]) dX3_append_58 ?_
    exact z_iret C hr hlk dX3_append_61 (by simp only [zd, fX3_append, if_pos c_1, and_self])
end
section
theorem kp_2 {i : Nat} (h : i < 12) : ck (61 + 6 * i) = 18 := by
  revert h; revert i; decide +kernel
theorem kp_8 {i : Nat} (h : i < 4) : ck (29 + 3 * i) = 13 := by
  revert h; revert i; decide +kernel
theorem kp_10 {i : Nat} (h : i < 5) : ck (22 + i) = 11 := by
  revert h; revert i; decide +kernel
theorem kp_5 {k i : Nat} (hk : ck k = 5) (h : i < 7) : ck (k + 1 + 2 * i) = 6 := by
  have h2 : ∀ k, k < 133 → ck k = 5 → ∀ i, i < 7 → ck (k + 1 + 2 * i) = 6 := by decide +kernel
  exact h2 k (ck_lt hk (by decide)) hk i h
theorem rf_if {f : Nat → Nat} {n j : Nat} {i : Int32} (hi : i = nI j) (hj : j < n) (hn : n < 2 ^ 31) : va_rf ((fun q => if q < n then some (f q) else none) i.toNatClampNeg) = .ref (f j) := by
  subst hi
  rw [nI_clamp (by omega)]
  simp [va_rf, hj]
theorem in_nI {i : Int32} {j n : Nat} (hi : i = nI j) (hj : j < n) (hn : n < 2 ^ 31) : vp_in i n := by
  subst hi
  exact vp_in_nI hj hn
def fX5_begin (iv : Nat → Nat → Int32) (av : Nat → Nat → Int32) (k : Nat) (a_ : Int32) (b_ : Int32) (c_ : Int32) : (Nat → Nat → Int32) × (Nat → Nat → Int32) := ((u2 (u2 (u2 (u2 (u2 (u2 (u2 iv k 3 (a_)) k 4 (b_)) k 5 (c_)) k 6 (0)) k 7 ((-1))) (k + 1) 2 (0)) (k + 4) 2 (0)), av)
set_option maxHeartbeats 1000000 in
set_option maxRecDepth 10000 in
theorem ctX5_begin {l : Launch} {D : va_G} {aC : Nat → ClassId} {b0 sz : Nat} {x : Nat} {iv av : Nat → Nat → Int32} {R : ZM} {k : Nat} {a_ : Int32} {b_ : Int32} {c_ : Int32} (hk : ck k = 18) : Ct l D aC b0 yX5_begin cX5_begin 4 none 0 0 0 [.ref (x + k), .int (a_), .int (b_), .int (c_)] (cm aC x iv av R) sz (zd none (cm aC x (fX5_begin iv av k a_ b_ c_).1 (fX5_begin iv av k a_ b_ c_).2 R)) := by
  refine Ct.of (by decide) (Nat.le_of_ble_eq_true rfl) ?_
  intro p e s m below meth c ls C hr hlk hnm hl
  have hl : lv_has ls 4 [(0, .ref (x + k)), (1, .int (a_)), (2, .int (b_)), (3, .int (c_))] := hl
  obtain ⟨hx, hb, -, -, -⟩ := id C
  refine zz (fun _ _ => lv_aload_n hx hb dX5_begin_0 rfl (lv_at hl 0 rfl)) ?_
  refine zz (fun _ _ => lv_iload_n hx hb dX5_begin_1 rfl (lv_at hl 1 rfl)) ?_
  refine z_put C fp_X5_27 (fun h => by cases h) (rd_18 hk) (Nat.le_of_ble_eq_true rfl) rfl rfl dX5_begin_2 ?_
  refine zeq (wr_18_3 hk) ?_
  refine zz (fun _ _ => lv_aload_n hx hb dX5_begin_5 rfl (lv_at hl 0 rfl)) ?_
  refine zz (fun _ _ => lv_iload_n hx hb dX5_begin_6 rfl (lv_at hl 2 rfl)) ?_
  refine z_put C fp_X5_31 (fun h => by cases h) (rd_18 hk) (Nat.le_of_ble_eq_true rfl) rfl rfl dX5_begin_7 ?_
  refine zeq (wr_18_4 hk) ?_
  refine zz (fun _ _ => lv_aload_n hx hb dX5_begin_10 rfl (lv_at hl 0 rfl)) ?_
  refine zz (fun _ _ => lv_iload_n hx hb dX5_begin_11 rfl (lv_at hl 3 rfl)) ?_
  refine z_put C fp_X5_34 (fun h => by cases h) (rd_18 hk) (Nat.le_of_ble_eq_true rfl) rfl rfl dX5_begin_12 ?_
  refine zeq (wr_18_5 hk) ?_
  refine zz (fun _ _ => lv_aload_n hx hb dX5_begin_15 rfl (lv_at hl 0 rfl)) ?_
  refine zz (fun _ _ => lv_iconst (v := 0) hx hb dX5_begin_16 (by decide)) ?_
  refine z_put C fp_X5_37 (fun h => by cases h) (rd_18 hk) (Nat.le_of_ble_eq_true rfl) rfl rfl dX5_begin_17 ?_
  refine zeq (wr_18_6 hk) ?_
  refine zz (fun _ _ => lv_aload_n hx hb dX5_begin_20 rfl (lv_at hl 0 rfl)) ?_
  refine zz (fun _ _ => lv_iconst (v := (-1)) hx hb dX5_begin_21 (by decide)) ?_
  refine z_put C fp_X5_41 (fun h => by cases h) (rd_18 hk) (Nat.le_of_ble_eq_true rfl) rfl rfl dX5_begin_22 ?_
  refine zeq (wr_18_7 hk) ?_
  refine zz (fun _ _ => lv_aload_n hx hb dX5_begin_25 rfl (lv_at hl 0 rfl)) ?_
  refine z_get (v := .ref (x + (k + 1))) C fd_X5_14 (rd_18 hk) rfl dX5_begin_26 ?_
  refine zz (fun _ _ => lv_iconst (v := 0) hx hb dX5_begin_29 (by decide)) ?_
  refine z_put C fp_X5_44 (fun h => by cases h) (rd_14 (nb_18_1 hk)) (Nat.le_of_ble_eq_true rfl) rfl rfl dX5_begin_30 ?_
  refine zeq (wr_14_2 (nb_18_1 hk)) ?_
  refine zz (fun _ _ => lv_aload_n hx hb dX5_begin_33 rfl (lv_at hl 0 rfl)) ?_
  refine z_get (v := .ref (x + (k + 4))) C fd_X5_24 (rd_18 hk) rfl dX5_begin_34 ?_
  refine zz (fun _ _ => lv_iconst (v := 0) hx hb dX5_begin_37 (by decide)) ?_
  refine z_put C fp_X5_44 (fun h => by cases h) (rd_14 (nb_18_4 hk)) (Nat.le_of_ble_eq_true rfl) rfl rfl dX5_begin_38 ?_
  refine zeq (wr_14_2 (nb_18_4 hk)) ?_
  exact z_vret C hr hlk dX5_begin_41 (by simp only [zd, fX5_begin, and_self])
theorem bz {b : Int32} (h : b = 0 ∨ b = 1) : narrow .boolean (.int b) = .int b := by
  rcases h with rfl | rfl <;> rfl
theorem bf {b : Int32} (h : b = 0 ∨ b = 1) : fits .boolean (.int b) = true := by
  rcases h with rfl | rfl <;> rfl
def fX6_makeBlank (iv : Nat → Nat → Int32) (av : Nat → Nat → Int32) (k : Nat) : Int32 × (Nat → Nat → Int32) × (Nat → Nat → Int32) := if iv k 1 < 60 then (((100) + ((iv k 1) + (1))) - (1), (u2 iv k 1 ((iv k 1) + (1))), av) else ((-1), iv, av)
set_option maxHeartbeats 1000000 in
set_option maxRecDepth 10000 in
theorem ctX6_makeBlank {l : Launch} {D : va_G} {aC : Nat → ClassId} {b0 sz : Nat} {x : Nat} {iv av : Nat → Nat → Int32} {R : ZM} {k : Nat} (hk : ck k = 4) : Ct l D aC b0 yX6_makeBlank cX6_makeBlank 1 (some .int) 0 0 0 [.ref (x + k)] (cm aC x iv av R) sz (zd (some (.int (fX6_makeBlank iv av k).1)) (cm aC x (fX6_makeBlank iv av k).2.1 (fX6_makeBlank iv av k).2.2 R)) := by
  refine Ct.of (by decide) (Nat.le_of_ble_eq_true rfl) ?_
  intro p e s m below meth c ls C hr hlk hnm hl
  have hl : lv_has ls 1 [(0, .ref (x + k))] := hl
  obtain ⟨hx, hb, -, -, -⟩ := id C
  refine zz (fun _ _ => lv_aload_n hx hb dX6_makeBlank_0 rfl (lv_at hl 0 rfl)) ?_
  refine z_get (v := .int (iv k 1)) C fd_X6_17 (rd_4 hk) rfl dX6_makeBlank_1 ?_
  refine zz (fun _ _ => lv_bipush (v := 60) hx hb dX6_makeBlank_4 (by decide)) ?_
  refine zb (fun _ _ => lv_icmp_lt (tgt := 11) hx hb dX6_makeBlank_6 (by decide)) (fun c_1 => ?_) (fun c_1 => ?_)
  · refine zz (fun _ _ => lv_aload_n hx hb dX6_makeBlank_11 rfl (lv_at hl 0 rfl)) ?_
    refine zz (fun _ _ => lv_dup hx hb dX6_makeBlank_12 rfl) ?_
    refine z_get (v := .int (iv k 1)) C fd_X6_17 (rd_4 hk) rfl dX6_makeBlank_13 ?_
    refine zz (fun _ _ => lv_iconst (v := 1) hx hb dX6_makeBlank_16 (by decide)) ?_
    refine zz (fun _ _ => lv_iadd hx hb dX6_makeBlank_17) ?_
    refine z_put C fp_X6_17 (fun h => by cases h) (rd_4 hk) (Nat.le_of_ble_eq_true rfl) rfl rfl dX6_makeBlank_18 ?_
    refine zeq (wr_4_1 hk) ?_
    refine zz (fun _ _ => lv_bipush (v := 100) hx hb dX6_makeBlank_21 (by decide)) ?_
    refine zz (fun _ _ => lv_aload_n hx hb dX6_makeBlank_23 rfl (lv_at hl 0 rfl)) ?_
    refine z_get (v := .int ((iv k 1) + (1))) C fd_X6_17 (rd_4 hk) (by simp [u2]) dX6_makeBlank_24 ?_
    refine zz (fun _ _ => lv_iadd hx hb dX6_makeBlank_27) ?_
    refine zz (fun _ _ => lv_iconst (v := 1) hx hb dX6_makeBlank_28 (by decide)) ?_
    refine zz (fun _ _ => lv_isub hx hb dX6_makeBlank_29) ?_
    exact z_iret C hr hlk dX6_makeBlank_30 (by simp only [zd, fX6_makeBlank, if_pos c_1, and_self])
  · refine zz (fun _ _ => lv_iconst (v := (-1)) hx hb dX6_makeBlank_9 (by decide)) ?_
    exact z_iret C hr hlk dX6_makeBlank_10 (by simp only [zd, fX6_makeBlank, if_neg c_1, and_self])
def fX6_drop (iv : Nat → Nat → Int32) (av : Nat → Nat → Int32) (k : Nat) (j : Nat) (a_ : Int32) : (Nat → Nat → Int32) × (Nat → Nat → Int32) := if a_ = 0 then ((u2 (u2 iv ((k + 1) + 1 + 2 * j) 1 (0)) ((k + 1) + 1 + 2 * j) 2 (1)), av) else ((u2 (u2 iv ((k + 1) + 1 + 2 * j) 1 (0)) ((k + 1) + 1 + 2 * j) 2 (0)), av)
set_option maxHeartbeats 1000000 in
set_option maxRecDepth 10000 in
theorem ctX6_drop {l : Launch} {D : va_G} {aC : Nat → ClassId} {b0 sz : Nat} {x : Nat} {iv av : Nat → Nat → Int32} {R : ZM} {k : Nat} {j : Nat} {a_ : Int32} (hk : ck k = 4) (hj0 : a_ = nI j) (hj : j < 7) : Ct l D aC b0 yX6_drop cX6_drop 2 none 0 0 0 [.ref (x + k), .int (a_)] (cm aC x iv av R) sz (zd none (cm aC x (fX6_drop iv av k j a_).1 (fX6_drop iv av k j a_).2 R)) := by
  refine Ct.of (by decide) (Nat.le_of_ble_eq_true rfl) ?_
  intro p e s m below meth c ls C hr hlk hnm hl
  have hl : lv_has ls 2 [(0, .ref (x + k)), (1, .int (a_))] := hl
  obtain ⟨hx, hb, -, -, -⟩ := id C
  refine zz (fun _ _ => lv_aload_n hx hb dX6_drop_0 rfl (lv_at hl 0 rfl)) ?_
  refine z_get (v := .ref (x + (k + 1))) C fd_X6_11 (rd_4 hk) rfl dX6_drop_1 ?_
  refine zz (fun _ _ => lv_iload_n hx hb dX6_drop_4 rfl (lv_at hl 1 rfl)) ?_
  refine z_aald C 3 rfl (rd_5 (nb_4_1 hk)) (in_nI hj0 hj (by decide)) (v := .ref (x + ((k + 1) + 1 + 2 * j))) (rf_if (f := fun q => x + (k + 1 + 1 + 2 * q)) (n := 7) hj0 hj (by decide)) dX6_drop_5 ?_
  refine zz (fun _ _ => lv_iconst (v := 0) hx hb dX6_drop_6 (by decide)) ?_
  refine z_put C fp_X6_26 (fun h => by cases h) (rd_6 (kp_5 (nb_4_1 hk) hj)) (Nat.le_of_ble_eq_true rfl) rfl rfl dX6_drop_7 ?_
  refine zeq (wr_6_1 (kp_5 (nb_4_1 hk) hj)) ?_
  refine zz (fun _ _ => lv_aload_n hx hb dX6_drop_10 rfl (lv_at hl 0 rfl)) ?_
  refine z_get (v := .ref (x + (k + 1))) C fd_X6_11 (rd_4 hk) rfl dX6_drop_11 ?_
  refine zz (fun _ _ => lv_iload_n hx hb dX6_drop_14 rfl (lv_at hl 1 rfl)) ?_
  refine z_aald C 3 rfl (rd_5 (nb_4_1 hk)) (in_nI hj0 hj (by decide)) (v := .ref (x + ((k + 1) + 1 + 2 * j))) (rf_if (f := fun q => x + (k + 1 + 1 + 2 * q)) (n := 7) hj0 hj (by decide)) dX6_drop_15 ?_
  refine zz (fun _ _ => lv_iload_n hx hb dX6_drop_16 rfl (lv_at hl 1 rfl)) ?_
  refine zbn (fun _ _ => lv_if_ne (tgt := 24) hx hb dX6_drop_17 (by decide)) (fun c_1 => ?_) (fun c_1 => ?_)
  · refine zz (fun _ _ => lv_iconst (v := 0) hx hb dX6_drop_24 (by decide)) ?_
    refine z_put C fp_X6_22 (fun h => by cases h) (rd_6 (kp_5 (nb_4_1 hk) hj)) (Nat.le_of_ble_eq_true rfl) rfl rfl dX6_drop_25 ?_
    refine zeq (wr_6_2 (kp_5 (nb_4_1 hk) hj)) ?_
    exact z_vret C hr hlk dX6_drop_28 (by simp only [zd, fX6_drop, if_neg c_1, and_self])
  · refine zz (fun _ _ => lv_iconst (v := 1) hx hb dX6_drop_20 (by decide)) ?_
    refine zz (fun _ _ => lv_goto (tgt := 25) hx hb dX6_drop_21 (by decide)) ?_
    refine z_put C fp_X6_22 (fun h => by cases h) (rd_6 (kp_5 (nb_4_1 hk) hj)) (Nat.le_of_ble_eq_true rfl) rfl rfl dX6_drop_25 ?_
    refine zeq (wr_6_2 (kp_5 (nb_4_1 hk) hj)) ?_
    exact z_vret C hr hlk dX6_drop_28 (by simp only [zd, fX6_drop, if_pos c_1, and_self])
def fX5_addTemplate (iv : Nat → Nat → Int32) (av : Nat → Nat → Int32) (k : Nat) (a_ : Int32) (b_ : Int32) (c_ : Int32) (d_ : Int32) : Int32 × (Nat → Nat → Int32) × (Nat → Nat → Int32) := if (fX3_isFull iv (k + 1)) = 0 then ((fX3_append iv (u1 av (k + 3) (upd (av (k + 3)) (Int32.toNatClampNeg (iv (k + 1) 2)) (d_))) (k + 1) a_ b_ c_).1, (fX3_append iv (u1 av (k + 3) (upd (av (k + 3)) (Int32.toNatClampNeg (iv (k + 1) 2)) (d_))) (k + 1) a_ b_ c_).2.1, (fX3_append iv (u1 av (k + 3) (upd (av (k + 3)) (Int32.toNatClampNeg (iv (k + 1) 2)) (d_))) (k + 1) a_ b_ c_).2.2) else ((fX3_append iv av (k + 1) a_ b_ c_).1, (fX3_append iv av (k + 1) a_ b_ c_).2.1, (fX3_append iv av (k + 1) a_ b_ c_).2.2)
set_option maxHeartbeats 1000000 in
set_option maxRecDepth 10000 in
theorem ctX5_addTemplate {l : Launch} {D : va_G} {aC : Nat → ClassId} {b0 sz : Nat} {x : Nat} {iv av : Nat → Nat → Int32} {R : ZM} {k : Nat} {a_ : Int32} {b_ : Int32} {c_ : Int32} {d_ : Int32} (hk : ck k = 18) {c_0 mo : Nat} (hc : iv (k + 1) 2 = nI c_0) (hm : iv (k + 1) 1 = nI mo) (hcm : c_0 ≤ mo) (hml : 3 * mo ≤ tl (k + 1)) (hmo : mo ≤ 6) (hbb : d_ = 0 ∨ d_ = 1) : Ct l D aC b0 yX5_addTemplate cX5_addTemplate 5 (some .int) 2 0 0 [.ref (x + k), .int (a_), .int (b_), .int (c_), .int (d_)] (cm aC x iv av R) sz (zd (some (.int (fX5_addTemplate iv av k a_ b_ c_ d_).1)) (cm aC x (fX5_addTemplate iv av k a_ b_ c_ d_).2.1 (fX5_addTemplate iv av k a_ b_ c_ d_).2.2 R)) := by
  refine Ct.of (by decide) (Nat.le_of_ble_eq_true rfl) ?_
  intro p e s m below meth c ls C hr hlk hnm hl
  have hl : lv_has ls 5 [(0, .ref (x + k)), (1, .int (a_)), (2, .int (b_)), (3, .int (c_)), (4, .int (d_))] := hl
  obtain ⟨hx, hb, -, -, -⟩ := id C
  refine zz (fun _ _ => lv_aload_n hx hb dX5_addTemplate_0 rfl (lv_at hl 0 rfl)) ?_
  refine z_get (v := .ref (x + (k + 1))) C fd_X5_14 (rd_18 hk) rfl dX5_addTemplate_1 ?_
  refine zdV (As := []) (rest := []) (st' := [.int ((fX3_isFull iv (k + 1)))]) C hl.1 lk_X5_47 (ctX3_isFull (nb_18_1 hk)) (rd_14 (nb_18_1 hk)) rfl rfl rfl (Nat.le_of_ble_eq_true rfl) ⟨by decide, by decide, by decide, by decide⟩ dX5_addTemplate_4 rfl (fun sz => ?_)
  refine zbn (fun _ _ => lv_if_ne (tgt := 24) hx hb dX5_addTemplate_7 (by decide)) (fun c_1 => ?_) (fun c_1 => ?_)
  · refine zz (fun _ _ => lv_aload_n hx hb dX5_addTemplate_24 rfl (lv_at hl 0 rfl)) ?_
    refine z_get (v := .ref (x + (k + 1))) C fd_X5_14 (rd_18 hk) rfl dX5_addTemplate_25 ?_
    refine zz (fun _ _ => lv_iload_n hx hb dX5_addTemplate_28 rfl (lv_at hl 1 rfl)) ?_
    refine zz (fun _ _ => lv_iload_n hx hb dX5_addTemplate_29 rfl (lv_at hl 2 rfl)) ?_
    refine zz (fun _ _ => lv_iload_n hx hb dX5_addTemplate_30 rfl (lv_at hl 3 rfl)) ?_
    refine zdV (As := [.int (a_), .int (b_), .int (c_)]) (rest := []) (st' := [.int ((fX3_append iv av (k + 1) a_ b_ c_).1)]) C hl.1 lk_X5_51 (ctX3_append (nb_18_1 hk) hc hm hcm hml) (rd_14 (nb_18_1 hk)) rfl rfl rfl (Nat.le_of_ble_eq_true rfl) ⟨by decide, by decide, by decide, by decide⟩ dX5_addTemplate_31 rfl (fun sz => ?_)
    exact z_iret C hr hlk dX5_addTemplate_34 (by simp only [zd, fX5_addTemplate, if_neg c_1, and_self])
  · refine zz (fun _ _ => lv_aload_n hx hb dX5_addTemplate_10 rfl (lv_at hl 0 rfl)) ?_
    refine z_get (v := .ref (x + (k + 3))) C fd_X5_20 (rd_18 hk) rfl dX5_addTemplate_11 ?_
    refine zz (fun _ _ => lv_aload_n hx hb dX5_addTemplate_14 rfl (lv_at hl 0 rfl)) ?_
    refine z_get (v := .ref (x + (k + 1))) C fd_X5_14 (rd_18 hk) rfl dX5_addTemplate_15 ?_
    refine z_get (v := .int (iv (k + 1) 2)) C fd_X5_44 (rd_14 (nb_18_1 hk)) rfl dX5_addTemplate_18 ?_
    refine zz (fun _ _ => lv_iload hx hb dX5_addTemplate_21 (lv_at hl 4 rfl)) ?_
    refine z_zast (f := av (k + 3)) C (rd_20 (nb_18_3 hk)) (in_nI hc (Nat.lt_of_lt_of_le (full0 hc hm hcm (by omega) c_1) hmo) (by decide)) (bz hbb) dX5_addTemplate_23 ?_
    refine zeq (wr_20 (nb_18_3 hk)) ?_
    refine zz (fun _ _ => lv_aload_n hx hb dX5_addTemplate_24 rfl (lv_at hl 0 rfl)) ?_
    refine z_get (v := .ref (x + (k + 1))) C fd_X5_14 (rd_18 hk) rfl dX5_addTemplate_25 ?_
    refine zz (fun _ _ => lv_iload_n hx hb dX5_addTemplate_28 rfl (lv_at hl 1 rfl)) ?_
    refine zz (fun _ _ => lv_iload_n hx hb dX5_addTemplate_29 rfl (lv_at hl 2 rfl)) ?_
    refine zz (fun _ _ => lv_iload_n hx hb dX5_addTemplate_30 rfl (lv_at hl 3 rfl)) ?_
    refine zdV (As := [.int (a_), .int (b_), .int (c_)]) (rest := []) (st' := [.int ((fX3_append iv (u1 av (k + 3) (upd (av (k + 3)) (Int32.toNatClampNeg (iv (k + 1) 2)) (d_))) (k + 1) a_ b_ c_).1)]) C hl.1 lk_X5_51 (ctX3_append (nb_18_1 hk) hc hm hcm hml) (rd_14 (nb_18_1 hk)) rfl rfl rfl (Nat.le_of_ble_eq_true rfl) ⟨by decide, by decide, by decide, by decide⟩ dX5_addTemplate_31 rfl (fun sz => ?_)
    exact z_iret C hr hlk dX5_addTemplate_34 (by simp only [zd, fX5_addTemplate, if_pos c_1, and_self])
theorem in_isIn {a hi : Int32} {n : Nat} (h : ¬ fX9_isIn a 0 hi = 0) (hn : hi.toInt < n) : vp_in a n := by
  unfold fX9_isIn at h
  split at h
  · exact absurd rfl h
  · split at h
    · exact absurd rfl h
    · rename_i h1 h2
      refine vp_in_iff.mpr ⟨?_, ?_⟩
      · simpa [Int32.lt_iff_toInt_lt] using h1
      · simp only [Int32.lt_iff_toInt_lt] at h2
        omega
def fX9_thrown (v : Nat → Int32) : Int32 := (v 0)
set_option maxHeartbeats 1000000 in
set_option maxRecDepth 10000 in
theorem ctX9_thrown {l : Launch} {D : va_G} {aC : Nat → ClassId} {b0 sz : Nat} {r : Nat} {v : Nat → Int32} {A : Nat → Nat → Int32} {R : ZM} : Ct l D aC b0 yX9_thrown cX9_thrown 1 (some .int) 0 0 0 [.ref (r)] (mm aC r v A R) sz (zd (some (.int (fX9_thrown v))) (mm aC r v A R)) := by
  refine Ct.of (by decide) (Nat.le_of_ble_eq_true rfl) ?_
  intro p e s m below meth c ls C hr hlk hnm hl
  have hl : lv_has ls 1 [(0, .ref (r))] := hl
  obtain ⟨hx, hb, -, -, -⟩ := id C
  refine zz (fun _ _ => lv_aload_n hx hb dX9_thrown_0 rfl (lv_at hl 0 rfl)) ?_
  refine z_get (v := .int (v 0)) C fd_X9_129 rm_0 rfl dX9_thrown_1 ?_
  exact z_iret C hr hlk dX9_thrown_4 (by simp only [zd, fX9_thrown, and_self])
def fX9_isStep (v : Nat → Int32) (a_ : Int32) : Int32 := if a_ < 0 then (0) else if v 1 ≤ a_ then (0) else (1)
theorem nbfX9_isStep {v : Nat → Int32} {a_ : Int32} : narrow .boolean (.int (fX9_isStep v a_)) = .int (fX9_isStep v a_) := by
  unfold fX9_isStep
  repeat' split
  all_goals try dsimp only
  all_goals first | rfl | assumption
set_option maxHeartbeats 1000000 in
set_option maxRecDepth 10000 in
theorem ctX9_isStep {l : Launch} {D : va_G} {aC : Nat → ClassId} {b0 sz : Nat} {r : Nat} {v : Nat → Int32} {A : Nat → Nat → Int32} {R : ZM} {a_ : Int32} : Ct l D aC b0 yX9_isStep cX9_isStep 2 (some .boolean) 0 0 0 [.ref (r), .int (a_)] (mm aC r v A R) sz (zd (some (.int (fX9_isStep v a_))) (mm aC r v A R)) := by
  refine Ct.of (by decide) (Nat.le_of_ble_eq_true rfl) ?_
  intro p e s m below meth c ls C hr hlk hnm hl
  have hl : lv_has ls 2 [(0, .ref (r)), (1, .int (a_))] := hl
  obtain ⟨hx, hb, -, -, -⟩ := id C
  refine zz (fun _ _ => lv_iload_n hx hb dX9_isStep_0 rfl (lv_at hl 1 rfl)) ?_
  refine zb (fun _ _ => lv_if_lt (tgt := 16) hx hb dX9_isStep_1 (by decide)) (fun c_1 => ?_) (fun c_1 => ?_)
  · refine zz (fun _ _ => lv_iconst (v := 0) hx hb dX9_isStep_16 (by decide)) ?_
    exact z_zret C hr rfl hlk dX9_isStep_17 (by simp only [zd, fX9_isStep, if_pos c_1, and_self])
  · refine zz (fun _ _ => lv_iload_n hx hb dX9_isStep_4 rfl (lv_at hl 1 rfl)) ?_
    refine zz (fun _ _ => lv_aload_n hx hb dX9_isStep_5 rfl (lv_at hl 0 rfl)) ?_
    refine z_get (v := .int (v 1)) C fd_X9_132 rm_0 rfl dX9_isStep_6 ?_
    refine zb (fun _ _ => lv_icmp_ge (tgt := 16) hx hb dX9_isStep_9 (by decide)) (fun c_2 => ?_) (fun c_2 => ?_)
    · refine zz (fun _ _ => lv_iconst (v := 0) hx hb dX9_isStep_16 (by decide)) ?_
      exact z_zret C hr rfl hlk dX9_isStep_17 (by simp only [zd, fX9_isStep, if_neg c_1, if_pos c_2, and_self])
    · refine zz (fun _ _ => lv_iconst (v := 1) hx hb dX9_isStep_12 (by decide)) ?_
      refine zz (fun _ _ => lv_goto (tgt := 17) hx hb dX9_isStep_13 (by decide)) ?_
      exact z_zret C hr rfl hlk dX9_isStep_17 (by simp only [zd, fX9_isStep, if_neg c_1, if_neg c_2, and_self])
def fX9_fails (v : Nat → Int32) (A : Nat → Nat → Int32) : Int32 × (Nat → Int32) × (Nat → Nat → Int32) := (v 42, (upd v 0 0), A)
set_option maxHeartbeats 1000000 in
set_option maxRecDepth 10000 in
theorem ctX9_fails {l : Launch} {D : va_G} {aC : Nat → ClassId} {b0 sz : Nat} {r : Nat} {v : Nat → Int32} {A : Nat → Nat → Int32} {R : ZM} : Ct l D aC b0 yX9_fails cX9_fails 1 (some .int) 0 0 0 [.ref (r)] (mm aC r v A R) sz (zd (some (.int (fX9_fails v A).1)) (mm aC r (fX9_fails v A).2.1 (fX9_fails v A).2.2 R)) := by
  refine Ct.of (by decide) (Nat.le_of_ble_eq_true rfl) ?_
  intro p e s m below meth c ls C hr hlk hnm hl
  have hl : lv_has ls 1 [(0, .ref (r))] := hl
  obtain ⟨hx, hb, -, -, -⟩ := id C
  refine zz (fun _ _ => lv_aload_n hx hb dX9_fails_0 rfl (lv_at hl 0 rfl)) ?_
  refine zz (fun _ _ => lv_iconst (v := 0) hx hb dX9_fails_1 (by decide)) ?_
  refine z_put C fp_X9_129 (fun h => by cases h) rm_0 (Nat.le_of_ble_eq_true rfl) rfl rfl dX9_fails_2 ?_
  refine zeq wm_f0 ?_
  refine zz (fun _ _ => lv_aload_n hx hb dX9_fails_5 rfl (lv_at hl 0 rfl)) ?_
  refine z_get (v := .int (v 42)) C fd_X9_113 rm_0 rfl dX9_fails_6 ?_
  exact z_iret C hr hlk dX9_fails_9 (by simp only [zd, fX9_fails, and_self])
end
