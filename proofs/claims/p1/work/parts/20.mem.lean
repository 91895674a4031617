/-- one cell's field, one array, changed -/
def u2 (iv : Nat → Nat → Int32) (k f : Nat) (v : Int32) : Nat → Nat → Int32 := fun k1 f1 => if k1 = k ∧ f1 = f then v else iv k1 f1
def u1 (av : Nat → Nat → Int32) (k : Nat) (g : Nat → Int32) : Nat → Nat → Int32 := fun k1 => if k1 = k then g else av k1
theorem u2_s (iv : Nat → Nat → Int32) (k f : Nat) (v : Int32) : u2 iv k f v k f = v := by simp [u2]
theorem u2_f (iv : Nat → Nat → Int32) (k : Nat) {f g : Nat} (v : Int32) (h : g ≠ f) : u2 iv k f v k g = iv k g := by simp [u2, h]
theorem u2_k (iv : Nat → Nat → Int32) {k j : Nat} (f g : Nat) (v : Int32) (h : j ≠ k) : u2 iv k f v j g = iv j g := by simp [u2, h]
theorem u1_s (av : Nat → Nat → Int32) (k : Nat) (g : Nat → Int32) : u1 av k g k = g := by simp [u1]
theorem u1_k (av : Nat → Nat → Int32) {k j : Nat} (g : Nat → Int32) (h : j ≠ k) : u1 av k g j = av j := by simp [u1, h]
/-- the kinds of the cells of an UpdateSteps, by their places behind it -/
def ctab : List Nat := [1, 2, 3, 4, 5, 6, 7, 6, 7, 6, 7, 6, 7, 6, 7, 6, 7, 6, 7, 8, 9, 10, 11, 11, 11, 11, 11, 12, 11, 13, 14, 15, 13, 14, 15, 13, 14, 15, 13, 14, 15, 4, 5, 6, 7, 6, 7, 6, 7, 6, 7, 6, 7, 6, 7, 6, 7, 16, 17, 17, 17, 18, 14, 19, 20, 14, 21, 18, 14, 19, 20, 14, 21, 18, 14, 19, 20, 14, 21, 18, 14, 19, 20, 14, 21, 18, 14, 19, 20, 14, 21, 18, 14, 19, 20, 14, 21, 18, 14, 19, 20, 14, 21, 18, 14, 19, 20, 14, 21, 18, 14, 19, 20, 14, 21, 18, 14, 19, 20, 14, 21, 18, 14, 19, 20, 14, 21, 18, 14, 19, 20, 14, 21]
def ck (k : Nat) : Nat := ctab.getD k 0
theorem ck_lt {k n : Nat} (h : ck k = n) (hn : n ≠ 0) : k < 133 := by
  rcases Nat.lt_or_ge k 133 with q | q
  · exact q
  · have h2 : ck k = 0 := by
      unfold ck
      rw [List.getD_eq_getElem?_getD, List.getElem?_eq_none (l := ctab) q]
      rfl
    exact absurd (h.symm.trans h2) hn
def cc (aC : Nat → ClassId) (x : Nat) (iv av : Nat → Nat → Int32) (k : Nat) : va_E := match ck k with
  | 1 => .inr (8, [.ref (x + 1), .ref (x + 2), .ref (x + 3), .ref (x + 41), .ref (x + 57), .int (iv k 5), .int (iv k 6), .int (iv k 7)])
  | 2 => .inl (aC 4, 12, .inr (.inr (.inr (.inr (fun i => if i < 12 then some (x + (61 + 6 * i)) else none)))))
  | 3 => .inr (7, [.ref (x + 3), .ref (x + 19), .ref (x + 20), .ref (x + 28), .int (iv k 4)])
  | 4 => .inr (6, [.ref (x + (k + 1)), .int (iv k 1)])
  | 5 => .inl (aC 3, 7, .inr (.inr (.inr (.inr (fun i => if i < 7 then some (x + (k + 1 + 2 * i)) else none)))))
  | 6 => .inr (2, [.ref (x + (k + 1)), .int (iv k 1), .int (iv k 2)])
  | 7 => .inl (aC 0, 120, .inl (av k))
  | 8 => .inl (aC 2, 4, .inr (.inr (.inr (.inr (fun i => if i < 4 then some (x + (29 + 3 * i)) else none)))))
  | 9 => .inr (4, [.ref (x + 21), .ref (x + 27), .int (iv k 2), .int (iv k 3)])
  | 10 => .inl (aC 5, 5, .inr (.inr (.inr (.inr (fun i => if i < 5 then some (x + (22 + i)) else none)))))
  | 11 => .inl (aC 0, 4, .inl (av k))
  | 12 => .inl (aC 0, 400, .inl (av k))
  | 13 => .inr (1, [.ref (x + (k + 1)), .int (iv k 1)])
  | 14 => .inr (3, [.ref (x + (k + 1)), .int (iv k 1), .int (iv k 2)])
  | 15 => .inl (aC 0, 30, .inl (av k))
  | 16 => .inr (0, [.ref (x + 58), .ref (x + 59), .ref (x + 60), .int (iv k 3)])
  | 17 => .inl (aC 0, 240, .inl (av k))
  | 18 => .inr (5, [.ref (x + (k + 1)), .ref (x + (k + 3)), .ref (x + (k + 4)), .int (iv k 3), .int (iv k 4), .int (iv k 5), .int (iv k 6), .int (iv k 7)])
  | 19 => .inl (aC 0, 18, .inl (av k))
  | 20 => .inl (aC 1, 6, .inl (av k))
  | _ => .inl (aC 0, 12, .inl (av k))
def cm (aC : Nat → ClassId) (x : Nat) (iv av : Nat → Nat → Int32) (R : ZM) : ZM := fun q => if x ≤ q ∧ q < x + 133 then some (cc aC x iv av (q - x)) else R q
theorem cm_at {aC : Nat → ClassId} {x : Nat} {iv av : Nat → Nat → Int32} {R : ZM} {k : Nat} (h : k < 133) : cm aC x iv av R (x + k) = some (cc aC x iv av k) := by
  simp only [cm]
  rw [if_pos ⟨Nat.le_add_right _ _, by omega⟩, Nat.add_sub_cancel_left]
theorem cm_out {aC : Nat → ClassId} {x : Nat} {iv av : Nat → Nat → Int32} {R : ZM} {q : Nat} (h : q < x ∨ x + 133 ≤ q) : cm aC x iv av R q = R q := by
  simp only [cm]
  rw [if_neg (by omega)]
theorem cc_eq {aC : Nat → ClassId} {x : Nat} {iv av iv' av' : Nat → Nat → Int32} {k : Nat} (h1 : ∀ f, iv' k f = iv k f) (h2 : av' k = av k) : cc aC x iv' av' k = cc aC x iv av k := by
  unfold cc
  split <;> simp only [h1, h2]
theorem cm_wr {aC : Nat → ClassId} {x : Nat} {iv av iv' av' : Nat → Nat → Int32} {R : ZM} {k : Nat} {e : va_E} (hk : k < 133) (h0 : cc aC x iv' av' k = e) (h1 : ∀ j, j ≠ k → (∀ f, iv' j f = iv j f) ∧ av' j = av j) : zup (cm aC x iv av R) (x + k) e = cm aC x iv' av' R := by
  funext q
  by_cases hq : q = x + k
  · subst hq
    rw [zup_self, cm_at hk, h0]
  · rw [zup_ne _ _ hq]
    by_cases hb : x ≤ q ∧ q < x + 133
    · obtain ⟨j, rfl⟩ : ∃ j, q = x + j := ⟨q - x, by omega⟩
      have hj : j ≠ k := fun e => hq (by rw [e])
      rw [cm_at (by omega), cm_at (by omega), cc_eq (h1 j hj).1 (h1 j hj).2]
    · rw [cm_out (by omega), cm_out (by omega)]
theorem rd_1 {aC : Nat → ClassId} {x : Nat} {iv av : Nat → Nat → Int32} {R : ZM} {k : Nat} (h : ck k = 1) : cm aC x iv av R (x + k) = some (.inr (8, [.ref (x + 1), .ref (x + 2), .ref (x + 3), .ref (x + 41), .ref (x + 57), .int (iv k 5), .int (iv k 6), .int (iv k 7)])) := by
  rw [cm_at (ck_lt h (by decide))]
  simp [cc, h]
theorem wr_1_5 {aC : Nat → ClassId} {x : Nat} {iv av : Nat → Nat → Int32} {R : ZM} {k : Nat} {v : Int32} (h : ck k = 1) : zup (cm aC x iv av R) (x + k) (.inr (8, [.ref (x + 1), .ref (x + 2), .ref (x + 3), .ref (x + 41), .ref (x + 57), .int v, .int (iv k 6), .int (iv k 7)])) = cm aC x (u2 iv k 5 v) av R := by
  refine cm_wr (ck_lt h (by decide)) (by simp [cc, h, u2]) (fun j hj => ⟨fun f => u2_k _ _ _ _ hj, rfl⟩)
theorem wr_1_6 {aC : Nat → ClassId} {x : Nat} {iv av : Nat → Nat → Int32} {R : ZM} {k : Nat} {v : Int32} (h : ck k = 1) : zup (cm aC x iv av R) (x + k) (.inr (8, [.ref (x + 1), .ref (x + 2), .ref (x + 3), .ref (x + 41), .ref (x + 57), .int (iv k 5), .int v, .int (iv k 7)])) = cm aC x (u2 iv k 6 v) av R := by
  refine cm_wr (ck_lt h (by decide)) (by simp [cc, h, u2]) (fun j hj => ⟨fun f => u2_k _ _ _ _ hj, rfl⟩)
theorem wr_1_7 {aC : Nat → ClassId} {x : Nat} {iv av : Nat → Nat → Int32} {R : ZM} {k : Nat} {v : Int32} (h : ck k = 1) : zup (cm aC x iv av R) (x + k) (.inr (8, [.ref (x + 1), .ref (x + 2), .ref (x + 3), .ref (x + 41), .ref (x + 57), .int (iv k 5), .int (iv k 6), .int v])) = cm aC x (u2 iv k 7 v) av R := by
  refine cm_wr (ck_lt h (by decide)) (by simp [cc, h, u2]) (fun j hj => ⟨fun f => u2_k _ _ _ _ hj, rfl⟩)
theorem rd_2 {aC : Nat → ClassId} {x : Nat} {iv av : Nat → Nat → Int32} {R : ZM} {k : Nat} (h : ck k = 2) : cm aC x iv av R (x + k) = some (.inl (aC 4, 12, .inr (.inr (.inr (.inr (fun i => if i < 12 then some (x + (61 + 6 * i)) else none)))))) := by
  rw [cm_at (ck_lt h (by decide))]
  simp [cc, h]
theorem rd_3 {aC : Nat → ClassId} {x : Nat} {iv av : Nat → Nat → Int32} {R : ZM} {k : Nat} (h : ck k = 3) : cm aC x iv av R (x + k) = some (.inr (7, [.ref (x + 3), .ref (x + 19), .ref (x + 20), .ref (x + 28), .int (iv k 4)])) := by
  rw [cm_at (ck_lt h (by decide))]
  simp [cc, h]
theorem wr_3_4 {aC : Nat → ClassId} {x : Nat} {iv av : Nat → Nat → Int32} {R : ZM} {k : Nat} {v : Int32} (h : ck k = 3) : zup (cm aC x iv av R) (x + k) (.inr (7, [.ref (x + 3), .ref (x + 19), .ref (x + 20), .ref (x + 28), .int v])) = cm aC x (u2 iv k 4 v) av R := by
  refine cm_wr (ck_lt h (by decide)) (by simp [cc, h, u2]) (fun j hj => ⟨fun f => u2_k _ _ _ _ hj, rfl⟩)
theorem rd_4 {aC : Nat → ClassId} {x : Nat} {iv av : Nat → Nat → Int32} {R : ZM} {k : Nat} (h : ck k = 4) : cm aC x iv av R (x + k) = some (.inr (6, [.ref (x + (k + 1)), .int (iv k 1)])) := by
  rw [cm_at (ck_lt h (by decide))]
  simp [cc, h]
theorem wr_4_1 {aC : Nat → ClassId} {x : Nat} {iv av : Nat → Nat → Int32} {R : ZM} {k : Nat} {v : Int32} (h : ck k = 4) : zup (cm aC x iv av R) (x + k) (.inr (6, [.ref (x + (k + 1)), .int v])) = cm aC x (u2 iv k 1 v) av R := by
  refine cm_wr (ck_lt h (by decide)) (by simp [cc, h, u2]) (fun j hj => ⟨fun f => u2_k _ _ _ _ hj, rfl⟩)
theorem rd_5 {aC : Nat → ClassId} {x : Nat} {iv av : Nat → Nat → Int32} {R : ZM} {k : Nat} (h : ck k = 5) : cm aC x iv av R (x + k) = some (.inl (aC 3, 7, .inr (.inr (.inr (.inr (fun i => if i < 7 then some (x + (k + 1 + 2 * i)) else none)))))) := by
  rw [cm_at (ck_lt h (by decide))]
  simp [cc, h]
theorem rd_6 {aC : Nat → ClassId} {x : Nat} {iv av : Nat → Nat → Int32} {R : ZM} {k : Nat} (h : ck k = 6) : cm aC x iv av R (x + k) = some (.inr (2, [.ref (x + (k + 1)), .int (iv k 1), .int (iv k 2)])) := by
  rw [cm_at (ck_lt h (by decide))]
  simp [cc, h]
theorem wr_6_1 {aC : Nat → ClassId} {x : Nat} {iv av : Nat → Nat → Int32} {R : ZM} {k : Nat} {v : Int32} (h : ck k = 6) : zup (cm aC x iv av R) (x + k) (.inr (2, [.ref (x + (k + 1)), .int v, .int (iv k 2)])) = cm aC x (u2 iv k 1 v) av R := by
  refine cm_wr (ck_lt h (by decide)) (by simp [cc, h, u2]) (fun j hj => ⟨fun f => u2_k _ _ _ _ hj, rfl⟩)
theorem wr_6_2 {aC : Nat → ClassId} {x : Nat} {iv av : Nat → Nat → Int32} {R : ZM} {k : Nat} {v : Int32} (h : ck k = 6) : zup (cm aC x iv av R) (x + k) (.inr (2, [.ref (x + (k + 1)), .int (iv k 1), .int v])) = cm aC x (u2 iv k 2 v) av R := by
  refine cm_wr (ck_lt h (by decide)) (by simp [cc, h, u2]) (fun j hj => ⟨fun f => u2_k _ _ _ _ hj, rfl⟩)
theorem rd_7 {aC : Nat → ClassId} {x : Nat} {iv av : Nat → Nat → Int32} {R : ZM} {k : Nat} (h : ck k = 7) : cm aC x iv av R (x + k) = some (.inl (aC 0, 120, .inl (av k))) := by
  rw [cm_at (ck_lt h (by decide))]
  simp [cc, h]
theorem wr_7 {aC : Nat → ClassId} {x : Nat} {iv av : Nat → Nat → Int32} {R : ZM} {k : Nat} {g : Nat → Int32} (h : ck k = 7) : zup (cm aC x iv av R) (x + k) (.inl (aC 0, 120, .inl g)) = cm aC x iv (u1 av k g) R := by
  refine cm_wr (ck_lt h (by decide)) (by simp [cc, h, u1]) (fun j hj => ⟨fun f => rfl, u1_k _ _ hj⟩)
theorem rd_8 {aC : Nat → ClassId} {x : Nat} {iv av : Nat → Nat → Int32} {R : ZM} {k : Nat} (h : ck k = 8) : cm aC x iv av R (x + k) = some (.inl (aC 2, 4, .inr (.inr (.inr (.inr (fun i => if i < 4 then some (x + (29 + 3 * i)) else none)))))) := by
  rw [cm_at (ck_lt h (by decide))]
  simp [cc, h]
theorem rd_9 {aC : Nat → ClassId} {x : Nat} {iv av : Nat → Nat → Int32} {R : ZM} {k : Nat} (h : ck k = 9) : cm aC x iv av R (x + k) = some (.inr (4, [.ref (x + 21), .ref (x + 27), .int (iv k 2), .int (iv k 3)])) := by
  rw [cm_at (ck_lt h (by decide))]
  simp [cc, h]
theorem wr_9_2 {aC : Nat → ClassId} {x : Nat} {iv av : Nat → Nat → Int32} {R : ZM} {k : Nat} {v : Int32} (h : ck k = 9) : zup (cm aC x iv av R) (x + k) (.inr (4, [.ref (x + 21), .ref (x + 27), .int v, .int (iv k 3)])) = cm aC x (u2 iv k 2 v) av R := by
  refine cm_wr (ck_lt h (by decide)) (by simp [cc, h, u2]) (fun j hj => ⟨fun f => u2_k _ _ _ _ hj, rfl⟩)
theorem wr_9_3 {aC : Nat → ClassId} {x : Nat} {iv av : Nat → Nat → Int32} {R : ZM} {k : Nat} {v : Int32} (h : ck k = 9) : zup (cm aC x iv av R) (x + k) (.inr (4, [.ref (x + 21), .ref (x + 27), .int (iv k 2), .int v])) = cm aC x (u2 iv k 3 v) av R := by
  refine cm_wr (ck_lt h (by decide)) (by simp [cc, h, u2]) (fun j hj => ⟨fun f => u2_k _ _ _ _ hj, rfl⟩)
theorem rd_10 {aC : Nat → ClassId} {x : Nat} {iv av : Nat → Nat → Int32} {R : ZM} {k : Nat} (h : ck k = 10) : cm aC x iv av R (x + k) = some (.inl (aC 5, 5, .inr (.inr (.inr (.inr (fun i => if i < 5 then some (x + (22 + i)) else none)))))) := by
  rw [cm_at (ck_lt h (by decide))]
  simp [cc, h]
theorem rd_11 {aC : Nat → ClassId} {x : Nat} {iv av : Nat → Nat → Int32} {R : ZM} {k : Nat} (h : ck k = 11) : cm aC x iv av R (x + k) = some (.inl (aC 0, 4, .inl (av k))) := by
  rw [cm_at (ck_lt h (by decide))]
  simp [cc, h]
theorem wr_11 {aC : Nat → ClassId} {x : Nat} {iv av : Nat → Nat → Int32} {R : ZM} {k : Nat} {g : Nat → Int32} (h : ck k = 11) : zup (cm aC x iv av R) (x + k) (.inl (aC 0, 4, .inl g)) = cm aC x iv (u1 av k g) R := by
  refine cm_wr (ck_lt h (by decide)) (by simp [cc, h, u1]) (fun j hj => ⟨fun f => rfl, u1_k _ _ hj⟩)
theorem rd_12 {aC : Nat → ClassId} {x : Nat} {iv av : Nat → Nat → Int32} {R : ZM} {k : Nat} (h : ck k = 12) : cm aC x iv av R (x + k) = some (.inl (aC 0, 400, .inl (av k))) := by
  rw [cm_at (ck_lt h (by decide))]
  simp [cc, h]
theorem wr_12 {aC : Nat → ClassId} {x : Nat} {iv av : Nat → Nat → Int32} {R : ZM} {k : Nat} {g : Nat → Int32} (h : ck k = 12) : zup (cm aC x iv av R) (x + k) (.inl (aC 0, 400, .inl g)) = cm aC x iv (u1 av k g) R := by
  refine cm_wr (ck_lt h (by decide)) (by simp [cc, h, u1]) (fun j hj => ⟨fun f => rfl, u1_k _ _ hj⟩)
theorem rd_13 {aC : Nat → ClassId} {x : Nat} {iv av : Nat → Nat → Int32} {R : ZM} {k : Nat} (h : ck k = 13) : cm aC x iv av R (x + k) = some (.inr (1, [.ref (x + (k + 1)), .int (iv k 1)])) := by
  rw [cm_at (ck_lt h (by decide))]
  simp [cc, h]
theorem wr_13_1 {aC : Nat → ClassId} {x : Nat} {iv av : Nat → Nat → Int32} {R : ZM} {k : Nat} {v : Int32} (h : ck k = 13) : zup (cm aC x iv av R) (x + k) (.inr (1, [.ref (x + (k + 1)), .int v])) = cm aC x (u2 iv k 1 v) av R := by
  refine cm_wr (ck_lt h (by decide)) (by simp [cc, h, u2]) (fun j hj => ⟨fun f => u2_k _ _ _ _ hj, rfl⟩)
theorem rd_14 {aC : Nat → ClassId} {x : Nat} {iv av : Nat → Nat → Int32} {R : ZM} {k : Nat} (h : ck k = 14) : cm aC x iv av R (x + k) = some (.inr (3, [.ref (x + (k + 1)), .int (iv k 1), .int (iv k 2)])) := by
  rw [cm_at (ck_lt h (by decide))]
  simp [cc, h]
theorem wr_14_1 {aC : Nat → ClassId} {x : Nat} {iv av : Nat → Nat → Int32} {R : ZM} {k : Nat} {v : Int32} (h : ck k = 14) : zup (cm aC x iv av R) (x + k) (.inr (3, [.ref (x + (k + 1)), .int v, .int (iv k 2)])) = cm aC x (u2 iv k 1 v) av R := by
  refine cm_wr (ck_lt h (by decide)) (by simp [cc, h, u2]) (fun j hj => ⟨fun f => u2_k _ _ _ _ hj, rfl⟩)
theorem wr_14_2 {aC : Nat → ClassId} {x : Nat} {iv av : Nat → Nat → Int32} {R : ZM} {k : Nat} {v : Int32} (h : ck k = 14) : zup (cm aC x iv av R) (x + k) (.inr (3, [.ref (x + (k + 1)), .int (iv k 1), .int v])) = cm aC x (u2 iv k 2 v) av R := by
  refine cm_wr (ck_lt h (by decide)) (by simp [cc, h, u2]) (fun j hj => ⟨fun f => u2_k _ _ _ _ hj, rfl⟩)
theorem rd_15 {aC : Nat → ClassId} {x : Nat} {iv av : Nat → Nat → Int32} {R : ZM} {k : Nat} (h : ck k = 15) : cm aC x iv av R (x + k) = some (.inl (aC 0, 30, .inl (av k))) := by
  rw [cm_at (ck_lt h (by decide))]
  simp [cc, h]
theorem wr_15 {aC : Nat → ClassId} {x : Nat} {iv av : Nat → Nat → Int32} {R : ZM} {k : Nat} {g : Nat → Int32} (h : ck k = 15) : zup (cm aC x iv av R) (x + k) (.inl (aC 0, 30, .inl g)) = cm aC x iv (u1 av k g) R := by
  refine cm_wr (ck_lt h (by decide)) (by simp [cc, h, u1]) (fun j hj => ⟨fun f => rfl, u1_k _ _ hj⟩)
theorem rd_16 {aC : Nat → ClassId} {x : Nat} {iv av : Nat → Nat → Int32} {R : ZM} {k : Nat} (h : ck k = 16) : cm aC x iv av R (x + k) = some (.inr (0, [.ref (x + 58), .ref (x + 59), .ref (x + 60), .int (iv k 3)])) := by
  rw [cm_at (ck_lt h (by decide))]
  simp [cc, h]
theorem wr_16_3 {aC : Nat → ClassId} {x : Nat} {iv av : Nat → Nat → Int32} {R : ZM} {k : Nat} {v : Int32} (h : ck k = 16) : zup (cm aC x iv av R) (x + k) (.inr (0, [.ref (x + 58), .ref (x + 59), .ref (x + 60), .int v])) = cm aC x (u2 iv k 3 v) av R := by
  refine cm_wr (ck_lt h (by decide)) (by simp [cc, h, u2]) (fun j hj => ⟨fun f => u2_k _ _ _ _ hj, rfl⟩)
theorem rd_17 {aC : Nat → ClassId} {x : Nat} {iv av : Nat → Nat → Int32} {R : ZM} {k : Nat} (h : ck k = 17) : cm aC x iv av R (x + k) = some (.inl (aC 0, 240, .inl (av k))) := by
  rw [cm_at (ck_lt h (by decide))]
  simp [cc, h]
theorem wr_17 {aC : Nat → ClassId} {x : Nat} {iv av : Nat → Nat → Int32} {R : ZM} {k : Nat} {g : Nat → Int32} (h : ck k = 17) : zup (cm aC x iv av R) (x + k) (.inl (aC 0, 240, .inl g)) = cm aC x iv (u1 av k g) R := by
  refine cm_wr (ck_lt h (by decide)) (by simp [cc, h, u1]) (fun j hj => ⟨fun f => rfl, u1_k _ _ hj⟩)
theorem rd_18 {aC : Nat → ClassId} {x : Nat} {iv av : Nat → Nat → Int32} {R : ZM} {k : Nat} (h : ck k = 18) : cm aC x iv av R (x + k) = some (.inr (5, [.ref (x + (k + 1)), .ref (x + (k + 3)), .ref (x + (k + 4)), .int (iv k 3), .int (iv k 4), .int (iv k 5), .int (iv k 6), .int (iv k 7)])) := by
  rw [cm_at (ck_lt h (by decide))]
  simp [cc, h]
theorem wr_18_3 {aC : Nat → ClassId} {x : Nat} {iv av : Nat → Nat → Int32} {R : ZM} {k : Nat} {v : Int32} (h : ck k = 18) : zup (cm aC x iv av R) (x + k) (.inr (5, [.ref (x + (k + 1)), .ref (x + (k + 3)), .ref (x + (k + 4)), .int v, .int (iv k 4), .int (iv k 5), .int (iv k 6), .int (iv k 7)])) = cm aC x (u2 iv k 3 v) av R := by
  refine cm_wr (ck_lt h (by decide)) (by simp [cc, h, u2]) (fun j hj => ⟨fun f => u2_k _ _ _ _ hj, rfl⟩)
theorem wr_18_4 {aC : Nat → ClassId} {x : Nat} {iv av : Nat → Nat → Int32} {R : ZM} {k : Nat} {v : Int32} (h : ck k = 18) : zup (cm aC x iv av R) (x + k) (.inr (5, [.ref (x + (k + 1)), .ref (x + (k + 3)), .ref (x + (k + 4)), .int (iv k 3), .int v, .int (iv k 5), .int (iv k 6), .int (iv k 7)])) = cm aC x (u2 iv k 4 v) av R := by
  refine cm_wr (ck_lt h (by decide)) (by simp [cc, h, u2]) (fun j hj => ⟨fun f => u2_k _ _ _ _ hj, rfl⟩)
theorem wr_18_5 {aC : Nat → ClassId} {x : Nat} {iv av : Nat → Nat → Int32} {R : ZM} {k : Nat} {v : Int32} (h : ck k = 18) : zup (cm aC x iv av R) (x + k) (.inr (5, [.ref (x + (k + 1)), .ref (x + (k + 3)), .ref (x + (k + 4)), .int (iv k 3), .int (iv k 4), .int v, .int (iv k 6), .int (iv k 7)])) = cm aC x (u2 iv k 5 v) av R := by
  refine cm_wr (ck_lt h (by decide)) (by simp [cc, h, u2]) (fun j hj => ⟨fun f => u2_k _ _ _ _ hj, rfl⟩)
theorem wr_18_6 {aC : Nat → ClassId} {x : Nat} {iv av : Nat → Nat → Int32} {R : ZM} {k : Nat} {v : Int32} (h : ck k = 18) : zup (cm aC x iv av R) (x + k) (.inr (5, [.ref (x + (k + 1)), .ref (x + (k + 3)), .ref (x + (k + 4)), .int (iv k 3), .int (iv k 4), .int (iv k 5), .int v, .int (iv k 7)])) = cm aC x (u2 iv k 6 v) av R := by
  refine cm_wr (ck_lt h (by decide)) (by simp [cc, h, u2]) (fun j hj => ⟨fun f => u2_k _ _ _ _ hj, rfl⟩)
theorem wr_18_7 {aC : Nat → ClassId} {x : Nat} {iv av : Nat → Nat → Int32} {R : ZM} {k : Nat} {v : Int32} (h : ck k = 18) : zup (cm aC x iv av R) (x + k) (.inr (5, [.ref (x + (k + 1)), .ref (x + (k + 3)), .ref (x + (k + 4)), .int (iv k 3), .int (iv k 4), .int (iv k 5), .int (iv k 6), .int v])) = cm aC x (u2 iv k 7 v) av R := by
  refine cm_wr (ck_lt h (by decide)) (by simp [cc, h, u2]) (fun j hj => ⟨fun f => u2_k _ _ _ _ hj, rfl⟩)
theorem rd_19 {aC : Nat → ClassId} {x : Nat} {iv av : Nat → Nat → Int32} {R : ZM} {k : Nat} (h : ck k = 19) : cm aC x iv av R (x + k) = some (.inl (aC 0, 18, .inl (av k))) := by
  rw [cm_at (ck_lt h (by decide))]
  simp [cc, h]
theorem wr_19 {aC : Nat → ClassId} {x : Nat} {iv av : Nat → Nat → Int32} {R : ZM} {k : Nat} {g : Nat → Int32} (h : ck k = 19) : zup (cm aC x iv av R) (x + k) (.inl (aC 0, 18, .inl g)) = cm aC x iv (u1 av k g) R := by
  refine cm_wr (ck_lt h (by decide)) (by simp [cc, h, u1]) (fun j hj => ⟨fun f => rfl, u1_k _ _ hj⟩)
theorem rd_20 {aC : Nat → ClassId} {x : Nat} {iv av : Nat → Nat → Int32} {R : ZM} {k : Nat} (h : ck k = 20) : cm aC x iv av R (x + k) = some (.inl (aC 1, 6, .inl (av k))) := by
  rw [cm_at (ck_lt h (by decide))]
  simp [cc, h]
theorem wr_20 {aC : Nat → ClassId} {x : Nat} {iv av : Nat → Nat → Int32} {R : ZM} {k : Nat} {g : Nat → Int32} (h : ck k = 20) : zup (cm aC x iv av R) (x + k) (.inl (aC 1, 6, .inl g)) = cm aC x iv (u1 av k g) R := by
  refine cm_wr (ck_lt h (by decide)) (by simp [cc, h, u1]) (fun j hj => ⟨fun f => rfl, u1_k _ _ hj⟩)
theorem rd_21 {aC : Nat → ClassId} {x : Nat} {iv av : Nat → Nat → Int32} {R : ZM} {k : Nat} (h : ck k = 21) : cm aC x iv av R (x + k) = some (.inl (aC 0, 12, .inl (av k))) := by
  rw [cm_at (ck_lt h (by decide))]
  simp [cc, h]
theorem wr_21 {aC : Nat → ClassId} {x : Nat} {iv av : Nat → Nat → Int32} {R : ZM} {k : Nat} {g : Nat → Int32} (h : ck k = 21) : zup (cm aC x iv av R) (x + k) (.inl (aC 0, 12, .inl g)) = cm aC x iv (u1 av k g) R := by
  refine cm_wr (ck_lt h (by decide)) (by simp [cc, h, u1]) (fun j hj => ⟨fun f => rfl, u1_k _ _ hj⟩)
def tl (k : Nat) : Nat := if ck (k + 1) = 15 then 30 else if ck (k + 1) = 19 then 18 else 12
theorem nb_t {k : Nat} (h : ck k = 14) : ck (k + 1) = 15 ∨ ck (k + 1) = 19 ∨ ck (k + 1) = 21 := by
  have hk := ck_lt h (by decide)
  revert h
  revert k
  decide +kernel
theorem rd_t {aC : Nat → ClassId} {x : Nat} {iv av : Nat → Nat → Int32} {R : ZM} {k : Nat} (h : ck k = 14) : cm aC x iv av R (x + (k + 1)) = some (.inl (aC 0, tl k, .inl (av (k + 1)))) := by
  rcases nb_t h with q | q | q
  · rw [rd_15 q]; simp [tl, q]
  · rw [rd_19 q]; simp [tl, q]
  · rw [rd_21 q]; simp [tl, q]
theorem wr_t {aC : Nat → ClassId} {x : Nat} {iv av : Nat → Nat → Int32} {R : ZM} {k : Nat} {g : Nat → Int32} (h : ck k = 14) : zup (cm aC x iv av R) (x + (k + 1)) (.inl (aC 0, tl k, .inl g)) = cm aC x iv (u1 av (k + 1) g) R := by
  rcases nb_t h with q | q | q
  · rw [← wr_15 q]; simp [tl, q]
  · rw [← wr_19 q]; simp [tl, q]
  · rw [← wr_21 q]; simp [tl, q]
theorem nb_4_1 {k : Nat} (h : ck k = 4) : ck (k + 1) = 5 := by
  have hk := ck_lt h (by decide)
  revert h
  revert k
  decide +kernel
theorem nb_6_1 {k : Nat} (h : ck k = 6) : ck (k + 1) = 7 := by
  have hk := ck_lt h (by decide)
  revert h
  revert k
  decide +kernel
theorem nb_13_1 {k : Nat} (h : ck k = 13) : ck (k + 1) = 14 := by
  have hk := ck_lt h (by decide)
  revert h
  revert k
  decide +kernel
theorem nb_18_1 {k : Nat} (h : ck k = 18) : ck (k + 1) = 14 := by
  have hk := ck_lt h (by decide)
  revert h
  revert k
  decide +kernel
theorem nb_18_3 {k : Nat} (h : ck k = 18) : ck (k + 3) = 20 := by
  have hk := ck_lt h (by decide)
  revert h
  revert k
  decide +kernel
theorem nb_18_4 {k : Nat} (h : ck k = 18) : ck (k + 4) = 14 := by
  have hk := ck_lt h (by decide)
  revert h
  revert k
  decide +kernel
