theorem u1_id (A : Nat → Nat → Int32) (k : Nat) : u1 A k (A k) = A := by
  funext j
  by_cases h : j = k
  · subst h; exact u1_s _ _ _
  · exact u1_k _ _ h
theorem upd_id (v : Nat → Int32) (k : Nat) : upd v k (v k) = v := by
  funext j
  by_cases h : j = k
  · subst h; simp [upd]
  · simp [upd, h]
theorem u2_id (iv : Nat → Nat → Int32) (k f : Nat) : u2 iv k f (iv k f) = iv := by
  funext j g
  by_cases h : j = k ∧ g = f
  · obtain ⟨rfl, rfl⟩ := h; exact u2_s _ _ _ _
  · simp [u2, h]
theorem u1_u1 (A : Nat → Nat → Int32) (k : Nat) (g h : Nat → Int32) : u1 (u1 A k g) k h = u1 A k h := by
  funext j
  by_cases q : j = k <;> simp [u1, q]
theorem upd_upd (v : Nat → Int32) (k : Nat) (g h : Int32) : upd (upd v k g) k h = upd v k h := by
  funext j
  by_cases q : j = k <;> simp [upd, q]
theorem u2_u2 (iv : Nat → Nat → Int32) (k f : Nat) (g h : Int32) : u2 (u2 iv k f g) k f h = u2 iv k f h := by
  funext j i
  by_cases q : j = k ∧ i = f <;> simp [u2, q]
theorem fl_lt {b : Int32} {j N : Nat} (hb : b = nI N) (hj : j ≤ N) (hN : N < 2 ^ 31) (c : ¬ b ≤ nI j) : j < N := by
  rw [hb] at c
  rcases Nat.lt_or_ge j N with q | q
  · exact q
  · exact absurd (nI_le q (by omega)) c
theorem fl_eq {b : Int32} {j N : Nat} (hb : b = nI N) (hj : j ≤ N) (hN : N < 2 ^ 31) (c : b ≤ nI j) : j = N := by
  rw [hb] at c
  rcases Nat.lt_or_ge j N with q | q
  · exact absurd c (nI_ge q hN)
  · omega
theorem nI_self {a : Int32} {n : Nat} (h : a = nI n) (hn : n < 2 ^ 31) : a = nI a.toNatClampNeg := by
  rw [h, nI_clamp hn]
theorem nI_sle {a : Int32} {n N : Nat} (h : a = nI n) (hn : n ≤ N) (hN : N < 2 ^ 31) : a.toNatClampNeg ≤ N := by
  rw [h, nI_clamp (by omega)]
  exact hn
theorem nI_sn {a : Int32} {n N : Nat} (h : a = nI n) (hn : n ≤ N) (hN : N < 2 ^ 31) : a = nI a.toNatClampNeg := nI_self h (by omega)
theorem u1_sw {A : Nat → Nat → Int32} {k j : Nat} {g h : Nat → Int32} (n : k ≠ j) : u1 (u1 A k g) j h = u1 (u1 A j h) k g := by
  funext q
  by_cases h1 : q = k
  · subst h1; simp [u1, n]
  · by_cases h2 : q = j
    · subst h2; simp [u1, h1]
    · simp [u1, h1, h2]
theorem upd_sw {v : Nat → Int32} {k j : Nat} {g h : Int32} (n : k ≠ j) : upd (upd v k g) j h = upd (upd v j h) k g := by
  funext q
  by_cases h1 : q = k
  · subst h1; simp [upd, n]
  · by_cases h2 : q = j
    · subst h2; simp [upd, h1]
    · simp [upd, h1, h2]
theorem u1_id2 {A : Nat → Nat → Int32} {k : Nat} {g : Nat → Int32} (h : g = A k) : u1 A k g = A := by rw [h, u1_id]
theorem upd_id2 {v : Nat → Int32} {k : Nat} {g : Int32} (h : g = v k) : upd v k g = v := by rw [h, upd_id]
theorem u2_id2 {iv : Nat → Nat → Int32} {k f : Nat} {g : Int32} (h : g = iv k f) : u2 iv k f g = iv := by rw [h, u2_id]
