/-! Solutions: by depth and by breadth. -/
abbrev Sg := Nat → Int32
abbrev Rw := Int32 × Int32 × Int32
def sl (t : Int32) : Nat := Int32.toNatClampNeg (-1 - t)
def agr (σ : Sg) (t q : Int32) : Option Sg :=
  if 0 ≤ t then (if t = q then some σ else none)
  else if σ (sl t) = -1 then some (upd σ (sl t) q)
  else if σ (sl t) = q then some σ else none
def mtc (r : Rw) (σ : Sg) (c : Nat) : Option Sg :=
  (agr σ r.1 (nI (pt c 0))).bind fun σ => (agr σ r.2.1 (nI (pt c 1))).bind fun σ => agr σ r.2.2 (nI (pt c 2))
def sols (fs : List Nat) : List Rw → Sg → List Sg
  | [], σ => [σ]
  | r :: rs, σ => (fs.filterMap (mtc r σ)).flatMap (sols fs rs)
def wk (fs : List Nat) : List Rw → Sg → Nat
  | [], _ => 0
  | r :: rs, σ => fs.length + ((fs.filterMap (mtc r σ)).map (wk fs rs)).sum
/-- of some facts of a row -/
def solP (fs : List Nat) (r : Rw) (rs : List Rw) (σ : Sg) (l : List Nat) : List Sg := (l.filterMap (mtc r σ)).flatMap (sols fs rs)
def wkP (fs : List Nat) (r : Rw) (rs : List Rw) (σ : Sg) (l : List Nat) : Nat := l.length + ((l.filterMap (mtc r σ)).map (wk fs rs)).sum
def lim (n w : Nat) : Prop := n ≤ 100 ∧ w ≤ 5000
theorem lim_mono {n w n' w' : Nat} (h : lim n' w') (h1 : n ≤ n') (h2 : w ≤ w') : lim n w := ⟨Nat.le_trans h1 h.1, Nat.le_trans h2 h.2⟩
theorem solP_append (fs : List Nat) (r : Rw) (rs : List Rw) (σ : Sg) (l l' : List Nat) : solP fs r rs σ (l ++ l') = solP fs r rs σ l ++ solP fs r rs σ l' := by
  simp only [solP, List.filterMap_append, List.flatMap_append]
theorem wkP_append (fs : List Nat) (r : Rw) (rs : List Rw) (σ : Sg) (l l' : List Nat) : wkP fs r rs σ (l ++ l') = wkP fs r rs σ l + wkP fs r rs σ l' := by
  simp only [wkP, List.filterMap_append, List.map_append, List.sum_append, List.length_append]
  omega
theorem solP_one_n {fs : List Nat} {r : Rw} {rs : List Rw} {σ : Sg} {c : Nat} (h : mtc r σ c = none) : solP fs r rs σ [c] = [] := by
  simp [solP, h]
theorem solP_one_s {fs : List Nat} {r : Rw} {rs : List Rw} {σ σ' : Sg} {c : Nat} (h : mtc r σ c = some σ') : solP fs r rs σ [c] = sols fs rs σ' := by
  simp [solP, h]
theorem wkP_one_n {fs : List Nat} {r : Rw} {rs : List Rw} {σ : Sg} {c : Nat} (h : mtc r σ c = none) : wkP fs r rs σ [c] = 1 := by
  simp [wkP, h]
theorem wkP_one_s {fs : List Nat} {r : Rw} {rs : List Rw} {σ σ' : Sg} {c : Nat} (h : mtc r σ c = some σ') : wkP fs r rs σ [c] = 1 + wk fs rs σ' := by
  simp [wkP, h]
theorem sols_P (fs : List Nat) (r : Rw) (rs : List Rw) (σ : Sg) : sols fs (r :: rs) σ = solP fs r rs σ fs := rfl
theorem wk_P (fs : List Nat) (r : Rw) (rs : List Rw) (σ : Sg) : wk fs (r :: rs) σ = wkP fs r rs σ fs := rfl
theorem take_succ_of {l : List Nat} {i : Nat} (h : i < l.length) : l.take (i + 1) = l.take i ++ [l[i]] := by
  rw [List.take_succ_eq_append_getElem h]
theorem P_take_le (fs : List Nat) (r : Rw) (rs : List Rw) (σ : Sg) (l : List Nat) (i : Nat) : (solP fs r rs σ (l.take i)).length ≤ (solP fs r rs σ l).length ∧ wkP fs r rs σ (l.take i) ≤ wkP fs r rs σ l := by
  have h1 := solP_append fs r rs σ (l.take i) (l.drop i)
  have h2 := wkP_append fs r rs σ (l.take i) (l.drop i)
  rw [List.take_append_drop] at h1 h2
  rw [h1, h2, List.length_append]
  exact ⟨Nat.le_add_right _ _, Nat.le_add_right _ _⟩
/-- by breadth -/
def lev (fs : List Nat) (r : Rw) (ws : List Sg) : List Sg := ws.flatMap fun σ => fs.filterMap (mtc r σ)
def bfsW (fs : List Nat) : List Rw → List Sg → List Sg
  | [], ws => ws
  | r :: rs, ws => bfsW fs rs (lev fs r ws)
def bfsN (fs : List Nat) : List Rw → List Sg → Nat
  | [], _ => 0
  | r :: rs, ws => ws.length * fs.length + bfsN fs rs (lev fs r ws)
theorem bfsW_eq (fs : List Nat) : ∀ (rs : List Rw) (ws : List Sg), bfsW fs rs ws = ws.flatMap (sols fs rs)
  | [], ws => by simp [bfsW, sols]
  | r :: rs, ws => by
    rw [bfsW, bfsW_eq fs rs, lev, List.flatMap_assoc]
    rfl
theorem sum_flatMap (f : Sg → List Sg) (g : Sg → Nat) : ∀ (ws : List Sg), ((ws.flatMap f).map g).sum = (ws.map fun σ => ((f σ).map g).sum).sum
  | [] => rfl
  | w :: ws => by simp [sum_flatMap f g ws]
theorem sum_add (f g : Sg → Nat) : ∀ (ws : List Sg), (ws.map fun σ => f σ + g σ).sum = (ws.map f).sum + (ws.map g).sum
  | [] => rfl
  | w :: ws => by simp [sum_add f g ws]; omega
theorem sum_const (n : Nat) : ∀ (ws : List Sg), (ws.map fun _ => n).sum = ws.length * n
  | [] => by simp
  | w :: ws => by
    rw [List.map_cons, List.sum_cons, sum_const n ws, List.length_cons, Nat.add_mul]; omega
theorem bfsN_eq (fs : List Nat) : ∀ (rs : List Rw) (ws : List Sg), bfsN fs rs ws = (ws.map (wk fs rs)).sum
  | [], ws => by simp [bfsN, wk, sum_const]
  | r :: rs, ws => by
    rw [bfsN, bfsN_eq fs rs, lev, sum_flatMap]
    have : (ws.map (wk fs (r :: rs))).sum = (ws.map fun σ => fs.length + ((fs.filterMap (mtc r σ)).map (wk fs rs)).sum).sum := rfl
    rw [this, sum_add, sum_const]
theorem bfs_one (fs : List Nat) (rs : List Rw) (σ : Sg) : bfsW fs rs [σ] = sols fs rs σ ∧ bfsN fs rs [σ] = wk fs rs σ := by
  rw [bfsW_eq, bfsN_eq]
  simp
theorem bfsW_append (fs : List Nat) : ∀ (rs rs' : List Rw) (ws : List Sg), bfsW fs (rs ++ rs') ws = bfsW fs rs' (bfsW fs rs ws)
  | [], _, _ => rfl
  | r :: rs, rs', ws => bfsW_append fs rs rs' (lev fs r ws)
theorem bfsN_append (fs : List Nat) : ∀ (rs rs' : List Rw) (ws : List Sg), bfsN fs (rs ++ rs') ws = bfsN fs rs ws + bfsN fs rs' (bfsW fs rs ws)
  | [], _, _ => by simp [bfsN, bfsW]
  | r :: rs, rs', ws => by
    show ws.length * fs.length + bfsN fs (rs ++ rs') (lev fs r ws) = ws.length * fs.length + bfsN fs rs (lev fs r ws) + bfsN fs rs' (bfsW fs rs (lev fs r ws))
    rw [bfsN_append fs rs rs']; omega
theorem lev_len (fs : List Nat) (r : Rw) : ∀ (ws : List Sg), (lev fs r ws).length ≤ ws.length * fs.length
  | [] => by simp [lev]
  | w :: ws => by
    have h := lev_len fs r ws
    have h2 : (fs.filterMap (mtc r w)).length ≤ fs.length := List.length_filterMap_le _ _
    simp only [lev, List.flatMap_cons, List.length_append, List.length_cons, Nat.add_mul, Nat.one_mul] at h ⊢
    omega
/-- what has been found of a row, at way w and fact i -/
def nxt (fs : List Nat) (r : Rw) (ws : List Sg) (w i : Nat) : List Sg := lev fs r (ws.take w) ++ ((fs.take i).filterMap (mtc r (ws.getD w (fun _ => -1))))
theorem nxt_len {fs : List Nat} {r : Rw} {ws : List Sg} {w i : Nat} : (nxt fs r ws w i).length ≤ w * fs.length + i := by
  unfold nxt
  have h1 := lev_len fs r (ws.take w)
  have h2 : ((fs.take i).filterMap (mtc r (ws.getD w (fun _ => -1)))).length ≤ (fs.take i).length := List.length_filterMap_le _ _
  have h3 : (ws.take w).length ≤ w := List.length_take_le _ _
  have h4 : (fs.take i).length ≤ i := List.length_take_le _ _
  have h5 : (ws.take w).length * fs.length ≤ w * fs.length := Nat.mul_le_mul_right _ h3
  rw [List.length_append]
  omega
theorem nxt_row {fs : List Nat} {r : Rw} {ws : List Sg} {w : Nat} (h : w < ws.length) : nxt fs r ws w fs.length = nxt fs r ws (w + 1) 0 := by
  unfold nxt
  rw [List.take_length, List.take_succ_eq_append_getElem h, show ws.getD w (fun _ => -1) = ws[w] by rw [List.getD_eq_getElem?_getD, List.getElem?_eq_getElem h]; rfl]
  simp only [lev, List.flatMap_append, List.flatMap_cons, List.flatMap_nil, List.take_zero, List.filterMap_nil, List.append_nil]
theorem nxt_all {fs : List Nat} {r : Rw} {ws : List Sg} : nxt fs r ws ws.length 0 = lev fs r ws := by
  simp [nxt]
theorem nxt_0 {fs : List Nat} {r : Rw} {ws : List Sg} : nxt fs r ws 0 0 = [] := by
  simp [nxt, lev]
theorem nxt_n {fs : List Nat} {r : Rw} {ws : List Sg} {w i : Nat} (h : i < fs.length) (hm : mtc r (ws.getD w (fun _ => -1)) fs[i] = none) : nxt fs r ws w (i + 1) = nxt fs r ws w i := by
  unfold nxt
  rw [take_succ_of h, List.filterMap_append, List.filterMap_cons_none hm, List.filterMap_nil, List.append_nil]
theorem nxt_s {fs : List Nat} {r : Rw} {ws : List Sg} {w i : Nat} {σ : Sg} (h : i < fs.length) (hm : mtc r (ws.getD w (fun _ => -1)) fs[i] = some σ) : nxt fs r ws w (i + 1) = nxt fs r ws w i ++ [σ] := by
  unfold nxt
  rw [take_succ_of h, List.filterMap_append, ← List.append_assoc, List.filterMap_cons_some hm, List.filterMap_nil]
