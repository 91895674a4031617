theorem lt_i (i : Nat) {w : Cond} (h : lw_tbl[i]? = some w) {A : Array Value} {s : State} (hts : ∀ w ∈ lw_tbl, w.before A s = true) : w.before A s = true := hts w (List.mem_of_getElem? h)
theorem st_str {A : Array Value} {s : State} {cls : Nat} (hts : ∀ w ∈ lw_tbl, w.before A s = true) (hc : s.vm.findClass "UpdateSteps" = some cls) : ∀ q ∈ zStr, ∃ a, vk_R q.1 q.2.1 q.2.2 a s := by
  have one : ∀ (k : Nat) (t : String), (Cond.stringRef "UpdateSteps" k t).before A s = true → ∃ a, vk_R "UpdateSteps" k t a s := by
    intro k t h
    have h2 : (Cond.stringRef "UpdateSteps" k t).before #[] s = true := by
      first
        | exact h
        | (simp only [Cond.before, Cond.holds, Cond.value, State.names, State.poolOf?, State.resolvedAt?] at h ⊢; exact h)
    obtain ⟨_, _, _, a, -, -, -, -, -, hev⟩ := Cond.stringRef_spec hc h2
    exact ⟨a, h2, hev⟩
  unfold zStr
  refine List.forall_mem_cons.mpr ⟨one 60 "no such kind, or not with this FROM or TO" (lt_i 549 (by decide +kernel) hts), List.forall_mem_cons.mpr ⟨one 67 "no more steps" (lt_i 585 (by decide +kernel) hts), List.forall_mem_cons.mpr ⟨one 234 "no such step" (lt_i 617 (by decide +kernel) hts), List.forall_mem_cons.mpr ⟨one 100 "no such template in this step" (lt_i 640 (by decide +kernel) hts), List.forall_mem_cons.mpr ⟨one 112 "no more templates" (lt_i 645 (by decide +kernel) hts), List.forall_mem_cons.mpr ⟨one 121 "no such pattern in this step" (lt_i 666 (by decide +kernel) hts), List.forall_mem_cons.mpr ⟨one 126 "no more rows of the pattern" (lt_i 667 (by decide +kernel) hts), List.forall_mem_cons.mpr ⟨one 236 "no such file" (lt_i 680 (by decide +kernel) hts), List.forall_mem_cons.mpr ⟨one 139 "a file has names alone" (lt_i 681 (by decide +kernel) hts), List.forall_mem_cons.mpr ⟨one 146 "no more rows of the file" (lt_i 682 (by decide +kernel) hts), List.forall_mem_cons.mpr ⟨one 245 "no such graph" (lt_i 701 (by decide +kernel) hts), List.forall_mem_cons.mpr ⟨one 190 "no such fact" (lt_i 709 (by decide +kernel) hts), List.forall_mem_cons.mpr ⟨one 193 "a fact has parts 0 to 2" (lt_i 710 (by decide +kernel) hts), List.forall_mem_cons.mpr ⟨one 212 "no such change" (lt_i 731 (by decide +kernel) hts), List.forall_mem_cons.mpr ⟨one 214 "a change has parts 0 to 4" (lt_i 732 (by decide +kernel) hts), List.forall_mem_cons.mpr ⟨one 232 "what is 0 to 4" (lt_i 748 (by decide +kernel) hts), fun _ h => absurd h List.not_mem_nil⟩⟩⟩⟩⟩⟩⟩⟩⟩⟩⟩⟩⟩⟩⟩⟩
set_option maxRecDepth 100000 in
theorem st_no {A : Array Value} {s : State} (h : (Jvm.Cond.and given_1 narrow_1).before A s = true) : ∀ q ∈ zNo, va_Nc q.1 q.2 s := by
  have hs := flat_of_before _ h
  unfold zNo
  refine List.forall_mem_cons.mpr ⟨va_Nc.of (hs (Cond.not (.castable "java/lang/IllegalStateException" "java/lang/IllegalArgumentException")) (by decide +kernel)), List.forall_mem_cons.mpr ⟨va_Nc.of (hs (Cond.not (.castable "java/lang/IndexOutOfBoundsException" "java/lang/IllegalArgumentException")) (by decide +kernel)), List.forall_mem_cons.mpr ⟨va_Nc.of (hs (Cond.not (.castable "java/lang/IllegalArgumentException" "java/lang/IllegalStateException")) (by decide +kernel)), List.forall_mem_cons.mpr ⟨va_Nc.of (hs (Cond.not (.castable "java/lang/IndexOutOfBoundsException" "java/lang/IllegalStateException")) (by decide +kernel)), List.forall_mem_cons.mpr ⟨va_Nc.of (hs (Cond.not (.castable "java/lang/IllegalArgumentException" "java/lang/IndexOutOfBoundsException")) (by decide +kernel)), List.forall_mem_cons.mpr ⟨va_Nc.of (hs (Cond.not (.castable "java/lang/IllegalStateException" "java/lang/IndexOutOfBoundsException")) (by decide +kernel)), fun _ h => absurd h List.not_mem_nil⟩⟩⟩⟩⟩⟩
theorem st_zg {A : Array Value} {s : State} {cls : Nat} (hts : ∀ w ∈ lw_tbl, w.before A s = true) (hgv : (Jvm.Cond.and given_1 narrow_1).before A s = true) (hc : s.vm.findClass "UpdateSteps" = some cls) : zg s := by
  refine ⟨fun w hw => word_at (State.WarmedH.refl s) (good_of_word (zW_good hw)) (hts w (List.mem_filter.mp hw).1), fun w hw => va_Nw.of (zN_tab (List.mem_filter.mp hw).2) (hts w (List.mem_filter.mp hw).1), ?_, st_str hts hc, st_no hgv, ?_⟩
  · exact List.forall_mem_cons.mpr ⟨va_AO.of (lt_i 131 (by decide +kernel) hts), List.forall_mem_cons.mpr ⟨va_AO.of (lt_i 90 (by decide +kernel) hts), List.forall_mem_cons.mpr ⟨va_AO.of (lt_i 76 (by decide +kernel) hts), fun _ h => absurd h List.not_mem_nil⟩⟩⟩
  · exact (lt_i (w := .arrayOver (.array .int)) 139 (by decide +kernel) hts : (Cond.arrayOver (.array .int)).before A s = true)
theorem st_cl {A : Array Value} {s : State} (hts : ∀ w ∈ zW, w.before A s = true) : ∃ D : va_G, ∀ (k : Nat) (q : vw_C), vwCl[k]? = some q → u_Kn s q.1 q.2.1 q.2.2 (D.1 k) (D.2 k) := by
  obtain ⟨cX0, iX0, hX0⟩ := u_known (C := RX0) (T := TX0) (N := 4) (n := 4) hts inz_X0 (hts (.instantiable RX0 4) (zWi 212 (by decide +kernel) rfl))
  obtain ⟨cX1, iX1, hX1⟩ := u_known (C := RX1) (T := TX1) (N := 2) (n := 2) hts inz_X1 (hts (.instantiable RX1 2) (zWi 155 (by decide +kernel) rfl))
  obtain ⟨cX2, iX2, hX2⟩ := u_known (C := RX2) (T := TX2) (N := 3) (n := 3) hts inz_X2 (hts (.instantiable RX2 3) (zWi 91 (by decide +kernel) rfl))
  obtain ⟨cX3, iX3, hX3⟩ := u_known (C := RX3) (T := TX3) (N := 3) (n := 3) hts inz_X3 (hts (.instantiable RX3 3) (zWi 161 (by decide +kernel) rfl))
  obtain ⟨cX4, iX4, hX4⟩ := u_known (C := RX4) (T := TX4) (N := 4) (n := 4) hts inz_X4 (hts (.instantiable RX4 4) (zWi 133 (by decide +kernel) rfl))
  obtain ⟨cX5, iX5, hX5⟩ := u_known (C := RX5) (T := TX5) (N := 8) (n := 8) hts inz_X5 (hts (.instantiable RX5 8) (zWi 234 (by decide +kernel) rfl))
  obtain ⟨cX6, iX6, hX6⟩ := u_known (C := RX6) (T := TX6) (N := 2) (n := 2) hts inz_X6 (hts (.instantiable RX6 2) (zWi 84 (by decide +kernel) rfl))
  obtain ⟨cX7, iX7, hX7⟩ := u_known (C := RX7) (T := TX7) (N := 5) (n := 5) hts inz_X7 (hts (.instantiable RX7 5) (zWi 78 (by decide +kernel) rfl))
  obtain ⟨cX8, iX8, hX8⟩ := u_known (C := RX8) (T := TX8) (N := 8) (n := 8) hts inz_X8 (hts (.instantiable RX8 8) (zWi 68 (by decide +kernel) rfl))
  obtain ⟨cX9, iX9, hX9⟩ := u_known (C := RX9) (T := TX9) (N := 50) (n := 50) hts inz_X9 (hts (.instantiable RX9 50) (zWi 750 (by decide +kernel) rfl))
  refine ⟨(fun k => match k with | 0 => cX0 | 1 => cX1 | 2 => cX2 | 3 => cX3 | 4 => cX4 | 5 => cX5 | 6 => cX6 | 7 => cX7 | 8 => cX8 | _ => cX9, fun k => match k with | 0 => iX0 | 1 => iX1 | 2 => iX2 | 3 => iX3 | 4 => iX4 | 5 => iX5 | 6 => iX6 | 7 => iX7 | 8 => iX8 | _ => iX9), ?_⟩
  intro k q hq
  match k, hq with
  | 0, hq => cases hq; exact hX0
  | 1, hq => cases hq; exact hX1
  | 2, hq => cases hq; exact hX2
  | 3, hq => cases hq; exact hX3
  | 4, hq => cases hq; exact hX4
  | 5, hq => cases hq; exact hX5
  | 6, hq => cases hq; exact hX6
  | 7, hq => cases hq; exact hX7
  | 8, hq => cases hq; exact hX8
  | 9, hq => cases hq; exact hX9
  | k + 10, hq => simp [vwCl] at hq
theorem st_ar {A : Array Value} {s : State} {t : FieldType} (h : (Cond.arrayClass t).before A s = true) : ∃ cA, ArrOfT s cA t ∧ s.vm.findClass ("[" ++ t.toString) = some cA := by
  obtain ⟨cA, kA, comp, h1, h2, h3⟩ := Cond.arrayClass_spec h
  exact ⟨cA, fun n z => ⟨fun k h => (by cases h), kA, h2, comp, h3⟩, h1⟩
theorem st_ob {A : Array Value} {s : State} {C : String} (h : (Cond.arrayOver (.object C)).before A s = true) : ∃ cA, ArrOfT s cA (.object C) ∧ va_RA s cA (.object C) := by
  obtain ⟨comp, cA, kA, h1, -, h2, h3, h4⟩ := Cond.arrayOver_spec h
  exact ⟨cA, fun n z => ⟨fun k h => (by cases h), kA, h2, comp, h3⟩, kA, comp, h2, h3, h1, h4⟩
theorem st_aa {s : State} (h : zAA s) : ∃ cA, ArrOfT s cA (.array .int) ∧ va_RA s cA (.array .int) := by
  obtain ⟨comp, cA, kA, h1, h2, h3, h4, h5⟩ := arrayOverA_spec h
  exact ⟨cA, fun n z => ⟨fun k h => (by cases h), kA, h3, comp, h4⟩, h5⟩
theorem st_K {A : Array Value} {s : State} (hts : ∀ w ∈ zW, w.before A s = true) (hg : zg s) : ∃ (D : va_G) (aC : Nat → ClassId), va_K D vwCl (zT aC) s := by
  obtain ⟨D, hD⟩ := st_cl hts
  obtain ⟨a0, p0, q0⟩ := st_ar (hts _ aw_int)
  obtain ⟨a1, p1, q1⟩ := st_ar (hts _ aw_boolean)
  obtain ⟨a2, p2, q2⟩ := st_ob (A := #[]) (va_AO.use (hg.2.2.1 RX1 (by decide)))
  obtain ⟨a3, p3, q3⟩ := st_ob (A := #[]) (va_AO.use (hg.2.2.1 RX2 (by decide)))
  obtain ⟨a4, p4, q4⟩ := st_ob (A := #[]) (va_AO.use (hg.2.2.1 RX5 (by decide)))
  obtain ⟨a5, p5, q5⟩ := st_aa hg.2.2.2.2.2
  obtain ⟨a6, p6, q6⟩ := st_ar (hts _ aw_long)
  refine ⟨D, (fun k => match k with | 0 => a0 | 1 => a1 | 2 => a2 | 3 => a3 | 4 => a4 | 5 => a5 | _ => a6), hD, ?_⟩
  intro k q hq
  match k, hq with
  | 0, hq => cases hq; exact ⟨p0, q0⟩
  | 1, hq => cases hq; exact ⟨p1, q1⟩
  | 2, hq => cases hq; exact ⟨p2, q2⟩
  | 3, hq => cases hq; exact ⟨p3, q3⟩
  | 4, hq => cases hq; exact ⟨p4, q4⟩
  | 5, hq => cases hq; exact ⟨p5, q5⟩
  | 6, hq => cases hq; exact ⟨p6, q6⟩
  | k + 7, hq => simp [zT] at hq
set_option maxRecDepth 100000 in
theorem st_G {A : Array Value} {s : State} {l : Launch} (hst : l.stackTraces = false) (hts : ∀ w ∈ lw_tbl, w.before A s = true) (hgv : (Jvm.Cond.and given_1 narrow_1).before A s = true) : ∃ (D : va_G) (aC : Nat → ClassId), zG l D aC s.heap.size s := by
  have hs := flat_of_before _ hgv
  have hW : ∀ w ∈ zW, w.before A s = true := fun w hw => hts w (List.mem_filter.mp hw).1
  obtain ⟨cX, iX, hX⟩ := u_known (C := RX8) (T := TX8) (N := 8) (n := 8) hW inz_X8 (hW (.instantiable RX8 8) (zWi 68 (by decide +kernel) rfl))
  have hg : zg s := st_zg hts hgv hX.2.1
  obtain ⟨D, aC, hK⟩ := st_K hW hg
  have hA : ∀ a : Nat, a < s.heap.size → ¬ zA s.heap.size a := fun a h q => absurd h (Nat.not_lt.mpr q)
  exact ⟨D, aC, hst, hK, hg, vx_Zqof (lt_i 535 (by decide +kernel) hts) (lt_i 59 (by decide +kernel) hts) (hs (Cond.isRef (.static "java/lang/Throwable" "UNASSIGNED_STACK" "[Ljava/lang/StackTraceElement;")) (by decide +kernel)) hA, vx_Zqof (lt_i 537 (by decide +kernel) hts) (lt_i 59 (by decide +kernel) hts) (hs (Cond.isRef (.static "java/lang/Throwable" "SUPPRESSED_SENTINEL" "Ljava/util/List;")) (by decide +kernel)) hA, Nat.le_refl _⟩
