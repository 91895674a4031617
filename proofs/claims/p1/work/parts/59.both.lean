/-! both objects in one heap -/
theorem cm_mm {aC : Nat → ClassId} {x r : Nat} {iv av : Nat → Nat → Int32} {v : Nat → Int32} {A : Nat → Nat → Int32} {R : ZM} (h : x + 133 ≤ r) : cm aC x iv av (mm aC r v A R) = mm aC r v A (cm aC x iv av R) := by
  funext q
  by_cases hb : x ≤ q ∧ q < x + 133
  · obtain ⟨j, rfl⟩ : ∃ j, q = x + j := ⟨q - x, by omega⟩
    rw [cm_at (by omega), mm_out (by omega), cm_at (by omega)]
  · rw [cm_out (by omega)]
    by_cases hr : r ≤ q ∧ q < r + 39
    · obtain ⟨j, rfl⟩ : ∃ j, q = r + j := ⟨q - r, by omega⟩
      rw [mm_at (by omega), mm_at (by omega)]
    · rw [mm_out (by omega), mm_out (by omega), cm_out (by omega)]
theorem mm_zup {aC : Nat → ClassId} {r w : Nat} {v : Nat → Int32} {A : Nat → Nat → Int32} {R : ZM} {e : va_E} (h : w < r ∨ r + 39 ≤ w) : zup (mm aC r v A R) w e = mm aC r v A (zup R w e) := by
  funext q
  by_cases hq : q = w
  · subst hq; rw [zup_self, mm_out h, zup_self]
  · rw [zup_ne _ _ hq]
    by_cases hr : r ≤ q ∧ q < r + 39
    · obtain ⟨j, rfl⟩ : ∃ j, q = r + j := ⟨q - r, by omega⟩
      rw [mm_at (by omega), mm_at (by omega)]
    · rw [mm_out (by omega), mm_out (by omega), zup_ne _ _ hq]
abbrev LA (aC : Nat → ClassId) (g : Nat → Int64) : va_E := .inl (aC 6, 1, .inr (.inl g))
theorem wm_w {aC : Nat → ClassId} {x r w : Nat} {iv av : Nat → Nat → Int32} {v : Nat → Int32} {A : Nat → Nat → Int32} {R : ZM} {e : va_E} (h : x + 133 ≤ r) (h2 : r + 39 ≤ w) : mm aC r v A (cm aC x iv av (zup R w e)) w = some e := by
  rw [mm_out (by omega), cm_out (by omega), zup_self]
theorem wm_c {aC : Nat → ClassId} {x r w : Nat} {iv av : Nat → Nat → Int32} {v : Nat → Int32} {A : Nat → Nat → Int32} {R : ZM} {e : va_E} (h : x + 133 ≤ r) (h2 : r + 39 ≤ w) : cm aC x iv av (mm aC r v A (zup R w e)) w = some e := by
  rw [cm_out (by omega), mm_out (by omega), zup_self]
theorem wm_if {aC : Nat → ClassId} {x r w f : Nat} {iv av : Nat → Nat → Int32} {v : Nat → Int32} {A : Nat → Nat → Int32} {R : ZM} {g g2 : Nat → Int64} (h : x + 133 ≤ r) (h2 : r + 39 ≤ w) :
    (if f = 0 then zup (cm aC x iv av (mm aC r v A (zup R w (LA aC g)))) w (LA aC g2) else cm aC x iv av (mm aC r v A (zup R w (LA aC g)))) = mm aC r v A (cm aC x iv av (zup R w (LA aC (if f = 0 then g2 else g)))) := by
  by_cases q : f = 0
  · rw [if_pos q, if_pos q, cm_zup (by omega), mm_zup (by omega), zup_zup, cm_mm h]
  · rw [if_neg q, if_neg q, cm_mm h]
theorem Ct.post {l : Launch} {D : va_G} {aC : Nat → ClassId} {b0 : Nat} {y : MethodName} {cc : ByteArray} {maxL : Nat} {ret : Option FieldType} {n mc ms : Nat} {av : List Value} {M : ZM} {sz : Nat} {r0 : Option Value} {M0 M1 : ZM} (h : Ct l D aC b0 y cc maxL ret n mc ms av M sz (zd r0 M0)) (e : M0 = M1) : Ct l D aC b0 y cc maxL ret n mc ms av M sz (zd r0 M1) := e ▸ h
theorem CtW.post {l : Launch} {D : va_G} {aC : Nat → ClassId} {b0 : Nat} {y : MethodName} {cc : ByteArray} {maxL : Nat} {ret : Option FieldType} {hh : List (Nat × Nat × Nat × Nat)} {n mc ms : Nat} {av : List Value} {M : ZM} {sz : Nat} {r0 : Option Value} {M0 M1 : ZM} (h : CtW l D aC b0 y cc maxL ret hh n mc ms av M sz (zd r0 M0)) (e : M0 = M1) : CtW l D aC b0 y cc maxL ret hh n mc ms av M sz (zd r0 M1) := e ▸ h
theorem updL0 (g : Nat → Int64) (z : Int64) : vp_updL g 0 z (Int32.toNatClampNeg (nI 0)) = z := by
  rw [show Int32.toNatClampNeg (nI 0) = 0 by decide]
  simp [vp_updL]
theorem b01 (c : Prop) [Decidable c] : (if c then 0 else 1 : Int32) = 0 ∨ (if c then 0 else 1 : Int32) = 1 := by
  by_cases h : c
  · exact Or.inl (if_pos h)
  · exact Or.inr (if_neg h)
