/-! what the words give at the law's entry -/
theorem pl_tbOf {args : Array Value} {s : State} (h : ∀ w ∈ lw_tbl, w.before args s = true) : ∀ w ∈ ps_tb, w.before args s = true := fun w hw => h w (List.mem_filter.mp hw).1
theorem pl_arr {args : Array Value} {s : State} {ty : FieldType} (h : (Cond.arrayClass ty).before args s = true) (hp : ∀ C, ty ≠ .object C) : ∃ cA : ClassId, ArrOfT s cA ty ∧ va_RA s cA ty := by
  obtain ⟨cA, kA, comp, h1, h2, h3⟩ := Cond.arrayClass_spec h
  refine ⟨cA, fun n z => ⟨fun k h => (by cases h), kA, h2, comp, h3⟩, ?_⟩
  cases ty with
  | object C => exact absurd rfl (hp C)
  | _ => exact h1
theorem pl_arrO {args : Array Value} {s : State} {C : String} (h : (Cond.arrayOver (.object C)).before args s = true) : ∃ cA : ClassId, ArrOfT s cA (.object C) ∧ va_RA s cA (.object C) := by
  obtain ⟨comp, cA, kA, h1, -, h3, h4, h5⟩ := Cond.arrayOver_spec h
  exact ⟨cA, fun n z => ⟨fun k h => (by cases h), kA, h3, comp, h4⟩, kA, comp, h3, h4, h1, h5⟩
theorem pl_knowsC {args : Array Value} {s : State} (h : ∀ w ∈ lw_tbl, w.before args s = true) : ∃ (D : va_G) (cI cJ cT : ClassId), va_K D ps_cl (ps_tys cI cJ cT) s := by
  have hT := pl_tbOf h
  obtain ⟨c0, i0, k0⟩ := u_known (n := 6) hT i_Shelf (hT _ (by decide +kernel : (Cond.instantiable R_Shelf 6) ∈ ps_tb))
  obtain ⟨c1, i1, k1⟩ := u_known (n := 4) hT i_Tape (hT _ (by decide +kernel : (Cond.instantiable R_Tape 4) ∈ ps_tb))
  obtain ⟨c2, i2, k2⟩ := u_known (n := 12) hT i_Reply (hT _ (by decide +kernel : (Cond.instantiable R_Reply 12) ∈ ps_tb))
  obtain ⟨c3, i3, k3⟩ := u_known (n := 4) hT i_Thing (hT _ (by decide +kernel : (Cond.instantiable R_Thing 4) ∈ ps_tb))
  obtain ⟨c4, i4, k4⟩ := u_known (n := 1) hT i_Places (hT _ (by decide +kernel : (Cond.instantiable R_Places 1) ∈ ps_tb))
  obtain ⟨cI, a1, a2⟩ := pl_arr (h _ (by decide +kernel : (Cond.arrayClass .int) ∈ lw_tbl)) (fun C e => by cases e)
  obtain ⟨cJ, b1, b2⟩ := pl_arr (h _ (by decide +kernel : (Cond.arrayClass .long) ∈ lw_tbl)) (fun C e => by cases e)
  obtain ⟨cT, d1, d2⟩ := pl_arrO (h _ (by decide +kernel : (Cond.arrayOver (.object "PieceShelf$Thing")) ∈ lw_tbl))
  refine ⟨(fun c => [c0, c1, c2, c3, c4].getD c 0, fun c => [i0, i1, i2, i3, i4].getD c (fun _ => 0)), cI, cJ, cT, fun c q hq => ?_, fun k q hq => ?_⟩
  · have hc : c < 5 := (List.getElem?_eq_some_iff.mp hq).1
    rcases (show c = 0 ∨ c = 1 ∨ c = 2 ∨ c = 3 ∨ c = 4 by omega) with rfl | rfl | rfl | rfl | rfl
    · cases hq; exact k0
    · cases hq; exact k1
    · cases hq; exact k2
    · cases hq; exact k3
    · cases hq; exact k4
  · have hc : k < 3 := (List.getElem?_eq_some_iff.mp hq).1
    rcases (show k = 0 ∨ k = 1 ∨ k = 2 by omega) with rfl | rfl | rfl
    · cases hq; exact ⟨a1, a2⟩
    · cases hq; exact ⟨b1, b2⟩
    · cases hq; exact ⟨d1, d2⟩
theorem pl_knowsM {args : Array Value} {s : State} (h : ∀ w ∈ lw_tbl, w.before args s = true) : ∃ (D : va_G) (cI cZ : ClassId), va_K D pm_cl (pm_tys cI cZ) s := by
  have hT := pl_tbOf h
  obtain ⟨c0, i0, k0⟩ := u_known (n := 26) hT i_Model (hT _ (by decide +kernel : (Cond.instantiable R_Model 26) ∈ ps_tb))
  obtain ⟨cI, a1, a2⟩ := pl_arr (h _ (by decide +kernel : (Cond.arrayClass .int) ∈ lw_tbl)) (fun C e => by cases e)
  obtain ⟨cZ, b1, b2⟩ := pl_arr (h _ (by decide +kernel : (Cond.arrayClass .boolean) ∈ lw_tbl)) (fun C e => by cases e)
  refine ⟨(fun _ => c0, fun _ => i0), cI, cZ, fun c q hq => ?_, fun k q hq => ?_⟩
  · have hc : c < 1 := (List.getElem?_eq_some_iff.mp hq).1
    rw [show c = 0 by omega] at hq
    cases hq; exact k0
  · have hc : k < 2 := (List.getElem?_eq_some_iff.mp hq).1
    rcases (show k = 0 ∨ k = 1 by omega) with rfl | rfl
    · cases hq; exact ⟨a1, a2⟩
    · cases hq; exact ⟨b1, b2⟩
