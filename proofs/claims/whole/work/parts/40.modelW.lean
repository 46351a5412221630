/-! THE REFERENCE's STATE: 13 cells. 0 the object; 1 tape; 2 lengths; 3 tags; 4 holds; 5 uses; 6 partFrom; 7 partTo; 8 rowFrom; 9 rowTo; 10 planFrom; 11 planTo; 12 wanted.
τ = (int fields by their place, int arrays by cell, boolean arrays by cell) -/
abbrev pm_τ : Type := (Nat → Int32) × (Nat → Nat → Int32) × (Nat → Nat → Bool)
abbrev pm_cl : List vw_C := [(R_Model, F_Model, 26)]
def pm_tys (cI cZ : ClassId) : List (ClassId × FieldType) := [(cI, .int), (cZ, .boolean)]
def pm_fs (g : Nat → Nat) (τ : pm_τ) : List Value := [.int (τ.1 0), .ref (g 1), .int (τ.1 2), .int (τ.1 3), .int (τ.1 4), .ref (g 2), .ref (g 3), .ref (g 4), .ref (g 5), .int (τ.1 9), .int (τ.1 10), .int (τ.1 11), .ref (g 6), .ref (g 7), .int (τ.1 14), .int (τ.1 15), .int (τ.1 16), .ref (g 8), .ref (g 9), .int (τ.1 19), .int (τ.1 20), .int (τ.1 21), .ref (g 10), .ref (g 11), .int (τ.1 24), .ref (g 12)]
def pm_N (k : Nat) : Nat := if k = 1 then 60 else if k < 10 then 6 else 2048
def pm_E (g : Nat → Nat) (cI cZ : ClassId) (τ : pm_τ) (k : Nat) : va_E :=
  if k = 0 then .inr (0, pm_fs g τ)
  else if k = 4 then .inl (cZ, 24576, .inl (fun j => ps_bI (τ.2.2 k j)))
  else if k = 12 then .inl (cZ, 4096, .inl (fun j => ps_bI (τ.2.2 k j)))
  else .inl (cI, pm_N k, .inl (τ.2.1 k))
def pm_uI (τ : pm_τ) (j : Nat) (v : Int32) : pm_τ := (va_up τ.1 j v, τ.2)
def pm_uA (τ : pm_τ) (k : Nat) (f : Nat → Int32) : pm_τ := (τ.1, va_up τ.2.1 k f, τ.2.2)
def pm_uZ (τ : pm_τ) (k : Nat) (f : Nat → Bool) : pm_τ := (τ.1, τ.2.1, va_up τ.2.2 k f)
section PmState
variable {g : Nat → Nat} {cI cZ : ClassId} {τ : pm_τ}
theorem pm_E_0 : pm_E g cI cZ τ 0 = .inr (0, pm_fs g τ) := rfl
theorem pm_E_1 : pm_E g cI cZ τ 1 = .inl (cI, 60, .inl (τ.2.1 1)) := rfl
theorem pm_E_2 : pm_E g cI cZ τ 2 = .inl (cI, 6, .inl (τ.2.1 2)) := rfl
theorem pm_E_3 : pm_E g cI cZ τ 3 = .inl (cI, 6, .inl (τ.2.1 3)) := rfl
theorem pm_E_4 : pm_E g cI cZ τ 4 = .inl (cZ, 24576, .inl (fun j => ps_bI (τ.2.2 4 j))) := rfl
theorem pm_E_5 : pm_E g cI cZ τ 5 = .inl (cI, 6, .inl (τ.2.1 5)) := rfl
theorem pm_E_6 : pm_E g cI cZ τ 6 = .inl (cI, 6, .inl (τ.2.1 6)) := rfl
theorem pm_E_7 : pm_E g cI cZ τ 7 = .inl (cI, 6, .inl (τ.2.1 7)) := rfl
theorem pm_E_8 : pm_E g cI cZ τ 8 = .inl (cI, 6, .inl (τ.2.1 8)) := rfl
theorem pm_E_9 : pm_E g cI cZ τ 9 = .inl (cI, 6, .inl (τ.2.1 9)) := rfl
theorem pm_E_10 : pm_E g cI cZ τ 10 = .inl (cI, 2048, .inl (τ.2.1 10)) := rfl
theorem pm_E_11 : pm_E g cI cZ τ 11 = .inl (cI, 2048, .inl (τ.2.1 11)) := rfl
theorem pm_E_12 : pm_E g cI cZ τ 12 = .inl (cZ, 4096, .inl (fun j => ps_bI (τ.2.2 12 j))) := rfl
theorem pm_E_uI {j i : Nat} {v : Int32} (h : i ≠ 0) : pm_E g cI cZ (pm_uI τ j v) i = pm_E g cI cZ τ i := by
  unfold pm_E
  rw [if_neg h, if_neg h]; rfl
theorem pm_E_uA {k i : Nat} {f : Nat → Int32} (h : i ≠ k) : pm_E g cI cZ (pm_uA τ k f) i = pm_E g cI cZ τ i := by
  have e : (pm_uA τ k f).2.1 i = τ.2.1 i := va_up_ne _ _ h
  unfold pm_E
  rw [e]; rfl
theorem pm_E_uZ {k i : Nat} {f : Nat → Bool} (h : i ≠ k) : pm_E g cI cZ (pm_uZ τ k f) i = pm_E g cI cZ τ i := by
  have e : (pm_uZ τ k f).2.2 i = τ.2.2 i := va_up_ne _ _ h
  unfold pm_E
  rw [e]; rfl
theorem pm_h1 {j : Nat} {v : Int32} (hj : j ∈ [0, 2, 3, 4, 9, 10, 11, 14, 15, 16, 19, 20, 21, 24]) : pm_E g cI cZ (pm_uI τ j v) 0 = .inr (0, (pm_fs g τ).set j (.int v)) := by
  simp only [List.mem_cons, List.not_mem_nil, or_false] at hj
  rcases hj with rfl | rfl | rfl | rfl | rfl | rfl | rfl | rfl | rfl | rfl | rfl | rfl | rfl | rfl <;> rfl
end PmState
/-- what changes is among these -/
def pm_sm (ji ja jz : List Nat) (σ u : pm_τ) : Prop := (∀ j, j ∉ ji → u.1 j = σ.1 j) ∧ (∀ j, j ∉ ja → u.2.1 j = σ.2.1 j) ∧ ∀ j, j ∉ jz → u.2.2 j = σ.2.2 j
theorem pm_sm_rf (ji ja jz : List Nat) (σ : pm_τ) : pm_sm ji ja jz σ σ := ⟨fun _ _ => rfl, fun _ _ => rfl, fun _ _ => rfl⟩
theorem pm_sm.I {ji ja jz : List Nat} {σ u : pm_τ} {j : Nat} {v : Int32} (h : pm_sm ji ja jz σ u) (hj : j ∈ ji) : pm_sm ji ja jz σ (pm_uI u j v) :=
  ⟨fun i hi => (va_up_ne _ _ (fun e => hi (by rw [e]; exact hj))).trans (h.1 i hi), h.2.1, h.2.2⟩
theorem pm_sm.A {ji ja jz : List Nat} {σ u : pm_τ} {k : Nat} {f : Nat → Int32} (h : pm_sm ji ja jz σ u) (hj : k ∈ ja) : pm_sm ji ja jz σ (pm_uA u k f) :=
  ⟨h.1, fun i hi => (va_up_ne _ _ (fun e => hi (by rw [e]; exact hj))).trans (h.2.1 i hi), h.2.2⟩
theorem pm_sm.Z {ji ja jz : List Nat} {σ u : pm_τ} {k : Nat} {f : Nat → Bool} (h : pm_sm ji ja jz σ u) (hj : k ∈ jz) : pm_sm ji ja jz σ (pm_uZ u k f) :=
  ⟨h.1, h.2.1, fun i hi => (va_up_ne _ _ (fun e => hi (by rw [e]; exact hj))).trans (h.2.2 i hi)⟩
/-- one after the other -/
theorem pm_sm.to {ji ja jz ki ka kz : List Nat} {σ u v : pm_τ} (h : pm_sm ji ja jz σ u) (h2 : pm_sm ki ka kz u v) (hi : ∀ j ∈ ki, j ∈ ji) (ha : ∀ j ∈ ka, j ∈ ja) (hz : ∀ j ∈ kz, j ∈ jz) : pm_sm ji ja jz σ v :=
  ⟨fun j q => (h2.1 j (fun e => q (hi j e))).trans (h.1 j q), fun j q => (h2.2.1 j (fun e => q (ha j e))).trans (h.2.1 j q), fun j q => (h2.2.2 j (fun e => q (hz j e))).trans (h.2.2 j q)⟩
section PmRows
variable {p : Program} {l : Launch} {e : Env} {R : Room} {s : State} {m : MethodId} {args : Array Value} {below : List Frame} {meth : Method} {c : Code} {H : Heap} {locs : List Loc} {cells slots : Nat} {Q : State → Prop}
variable {cc : ByteArray} {pc : Nat} {ls : Array Slot} {rest : List Value} {D : va_G} {cl : List vw_C} {tys : List (ClassId × FieldType)} {H0 : Heap} {n : Nat} {g : Nat → Nat} {E : Nat → va_E}
theorem ps_zald (hexec : p.tables.exec = Jvm.exec) (hb : c.code = cc) (hK : va_K D cl tys s) (hP : va_P D cl (ps_wl n g E) H) {k : Nat} (hk : k < n) (t0 : Nat) {cA : ClassId} {N : Nat} {T : Nat → Bool} (hE : E k = .inl (cA, N, .inl (fun j => ps_bI (T j)))) (ht : tys[t0]? = some (cA, .boolean)) {i : Nat} (hi : i < N) (hN : N < 2 ^ 31) (hdg : decode cc pc = .ok (.baload, 1))
    (kk : W p l e R s m args below meth c H locs cells slots Q (F0 m (pc + 1) ls (.int (ps_bI (T i)) :: rest))) : W p l e R s m args below meth c H locs cells slots Q (F0 m pc ls (.int (nI i) :: .ref (g k) :: rest)) := by
  refine va_zald hexec hb hK hP k t0 (f := fun j => ps_bI (T j)) (by rw [ps_wl_get hk, hE]) ht (vp_in_nI hi hN) hdg ?_
  rw [nI_clamp (by omega)]
  exact kk
theorem ps_zast (hexec : p.tables.exec = Jvm.exec) (hb : c.code = cc) (hK : va_K D cl tys s) (hg : ps_inj n g) (hP : va_P D cl (ps_wl n g E) H) (hS : va_S (ps_wA n g) H0 H locs) {k : Nat} (hk : k < n) (t0 : Nat) {cA : ClassId} {N : Nat} {T : Nat → Bool} (hE : E k = .inl (cA, N, .inl (fun j => ps_bI (T j)))) (ht : tys[t0]? = some (cA, .boolean)) {i : Nat} (hi : i < N) (hN : N < 2 ^ 31) {x : Int32} (b : Bool) (hxb : x = ps_bI b) (hdg : decode cc pc = .ok (.bastore, 1))
    (E2 : Nat → va_E) (h1 : E2 k = .inl (cA, N, .inl (fun j => ps_bI (va_up T i b j)))) (h2 : ∀ j, j < n → j ≠ k → E2 j = E j)
    (kk : ∀ (H1 : Heap) (locs1 : List Loc), va_P D cl (ps_wl n g E2) H1 → va_S (ps_wA n g) H0 H1 locs1 → W p l e R s m args below meth c H1 locs1 cells slots Q (F0 m (pc + 1) ls rest)) : W p l e R s m args below meth c H locs cells slots Q (F0 m pc ls (.int x :: .int (nI i) :: .ref (g k) :: rest)) := by
  refine va_zast hexec hb hK hP (ps_wl_D hg) hS k t0 (f := fun j => ps_bI (T j)) (by rw [ps_wl_get hk, hE]) ht (vp_in_nI hi hN) hdg (fun H1 locs1 hP1 _ hS1 => kk H1 locs1 ?_ hS1)
  have en : vp_nar .boolean x = ps_bI b := by rw [hxb]; cases b <;> decide +kernel
  rw [nI_clamp (by omega), ps_wl_set hk, en] at hP1
  rw [ps_wl_congr (E := E2) (E2 := va_up E k (.inl (cA, N, .inl (upd (fun j => ps_bI (T j)) i (ps_bI b))))) (fun j hj => ?_)]
  · exact hP1
  · by_cases q : j = k
    · subst q
      rw [va_up_self, h1]
      have ef : (fun j => ps_bI (va_up T i b j)) = upd (fun j => ps_bI (T j)) i (ps_bI b) := funext (fun y => by
        unfold va_up upd
        by_cases z : y = i
        · rw [if_pos z, if_pos z]
        · rw [if_neg z, if_neg z])
      rw [ef]
    · rw [va_up_ne _ _ q, h2 j hj q]
end PmRows
