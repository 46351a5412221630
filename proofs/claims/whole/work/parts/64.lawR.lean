/-! THE LAW's WALK: what stays, what moves, and the rows of it -/
def pw_A (s : State) : Nat → Prop := fun q => s.heap.size ≤ q
def pw_F (p : Program) (l : Launch) (s : State) (m : MethodId) (args : Array Value) (c : Code) (D : va_G) (cI cJ cT : ClassId) (D2 : va_G) (cI2 cZ : ClassId) (g gm : Nat → Nat) (ao b L : Nat) (xs : Nat → Int32) (aK aV : Nat) (vo : Option Nat) (m1 m2 m3 : Nat) : Prop :=
  (CallFix p m c b_Law_law 7 s args ps_tb R_Law) ∧ (va_K D ps_cl (ps_tys cI cJ cT) s ∧ va_K D2 pm_cl (pm_tys cI2 cZ) s) ∧ (va_X b L xs s s.heap ∧ b < s.heap.size ∧ L ≤ 2560) ∧ (ps_inj 33 g ∧ ps_inj 13 gm ∧ (∀ q, ps_wA 33 g q → ¬ ps_wA 13 gm q) ∧ ¬ ps_wA 33 g ao ∧ ¬ ps_wA 13 gm ao) ∧ ((∀ q, ps_wA 33 g q → pw_A s q) ∧ (∀ q, ps_wA 13 gm q → pw_A s q) ∧ pw_A s ao) ∧ l.stackTraces = false ∧ ps_Str aK aV vo (pw_A s) s s.heap ∧ ps_Thr m1 m2 m3 (pw_A s) s s.heap
def pw_V (s : State) (D : va_G) (cI cJ cT : ClassId) (D2 : va_G) (cI2 cZ : ClassId) (g gm : Nat → Nat) (ao : Nat) (H : Heap) (locs : List Loc) (σ : ps_σ) (τ : pm_τ) (f : Nat → Int64) : Prop :=
  va_P D ps_cl (ps_wl 33 g (ps_E g cI cJ cT σ)) H ∧ va_P D2 pm_cl (ps_wl 13 gm (pm_E gm cI2 cZ τ)) H ∧ va_P D ps_cl (ps_oE cJ ao f) H ∧ va_S (pw_A s) s.heap H locs
abbrev pw_lv (b : Nat) (g gm : Nat → Nat) (ao k : Nat) : List (Nat × Value) := [(4, .int (nI (5 * k))), (3, .ref ao), (2, .ref (gm 0)), (1, .ref (g 0)), (0, .ref b)]
section PwRows
variable {p : Program} {l : Launch} {e : Env} {R : Room} {s : State} {m : MethodId} {args : Array Value} {below : List Frame} {meth : Method} {c : Code} {H : Heap} {locs : List Loc} {cells slots : Nat} {Q : State → Prop}
variable {pc : Nat} {ls : Array Slot} {rest st As : List Value} {D : va_G} {cI cJ cT : ClassId} {D2 : va_G} {cI2 cZ : ClassId} {g gm : Nat → Nat} {ao b L k : Nat} {xs : Nat → Int32} {aK aV : Nat} {vo : Option Nat} {m1 m2 m3 : Nat} {σ : ps_σ} {τ : pm_τ} {f : Nat → Int64}
variable {y : MethodName} {bytes : ByteArray} {ret : Option FieldType} {ws : List Cond} {rm : Room} {index maxL na : Nat}
/-- an int of the script -/
theorem pw_arg (F : pw_F p l s m args c D cI cJ cT D2 cI2 cZ g gm ao b L xs aK aV vo m1 m2 m3) (V : pw_V s D cI cJ cT D2 cI2 cZ g gm ao H locs σ τ f) (h0 : ls[0]? = some (.val (.ref b))) (h4 : ls[4]? = some (.val (.int (nI (5 * k))))) (j : Nat) (hj : 5 * k + j < L) {n : Int} (hn : Int32.ofInt n = nI j)
    (d0 : decode b_Law_law pc = .ok (.aload_n 0, 1)) (d1 : decode b_Law_law (pc + 1) = .ok (.iload 4, 2)) (d2 : decode b_Law_law (pc + 3) = .ok (.iconst n, 1)) (d3 : decode b_Law_law (pc + 4) = .ok (.iadd, 1)) (d4 : decode b_Law_law (pc + 5) = .ok (.iaload, 1))
    (kk : W p l e R s m args below meth c H locs cells slots Q (F0 m (pc + 6) ls (.int (xs (5 * k + j)) :: rest))) : W p l e R s m args below meth c H locs cells slots Q (F0 m pc ls rest) := by
  obtain ⟨⟨hx, hb, -⟩, -, ⟨hX, hbl, hL⟩, -⟩ := F
  refine lv_aload_n hx hb d0 rfl h0 ?_
  refine lv_iload hx hb d1 h4 ?_
  refine lv_iconst (v := nI j) hx hb d2 hn ?_
  refine lv_iadd hx hb d3 ?_
  refine ps_seti (y := nI (5 * k + j)) (nI_add _ _) ?_
  refine va_sld hx hb hX hbl (fun h => Nat.not_lt.mpr h hbl) V.2.2.2 (vp_in_nI hj (by omega)) d4 ?_
  rw [nI_clamp (by omega)]
  exact kk
/-- the class is called: it only reads -/
theorem pw_cr {post : Int32 → Prop} (F : pw_F p l s m args c D cI cJ cT D2 cI2 cZ g gm ao b L xs aK aV vo m1 m2 m3) (V : pw_V s D cI cJ cT D2 cI2 cZ g gm ao H locs σ τ f) (hM : Met l y ws rm (ps_Pc D ps_cl (ps_tys cI cJ cT) 33 g (ps_E g cI cJ cT σ) (.ref (g 0) :: As)) (vp_Si post) 0 0 (fun _ => False)) (cw : CallW R s args R_Law R_Shelf index y bytes maxL ret ws rm 0 0 na)
    (hn : As.length = na) (hsize : ls.size = 7) (hst : st = As.reverse ++ .ref (g 0) :: rest) (hW : (rest.map fun v => v.category).sum ≤ 8) (hdg : decode b_Law_law pc = .ok (.invokevirtual index, 3)) (hf : cells ≤ R.cells ∧ slots ≤ R.slots)
    (kk : ∀ r : Int32, post r → W p l e R s m args below meth c H locs cells slots Q (F0 m (pc + 3) ls (.int r :: rest))) : W p l e R s m args below meth c H locs cells slots Q (F0 m pc ls st) :=
  ps_roi (k := 0) F.1 hM cw F.2.1.1 V.1 (by omega) ps_E_0 rfl hn hsize hst hW hdg hf kk
/-- the class is called: it writes -/
theorem pw_cw {post : Int32 → ps_σ → Prop} (F : pw_F p l s m args c D cI cJ cT D2 cI2 cZ g gm ao b L xs aK aV vo m1 m2 m3) (V : pw_V s D cI cJ cT D2 cI2 cZ g gm ao H locs σ τ f) (hM : Met l y ws rm (ps_Pc D ps_cl (ps_tys cI cJ cT) 33 g (ps_E g cI cJ cT σ) (.ref (g 0) :: As)) (ps_Qi (S := ps_σ) D ps_cl 33 g (fun u => ps_E g cI cJ cT u) post) 0 0 (ps_wA 33 g)) (cw : CallW R s args R_Law R_Shelf index y bytes maxL ret ws rm 0 0 na)
    (hn : As.length = na) (hsize : ls.size = 7) (hst : st = As.reverse ++ .ref (g 0) :: rest) (hW : (rest.map fun v => v.category).sum ≤ 8) (hdg : decode b_Law_law pc = .ok (.invokevirtual index, 3)) (hf : cells ≤ R.cells ∧ slots ≤ R.slots)
    (kk : ∀ (r : Int32) (u : ps_σ) (H1 : Heap) (locs1 : List Loc), post r u → pw_V s D cI cJ cT D2 cI2 cZ g gm ao H1 locs1 u τ f → W p l e R s m args below meth c H1 locs1 cells slots Q (F0 m (pc + 3) ls (.int r :: rest))) : W p l e R s m args below meth c H locs cells slots Q (F0 m pc ls st) := by
  obtain ⟨S, ⟨hK, hK2⟩, -, ⟨hg, hgm, hd1, hd2, hd3⟩, ⟨hA1, hA2, hA3⟩, -⟩ := F
  obtain ⟨hP, hP2, hO, hS⟩ := V
  refine ps_wri (k := 0) S hM cw hK hP hS hA1 (by omega) ps_E_0 rfl hn hsize hst hW hdg hf (fun r u H1 locs1 hp hP1 hS1 hk1 => kk r u H1 locs1 hp ⟨hP1, pl_keep hP2 (fun j hj => hk1 _ (pl_lt hP2 hj) (fun h => hd1 _ h ⟨j, hj, rfl⟩)), ps_oE_kept hO (hk1 ao (ps_oE_lt hO) hd2), hS1⟩)
/-- the reference is called: it writes -/
theorem pw_mw {post : Int32 → pm_τ → Prop} (F : pw_F p l s m args c D cI cJ cT D2 cI2 cZ g gm ao b L xs aK aV vo m1 m2 m3) (V : pw_V s D cI cJ cT D2 cI2 cZ g gm ao H locs σ τ f) (hM : Met l y ws rm (ps_Pc D2 pm_cl (pm_tys cI2 cZ) 13 gm (pm_E gm cI2 cZ τ) (.ref (gm 0) :: As)) (ps_Qi (S := pm_τ) D2 pm_cl 13 gm (fun u => pm_E gm cI2 cZ u) post) 0 0 (ps_wA 13 gm)) (cw : CallW R s args R_Law R_Model index y bytes maxL ret ws rm 0 0 na)
    (hn : As.length = na) (hsize : ls.size = 7) (hst : st = As.reverse ++ .ref (gm 0) :: rest) (hW : (rest.map fun v => v.category).sum ≤ 8) (hdg : decode b_Law_law pc = .ok (.invokevirtual index, 3)) (hf : cells ≤ R.cells ∧ slots ≤ R.slots)
    (kk : ∀ (r : Int32) (u : pm_τ) (H1 : Heap) (locs1 : List Loc), post r u → pw_V s D cI cJ cT D2 cI2 cZ g gm ao H1 locs1 σ u f → W p l e R s m args below meth c H1 locs1 cells slots Q (F0 m (pc + 3) ls (.int r :: rest))) : W p l e R s m args below meth c H locs cells slots Q (F0 m pc ls st) := by
  obtain ⟨S, ⟨hK, hK2⟩, -, ⟨hg, hgm, hd1, hd2, hd3⟩, ⟨hA1, hA2, hA3⟩, -⟩ := F
  obtain ⟨hP, hP2, hO, hS⟩ := V
  refine ps_wri (k := 0) S hM cw hK2 hP2 hS hA2 (by omega) pm_E_0 rfl hn hsize hst hW hdg hf (fun r u H1 locs1 hp hP1 hS1 hk1 => kk r u H1 locs1 hp ⟨pl_keep hP (fun j hj => hk1 _ (pl_lt hP hj) (fun h => hd1 _ ⟨j, hj, rfl⟩ h)), hP1, ps_oE_kept hO (hk1 ao (ps_oE_lt hO) hd3), hS1⟩)
/-- the reference is called: it only reads -/
theorem pw_mr {post : Int32 → Prop} (F : pw_F p l s m args c D cI cJ cT D2 cI2 cZ g gm ao b L xs aK aV vo m1 m2 m3) (V : pw_V s D cI cJ cT D2 cI2 cZ g gm ao H locs σ τ f) (hM : Met l y ws rm (ps_Pc D2 pm_cl (pm_tys cI2 cZ) 13 gm (pm_E gm cI2 cZ τ) (.ref (gm 0) :: As)) (vp_Si post) 0 0 (fun _ => False)) (cw : CallW R s args R_Law R_Model index y bytes maxL ret ws rm 0 0 na)
    (hn : As.length = na) (hsize : ls.size = 7) (hst : st = As.reverse ++ .ref (gm 0) :: rest) (hW : (rest.map fun v => v.category).sum ≤ 8) (hdg : decode b_Law_law pc = .ok (.invokevirtual index, 3)) (hf : cells ≤ R.cells ∧ slots ≤ R.slots)
    (kk : ∀ r : Int32, post r → W p l e R s m args below meth c H locs cells slots Q (F0 m (pc + 3) ls (.int r :: rest))) : W p l e R s m args below meth c H locs cells slots Q (F0 m pc ls st) :=
  ps_roi (k := 0) F.1 hM cw F.2.1.2 V.2.1 (by omega) pm_E_0 rfl hn hsize hst hW hdg hf kk
/-- one of the law's own three methods is called -/
theorem pw_ww {post : Int32 → ps_σ × (Nat → Int64) → Prop} {hh : List (Nat × Nat × Nat × Nat)} (F : pw_F p l s m args c D cI cJ cT D2 cI2 cZ g gm ao b L xs aK aV vo m1 m2 m3) (V : pw_V s D cI cJ cT D2 cI2 cZ g gm ao H locs σ τ f) (hM : Met l y ws rm (ps_PcL D cI cJ cT g σ ao f aK aV vo m1 m2 m3 As) (ps_QL D cI cJ cT g ao post) 1 6 (ps_wB g ao))
    (hw : ws = Cond.codeWith y bytes maxL ret hh :: ps_tb) (hin : Cond.codeWith y bytes maxL ret hh ∈ ps_tb) (hst : Cond.static y ∈ ps_tb) (hini : Cond.initialized y.cls ∈ ps_tb) (hl : Cond.methodLink R_Law index y ∈ ps_tb)
    (hd : y.cls ≠ "java/lang/invoke/MethodHandle" ∧ y.cls ≠ "java/lang/invoke/VarHandle" ∧ (parseMethodDescriptor y.desc).map (fun d => d.parameters.length) = some na) (hrc : rm.cells = 1) (hrs : rm.slots = 6) (hRm : rm.frames + 1 ≤ R.frames ∧ 8 + (maxL + 11) + rm.locals ≤ R.locals)
    (hn : As.length = na) (hsize : ls.size = 7) (hsk : st = As.reverse ++ rest) (hW : (rest.map fun v => v.category).sum ≤ 8) (hdg : decode b_Law_law pc = .ok (.invokestatic index, 3)) (hf : cells + 1 ≤ R.cells ∧ slots + 6 ≤ R.slots)
    (kk : ∀ (r : Int32) (u : ps_σ) (o : Nat → Int64) (H1 : Heap) (locs1 : List Loc), post r (u, o) → pw_V s D cI cJ cT D2 cI2 cZ g gm ao H1 locs1 u τ o → W p l e R s m args below meth c H1 locs1 (cells + 1) (slots + 6) Q (F0 m (pc + 3) ls (.int r :: rest))) : W p l e R s m args below meth c H locs cells slots Q (F0 m pc ls st) := by
  obtain ⟨S, ⟨hK, hK2⟩, -, ⟨hg, hgm, hd1, hd2, hd3⟩, ⟨hA1, hA2, hA3⟩, hst0, hStr, hThr⟩ := F
  obtain ⟨hP, hP2, hO, hS⟩ := V
  have hT := S.2.2.2.2
  have hStr1 : ps_Str aK aV vo ps_F s H := (hStr.kept (fun a h1 h2 => hS.2.1 a h1 h2)).narrow (fun _ h => h.elim)
  have hThr1 : ps_Thr m1 m2 m3 ps_F s H := (hThr.kept (fun a h1 h2 => hS.2.1 a h1 h2)).narrow (fun _ h => h.elim)
  have hG : GoodIn ps_tb ws := fun w h => by
    rw [hw] at h
    rcases List.mem_cons.mp h with rfl | h
    · exact ps_tb_ok hin
    · exact ps_tb_ok h
  have hB : ∀ q, ps_wB g ao q → pw_A s q := fun q h => by
    rcases h with h | rfl
    · exact hA1 q h
    · exact hA3
  refine va_calli (ps_runSW (As := As) (rest := rest) S hM hw hG (hT _ hst) (hT _ hini) (hT _ hl) hd hrc hrs hRm ⟨ps_blindL _ _ _ _ _ _ _ _ _ _ _ _ _ _ _, fun U hU hWm => ⟨rfl, ⟨⟨⟨by rw [hU]; exact hP, va_K.moved hWm.alike hK⟩, by rw [hU]; exact hO⟩, hStr1.at hU hWm⟩, hThr1.at hU hWm⟩⟩ rfl hn hsize hsk (lv_room hW) hdg hf) hS (fun q _ h => hB q h) hB (fun r u t H1 locs1 ht _ hp hB1 _ hk1 hS1 => ?_)
  obtain ⟨hP1, hO1⟩ := hB1
  rw [ht] at hP1 hO1
  exact kk r u.1 u.2 H1 locs1 hp ⟨hP1, pl_keep hP2 (fun j hj => hk1 _ (pl_lt hP2 hj) (fun h => by
    rcases h with h | h
    · exact hd1 _ h ⟨j, hj, rfl⟩
    · exact hd3 ⟨j, hj, h.symm⟩)), hO1, hS1⟩
/-- the answer that the class gave -/
theorem pw_out (F : pw_F p l s m args c D cI cJ cT D2 cI2 cZ g gm ao b L xs aK aV vo m1 m2 m3) (V : pw_V s D cI cJ cT D2 cI2 cZ g gm ao H locs σ τ f) (hdg : decode b_Law_law pc = .ok (.laload, 1))
    (kk : W p l e R s m args below meth c H locs cells slots Q (F0 m (pc + 1) ls (.long (f 0) :: rest))) : W p l e R s m args below meth c H locs cells slots Q (F0 m pc ls (.int (nI 0) :: .ref ao :: rest)) := by
  obtain ⟨⟨hx, hb, -⟩, ⟨hK, -⟩, -⟩ := F
  refine va_lald hx hb hK V.2.2.1 0 1 rfl rfl (vp_in_nI (n := 0) (by decide) (by decide)) hdg ?_
  rw [nI_clamp (by decide)]
  exact kk
end PwRows
section PwBool
variable {p : Program} {l : Launch} {e : Env} {R : Room} {s : State} {m : MethodId} {args : Array Value} {below : List Frame} {meth : Method} {c : Code} {H : Heap} {locs : List Loc} {cells slots : Nat} {Q : State → Prop} {pc : Nat} {ls : Array Slot} {rest : List Value}
theorem pw_bool (hx : p.tables.exec = Jvm.exec) (hb : c.code = b_Law_law) {x : Int32} (d0 : decode b_Law_law pc = .ok (.ifCond .eq 7, 3)) (d1 : decode b_Law_law (pc + 3) = .ok (.iconst 1, 1)) (d2 : decode b_Law_law (pc + 4) = .ok (.goto 4, 3)) (d3 : decode b_Law_law (pc + 7) = .ok (.iconst 0, 1))
    (kk : W p l e R s m args below meth c H locs cells slots Q (F0 m (pc + 8) ls (.int (ps_bI (!decide (x = 0))) :: rest))) : W p l e R s m args below meth c H locs cells slots Q (F0 m pc ls (.int x :: rest)) := by
  refine lv_if_eq (tgt := pc + 7) hx hb d0 (by omega) (fun h => ?_) (fun h => ?_)
  · refine lv_iconst (v := nI 0) hx hb d3 (by decide) ?_
    rw [show (!decide (x = 0)) = false by simp [h]] at kk
    exact kk
  · refine lv_iconst (v := nI 1) hx hb d1 (by decide) ?_
    refine lv_goto (tgt := pc + 8) hx hb d2 (by omega) ?_
    rw [show (!decide (x = 0)) = true by simp [h]] at kk
    exact kk
end PwBool
theorem pw_sw (x : Int32) : (x.toInt < 0 ∨ 10 < x.toInt) ∨ ∃ i : Nat, i < 11 ∧ x = nI i := by
  rcases pk_ix x (n := 11) (by decide) with h | h | h
  · exact Or.inl (Or.inl (by simpa using Int32.lt_iff_toInt_lt.mp h))
  · refine Or.inl (Or.inr ?_)
    have h1 := Int32.le_iff_toInt_le.mp h
    rw [nI_toInt (by decide)] at h1
    omega
  · exact Or.inr h
theorem pw_end {L k : Nat} (hL : L ≤ 2560) (hk : 5 * k ≤ L) : Int32.ofNat L - nI 5 < nI (5 * k) ↔ L < 5 * k + 5 := by
  rcases Nat.lt_or_ge L 5 with h | h
  · have ek : k = 0 := by omega
    subst ek
    rcases (show L = 0 ∨ L = 1 ∨ L = 2 ∨ L = 3 ∨ L = 4 by omega) with rfl | rfl | rfl | rfl | rfl <;> decide
  · obtain ⟨q, rfl⟩ : ∃ q, L = q + 5 := ⟨L - 5, by omega⟩
    have e1 : Int32.ofNat (q + 5) - nI 5 = nI q := by
      rw [show Int32.ofNat (q + 5) = nI q + nI 5 from (nI_add q 5).symm]
      exact Int32.add_sub_cancel _ _
    rw [e1, nI_ltI (by omega) (by omega)]
    omega
