/-! the shelf itself: its constructor needs the word of its array of things -/
def ps_CcT (D : va_G) (cl : List vw_C) (tys : List (ClassId × FieldType)) (ci : Nat) (fs : List Value) (a sz : Nat) : Array Value → State → Prop :=
  va_Pc [.ref a] (fun U => U.heap.size = sz ∧ va_P D cl [(a, .inr (ci, fs))] U.heap ∧ va_K D cl tys U ∧ va_AO "PieceShelf$Thing" U)
theorem ps_CTblind (D : va_G) (cl : List vw_C) (tys : List (ClassId × FieldType)) (ci : Nat) (fs : List Value) (a sz : Nat) : FrameBlind (ps_CcT D cl tys ci fs a sz) := fun ar U f mk q => by
  obtain ⟨q0, q1, qP, qK, qO⟩ := q
  exact ⟨q0, q1, qP, va_K.moved (u := U) (U := U.calling f mk ar) (Vm.Alike.refl U.vm) qK, va_AO.moved (u := U) (U := U.calling f mk ar) (Vm.Alike.refl U.vm) qO⟩
section PsCtorT
variable {p : Program} {l : Launch} {e : Env} {R : Room} {s : State} {m : MethodId} {args : Array Value} {below : List Frame} {meth : Method} {c : Code} {H : Heap} {locs : List Loc} {cells slots : Nat} {Q : State → Prop}
variable {cc bytes : ByteArray} {pc nL maxL index na ci : Nat} {ls : Array Slot} {rest st As : List Value} {D : va_G} {cl : List vw_C} {tys : List (ClassId × FieldType)} {H0 : Heap} {A : Nat → Prop} {ws w0 : va_W}
variable {y : MethodName} {Ts wsy : List Cond} {rm : Room} {own : String}
/-- a constructor runs on the cell that was made last -/
theorem ps_ctorT {mc ms q : Nat} {fs : List Value} {ww : (Nat → Nat) → va_W} (S : CallFix p m c cc nL s args Ts own) (hM : Met l y wsy rm (ps_CcT D cl tys ci fs q H.size) (ps_Cq D cl q H.size ww) mc ms (ps_A q H.size)) (cw : CallB R s args own index y bytes maxL none wsy rm mc ms 0 ∧ y.name = "<init>" ∧ (Cond.instanceMethod y).before args s = true)
    (hK : va_K D cl tys s) (hO : va_AO "PieceShelf$Thing" s) (hP : va_P D cl (w0 ++ [(q, .inr (ci, fs))]) H) (hD : va_D A (w0 ++ [(q, .inr (ci, fs))])) (hS : va_S A H0 H locs) (hA : ∀ q, H0.size ≤ q → A q) (hsize : ls.size = nL) (hW : (rest.map fun v => v.category).sum ≤ 8)
    (hdg : decode cc pc = .ok (.invokespecial index, 3)) (hf : cells + mc ≤ R.cells ∧ slots + ms ≤ R.slots)
    (kk : ∀ (g : Nat → Nat) (H1 : Heap) (locs1 : List Loc), g 0 = q → va_P D cl (w0 ++ ww g) H1 → va_D A (w0 ++ ww g) → va_S A H0 H1 locs1 → W p l e R s m args below meth c H1 locs1 (cells + mc) (slots + ms) Q (F0 m (pc + 3) ls rest)) : W p l e R s m args below meth c H locs cells slots Q (F0 m pc ls (.ref q :: rest)) := by
  have hl : (w0 ++ [(q, .inr (ci, fs))])[w0.length]? = some (q, .inr (ci, fs)) := by simp
  have hPq : va_P D cl [(q, .inr (ci, fs))] H := fun k x hx => by
    have z1 : k < 1 := (List.getElem?_eq_some_iff.mp hx).1
    rw [show k = 0 by omega] at hx
    cases hx
    exact hP w0.length _ hl
  have hF : ∀ x, ps_A q H.size x → A x := fun x hx => by
    rcases hx with rfl | hx
    · exact hD.2 w0.length _ hl
    · exact hA x (Nat.le_trans hS.1 hx)
  have hw : ∀ (k : Nat) (x : Nat × va_E), w0[k]? = some x → ¬ ps_A q H.size x.1 ∧ x.1 < H.size := fun k x hx => by
    have z1 : k < w0.length := (List.getElem?_eq_some_iff.mp hx).1
    have h1 : (w0 ++ [(q, .inr (ci, fs))])[k]? = some x := by rw [List.getElem?_append_left z1]; exact hx
    have h2 := (hP k x h1).lt
    refine ⟨fun h => ?_, h2⟩
    rcases h with h | h
    · have := hD.1 k w0.length _ _ h1 hl h
      omega
    · omega
  refine va_callv (va_runI (As := []) (rest := rest) S hM cw ⟨ps_CTblind _ _ _ _ _ _ _, fun U hU hW => ⟨rfl, by rw [hU], by rw [hU]; exact hPq, va_K.moved hW.alike hK, va_AO.moved hW.alike hO⟩⟩ rfl rfl hsize rfl (lv_room hW) hdg hf) hS (fun x _ h => hF x h) hF (fun g t H1 locs1 ht hvm hg hB hz1 hk1 hS1 => ?_)
  obtain ⟨hP1, hD1⟩ := hB
  rw [ht] at hP1
  refine kk g H1 locs1 hg ?_ ?_ hS1
  · refine va_P.app (va_P.kept (ws := w0) (H := H) (fun k x hx => ?_) (fun k x hx => hk1 x.1 (hw k x hx).2 (hw k x hx).1)) hP1
    have z1 : k < w0.length := (List.getElem?_eq_some_iff.mp hx).1
    exact hP k x (by rw [List.getElem?_append_left z1]; exact hx)
  · refine va_D.app ⟨fun i j p q h1 h2 h3 => ?_, fun k x hx => ?_⟩ (hD1.weaken (fun k x _ h => hF _ h)) (fun i j x z h1 h2 h3 => ?_)
    · have z1 : i < w0.length := (List.getElem?_eq_some_iff.mp h1).1
      have z2 : j < w0.length := (List.getElem?_eq_some_iff.mp h2).1
      exact hD.1 i j p q (by rw [List.getElem?_append_left z1]; exact h1) (by rw [List.getElem?_append_left z2]; exact h2) h3
    · have z1 : k < w0.length := (List.getElem?_eq_some_iff.mp hx).1
      exact hD.2 k x (by rw [List.getElem?_append_left z1]; exact hx)
    · exact (hw i x h1).1 (by rw [h3]; exact hD1.2 j z h2)
end PsCtorT
def ps_σ0 : ps_σ := (fun k j => if k = 0 then (if j = 3 then nI 8000 else if j = 4 then nI 100 else 0) else if k = 1 then nI 0 else if k = 6 then (if j = 0 then -1 else 0) else if j = 1 then -1 else nI 0, fun _ => 0, fun _ _ => 0, fun _ _ => 0)
theorem ps_σ0_03 : ps_σ0.1 0 3 = nI 8000 := rfl
theorem ps_σ0_04 : ps_σ0.1 0 4 = nI 100 := rfl
theorem ps_σ0_1 (j : Nat) : ps_σ0.1 1 j = nI 0 := rfl
theorem ps_σ0_60 : ps_σ0.1 6 0 = -1 := rfl
theorem ps_σ0_6 {j : Nat} (h : j ≠ 0) : ps_σ0.1 6 j = 0 := by
  show (if j = 0 then (-1 : Int32) else 0) = 0
  rw [if_neg h]
theorem ps_σ0_t1 {t : Nat} : ps_σ0.1 (9 + t) 1 = -1 := by
  show (if 9 + t = 0 then _ else if 9 + t = 1 then _ else if 9 + t = 6 then _ else if 1 = 1 then (-1 : Int32) else nI 0) = -1
  rw [if_neg (by omega), if_neg (by omega), if_neg (by omega), if_pos rfl]
theorem ps_σ0_t2 {t : Nat} : ps_σ0.1 (9 + t) 2 = nI 0 := by
  show (if 9 + t = 0 then _ else if 9 + t = 1 then _ else if 9 + t = 6 then _ else if 2 = 1 then (-1 : Int32) else nI 0) = nI 0
  rw [if_neg (by omega), if_neg (by omega), if_neg (by omega), if_neg (by omega)]
theorem ps_Dfst {A : Nat → Prop} {ws ws2 : va_W} (hD : va_D A ws) (h : ws.map (fun x => x.1) = ws2.map (fun x => x.1)) : va_D A ws2 := by
  have k1 : ∀ (i : Nat) (q : Nat × va_E), ws2[i]? = some q → ∃ q' : Nat × va_E, ws[i]? = some q' ∧ q'.1 = q.1 := fun i q hq => by
    have h1 : (ws2.map (fun x => x.1))[i]? = some q.1 := by rw [List.getElem?_map, hq]; rfl
    rw [← h, List.getElem?_map] at h1
    rcases hw : ws[i]? with _ | q'
    · rw [hw] at h1; cases h1
    · rw [hw] at h1; exact ⟨q', rfl, Option.some.inj h1⟩
  refine ⟨fun i j p q h1 h2 h3 => ?_, fun k q hq => ?_⟩
  · obtain ⟨p', a1, a2⟩ := k1 i p h1
    obtain ⟨q', b1, b2⟩ := k1 j q h2
    exact hD.1 i j p' q' a1 b1 (by rw [a2, b2, h3])
  · obtain ⟨q', b1, b2⟩ := k1 k q hq
    rw [← b2]; exact hD.2 k q' b1
theorem ps_wl33 (g : Nat → Nat) (E : Nat → va_E) : ps_wl 33 g E = [(g 0, E 0), (g 1, E 1), (g 2, E 2), (g 3, E 3), (g 4, E 4), (g 5, E 5), (g 6, E 6), (g 7, E 7), (g 8, E 8), (g 9, E 9), (g 10, E 10), (g 11, E 11), (g 12, E 12), (g 13, E 13), (g 14, E 14), (g 15, E 15), (g 16, E 16), (g 17, E 17), (g 18, E 18), (g 19, E 19), (g 20, E 20), (g 21, E 21), (g 22, E 22), (g 23, E 23), (g 24, E 24), (g 25, E 25), (g 26, E 26), (g 27, E 27), (g 28, E 28), (g 29, E 29), (g 30, E 30), (g 31, E 31), (g 32, E 32)] := rfl
theorem ps_D33 {A : Nat → Prop} {ws : va_W} {g : Nat → Nat} (E : Nat → va_E) (hD : va_D A ws) (h : ws.map (fun x => x.1) = [g 0, g 1, g 2, g 3, g 4, g 5, g 9, g 15, g 24, g 10, g 16, g 25, g 11, g 17, g 26, g 12, g 18, g 27, g 13, g 19, g 28, g 14, g 20, g 29, g 6, g 7, g 8, g 21, g 30, g 22, g 31, g 23, g 32]) : va_D A (ps_wl 33 g E) := by
  have h1 : va_D A [(g 0, E 0), (g 1, E 1), (g 2, E 2), (g 3, E 3), (g 4, E 4), (g 5, E 5), (g 9, E 9), (g 15, E 15), (g 24, E 24), (g 10, E 10), (g 16, E 16), (g 25, E 25), (g 11, E 11), (g 17, E 17), (g 26, E 26), (g 12, E 12), (g 18, E 18), (g 27, E 27), (g 13, E 13), (g 19, E 19), (g 28, E 28), (g 14, E 14), (g 20, E 20), (g 29, E 29), (g 6, E 6), (g 7, E 7), (g 8, E 8), (g 21, E 21), (g 30, E 30), (g 22, E 22), (g 31, E 31), (g 23, E 23), (g 32, E 32)] := ps_Dfst hD (by rw [h]; rfl)
  exact h1.sub (ws' := ps_wl 33 g E) [0, 1, 2, 3, 4, 5, 24, 25, 26, 6, 9, 12, 15, 18, 21, 7, 10, 13, 16, 19, 22, 27, 29, 31, 8, 11, 14, 17, 20, 23, 28, 30, 32] (by decide) (by rw [ps_wl33]; rfl)
