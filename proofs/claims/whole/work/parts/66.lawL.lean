/-! THE LAW's LOOP -/
theorem pl_R.up {σ : ps_σ} {τ : pm_τ} {c : Nat} (h : pl_R σ τ c) : pl_R σ τ (c + 1) := ⟨h.1, h.2.1, h.2.2.1, h.2.2.2.1, h.2.2.2.2.1.cg (Nat.le_succ c) rfl rfl rfl, h.2.2.2.2.2⟩
section PwLoop
variable {p : Program} {l : Launch} {e : Env} {s : State} {m : MethodId} {args : Array Value} {below : List Frame} {meth : Method} {c : Code} {Q : State → Prop} {D : va_G} {cI cJ cT : ClassId} {D2 : va_G} {cI2 cZ : ClassId} {g gm : Nat → Nat} {ao b L : Nat} {xs : Nat → Int32} {aK aV : Nat} {vo : Option Nat} {m1 m2 m3 : Nat}
theorem pw_loop (F : pw_F p l s m args c D cI cJ cT D2 cI2 cZ g gm ao b L xs aK aV vo m1 m2 m3) (fin : ∀ (H : Heap) (locs : List Loc) (ls : Array Slot) (cells slots : Nat), va_S (pw_A s) s.heap H locs → cells ≤ 601024 → slots ≤ 7293034 → W p l e room_1 s m args below meth c H locs cells slots Q (F0 m 666 ls [])) :
    ∀ (n k : Nat) (σ : ps_σ) (τ : pm_τ) (f : Nat → Int64) (H : Heap) (locs : List Loc) (ls : Array Slot), L - 5 * k ≤ n → 5 * k ≤ L → pw_V s D cI cJ cT D2 cI2 cZ g gm ao H locs σ τ f → pl_R σ τ k → lv_has ls 7 (pw_lv b g gm ao k) → W p l e room_1 s m args below meth c H locs (47 + k) (33618 + 6 * k) Q (F0 m 23 ls []) := by
  have hF := F
  obtain ⟨⟨hx, hb, hml, hown, hT⟩, -, ⟨hX, hbl, hL⟩, -⟩ := hF
  intro n
  induction n using Nat.strongRecOn with
  | ind n ihn =>
  intro k σ τ f H locs ls hn hk V hR hl
  refine lv_iload hx hb d_Law_law_23 (lv_at hl 0 rfl) ?_
  refine lv_aload_n hx hb d_Law_law_25 rfl (lv_at hl 4 rfl) ?_
  refine va_slen hx hb hX hbl (fun h => Nat.not_lt.mpr h hbl) V.2.2.2 d_Law_law_26 ?_
  refine lv_iconst (v := nI 5) hx hb d_Law_law_27 (by decide) ?_
  refine lv_isub hx hb d_Law_law_28 ?_
  refine lv_icmp_gt (tgt := 666) hx hb d_Law_law_29 (by decide) (fun _ => fin _ _ _ _ _ V.2.2.2 (by omega) (by omega)) (fun h => ?_)
  have hk5 : 5 * k + 5 ≤ L := Nat.not_lt.mp (fun z => h ((pw_end hL hk).mpr z))
  have hf : 47 + k + 1 ≤ room_1.cells ∧ 33618 + 6 * k + 6 ≤ room_1.slots := ⟨by show 47 + k + 1 ≤ 601024; omega, by show 33618 + 6 * k + 6 ≤ 7293034; omega⟩
  have ih : ∀ (u : ps_σ) (v : pm_τ) (o : Nat → Int64) (H : Heap) (locs : List Loc) (ls : Array Slot), pw_V s D cI cJ cT D2 cI2 cZ g gm ao H locs u v o → pl_R u v (k + 1) → lv_has ls 7 (pw_lv b g gm ao k) → W p l e room_1 s m args below meth c H locs (47 + k + 1) (33618 + 6 * k + 6) Q (F0 m 660 ls []) := by
    intro u v o H locs ls V hR hl
    refine lv_iinc (v := nI (5 * (k + 1))) (lv' := pw_lv b g gm ao (k + 1)) hx hb d_Law_law_660 hl (k := 0) rfl (nI_add (5 * k) 5) (by decide) rfl (fun ls hl => ?_)
    refine lv_goto (tgt := 23) hx hb d_Law_law_663 (by decide) ?_
    exact ihn (L - 5 * (k + 1)) (by omega) (k + 1) u v o H locs ls (Nat.le_refl _) (by omega) V hR hl
  refine lv_aload_n hx hb d_Law_law_32 rfl (lv_at hl 4 rfl) ?_
  refine lv_iload hx hb d_Law_law_33 (lv_at hl 0 rfl) ?_
  refine va_sld hx hb hX hbl (fun h => Nat.not_lt.mpr h hbl) V.2.2.2 (vp_in_nI (n := 5 * k) (by omega) (by omega)) d_Law_law_35 ?_
  refine lv_bipush (v := nI 15) hx hb d_Law_law_36 (by decide) ?_
  refine lv_iand hx hb d_Law_law_38 ?_
  rcases pw_sw (xs (nI (5 * k)).toNatClampNeg &&& nI 15) with h | ⟨i, hi, ei⟩
  · refine lv_tableOut (tgt := 660) hx hb d_Law_law_39 h (by decide) ?_
    exact W.widen (Nat.le_add_right _ _) (Nat.le_add_right _ _) (ih _ _ _ _ _ _ V (pl_R.up hR) hl)
  · refine ps_seti ei ?_
    rcases (show i = 0 ∨ i = 1 ∨ i = 2 ∨ i = 3 ∨ i = 4 ∨ i = 5 ∨ i = 6 ∨ i = 7 ∨ i = 8 ∨ i = 9 ∨ i = 10 by omega) with rfl | rfl | rfl | rfl | rfl | rfl | rfl | rfl | rfl | rfl | rfl
    · refine lv_tableIn (tgt := 96) (off := 57) hx hb d_Law_law_39 (by decide) (by decide) (by decide) (by decide) ?_
      exact pw_b_type F V hR hk5 hf hl ih
    · refine lv_tableIn (tgt := 165) (off := 126) hx hb d_Law_law_39 (by decide) (by decide) (by decide) (by decide) ?_
      exact pw_b_thing F V hR hk5 hf hl ih
    · refine lv_tableIn (tgt := 214) (off := 175) hx hb d_Law_law_39 (by decide) (by decide) (by decide) (by decide) ?_
      exact pw_b_forget F V hR hk5 hf hl ih
    · refine lv_tableIn (tgt := 239) (off := 200) hx hb d_Law_law_39 (by decide) (by decide) (by decide) (by decide) ?_
      exact pw_b_got F V hR hk5 hf hl ih
    · refine lv_tableIn (tgt := 300) (off := 261) hx hb d_Law_law_39 (by decide) (by decide) (by decide) (by decide) ?_
      exact pw_b_answer F V hR hk5 hf hl ih
    · refine lv_tableIn (tgt := 356) (off := 317) hx hb d_Law_law_39 (by decide) (by decide) (by decide) (by decide) ?_
      exact pw_b_told F V hR hk5 hf hl ih
    · refine lv_tableIn (tgt := 381) (off := 342) hx hb d_Law_law_39 (by decide) (by decide) (by decide) (by decide) ?_
      exact pw_b_row F V hR hk5 hf hl ih
    · refine lv_tableIn (tgt := 465) (off := 426) hx hb d_Law_law_39 (by decide) (by decide) (by decide) (by decide) ?_
      exact pw_b_fetch F V hR hk5 hf hl ih
    · refine lv_tableIn (tgt := 549) (off := 510) hx hb d_Law_law_39 (by decide) (by decide) (by decide) (by decide) ?_
      exact pw_b_set F V hR hk5 hf hl ih
    · refine lv_tableIn (tgt := 586) (off := 547) hx hb d_Law_law_39 (by decide) (by decide) (by decide) (by decide) ?_
      exact pw_b_about F V hR hk5 hf hl ih
    · refine lv_tableIn (tgt := 623) (off := 584) hx hb d_Law_law_39 (by decide) (by decide) (by decide) (by decide) ?_
      exact pw_b_held F V hR hk5 hf hl ih
end PwLoop
