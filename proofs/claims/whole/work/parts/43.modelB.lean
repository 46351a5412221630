theorem ml_Model_76 : (.methodLink R_Model 76 y_Model_heldOf : Cond) ∈ ps_tb := ps_in 639 (by decide +kernel) rfl
theorem co_Model_heldOf : (.code y_Model_heldOf b_Model_heldOf 4 (some .int) : Cond) ∈ ps_tb := ps_in 642 (by decide +kernel) rfl
theorem im_Model_heldOf : (.instanceMethod y_Model_heldOf : Cond) ∈ ps_tb := ps_in 641 (by decide +kernel) rfl
theorem se_Model_heldOf : (.selects R_Model y_Model_heldOf y_Model_heldOf : Cond) ∈ ps_tb := ps_inS 19 (by decide +kernel) rfl
theorem ml_Model_152 : (.methodLink R_Model 152 y_Model_spansOf : Cond) ∈ ps_tb := ps_in 713 (by decide +kernel) rfl
theorem co_Model_spansOf : (.code y_Model_spansOf b_Model_spansOf 4 (some .int) : Cond) ∈ ps_tb := ps_in 716 (by decide +kernel) rfl
theorem im_Model_spansOf : (.instanceMethod y_Model_spansOf : Cond) ∈ ps_tb := ps_in 715 (by decide +kernel) rfl
theorem se_Model_spansOf : (.selects R_Model y_Model_spansOf y_Model_spansOf : Cond) ∈ ps_tb := ps_inS 30 (by decide +kernel) rfl
theorem ml_Model_155 : (.methodLink R_Model 155 y_Model_firstGap : Cond) ∈ ps_tb := ps_in 717 (by decide +kernel) rfl
theorem co_Model_firstGap : (.code y_Model_firstGap b_Model_firstGap 3 (some .int) : Cond) ∈ ps_tb := ps_in 720 (by decide +kernel) rfl
theorem im_Model_firstGap : (.instanceMethod y_Model_firstGap : Cond) ∈ ps_tb := ps_in 719 (by decide +kernel) rfl
theorem se_Model_firstGap : (.selects R_Model y_Model_firstGap y_Model_firstGap : Cond) ∈ ps_tb := ps_inS 31 (by decide +kernel) rfl
theorem fl_Model_39 : (.fieldLink R_Model 39 R_Model "kind" "I" : Cond) ∈ ps_tb := ps_in 533 (by decide +kernel) rfl
theorem fl_Model_111 : (.fieldLink R_Model 111 R_Model "rows" "I" : Cond) ∈ ps_tb := ps_in 535 (by decide +kernel) rfl
theorem fl_Model_124 : (.fieldLink R_Model 124 R_Model "places" "I" : Cond) ∈ ps_tb := ps_in 538 (by decide +kernel) rfl
theorem fl_Model_127 : (.fieldLink R_Model 127 R_Model "heldThen" "I" : Cond) ∈ ps_tb := ps_in 539 (by decide +kernel) rfl
theorem fl_Model_118 : (.fieldLink R_Model 118 R_Model "plans" "I" : Cond) ∈ ps_tb := ps_in 540 (by decide +kernel) rfl
theorem fl_Model_121 : (.fieldLink R_Model 121 R_Model "planCost" "I" : Cond) ∈ ps_tb := ps_in 543 (by decide +kernel) rfl
theorem fl_Model_136 : (.fieldLink R_Model 136 R_Model "thing" "I" : Cond) ∈ ps_tb := ps_in 534 (by decide +kernel) rfl
theorem fl_Model_42 : (.fieldLink R_Model 42 R_Model "rowFrom" "[I" : Cond) ∈ ps_tb := ps_in 536 (by decide +kernel) rfl
theorem fl_Model_45 : (.fieldLink R_Model 45 R_Model "rowTo" "[I" : Cond) ∈ ps_tb := ps_in 537 (by decide +kernel) rfl
theorem fl_Model_48 : (.fieldLink R_Model 48 R_Model "planFrom" "[I" : Cond) ∈ ps_tb := ps_in 541 (by decide +kernel) rfl
theorem fl_Model_51 : (.fieldLink R_Model 51 R_Model "planTo" "[I" : Cond) ∈ ps_tb := ps_in 542 (by decide +kernel) rfl
theorem cd_Model_firstGap : y_Model_firstGap.cls = R_Model ∧ y_Model_firstGap.cls ≠ "java/lang/invoke/MethodHandle" ∧ y_Model_firstGap.cls ≠ "java/lang/invoke/VarHandle" ∧ (parseMethodDescriptor y_Model_firstGap.desc).map (fun d => d.parameters.length) = some 1 := by decide +kernel
theorem cd_Model_heldOf : y_Model_heldOf.cls = R_Model ∧ y_Model_heldOf.cls ≠ "java/lang/invoke/MethodHandle" ∧ y_Model_heldOf.cls ≠ "java/lang/invoke/VarHandle" ∧ (parseMethodDescriptor y_Model_heldOf.desc).map (fun d => d.parameters.length) = some 1 := by decide +kernel
theorem cd_Model_spansOf : y_Model_spansOf.cls = R_Model ∧ y_Model_spansOf.cls ≠ "java/lang/invoke/MethodHandle" ∧ y_Model_spansOf.cls ≠ "java/lang/invoke/VarHandle" ∧ (parseMethodDescriptor y_Model_spansOf.desc).map (fun d => d.parameters.length) = some 1 := by decide +kernel
def rm_Model_heldOf : Room := { frames := 0, cells := 0, slots := 0, locals := 0 }
abbrev ws_Model_heldOf : List Cond := .code y_Model_heldOf b_Model_heldOf 4 (some .int) :: ps_tb
set_option maxHeartbeats 4000000 in
set_option maxRecDepth 100000 in
theorem c_Model_heldOf {l : Launch} {D : va_G} {g : Nat → Nat} {cI cZ : ClassId} {σ : pm_τ} (t : Nat) (ht6 : t < 6) : Met l y_Model_heldOf ws_Model_heldOf rm_Model_heldOf (ps_Pc D pm_cl (pm_tys cI cZ) 13 g (pm_E g cI cZ σ) [.ref (g 0), .int (nI t)]) (vp_Si (fun r => r = nI (ps_cn (pm_SS (σ.2.2 4) t) 4096))) 0 0 (fun _ => False) := by
  refine ps_met (by decide) ?_
  intro p e s m args below meth c hx hb hr hml hts hown hlocks hname hv Q hQ
  obtain ⟨ha, hP, hK⟩ := hv
  have hT : ∀ w ∈ ps_tb, w.before args s = true := fun w h => hts w (List.mem_cons_of_mem _ h)
  have hown : s.vm.findClass R_Model = some m.cls := hown
  refine ps_enter ha (Nat.le_of_ble_eq_true rfl) (fun ls hl => ?_)
  have hl : lv_has ls 4 [(0, .ref (g 0)), (1, .int (nI t))] := hl
  refine lv_iconst (v := nI 0) hx hb d_Model_heldOf_0 (by decide) ?_
  refine lv_istore_n (lv' := [(2, .int (nI 0)), (0, .ref (g 0)), (1, .int (nI t))]) hx hb d_Model_heldOf_1 rfl hl (by decide) rfl (fun ls hl => ?_)
  refine lv_iconst (v := nI 0) hx hb d_Model_heldOf_2 (by decide) ?_
  refine lv_istore_n (lv' := [(3, .int (nI 0)), (2, .int (nI 0)), (0, .ref (g 0)), (1, .int (nI t))]) hx hb d_Model_heldOf_3 rfl hl (by decide) rfl (fun ls hl => ?_)
  have L_a : ∀ (n_a : Nat) (i : Nat), (i ≤ 4096) → 4096 - i < n_a → ∀ (ls : Array Slot), lv_has ls 4 [(0, .ref (g 0)), (1, .int (nI t)), (2, .int (nI (ps_cn (pm_SS (σ.2.2 4) t) i))), (3, .int (nI i))] → W p l e rm_Model_heldOf s m args below meth c s.heap [] 0 0 Q (F0 m 4 ls []) := by
    intro n_a
    induction n_a with
    | zero => intro i hi hf_a; exact absurd hf_a (Nat.not_lt_zero _)
    | succ n_a ih_a =>
      intro i hi hf_a ls hl
      refine lv_iload_n hx hb d_Model_heldOf_4 rfl (lv_at hl 3 rfl) ?_
      refine lv_sipush (v := nI 4096) hx hb d_Model_heldOf_5 (by decide) ?_
      refine lv_icmp_ge (tgt := 40) hx hb d_Model_heldOf_8 (by decide) (fun c_8 => ?_) (fun c_8 => ?_)
      · have hi9 : i = 4096 := by have := ps_leT c_8 (by omega) (by omega); omega
        refine lv_iload_n hx hb d_Model_heldOf_40 rfl (lv_at hl 2 rfl) ?_
        rw [hQ]
        exact W.iret (v := nI (ps_cn (pm_SS (σ.2.2 4) t) i)) hx hb hr (fun zt ht _ => ⟨_, rfl, by rw [hi9], ht⟩) (fun q h => absurd h List.not_mem_nil) d_Model_heldOf_41
      · have hi9 : i < 4096 := by have := ps_ltOf c_8 (by omega) (by omega); omega
        refine lv_iload_n hx hb d_Model_heldOf_11 rfl (lv_at hl 2 rfl) ?_
        refine lv_aload_n hx hb d_Model_heldOf_12 rfl (lv_at hl 0 rfl) ?_
        refine ps_get (v := .ref (g 4)) hx hb hT i_Model hown hK hP (k := 0) (by decide) pm_E_0 rfl 7 (by decide) (hT _ fl_Model_26) (fun _ h9 => h9) rfl d_Model_heldOf_13 ?_
        refine lv_sipush (v := nI 4096) hx hb d_Model_heldOf_16 (by decide) ?_
        refine lv_iload_n hx hb d_Model_heldOf_19 rfl (lv_at hl 1 rfl) ?_
        refine lv_imul hx hb d_Model_heldOf_20 ?_
        refine ps_seti (y := nI (4096 * t)) (pk_mul _ _) ?_
        refine lv_iload_n hx hb d_Model_heldOf_21 rfl (lv_at hl 3 rfl) ?_
        refine lv_iadd hx hb d_Model_heldOf_22 ?_
        refine ps_seti (y := nI (4096 * t + i)) (nI_add _ _) ?_
        refine ps_zald (T := σ.2.2 4) hx hb hK hP (k := 4) (by decide) 1 pm_E_4 rfl (i := (4096 * t + i)) (by omega) (by decide) d_Model_heldOf_23 ?_
        refine lv_if_eq (tgt := 31) hx hb d_Model_heldOf_24 (by decide) (fun c_24 => ?_) (fun c_24 => ?_)
        · have hb0 : σ.2.2 4 (4096 * t + i) = false := ps_bI_0.mp c_24
          refine lv_iconst (v := nI 0) hx hb d_Model_heldOf_31 (by decide) ?_
          refine lv_iadd hx hb d_Model_heldOf_32 ?_
          refine ps_seti (y := nI (ps_cn (pm_SS (σ.2.2 4) t) i + 0)) (nI_add _ _) ?_
          refine ps_seti (y := nI (ps_cn (pm_SS (σ.2.2 4) t) (i + 1))) (congrArg nI (pm_cnF hb0)) ?_
          refine lv_istore_n (lv' := [(2, .int (nI (ps_cn (pm_SS (σ.2.2 4) t) (i + 1)))), (0, .ref (g 0)), (1, .int (nI t)), (3, .int (nI i))]) hx hb d_Model_heldOf_33 rfl hl (by decide) rfl (fun ls hl => ?_)
          refine lv_iinc (v := (nI (i + 1))) (lv' := [(3, .int (nI (i + 1))), (2, .int (nI (ps_cn (pm_SS (σ.2.2 4) t) (i + 1)))), (0, .ref (g 0)), (1, .int (nI t))]) hx hb d_Model_heldOf_34 hl (k := 3) rfl (nI_1 _) (by decide) rfl (fun ls hl => ?_)
          refine lv_goto (tgt := 4) hx hb d_Model_heldOf_37 (by decide) ?_
          exact ih_a (i + 1) (by omega) (by omega)  ls (lv_sub hl [2, 3, 1, 0] rfl)
        · have hb0 : σ.2.2 4 (4096 * t + i) = true := ps_bI_n0.mp c_24
          refine lv_iconst (v := nI 1) hx hb d_Model_heldOf_27 (by decide) ?_
          refine lv_goto (tgt := 32) hx hb d_Model_heldOf_28 (by decide) ?_
          refine lv_iadd hx hb d_Model_heldOf_32 ?_
          refine ps_seti (y := nI (ps_cn (pm_SS (σ.2.2 4) t) i + 1)) (nI_add _ _) ?_
          refine ps_seti (y := nI (ps_cn (pm_SS (σ.2.2 4) t) (i + 1))) (congrArg nI (pm_cnT hb0)) ?_
          refine lv_istore_n (lv' := [(2, .int (nI (ps_cn (pm_SS (σ.2.2 4) t) (i + 1)))), (0, .ref (g 0)), (1, .int (nI t)), (3, .int (nI i))]) hx hb d_Model_heldOf_33 rfl hl (by decide) rfl (fun ls hl => ?_)
          refine lv_iinc (v := (nI (i + 1))) (lv' := [(3, .int (nI (i + 1))), (2, .int (nI (ps_cn (pm_SS (σ.2.2 4) t) (i + 1)))), (0, .ref (g 0)), (1, .int (nI t))]) hx hb d_Model_heldOf_34 hl (k := 3) rfl (nI_1 _) (by decide) rfl (fun ls hl => ?_)
          refine lv_goto (tgt := 4) hx hb d_Model_heldOf_37 (by decide) ?_
          exact ih_a (i + 1) (by omega) (by omega)  ls (lv_sub hl [2, 3, 1, 0] rfl)
  exact L_a (4096 - 0 + 1) 0 (by omega) (by omega)  ls (lv_sub hl [2, 3, 1, 0] rfl)

def rm_Model_spansOf : Room := { frames := 0, cells := 0, slots := 0, locals := 0 }
abbrev ws_Model_spansOf : List Cond := .code y_Model_spansOf b_Model_spansOf 4 (some .int) :: ps_tb
set_option maxHeartbeats 4000000 in
set_option maxRecDepth 100000 in
theorem c_Model_spansOf {l : Launch} {D : va_G} {g : Nat → Nat} {cI cZ : ClassId} {σ : pm_τ} (t : Nat) (ht6 : t < 6) : Met l y_Model_spansOf ws_Model_spansOf rm_Model_spansOf (ps_Pc D pm_cl (pm_tys cI cZ) 13 g (pm_E g cI cZ σ) [.ref (g 0), .int (nI t)]) (vp_Si (fun r => r = nI (ps_sp (pm_SS (σ.2.2 4) t)))) 0 0 (fun _ => False) := by
  refine ps_met (by decide) ?_
  intro p e s m args below meth c hx hb hr hml hts hown hlocks hname hv Q hQ
  obtain ⟨ha, hP, hK⟩ := hv
  have hT : ∀ w ∈ ps_tb, w.before args s = true := fun w h => hts w (List.mem_cons_of_mem _ h)
  have hown : s.vm.findClass R_Model = some m.cls := hown
  refine ps_enter ha (Nat.le_of_ble_eq_true rfl) (fun ls hl => ?_)
  have hl : lv_has ls 4 [(0, .ref (g 0)), (1, .int (nI t))] := hl
  refine lv_iconst (v := nI 0) hx hb d_Model_spansOf_0 (by decide) ?_
  refine lv_istore_n (lv' := [(2, .int (nI 0)), (0, .ref (g 0)), (1, .int (nI t))]) hx hb d_Model_spansOf_1 rfl hl (by decide) rfl (fun ls hl => ?_)
  refine lv_iconst (v := nI 0) hx hb d_Model_spansOf_2 (by decide) ?_
  refine lv_istore_n (lv' := [(3, .int (nI 0)), (2, .int (nI 0)), (0, .ref (g 0)), (1, .int (nI t))]) hx hb d_Model_spansOf_3 rfl hl (by decide) rfl (fun ls hl => ?_)
  have L_a : ∀ (n_a : Nat) (i : Nat), (i ≤ 4096) → 4096 - i < n_a → ∀ (ls : Array Slot), lv_has ls 4 [(0, .ref (g 0)), (1, .int (nI t)), (2, .int (nI (ps_cn (ps_st (pm_SS (σ.2.2 4) t)) i))), (3, .int (nI i))] → W p l e rm_Model_spansOf s m args below meth c s.heap [] 0 0 Q (F0 m 4 ls []) := by
    intro n_a
    induction n_a with
    | zero => intro i hi hf_a; exact absurd hf_a (Nat.not_lt_zero _)
    | succ n_a ih_a =>
      intro i hi hf_a ls hl
      refine lv_iload_n hx hb d_Model_spansOf_4 rfl (lv_at hl 3 rfl) ?_
      refine lv_sipush (v := nI 4096) hx hb d_Model_spansOf_5 (by decide) ?_
      refine lv_icmp_ge (tgt := 61) hx hb d_Model_spansOf_8 (by decide) (fun c_8 => ?_) (fun c_8 => ?_)
      · have hi9 : i = 4096 := by have := ps_leT c_8 (by omega) (by omega); omega
        refine lv_iload_n hx hb d_Model_spansOf_61 rfl (lv_at hl 2 rfl) ?_
        rw [hQ]
        exact W.iret (v := nI (ps_cn (ps_st (pm_SS (σ.2.2 4) t)) i)) hx hb hr (fun zt ht _ => ⟨_, rfl, by rw [hi9]; rfl, ht⟩) (fun q h => absurd h List.not_mem_nil) d_Model_spansOf_62
      · have hi9 : i < 4096 := by have := ps_ltOf c_8 (by omega) (by omega); omega
        refine lv_iload_n hx hb d_Model_spansOf_11 rfl (lv_at hl 2 rfl) ?_
        refine lv_aload_n hx hb d_Model_spansOf_12 rfl (lv_at hl 0 rfl) ?_
        refine ps_get (v := .ref (g 4)) hx hb hT i_Model hown hK hP (k := 0) (by decide) pm_E_0 rfl 7 (by decide) (hT _ fl_Model_26) (fun _ h9 => h9) rfl d_Model_spansOf_13 ?_
        refine lv_sipush (v := nI 4096) hx hb d_Model_spansOf_16 (by decide) ?_
        refine lv_iload_n hx hb d_Model_spansOf_19 rfl (lv_at hl 1 rfl) ?_
        refine lv_imul hx hb d_Model_spansOf_20 ?_
        refine ps_seti (y := nI (4096 * t)) (pk_mul _ _) ?_
        refine lv_iload_n hx hb d_Model_spansOf_21 rfl (lv_at hl 3 rfl) ?_
        refine lv_iadd hx hb d_Model_spansOf_22 ?_
        refine ps_seti (y := nI (4096 * t + i)) (nI_add _ _) ?_
        refine ps_zald (T := σ.2.2 4) hx hb hK hP (k := 4) (by decide) 1 pm_E_4 rfl (i := (4096 * t + i)) (by omega) (by decide) d_Model_spansOf_23 ?_
        refine lv_if_eq (tgt := 52) hx hb d_Model_spansOf_24 (by decide) (fun c_24 => ?_) (fun c_24 => ?_)
        · have hb0 : σ.2.2 4 (4096 * t + i) = false := ps_bI_0.mp c_24
          have hst : ps_st (pm_SS (σ.2.2 4) t) i = false := by unfold ps_st; rw [show pm_SS (σ.2.2 4) t i = false from hb0]; rfl
          refine lv_iconst (v := nI 0) hx hb d_Model_spansOf_52 (by decide) ?_
          refine lv_iadd hx hb d_Model_spansOf_53 ?_
          refine ps_seti (y := nI (ps_cn (ps_st (pm_SS (σ.2.2 4) t)) i + 0)) (nI_add _ _) ?_
          refine ps_seti (y := nI (ps_cn (ps_st (pm_SS (σ.2.2 4) t)) (i + 1))) (congrArg nI (pm_cnF hst)) ?_
          refine lv_istore_n (lv' := [(2, .int (nI (ps_cn (ps_st (pm_SS (σ.2.2 4) t)) (i + 1)))), (0, .ref (g 0)), (1, .int (nI t)), (3, .int (nI i))]) hx hb d_Model_spansOf_54 rfl hl (by decide) rfl (fun ls hl => ?_)
          refine lv_iinc (v := (nI (i + 1))) (lv' := [(3, .int (nI (i + 1))), (2, .int (nI (ps_cn (ps_st (pm_SS (σ.2.2 4) t)) (i + 1)))), (0, .ref (g 0)), (1, .int (nI t))]) hx hb d_Model_spansOf_55 hl (k := 3) rfl (nI_1 _) (by decide) rfl (fun ls hl => ?_)
          refine lv_goto (tgt := 4) hx hb d_Model_spansOf_58 (by decide) ?_
          exact ih_a (i + 1) (by omega) (by omega)  ls (lv_sub hl [2, 3, 1, 0] rfl)
        · have hb0 : σ.2.2 4 (4096 * t + i) = true := ps_bI_n0.mp c_24
          refine lv_iload_n hx hb d_Model_spansOf_27 rfl (lv_at hl 3 rfl) ?_
          refine lv_if_eq (tgt := 48) hx hb d_Model_spansOf_28 (by decide) (fun c_28 => ?_) (fun c_28 => ?_)
          · have hi0 : i = 0 := (nI_eq (b := 0) (by omega) (by decide)).mp c_28
            have hst : ps_st (pm_SS (σ.2.2 4) t) i = true := by subst hi0; unfold ps_st; rw [show pm_SS (σ.2.2 4) t 0 = true from hb0]; rfl
            refine lv_iconst (v := nI 1) hx hb d_Model_spansOf_48 (by decide) ?_
            refine lv_goto (tgt := 53) hx hb d_Model_spansOf_49 (by decide) ?_
            refine lv_iadd hx hb d_Model_spansOf_53 ?_
            refine ps_seti (y := nI (ps_cn (ps_st (pm_SS (σ.2.2 4) t)) i + 1)) (nI_add _ _) ?_
            refine ps_seti (y := nI (ps_cn (ps_st (pm_SS (σ.2.2 4) t)) (i + 1))) (congrArg nI (pm_cnT hst)) ?_
            refine lv_istore_n (lv' := [(2, .int (nI (ps_cn (ps_st (pm_SS (σ.2.2 4) t)) (i + 1)))), (0, .ref (g 0)), (1, .int (nI t)), (3, .int (nI i))]) hx hb d_Model_spansOf_54 rfl hl (by decide) rfl (fun ls hl => ?_)
            refine lv_iinc (v := (nI (i + 1))) (lv' := [(3, .int (nI (i + 1))), (2, .int (nI (ps_cn (ps_st (pm_SS (σ.2.2 4) t)) (i + 1)))), (0, .ref (g 0)), (1, .int (nI t))]) hx hb d_Model_spansOf_55 hl (k := 3) rfl (nI_1 _) (by decide) rfl (fun ls hl => ?_)
            refine lv_goto (tgt := 4) hx hb d_Model_spansOf_58 (by decide) ?_
            exact ih_a (i + 1) (by omega) (by omega)  ls (lv_sub hl [2, 3, 1, 0] rfl)
          · have hi0 : 0 < i := pm_n0 c_28
            refine lv_aload_n hx hb d_Model_spansOf_31 rfl (lv_at hl 0 rfl) ?_
            refine ps_get (v := .ref (g 4)) hx hb hT i_Model hown hK hP (k := 0) (by decide) pm_E_0 rfl 7 (by decide) (hT _ fl_Model_26) (fun _ h9 => h9) rfl d_Model_spansOf_32 ?_
            refine lv_sipush (v := nI 4096) hx hb d_Model_spansOf_35 (by decide) ?_
            refine lv_iload_n hx hb d_Model_spansOf_38 rfl (lv_at hl 1 rfl) ?_
            refine lv_imul hx hb d_Model_spansOf_39 ?_
            refine ps_seti (y := nI (4096 * t)) (pk_mul _ _) ?_
            refine lv_iload_n hx hb d_Model_spansOf_40 rfl (lv_at hl 3 rfl) ?_
            refine lv_iadd hx hb d_Model_spansOf_41 ?_
            refine ps_seti (y := nI (4096 * t + i)) (nI_add _ _) ?_
            refine lv_iconst (v := nI 1) hx hb d_Model_spansOf_42 (by decide) ?_
            refine lv_isub hx hb d_Model_spansOf_43 ?_
            refine ps_seti (y := nI (4096 * t + (i - 1))) (by rw [pk_sub (by omega)]; congr 1; omega) ?_
            refine ps_zald (T := σ.2.2 4) hx hb hK hP (k := 4) (by decide) 1 pm_E_4 rfl (i := (4096 * t + (i - 1))) (by omega) (by decide) d_Model_spansOf_44 ?_
            refine lv_if_ne (tgt := 52) hx hb d_Model_spansOf_45 (by decide) (fun c_45 => ?_) (fun c_45 => ?_)
            · have hb1 : σ.2.2 4 (4096 * t + (i - 1)) = true := ps_bI_n0.mp c_45
              have hst : ps_st (pm_SS (σ.2.2 4) t) i = false := by unfold ps_st; rw [show pm_SS (σ.2.2 4) t (i - 1) = true from hb1, decide_eq_true hi0]; simp
              refine lv_iconst (v := nI 0) hx hb d_Model_spansOf_52 (by decide) ?_
              refine lv_iadd hx hb d_Model_spansOf_53 ?_
              refine ps_seti (y := nI (ps_cn (ps_st (pm_SS (σ.2.2 4) t)) i + 0)) (nI_add _ _) ?_
              refine ps_seti (y := nI (ps_cn (ps_st (pm_SS (σ.2.2 4) t)) (i + 1))) (congrArg nI (pm_cnF hst)) ?_
              refine lv_istore_n (lv' := [(2, .int (nI (ps_cn (ps_st (pm_SS (σ.2.2 4) t)) (i + 1)))), (0, .ref (g 0)), (1, .int (nI t)), (3, .int (nI i))]) hx hb d_Model_spansOf_54 rfl hl (by decide) rfl (fun ls hl => ?_)
              refine lv_iinc (v := (nI (i + 1))) (lv' := [(3, .int (nI (i + 1))), (2, .int (nI (ps_cn (ps_st (pm_SS (σ.2.2 4) t)) (i + 1)))), (0, .ref (g 0)), (1, .int (nI t))]) hx hb d_Model_spansOf_55 hl (k := 3) rfl (nI_1 _) (by decide) rfl (fun ls hl => ?_)
              refine lv_goto (tgt := 4) hx hb d_Model_spansOf_58 (by decide) ?_
              exact ih_a (i + 1) (by omega) (by omega)  ls (lv_sub hl [2, 3, 1, 0] rfl)
            · have hb1 : σ.2.2 4 (4096 * t + (i - 1)) = false := ps_bI_0.mp c_45
              have hst : ps_st (pm_SS (σ.2.2 4) t) i = true := by unfold ps_st; rw [show pm_SS (σ.2.2 4) t (i - 1) = false from hb1, show pm_SS (σ.2.2 4) t i = true from hb0]; simp
              refine lv_iconst (v := nI 1) hx hb d_Model_spansOf_48 (by decide) ?_
              refine lv_goto (tgt := 53) hx hb d_Model_spansOf_49 (by decide) ?_
              refine lv_iadd hx hb d_Model_spansOf_53 ?_
              refine ps_seti (y := nI (ps_cn (ps_st (pm_SS (σ.2.2 4) t)) i + 1)) (nI_add _ _) ?_
              refine ps_seti (y := nI (ps_cn (ps_st (pm_SS (σ.2.2 4) t)) (i + 1))) (congrArg nI (pm_cnT hst)) ?_
              refine lv_istore_n (lv' := [(2, .int (nI (ps_cn (ps_st (pm_SS (σ.2.2 4) t)) (i + 1)))), (0, .ref (g 0)), (1, .int (nI t)), (3, .int (nI i))]) hx hb d_Model_spansOf_54 rfl hl (by decide) rfl (fun ls hl => ?_)
              refine lv_iinc (v := (nI (i + 1))) (lv' := [(3, .int (nI (i + 1))), (2, .int (nI (ps_cn (ps_st (pm_SS (σ.2.2 4) t)) (i + 1)))), (0, .ref (g 0)), (1, .int (nI t))]) hx hb d_Model_spansOf_55 hl (k := 3) rfl (nI_1 _) (by decide) rfl (fun ls hl => ?_)
              refine lv_goto (tgt := 4) hx hb d_Model_spansOf_58 (by decide) ?_
              exact ih_a (i + 1) (by omega) (by omega)  ls (lv_sub hl [2, 3, 1, 0] rfl)
  exact L_a (4096 - 0 + 1) 0 (by omega) (by omega)  ls (lv_sub hl [2, 3, 1, 0] rfl)

def rm_Model_firstGap : Room := { frames := 0, cells := 0, slots := 0, locals := 0 }
abbrev ws_Model_firstGap : List Cond := .code y_Model_firstGap b_Model_firstGap 3 (some .int) :: ps_tb
set_option maxHeartbeats 4000000 in
set_option maxRecDepth 100000 in
theorem c_Model_firstGap {l : Launch} {D : va_G} {g : Nat → Nat} {cI cZ : ClassId} {σ : pm_τ} (t : Nat) (ht6 : t < 6) (hln : σ.2.1 2 t = -1 ∨ ∃ z : Nat, z ≤ 4095 ∧ σ.2.1 2 t = nI z) : Met l y_Model_firstGap ws_Model_firstGap rm_Model_firstGap (ps_Pc D pm_cl (pm_tys cI cZ) 13 g (pm_E g cI cZ σ) [.ref (g 0), .int (nI t)]) (vp_Si (fun r => r = if nI (ps_nx (pm_SS (σ.2.2 4) t) false 0) < σ.2.1 2 t then nI (ps_nx (pm_SS (σ.2.2 4) t) false 0) else -1)) 0 0 (fun _ => False) := by
  refine ps_met (by decide) ?_
  intro p e s m args below meth c hx hb hr hml hts hown hlocks hname hv Q hQ
  obtain ⟨ha, hP, hK⟩ := hv
  have hT : ∀ w ∈ ps_tb, w.before args s = true := fun w h => hts w (List.mem_cons_of_mem _ h)
  have hown : s.vm.findClass R_Model = some m.cls := hown
  refine ps_enter ha (Nat.le_of_ble_eq_true rfl) (fun ls hl => ?_)
  have hl : lv_has ls 3 [(0, .ref (g 0)), (1, .int (nI t))] := hl
  refine lv_iconst (v := nI 0) hx hb d_Model_firstGap_0 (by decide) ?_
  refine lv_istore_n (lv' := [(2, .int (nI 0)), (0, .ref (g 0)), (1, .int (nI t))]) hx hb d_Model_firstGap_1 rfl hl (by decide) rfl (fun ls hl => ?_)
  have L_a : ∀ (n_a : Nat) (i : Nat), (i ≤ 4096) → (∀ q, q < i → pm_SS (σ.2.2 4) t q = true) → 4097 - i < n_a → ∀ (ls : Array Slot), lv_has ls 3 [(0, .ref (g 0)), (1, .int (nI t)), (2, .int (nI i))] → W p l e rm_Model_firstGap s m args below meth c s.heap [] 0 0 Q (F0 m 2 ls []) := by
    intro n_a
    induction n_a with
    | zero => intro i hi hno hf_a; exact absurd hf_a (Nat.not_lt_zero _)
    | succ n_a ih_a =>
      intro i hi hno hf_a ls hl
      refine lv_iload_n hx hb d_Model_firstGap_2 rfl (lv_at hl 2 rfl) ?_
      refine lv_aload_n hx hb d_Model_firstGap_3 rfl (lv_at hl 0 rfl) ?_
      refine ps_get (v := .ref (g 2)) hx hb hT i_Model hown hK hP (k := 0) (by decide) pm_E_0 rfl 5 (by decide) (hT _ fl_Model_20) (fun _ h9 => h9) rfl d_Model_firstGap_4 ?_
      refine lv_iload_n hx hb d_Model_firstGap_7 rfl (lv_at hl 1 rfl) ?_
      refine ps_iald (f := σ.2.1 2) hx hb hK hP (k := 2) (by decide) 0 pm_E_2 rfl (i := t) (by omega) (by decide) d_Model_firstGap_8 ?_
      refine lv_icmp_ge (tgt := 35) hx hb d_Model_firstGap_9 (by decide) (fun c_9 => ?_) (fun c_9 => ?_)
      · have hlt : σ.2.1 2 t ≤ nI i := c_9
        refine lv_iconst (v := -1) hx hb d_Model_firstGap_35 (by decide) ?_
        rw [hQ]
        exact W.iret (v := -1) hx hb hr (fun zt ht _ => ⟨_, rfl, pm_fg0 hi hno hlt, ht⟩) (fun q h => absurd h List.not_mem_nil) d_Model_firstGap_36
      · have hlt : i < 4096 ∧ ¬ σ.2.1 2 t ≤ nI i := ⟨pm_fgl hln hi c_9, c_9⟩
        refine lv_aload_n hx hb d_Model_firstGap_12 rfl (lv_at hl 0 rfl) ?_
        refine ps_get (v := .ref (g 4)) hx hb hT i_Model hown hK hP (k := 0) (by decide) pm_E_0 rfl 7 (by decide) (hT _ fl_Model_26) (fun _ h9 => h9) rfl d_Model_firstGap_13 ?_
        refine lv_sipush (v := nI 4096) hx hb d_Model_firstGap_16 (by decide) ?_
        refine lv_iload_n hx hb d_Model_firstGap_19 rfl (lv_at hl 1 rfl) ?_
        refine lv_imul hx hb d_Model_firstGap_20 ?_
        refine ps_seti (y := nI (4096 * t)) (pk_mul _ _) ?_
        refine lv_iload_n hx hb d_Model_firstGap_21 rfl (lv_at hl 2 rfl) ?_
        refine lv_iadd hx hb d_Model_firstGap_22 ?_
        refine ps_seti (y := nI (4096 * t + i)) (nI_add _ _) ?_
        refine ps_zald (T := σ.2.2 4) hx hb hK hP (k := 4) (by decide) 1 pm_E_4 rfl (i := (4096 * t + i)) (by omega) (by decide) d_Model_firstGap_23 ?_
        refine lv_if_ne (tgt := 29) hx hb d_Model_firstGap_24 (by decide) (fun c_24 => ?_) (fun c_24 => ?_)
        · have hb0 : σ.2.2 4 (4096 * t + i) = true := ps_bI_n0.mp c_24
          refine lv_iinc (v := (nI (i + 1))) (lv' := [(2, .int (nI (i + 1))), (0, .ref (g 0)), (1, .int (nI t))]) hx hb d_Model_firstGap_29 hl (k := 2) rfl (nI_1 _) (by decide) rfl (fun ls hl => ?_)
          refine lv_goto (tgt := 2) hx hb d_Model_firstGap_32 (by decide) ?_
          exact ih_a (i + 1) (by omega) (fun q hq => by
            rcases Nat.lt_or_ge q i with z | z
            · exact hno q z
            · rw [show q = i by omega]; exact hb0) (by omega)  ls (lv_sub hl [1, 2, 0] rfl)
        · have hb0 : σ.2.2 4 (4096 * t + i) = false := ps_bI_0.mp c_24
          refine lv_iload_n hx hb d_Model_firstGap_27 rfl (lv_at hl 2 rfl) ?_
          rw [hQ]
          exact W.iret (v := nI i) hx hb hr (fun zt ht _ => ⟨_, rfl, pm_fg1 (by omega) hno hb0 hlt.2, ht⟩) (fun q h => absurd h List.not_mem_nil) d_Model_firstGap_28
  exact L_a (4097 - 0 + 1) 0 (by omega) (fun q hq => absurd hq (Nat.not_lt_zero q)) (by omega)  ls (lv_sub hl [1, 2, 0] rfl)

def rm_Model_about : Room := { frames := 1, cells := 0, slots := 0, locals := 23 }
abbrev ws_Model_about : List Cond := .code y_Model_about b_Model_about 3 (some .int) :: ps_tb
set_option maxHeartbeats 4000000 in
set_option maxRecDepth 100000 in
theorem c_Model_about {l : Launch} {D : va_G} {g : Nat → Nat} {cI cZ : ClassId} {σ : pm_τ} (hg : ps_inj 13 g) (hln : ∀ t, t < 6 → σ.2.1 2 t = -1 ∨ ∃ z : Nat, z ≤ 4095 ∧ σ.2.1 2 t = nI z) (x y : Int32) : Met l y_Model_about ws_Model_about rm_Model_about (ps_Pc D pm_cl (pm_tys cI cZ) 13 g (pm_E g cI cZ σ) [.ref (g 0), .int x, .int y]) (ps_Qi (S := pm_τ) D pm_cl 13 g (fun u => pm_E g cI cZ u) (fun r u => (∃ j : Nat, j < 6 ∧ x = nI j ∧ r = pm_abt σ j y ∧ u = pm_uI σ 0 (nI 0)) ∨ ((x < 0 ∨ nI 6 ≤ x) ∧ r = -1 ∧ u = pm_uI σ 0 (nI 0)))) 0 0 (ps_wA 13 g) := by
  refine ps_met (by decide) ?_
  intro p e s m args below meth c hx hb hr hml hts hown hlocks hname hv Q hQ
  obtain ⟨ha, hP, hK⟩ := hv
  have hT : ∀ w ∈ ps_tb, w.before args s = true := fun w h => hts w (List.mem_cons_of_mem _ h)
  have hown : s.vm.findClass R_Model = some m.cls := hown
  have hS : va_S (ps_wA 13 g) s.heap s.heap [] := va_S.rf
  refine ps_enter ha (Nat.le_of_ble_eq_true rfl) (fun ls hl => ?_)
  have hl : lv_has ls 3 [(0, .ref (g 0)), (1, .int x), (2, .int y)] := hl
  rcases pk_ix x (n := 6) (by decide) with h | h | ⟨j, hj, rfl⟩
  · refine lv_aload_n hx hb d_Model_about_0 rfl (lv_at hl 0 rfl) ?_
    refine lv_iconst (v := nI 0) hx hb d_Model_about_1 (by decide) ?_
    refine ps_put (v := .int (nI 0)) (ty := .int) hx hb hT i_Model t_Model t_Model_ok n_Model hown hK hg hP hS (k := 0) (by decide) pm_E_0 rfl 0 (by decide) (hT _ fl_Model_57) (fun _ h9 => h9) rfl (by decide +kernel) rfl rfl (Nat.le_of_ble_eq_true rfl) d_Model_about_2 (pm_E g cI cZ (pm_uI σ 0 (nI 0))) (pm_h1 (by decide)) (fun _ _ h => pm_E_uI h) (fun H locs hP hS => ?_)
    refine lv_iload_n hx hb d_Model_about_5 rfl (lv_at hl 1 rfl) ?_
    refine ps_sti (As := [.int x]) (rest := []) ⟨hx, hb, hml, hown, hT⟩ (c_Model_isThing (x)) (va_cwS 1 hT (ps_gS ml_Model_60 st_Model_isThing in_Model co_Model_isThing) rfl rfl rfl cs_Model_isThing ⟨Nat.le_of_ble_eq_true rfl, Nat.le_of_ble_eq_true rfl⟩) rfl hl.1 rfl (Nat.le_of_ble_eq_true rfl) d_Model_about_6 ⟨Nat.zero_le _, Nat.zero_le _⟩ (fun rr hrr => ?_)
    have hrr := pm_th0 (Or.inl h) hrr
    subst hrr
    refine lv_if_ne (tgt := 14) hx hb d_Model_about_9 (by decide) (fun c_9 => ?_) (fun c_9 => ?_)
    · exact absurd (by decide) c_9
    · refine lv_iconst (v := -1) hx hb d_Model_about_12 (by decide) ?_
      rw [hQ]
      exact W.iret (v := -1) hx hb hr (fun zt ht _ => ⟨⟨_, (pm_uI σ 0 (nI 0)), rfl, Or.inr ⟨Or.inl h, rfl, rfl⟩, ps_hp ht hP⟩, hS.F ht⟩) hS.2.2 d_Model_about_13
  · refine lv_aload_n hx hb d_Model_about_0 rfl (lv_at hl 0 rfl) ?_
    refine lv_iconst (v := nI 0) hx hb d_Model_about_1 (by decide) ?_
    refine ps_put (v := .int (nI 0)) (ty := .int) hx hb hT i_Model t_Model t_Model_ok n_Model hown hK hg hP hS (k := 0) (by decide) pm_E_0 rfl 0 (by decide) (hT _ fl_Model_57) (fun _ h9 => h9) rfl (by decide +kernel) rfl rfl (Nat.le_of_ble_eq_true rfl) d_Model_about_2 (pm_E g cI cZ (pm_uI σ 0 (nI 0))) (pm_h1 (by decide)) (fun _ _ h => pm_E_uI h) (fun H locs hP hS => ?_)
    refine lv_iload_n hx hb d_Model_about_5 rfl (lv_at hl 1 rfl) ?_
    refine ps_sti (As := [.int x]) (rest := []) ⟨hx, hb, hml, hown, hT⟩ (c_Model_isThing (x)) (va_cwS 1 hT (ps_gS ml_Model_60 st_Model_isThing in_Model co_Model_isThing) rfl rfl rfl cs_Model_isThing ⟨Nat.le_of_ble_eq_true rfl, Nat.le_of_ble_eq_true rfl⟩) rfl hl.1 rfl (Nat.le_of_ble_eq_true rfl) d_Model_about_6 ⟨Nat.zero_le _, Nat.zero_le _⟩ (fun rr hrr => ?_)
    have hrr := pm_th0 (Or.inr h) hrr
    subst hrr
    refine lv_if_ne (tgt := 14) hx hb d_Model_about_9 (by decide) (fun c_9 => ?_) (fun c_9 => ?_)
    · exact absurd (by decide) c_9
    · refine lv_iconst (v := -1) hx hb d_Model_about_12 (by decide) ?_
      rw [hQ]
      exact W.iret (v := -1) hx hb hr (fun zt ht _ => ⟨⟨_, (pm_uI σ 0 (nI 0)), rfl, Or.inr ⟨Or.inr h, rfl, rfl⟩, ps_hp ht hP⟩, hS.F ht⟩) hS.2.2 d_Model_about_13
  · refine lv_aload_n hx hb d_Model_about_0 rfl (lv_at hl 0 rfl) ?_
    refine lv_iconst (v := nI 0) hx hb d_Model_about_1 (by decide) ?_
    refine ps_put (v := .int (nI 0)) (ty := .int) hx hb hT i_Model t_Model t_Model_ok n_Model hown hK hg hP hS (k := 0) (by decide) pm_E_0 rfl 0 (by decide) (hT _ fl_Model_57) (fun _ h9 => h9) rfl (by decide +kernel) rfl rfl (Nat.le_of_ble_eq_true rfl) d_Model_about_2 (pm_E g cI cZ (pm_uI σ 0 (nI 0))) (pm_h1 (by decide)) (fun _ _ h => pm_E_uI h) (fun H locs hP hS => ?_)
    refine lv_iload_n hx hb d_Model_about_5 rfl (lv_at hl 1 rfl) ?_
    refine ps_sti (As := [.int (nI j)]) (rest := []) ⟨hx, hb, hml, hown, hT⟩ (c_Model_isThing (nI j)) (va_cwS 1 hT (ps_gS ml_Model_60 st_Model_isThing in_Model co_Model_isThing) rfl rfl rfl cs_Model_isThing ⟨Nat.le_of_ble_eq_true rfl, Nat.le_of_ble_eq_true rfl⟩) rfl hl.1 rfl (Nat.le_of_ble_eq_true rfl) d_Model_about_6 ⟨Nat.zero_le _, Nat.zero_le _⟩ (fun rr hrr => ?_)
    have hrr := pm_th1 hj hrr
    subst hrr
    refine lv_if_ne (tgt := 14) hx hb d_Model_about_9 (by decide) (fun c_9 => ?_) (fun c_9 => ?_)
    · refine lv_iload_n hx hb d_Model_about_14 rfl (lv_at hl 2 rfl) ?_
      rcases ps_sw4 y with h9 | rfl | rfl | rfl | rfl
      · have h := h9
        refine lv_tableOut (tgt := 69) hx hb d_Model_about_15 h (by decide) ?_
        refine lv_iconst (v := -1) hx hb d_Model_about_69 (by decide) ?_
        rw [hQ]
        exact W.iret (v := -1) hx hb hr (fun zt ht _ => ⟨⟨_, (pm_uI σ 0 (nI 0)), rfl, Or.inl ⟨j, hj, rfl, (pm_abt_out h).symm, rfl⟩, ps_hp ht hP⟩, hS.F ht⟩) hS.2.2 d_Model_about_70
      · refine lv_tableIn (tgt := 44) (off := 29) hx hb d_Model_about_15 (by decide) (by decide) (by decide) (by decide) ?_
        refine lv_aload_n hx hb d_Model_about_44 rfl (lv_at hl 0 rfl) ?_
        refine ps_get (v := .ref (g 2)) hx hb hT i_Model hown hK hP (k := 0) (by decide) pm_E_0 rfl 5 (by decide) (hT _ fl_Model_20) (fun _ h9 => h9) rfl d_Model_about_45 ?_
        refine lv_iload_n hx hb d_Model_about_48 rfl (lv_at hl 1 rfl) ?_
        refine ps_iald (f := σ.2.1 2) hx hb hK hP (k := 2) (by decide) 0 pm_E_2 rfl (i := j) (by omega) (by decide) d_Model_about_49 ?_
        rw [hQ]
        exact W.iret (v := σ.2.1 2 j) hx hb hr (fun zt ht _ => ⟨⟨_, (pm_uI σ 0 (nI 0)), rfl, Or.inl ⟨j, hj, rfl, pm_abt_0.symm, rfl⟩, ps_hp ht hP⟩, hS.F ht⟩) hS.2.2 d_Model_about_50
      · refine lv_tableIn (tgt := 51) (off := 36) hx hb d_Model_about_15 (by decide) (by decide) (by decide) (by decide) ?_
        refine lv_aload_n hx hb d_Model_about_51 rfl (lv_at hl 0 rfl) ?_
        refine lv_iload_n hx hb d_Model_about_52 rfl (lv_at hl 1 rfl) ?_
        refine ps_roi (k := 0) (As := [.int (nI j)]) (rest := []) ⟨hx, hb, hml, hown, hT⟩ (c_Model_heldOf (σ := (pm_uI σ 0 (nI 0))) j (by omega)) (cwV 1 hT (ps_gV ml_Model_76 im_Model_heldOf se_Model_heldOf in_Model co_Model_heldOf) rfl rfl rfl cd_Model_heldOf ⟨Nat.le_of_ble_eq_true rfl, Nat.le_of_ble_eq_true rfl⟩) hK hP (by omega) pm_E_0 rfl rfl hl.1 rfl (Nat.le_of_ble_eq_true rfl) d_Model_about_53 ⟨Nat.zero_le _, Nat.zero_le _⟩ (fun rr hrr => ?_)
        rw [hQ]
        exact W.iret (v := rr) hx hb hr (fun zt ht _ => ⟨⟨_, (pm_uI σ 0 (nI 0)), rfl, Or.inl ⟨j, hj, rfl, hrr.trans pm_abt_1.symm, rfl⟩, ps_hp ht hP⟩, hS.F ht⟩) hS.2.2 d_Model_about_56
      · refine lv_tableIn (tgt := 57) (off := 42) hx hb d_Model_about_15 (by decide) (by decide) (by decide) (by decide) ?_
        refine lv_aload_n hx hb d_Model_about_57 rfl (lv_at hl 0 rfl) ?_
        refine lv_iload_n hx hb d_Model_about_58 rfl (lv_at hl 1 rfl) ?_
        refine ps_roi (k := 0) (As := [.int (nI j)]) (rest := []) ⟨hx, hb, hml, hown, hT⟩ (c_Model_spansOf (σ := (pm_uI σ 0 (nI 0))) j (by omega)) (cwV 1 hT (ps_gV ml_Model_152 im_Model_spansOf se_Model_spansOf in_Model co_Model_spansOf) rfl rfl rfl cd_Model_spansOf ⟨Nat.le_of_ble_eq_true rfl, Nat.le_of_ble_eq_true rfl⟩) hK hP (by omega) pm_E_0 rfl rfl hl.1 rfl (Nat.le_of_ble_eq_true rfl) d_Model_about_59 ⟨Nat.zero_le _, Nat.zero_le _⟩ (fun rr hrr => ?_)
        rw [hQ]
        exact W.iret (v := rr) hx hb hr (fun zt ht _ => ⟨⟨_, (pm_uI σ 0 (nI 0)), rfl, Or.inl ⟨j, hj, rfl, hrr.trans pm_abt_2.symm, rfl⟩, ps_hp ht hP⟩, hS.F ht⟩) hS.2.2 d_Model_about_62
      · refine lv_tableIn (tgt := 63) (off := 48) hx hb d_Model_about_15 (by decide) (by decide) (by decide) (by decide) ?_
        refine lv_aload_n hx hb d_Model_about_63 rfl (lv_at hl 0 rfl) ?_
        refine lv_iload_n hx hb d_Model_about_64 rfl (lv_at hl 1 rfl) ?_
        refine ps_roi (k := 0) (As := [.int (nI j)]) (rest := []) ⟨hx, hb, hml, hown, hT⟩ (c_Model_firstGap (σ := (pm_uI σ 0 (nI 0))) j (by omega) (hln j hj)) (cwV 1 hT (ps_gV ml_Model_155 im_Model_firstGap se_Model_firstGap in_Model co_Model_firstGap) rfl rfl rfl cd_Model_firstGap ⟨Nat.le_of_ble_eq_true rfl, Nat.le_of_ble_eq_true rfl⟩) hK hP (by omega) pm_E_0 rfl rfl hl.1 rfl (Nat.le_of_ble_eq_true rfl) d_Model_about_65 ⟨Nat.zero_le _, Nat.zero_le _⟩ (fun rr hrr => ?_)
        rw [hQ]
        exact W.iret (v := rr) hx hb hr (fun zt ht _ => ⟨⟨_, (pm_uI σ 0 (nI 0)), rfl, Or.inl ⟨j, hj, rfl, hrr.trans pm_abt_3.symm, rfl⟩, ps_hp ht hP⟩, hS.F ht⟩) hS.2.2 d_Model_about_68
    · exact absurd c_9 (by decide)

def rm_Model_held : Room := { frames := 1, cells := 0, slots := 0, locals := 20 }
abbrev ws_Model_held : List Cond := .code y_Model_held b_Model_held 3 (some .boolean) :: ps_tb
set_option maxHeartbeats 4000000 in
set_option maxRecDepth 100000 in
theorem c_Model_held {l : Launch} {D : va_G} {g : Nat → Nat} {cI cZ : ClassId} {σ : pm_τ} (hg : ps_inj 13 g) (x y : Int32) : Met l y_Model_held ws_Model_held rm_Model_held (ps_Pc D pm_cl (pm_tys cI cZ) 13 g (pm_E g cI cZ σ) [.ref (g 0), .int x, .int y]) (ps_Qi (S := pm_τ) D pm_cl 13 g (fun u => pm_E g cI cZ u) (fun r u => ((∃ j q : Nat, j < 6 ∧ q < 4096 ∧ x = nI j ∧ y = nI q ∧ r = ps_bI (σ.2.2 4 (4096 * j + q))) ∨ (((x < 0 ∨ nI 6 ≤ x) ∨ y < 0 ∨ nI 4096 ≤ y) ∧ r = 0)) ∧ u = pm_uI σ 0 (nI 0))) 0 0 (ps_wA 13 g) := by
  refine ps_met (by decide) ?_
  intro p e s m args below meth c hx hb hr hml hts hown hlocks hname hv Q hQ
  obtain ⟨ha, hP, hK⟩ := hv
  have hT : ∀ w ∈ ps_tb, w.before args s = true := fun w h => hts w (List.mem_cons_of_mem _ h)
  have hown : s.vm.findClass R_Model = some m.cls := hown
  have hS : va_S (ps_wA 13 g) s.heap s.heap [] := va_S.rf
  refine ps_enter ha (Nat.le_of_ble_eq_true rfl) (fun ls hl => ?_)
  have hl : lv_has ls 3 [(0, .ref (g 0)), (1, .int x), (2, .int y)] := hl
  rcases pk_ix x (n := 6) (by decide) with h | h | ⟨j, hj, rfl⟩
  · refine lv_aload_n hx hb d_Model_held_0 rfl (lv_at hl 0 rfl) ?_
    refine lv_iconst (v := nI 0) hx hb d_Model_held_1 (by decide) ?_
    refine ps_put (v := .int (nI 0)) (ty := .int) hx hb hT i_Model t_Model t_Model_ok n_Model hown hK hg hP hS (k := 0) (by decide) pm_E_0 rfl 0 (by decide) (hT _ fl_Model_57) (fun _ h9 => h9) rfl (by decide +kernel) rfl rfl (Nat.le_of_ble_eq_true rfl) d_Model_held_2 (pm_E g cI cZ (pm_uI σ 0 (nI 0))) (pm_h1 (by decide)) (fun _ _ h => pm_E_uI h) (fun H locs hP hS => ?_)
    refine lv_iload_n hx hb d_Model_held_5 rfl (lv_at hl 1 rfl) ?_
    refine ps_sti (As := [.int x]) (rest := []) ⟨hx, hb, hml, hown, hT⟩ (c_Model_isThing (x)) (va_cwS 1 hT (ps_gS ml_Model_60 st_Model_isThing in_Model co_Model_isThing) rfl rfl rfl cs_Model_isThing ⟨Nat.le_of_ble_eq_true rfl, Nat.le_of_ble_eq_true rfl⟩) rfl hl.1 rfl (Nat.le_of_ble_eq_true rfl) d_Model_held_6 ⟨Nat.zero_le _, Nat.zero_le _⟩ (fun rr hrr => ?_)
    have hrr := pm_th0 (Or.inl h) hrr
    subst hrr
    refine lv_if_eq (tgt := 42) hx hb d_Model_held_9 (by decide) (fun c_9 => ?_) (fun c_9 => ?_)
    · refine lv_iconst (v := nI 0) hx hb d_Model_held_42 (by decide) ?_
      rw [hQ]
      exact W.zret (v := nI 0) (ty := .boolean) hx hb hr (by decide +kernel) (fun zt ht _ => ⟨⟨_, (pm_uI σ 0 (nI 0)), rfl, ⟨Or.inr ⟨Or.inl (Or.inl h), rfl⟩, rfl⟩, ps_hp ht hP⟩, hS.F ht⟩) hS.2.2 d_Model_held_43
    · exact absurd (by decide) c_9
  · refine lv_aload_n hx hb d_Model_held_0 rfl (lv_at hl 0 rfl) ?_
    refine lv_iconst (v := nI 0) hx hb d_Model_held_1 (by decide) ?_
    refine ps_put (v := .int (nI 0)) (ty := .int) hx hb hT i_Model t_Model t_Model_ok n_Model hown hK hg hP hS (k := 0) (by decide) pm_E_0 rfl 0 (by decide) (hT _ fl_Model_57) (fun _ h9 => h9) rfl (by decide +kernel) rfl rfl (Nat.le_of_ble_eq_true rfl) d_Model_held_2 (pm_E g cI cZ (pm_uI σ 0 (nI 0))) (pm_h1 (by decide)) (fun _ _ h => pm_E_uI h) (fun H locs hP hS => ?_)
    refine lv_iload_n hx hb d_Model_held_5 rfl (lv_at hl 1 rfl) ?_
    refine ps_sti (As := [.int x]) (rest := []) ⟨hx, hb, hml, hown, hT⟩ (c_Model_isThing (x)) (va_cwS 1 hT (ps_gS ml_Model_60 st_Model_isThing in_Model co_Model_isThing) rfl rfl rfl cs_Model_isThing ⟨Nat.le_of_ble_eq_true rfl, Nat.le_of_ble_eq_true rfl⟩) rfl hl.1 rfl (Nat.le_of_ble_eq_true rfl) d_Model_held_6 ⟨Nat.zero_le _, Nat.zero_le _⟩ (fun rr hrr => ?_)
    have hrr := pm_th0 (Or.inr h) hrr
    subst hrr
    refine lv_if_eq (tgt := 42) hx hb d_Model_held_9 (by decide) (fun c_9 => ?_) (fun c_9 => ?_)
    · refine lv_iconst (v := nI 0) hx hb d_Model_held_42 (by decide) ?_
      rw [hQ]
      exact W.zret (v := nI 0) (ty := .boolean) hx hb hr (by decide +kernel) (fun zt ht _ => ⟨⟨_, (pm_uI σ 0 (nI 0)), rfl, ⟨Or.inr ⟨Or.inl (Or.inr h), rfl⟩, rfl⟩, ps_hp ht hP⟩, hS.F ht⟩) hS.2.2 d_Model_held_43
    · exact absurd (by decide) c_9
  · refine lv_aload_n hx hb d_Model_held_0 rfl (lv_at hl 0 rfl) ?_
    refine lv_iconst (v := nI 0) hx hb d_Model_held_1 (by decide) ?_
    refine ps_put (v := .int (nI 0)) (ty := .int) hx hb hT i_Model t_Model t_Model_ok n_Model hown hK hg hP hS (k := 0) (by decide) pm_E_0 rfl 0 (by decide) (hT _ fl_Model_57) (fun _ h9 => h9) rfl (by decide +kernel) rfl rfl (Nat.le_of_ble_eq_true rfl) d_Model_held_2 (pm_E g cI cZ (pm_uI σ 0 (nI 0))) (pm_h1 (by decide)) (fun _ _ h => pm_E_uI h) (fun H locs hP hS => ?_)
    refine lv_iload_n hx hb d_Model_held_5 rfl (lv_at hl 1 rfl) ?_
    refine ps_sti (As := [.int (nI j)]) (rest := []) ⟨hx, hb, hml, hown, hT⟩ (c_Model_isThing (nI j)) (va_cwS 1 hT (ps_gS ml_Model_60 st_Model_isThing in_Model co_Model_isThing) rfl rfl rfl cs_Model_isThing ⟨Nat.le_of_ble_eq_true rfl, Nat.le_of_ble_eq_true rfl⟩) rfl hl.1 rfl (Nat.le_of_ble_eq_true rfl) d_Model_held_6 ⟨Nat.zero_le _, Nat.zero_le _⟩ (fun rr hrr => ?_)
    have hrr := pm_th1 hj hrr
    subst hrr
    refine lv_if_eq (tgt := 42) hx hb d_Model_held_9 (by decide) (fun c_9 => ?_) (fun c_9 => ?_)
    · exact absurd c_9 (by decide)
    · refine lv_iload_n hx hb d_Model_held_12 rfl (lv_at hl 2 rfl) ?_
      refine lv_if_lt (tgt := 42) hx hb d_Model_held_13 (by decide) (fun c_13 => ?_) (fun c_13 => ?_)
      · refine lv_iconst (v := nI 0) hx hb d_Model_held_42 (by decide) ?_
        rw [hQ]
        exact W.zret (v := nI 0) (ty := .boolean) hx hb hr (by decide +kernel) (fun zt ht _ => ⟨⟨_, (pm_uI σ 0 (nI 0)), rfl, ⟨Or.inr ⟨Or.inr (Or.inl c_13), rfl⟩, rfl⟩, ps_hp ht hP⟩, hS.F ht⟩) hS.2.2 d_Model_held_43
      · refine lv_iload_n hx hb d_Model_held_16 rfl (lv_at hl 2 rfl) ?_
        refine lv_sipush (v := nI 4096) hx hb d_Model_held_17 (by decide) ?_
        refine lv_icmp_ge (tgt := 42) hx hb d_Model_held_20 (by decide) (fun c_20 => ?_) (fun c_20 => ?_)
        · refine lv_iconst (v := nI 0) hx hb d_Model_held_42 (by decide) ?_
          rw [hQ]
          exact W.zret (v := nI 0) (ty := .boolean) hx hb hr (by decide +kernel) (fun zt ht _ => ⟨⟨_, (pm_uI σ 0 (nI 0)), rfl, ⟨Or.inr ⟨Or.inr (Or.inr c_20), rfl⟩, rfl⟩, ps_hp ht hP⟩, hS.F ht⟩) hS.2.2 d_Model_held_43
        · obtain ⟨q1, hq0, rfl⟩ := nI_of c_13
          have hq1 : q1 < 4096 := ps_ltOf c_20 hq0 (by decide)
          refine lv_aload_n hx hb d_Model_held_23 rfl (lv_at hl 0 rfl) ?_
          refine ps_get (v := .ref (g 4)) hx hb hT i_Model hown hK hP (k := 0) (by decide) pm_E_0 rfl 7 (by decide) (hT _ fl_Model_26) (fun _ h9 => h9) rfl d_Model_held_24 ?_
          refine lv_sipush (v := nI 4096) hx hb d_Model_held_27 (by decide) ?_
          refine lv_iload_n hx hb d_Model_held_30 rfl (lv_at hl 1 rfl) ?_
          refine lv_imul hx hb d_Model_held_31 ?_
          refine ps_seti (y := nI (4096 * j)) (pk_mul _ _) ?_
          refine lv_iload_n hx hb d_Model_held_32 rfl (lv_at hl 2 rfl) ?_
          refine lv_iadd hx hb d_Model_held_33 ?_
          refine ps_seti (y := nI (4096 * j + q1)) (nI_add _ _) ?_
          refine ps_zald (T := σ.2.2 4) hx hb hK hP (k := 4) (by decide) 1 pm_E_4 rfl (i := (4096 * j + q1)) (by omega) (by decide) d_Model_held_34 ?_
          refine lv_if_eq (tgt := 42) hx hb d_Model_held_35 (by decide) (fun c_35 => ?_) (fun c_35 => ?_)
          · have hb0 : σ.2.2 4 (4096 * j + q1) = false := ps_bI_0.mp c_35
            refine lv_iconst (v := nI 0) hx hb d_Model_held_42 (by decide) ?_
            rw [hQ]
            exact W.zret (v := nI 0) (ty := .boolean) hx hb hr (by decide +kernel) (fun zt ht _ => ⟨⟨_, (pm_uI σ 0 (nI 0)), rfl, ⟨Or.inl ⟨j, q1, hj, hq1, rfl, rfl, by rw [hb0]; rfl⟩, rfl⟩, ps_hp ht hP⟩, hS.F ht⟩) hS.2.2 d_Model_held_43
          · have hb0 : σ.2.2 4 (4096 * j + q1) = true := ps_bI_n0.mp c_35
            refine lv_iconst (v := nI 1) hx hb d_Model_held_38 (by decide) ?_
            refine lv_goto (tgt := 43) hx hb d_Model_held_39 (by decide) ?_
            rw [hQ]
            exact W.zret (v := nI 1) (ty := .boolean) hx hb hr (by decide +kernel) (fun zt ht _ => ⟨⟨_, (pm_uI σ 0 (nI 0)), rfl, ⟨Or.inl ⟨j, q1, hj, hq1, rfl, rfl, by rw [hb0]; rfl⟩, rfl⟩, ps_hp ht hP⟩, hS.F ht⟩) hS.2.2 d_Model_held_43

def rm_Model_told : Room := { frames := 0, cells := 0, slots := 0, locals := 0 }
abbrev ws_Model_told : List Cond := .code y_Model_told b_Model_told 2 (some .int) :: ps_tb
set_option maxHeartbeats 4000000 in
set_option maxRecDepth 100000 in
theorem c_Model_told {l : Launch} {D : va_G} {g : Nat → Nat} {cI cZ : ClassId} {σ : pm_τ} (hg : ps_inj 13 g) (y : Int32) : Met l y_Model_told ws_Model_told rm_Model_told (ps_Pc D pm_cl (pm_tys cI cZ) 13 g (pm_E g cI cZ σ) [.ref (g 0), .int y]) (ps_Qi (S := pm_τ) D pm_cl 13 g (fun u => pm_E g cI cZ u) (fun r u => r = pm_num σ y ∧ u = pm_uI σ 0 (nI 0))) 0 0 (ps_wA 13 g) := by
  refine ps_met (by decide) ?_
  intro p e s m args below meth c hx hb hr hml hts hown hlocks hname hv Q hQ
  obtain ⟨ha, hP, hK⟩ := hv
  have hT : ∀ w ∈ ps_tb, w.before args s = true := fun w h => hts w (List.mem_cons_of_mem _ h)
  have hown : s.vm.findClass R_Model = some m.cls := hown
  have hS : va_S (ps_wA 13 g) s.heap s.heap [] := va_S.rf
  refine ps_enter ha (Nat.le_of_ble_eq_true rfl) (fun ls hl => ?_)
  have hl : lv_has ls 2 [(0, .ref (g 0)), (1, .int y)] := hl
  refine lv_aload_n hx hb d_Model_told_0 rfl (lv_at hl 0 rfl) ?_
  refine lv_iconst (v := nI 0) hx hb d_Model_told_1 (by decide) ?_
  refine ps_put (v := .int (nI 0)) (ty := .int) hx hb hT i_Model t_Model t_Model_ok n_Model hown hK hg hP hS (k := 0) (by decide) pm_E_0 rfl 0 (by decide) (hT _ fl_Model_57) (fun _ h9 => h9) rfl (by decide +kernel) rfl rfl (Nat.le_of_ble_eq_true rfl) d_Model_told_2 (pm_E g cI cZ (pm_uI σ 0 (nI 0))) (pm_h1 (by decide)) (fun _ _ h => pm_E_uI h) (fun H locs hP hS => ?_)
  refine lv_aload_n hx hb d_Model_told_5 rfl (lv_at hl 0 rfl) ?_
  refine ps_get (v := .int (σ.1 14)) hx hb hT i_Model hown hK hP (k := 0) (by decide) pm_E_0 rfl 14 (by decide) (hT _ fl_Model_39) (fun _ h9 => h9) rfl d_Model_told_6 ?_
  refine lv_iconst (v := -1) hx hb d_Model_told_9 (by decide) ?_
  refine lv_icmp_ne (tgt := 15) hx hb d_Model_told_10 (by decide) (fun c_10 => ?_) (fun c_10 => ?_)
  · refine lv_iload_n hx hb d_Model_told_15 rfl (lv_at hl 1 rfl) ?_
    rcases ps_sw6 y with h9 | rfl | rfl | rfl | rfl | rfl | rfl
    · have h := h9
      refine lv_tableOut (tgt := 86) hx hb d_Model_told_16 h (by decide) ?_
      refine lv_iconst (v := -1) hx hb d_Model_told_86 (by decide) ?_
      rw [hQ]
      exact W.iret (v := -1) hx hb hr (fun zt ht _ => ⟨⟨_, (pm_uI σ 0 (nI 0)), rfl, ⟨(pm_num_out h).symm, rfl⟩, ps_hp ht hP⟩, hS.F ht⟩) hS.2.2 d_Model_told_87
    · refine lv_tableIn (tgt := 56) (off := 40) hx hb d_Model_told_16 (by decide) (by decide) (by decide) (by decide) ?_
      refine lv_aload_n hx hb d_Model_told_56 rfl (lv_at hl 0 rfl) ?_
      refine ps_get (v := .int (σ.1 16)) hx hb hT i_Model hown hK hP (k := 0) (by decide) pm_E_0 rfl 16 (by decide) (hT _ fl_Model_111) (fun _ h9 => h9) rfl d_Model_told_57 ?_
      rw [hQ]
      exact W.iret (v := σ.1 16) hx hb hr (fun zt ht _ => ⟨⟨_, (pm_uI σ 0 (nI 0)), rfl, ⟨(pm_num_i c_10 0 (by decide)).symm, rfl⟩, ps_hp ht hP⟩, hS.F ht⟩) hS.2.2 d_Model_told_60
    · refine lv_tableIn (tgt := 61) (off := 45) hx hb d_Model_told_16 (by decide) (by decide) (by decide) (by decide) ?_
      refine lv_aload_n hx hb d_Model_told_61 rfl (lv_at hl 0 rfl) ?_
      refine ps_get (v := .int (σ.1 19)) hx hb hT i_Model hown hK hP (k := 0) (by decide) pm_E_0 rfl 19 (by decide) (hT _ fl_Model_124) (fun _ h9 => h9) rfl d_Model_told_62 ?_
      rw [hQ]
      exact W.iret (v := σ.1 19) hx hb hr (fun zt ht _ => ⟨⟨_, (pm_uI σ 0 (nI 0)), rfl, ⟨(pm_num_i c_10 1 (by decide)).symm, rfl⟩, ps_hp ht hP⟩, hS.F ht⟩) hS.2.2 d_Model_told_65
    · refine lv_tableIn (tgt := 66) (off := 50) hx hb d_Model_told_16 (by decide) (by decide) (by decide) (by decide) ?_
      refine lv_aload_n hx hb d_Model_told_66 rfl (lv_at hl 0 rfl) ?_
      refine ps_get (v := .int (σ.1 20)) hx hb hT i_Model hown hK hP (k := 0) (by decide) pm_E_0 rfl 20 (by decide) (hT _ fl_Model_127) (fun _ h9 => h9) rfl d_Model_told_67 ?_
      rw [hQ]
      exact W.iret (v := σ.1 20) hx hb hr (fun zt ht _ => ⟨⟨_, (pm_uI σ 0 (nI 0)), rfl, ⟨(pm_num_i c_10 2 (by decide)).symm, rfl⟩, ps_hp ht hP⟩, hS.F ht⟩) hS.2.2 d_Model_told_70
    · refine lv_tableIn (tgt := 71) (off := 55) hx hb d_Model_told_16 (by decide) (by decide) (by decide) (by decide) ?_
      refine lv_aload_n hx hb d_Model_told_71 rfl (lv_at hl 0 rfl) ?_
      refine ps_get (v := .int (σ.1 21)) hx hb hT i_Model hown hK hP (k := 0) (by decide) pm_E_0 rfl 21 (by decide) (hT _ fl_Model_118) (fun _ h9 => h9) rfl d_Model_told_72 ?_
      rw [hQ]
      exact W.iret (v := σ.1 21) hx hb hr (fun zt ht _ => ⟨⟨_, (pm_uI σ 0 (nI 0)), rfl, ⟨(pm_num_i c_10 3 (by decide)).symm, rfl⟩, ps_hp ht hP⟩, hS.F ht⟩) hS.2.2 d_Model_told_75
    · refine lv_tableIn (tgt := 76) (off := 60) hx hb d_Model_told_16 (by decide) (by decide) (by decide) (by decide) ?_
      refine lv_aload_n hx hb d_Model_told_76 rfl (lv_at hl 0 rfl) ?_
      refine ps_get (v := .int (σ.1 24)) hx hb hT i_Model hown hK hP (k := 0) (by decide) pm_E_0 rfl 24 (by decide) (hT _ fl_Model_121) (fun _ h9 => h9) rfl d_Model_told_77 ?_
      rw [hQ]
      exact W.iret (v := σ.1 24) hx hb hr (fun zt ht _ => ⟨⟨_, (pm_uI σ 0 (nI 0)), rfl, ⟨(pm_num_i c_10 4 (by decide)).symm, rfl⟩, ps_hp ht hP⟩, hS.F ht⟩) hS.2.2 d_Model_told_80
    · refine lv_tableIn (tgt := 81) (off := 65) hx hb d_Model_told_16 (by decide) (by decide) (by decide) (by decide) ?_
      refine lv_aload_n hx hb d_Model_told_81 rfl (lv_at hl 0 rfl) ?_
      refine ps_get (v := .int (σ.1 15)) hx hb hT i_Model hown hK hP (k := 0) (by decide) pm_E_0 rfl 15 (by decide) (hT _ fl_Model_136) (fun _ h9 => h9) rfl d_Model_told_82 ?_
      rw [hQ]
      exact W.iret (v := σ.1 15) hx hb hr (fun zt ht _ => ⟨⟨_, (pm_uI σ 0 (nI 0)), rfl, ⟨(pm_num_i c_10 5 (by decide)).symm, rfl⟩, ps_hp ht hP⟩, hS.F ht⟩) hS.2.2 d_Model_told_85
  · refine lv_iconst (v := -1) hx hb d_Model_told_13 (by decide) ?_
    rw [hQ]
    exact W.iret (v := -1) hx hb hr (fun zt ht _ => ⟨⟨_, (pm_uI σ 0 (nI 0)), rfl, ⟨(pm_num_n c_10).symm, rfl⟩, ps_hp ht hP⟩, hS.F ht⟩) hS.2.2 d_Model_told_14

def rm_Model_row : Room := { frames := 0, cells := 0, slots := 0, locals := 0 }
abbrev ws_Model_row : List Cond := .code y_Model_row b_Model_row 3 (some .int) :: ps_tb
set_option maxHeartbeats 4000000 in
set_option maxRecDepth 100000 in
theorem c_Model_row {l : Launch} {D : va_G} {g : Nat → Nat} {cI cZ : ClassId} {σ : pm_τ} (hg : ps_inj 13 g) (P : List (Nat × Nat)) (hPl : P.length ≤ 6) (hcn : σ.1 16 = nI P.length) (hv : ∀ i, (hi : i < P.length) → σ.2.1 8 i = nI P[i].1 ∧ σ.2.1 9 i = nI P[i].2) (hk0 : σ.1 14 = -1 → P = []) (x : Int32) (en : Bool) : Met l y_Model_row ws_Model_row rm_Model_row (ps_Pc D pm_cl (pm_tys cI cZ) 13 g (pm_E g cI cZ σ) [.ref (g 0), .int x, .int (ps_bI en)]) (ps_Qi (S := pm_τ) D pm_cl 13 g (fun u => pm_E g cI cZ u) (fun r u => (∃ (i : Nat) (hi : i < P.length), x = nI i ∧ r = nI (if en = true then P[i].2 else P[i].1) ∧ u = pm_uI σ 0 (nI 0)) ∨ ((x < 0 ∨ nI P.length ≤ x) ∧ u = pm_uI σ 0 (nI 1)))) 0 0 (ps_wA 13 g) := by
  refine ps_met (by decide) ?_
  intro p e s m args below meth c hx hb hr hml hts hown hlocks hname hv Q hQ
  obtain ⟨ha, hP, hK⟩ := hv
  have hT : ∀ w ∈ ps_tb, w.before args s = true := fun w h => hts w (List.mem_cons_of_mem _ h)
  have hown : s.vm.findClass R_Model = some m.cls := hown
  have hS : va_S (ps_wA 13 g) s.heap s.heap [] := va_S.rf
  refine ps_enter ha (Nat.le_of_ble_eq_true rfl) (fun ls hl => ?_)
  have hl : lv_has ls 3 [(0, .ref (g 0)), (1, .int x), (2, .int (ps_bI en))] := hl
  refine lv_aload_n hx hb d_Model_row_0 rfl (lv_at hl 0 rfl) ?_
  refine lv_aload_n hx hb d_Model_row_1 rfl (lv_at hl 0 rfl) ?_
  refine ps_get (v := .int (σ.1 14)) hx hb hT i_Model hown hK hP (k := 0) (by decide) pm_E_0 rfl 14 (by decide) (hT _ fl_Model_39) (fun _ h9 => h9) rfl d_Model_row_2 ?_
  refine lv_iconst (v := -1) hx hb d_Model_row_5 (by decide) ?_
  refine lv_icmp_eq (tgt := 25) hx hb d_Model_row_6 (by decide) (fun c_6 => ?_) (fun c_6 => ?_)
  · have he0 := hk0 c_6
    refine lv_iconst (v := nI 1) hx hb d_Model_row_25 (by decide) ?_
    refine ps_put (v := .int (nI 1)) (ty := .int) hx hb hT i_Model t_Model t_Model_ok n_Model hown hK hg hP hS (k := 0) (by decide) pm_E_0 rfl 0 (by decide) (hT _ fl_Model_57) (fun _ h9 => h9) rfl (by decide +kernel) rfl rfl (Nat.le_of_ble_eq_true rfl) d_Model_row_26 (pm_E g cI cZ (pm_uI σ 0 (nI 1))) (pm_h1 (by decide)) (fun _ _ h => pm_E_uI h) (fun H locs hP hS => ?_)
    refine lv_aload_n hx hb d_Model_row_29 rfl (lv_at hl 0 rfl) ?_
    refine ps_get (v := .int (nI 1)) hx hb hT i_Model hown hK hP (k := 0) (by decide) pm_E_0 rfl 0 (by decide) (hT _ fl_Model_57) (fun _ h9 => h9) rfl d_Model_row_30 ?_
    refine lv_if_le (tgt := 40) hx hb d_Model_row_33 (by decide) (fun c_33 => ?_) (fun c_33 => ?_)
    · exact absurd c_33 (by decide)
    · refine lv_iconst (v := nI 0) hx hb d_Model_row_36 (by decide) ?_
      refine lv_goto (tgt := 59) hx hb d_Model_row_37 (by decide) ?_
      rw [hQ]
      exact W.iret (v := nI 0) hx hb hr (fun zt ht _ => ⟨⟨_, (pm_uI σ 0 (nI 1)), rfl, Or.inr ⟨by rw [he0]; exact pm_out0 x, rfl⟩, ps_hp ht hP⟩, hS.F ht⟩) hS.2.2 d_Model_row_59
  · refine lv_iload_n hx hb d_Model_row_9 rfl (lv_at hl 1 rfl) ?_
    refine lv_if_lt (tgt := 25) hx hb d_Model_row_10 (by decide) (fun c_10 => ?_) (fun c_10 => ?_)
    · refine lv_iconst (v := nI 1) hx hb d_Model_row_25 (by decide) ?_
      refine ps_put (v := .int (nI 1)) (ty := .int) hx hb hT i_Model t_Model t_Model_ok n_Model hown hK hg hP hS (k := 0) (by decide) pm_E_0 rfl 0 (by decide) (hT _ fl_Model_57) (fun _ h9 => h9) rfl (by decide +kernel) rfl rfl (Nat.le_of_ble_eq_true rfl) d_Model_row_26 (pm_E g cI cZ (pm_uI σ 0 (nI 1))) (pm_h1 (by decide)) (fun _ _ h => pm_E_uI h) (fun H locs hP hS => ?_)
      refine lv_aload_n hx hb d_Model_row_29 rfl (lv_at hl 0 rfl) ?_
      refine ps_get (v := .int (nI 1)) hx hb hT i_Model hown hK hP (k := 0) (by decide) pm_E_0 rfl 0 (by decide) (hT _ fl_Model_57) (fun _ h9 => h9) rfl d_Model_row_30 ?_
      refine lv_if_le (tgt := 40) hx hb d_Model_row_33 (by decide) (fun c_33 => ?_) (fun c_33 => ?_)
      · exact absurd c_33 (by decide)
      · refine lv_iconst (v := nI 0) hx hb d_Model_row_36 (by decide) ?_
        refine lv_goto (tgt := 59) hx hb d_Model_row_37 (by decide) ?_
        rw [hQ]
        exact W.iret (v := nI 0) hx hb hr (fun zt ht _ => ⟨⟨_, (pm_uI σ 0 (nI 1)), rfl, Or.inr ⟨Or.inl c_10, rfl⟩, ps_hp ht hP⟩, hS.F ht⟩) hS.2.2 d_Model_row_59
    · refine lv_iload_n hx hb d_Model_row_13 rfl (lv_at hl 1 rfl) ?_
      refine lv_aload_n hx hb d_Model_row_14 rfl (lv_at hl 0 rfl) ?_
      refine ps_get (v := .int (σ.1 16)) hx hb hT i_Model hown hK hP (k := 0) (by decide) pm_E_0 rfl 16 (by decide) (hT _ fl_Model_111) (fun _ h9 => h9) rfl d_Model_row_15 ?_
      refine ps_seti (y := nI P.length) hcn ?_
      refine lv_icmp_ge (tgt := 25) hx hb d_Model_row_18 (by decide) (fun c_18 => ?_) (fun c_18 => ?_)
      · refine lv_iconst (v := nI 1) hx hb d_Model_row_25 (by decide) ?_
        refine ps_put (v := .int (nI 1)) (ty := .int) hx hb hT i_Model t_Model t_Model_ok n_Model hown hK hg hP hS (k := 0) (by decide) pm_E_0 rfl 0 (by decide) (hT _ fl_Model_57) (fun _ h9 => h9) rfl (by decide +kernel) rfl rfl (Nat.le_of_ble_eq_true rfl) d_Model_row_26 (pm_E g cI cZ (pm_uI σ 0 (nI 1))) (pm_h1 (by decide)) (fun _ _ h => pm_E_uI h) (fun H locs hP hS => ?_)
        refine lv_aload_n hx hb d_Model_row_29 rfl (lv_at hl 0 rfl) ?_
        refine ps_get (v := .int (nI 1)) hx hb hT i_Model hown hK hP (k := 0) (by decide) pm_E_0 rfl 0 (by decide) (hT _ fl_Model_57) (fun _ h9 => h9) rfl d_Model_row_30 ?_
        refine lv_if_le (tgt := 40) hx hb d_Model_row_33 (by decide) (fun c_33 => ?_) (fun c_33 => ?_)
        · exact absurd c_33 (by decide)
        · refine lv_iconst (v := nI 0) hx hb d_Model_row_36 (by decide) ?_
          refine lv_goto (tgt := 59) hx hb d_Model_row_37 (by decide) ?_
          rw [hQ]
          exact W.iret (v := nI 0) hx hb hr (fun zt ht _ => ⟨⟨_, (pm_uI σ 0 (nI 1)), rfl, Or.inr ⟨Or.inr c_18, rfl⟩, ps_hp ht hP⟩, hS.F ht⟩) hS.2.2 d_Model_row_59
      · obtain ⟨i, hi0, rfl⟩ := nI_of c_10
        have hi : i < P.length := ps_ltOf c_18 hi0 (by omega)
        refine lv_iconst (v := nI 0) hx hb d_Model_row_21 (by decide) ?_
        refine lv_goto (tgt := 26) hx hb d_Model_row_22 (by decide) ?_
        refine ps_put (v := .int (nI 0)) (ty := .int) hx hb hT i_Model t_Model t_Model_ok n_Model hown hK hg hP hS (k := 0) (by decide) pm_E_0 rfl 0 (by decide) (hT _ fl_Model_57) (fun _ h9 => h9) rfl (by decide +kernel) rfl rfl (Nat.le_of_ble_eq_true rfl) d_Model_row_26 (pm_E g cI cZ (pm_uI σ 0 (nI 0))) (pm_h1 (by decide)) (fun _ _ h => pm_E_uI h) (fun H locs hP hS => ?_)
        refine lv_aload_n hx hb d_Model_row_29 rfl (lv_at hl 0 rfl) ?_
        refine ps_get (v := .int (nI 0)) hx hb hT i_Model hown hK hP (k := 0) (by decide) pm_E_0 rfl 0 (by decide) (hT _ fl_Model_57) (fun _ h9 => h9) rfl d_Model_row_30 ?_
        refine lv_if_le (tgt := 40) hx hb d_Model_row_33 (by decide) (fun c_33 => ?_) (fun c_33 => ?_)
        · refine lv_iload_n hx hb d_Model_row_40 rfl (lv_at hl 2 rfl) ?_
          refine lv_if_eq (tgt := 53) hx hb d_Model_row_41 (by decide) (fun c_41 => ?_) (fun c_41 => ?_)
          · have hen : en = false := ps_bI_0.mp c_41
            refine lv_aload_n hx hb d_Model_row_53 rfl (lv_at hl 0 rfl) ?_
            refine ps_get (v := .ref (g 8)) hx hb hT i_Model hown hK hP (k := 0) (by decide) pm_E_0 rfl 17 (by decide) (hT _ fl_Model_42) (fun _ h9 => h9) rfl d_Model_row_54 ?_
            refine lv_iload_n hx hb d_Model_row_57 rfl (lv_at hl 1 rfl) ?_
            refine ps_iald (f := σ.2.1 8) hx hb hK hP (k := 8) (by decide) 0 pm_E_8 rfl (i := i) (by omega) (by decide) d_Model_row_58 ?_
            rw [hQ]
            exact W.iret (v := σ.2.1 8 i) hx hb hr (fun zt ht _ => ⟨⟨_, (pm_uI σ 0 (nI 0)), rfl, Or.inl ⟨i, hi, rfl, by rw [(hv i hi).1, if_neg (by rw [hen]; decide)], rfl⟩, ps_hp ht hP⟩, hS.F ht⟩) hS.2.2 d_Model_row_59
          · have hen : en = true := ps_bI_n0.mp c_41
            refine lv_aload_n hx hb d_Model_row_44 rfl (lv_at hl 0 rfl) ?_
            refine ps_get (v := .ref (g 9)) hx hb hT i_Model hown hK hP (k := 0) (by decide) pm_E_0 rfl 18 (by decide) (hT _ fl_Model_45) (fun _ h9 => h9) rfl d_Model_row_45 ?_
            refine lv_iload_n hx hb d_Model_row_48 rfl (lv_at hl 1 rfl) ?_
            refine ps_iald (f := σ.2.1 9) hx hb hK hP (k := 9) (by decide) 0 pm_E_9 rfl (i := i) (by omega) (by decide) d_Model_row_49 ?_
            refine lv_goto (tgt := 59) hx hb d_Model_row_50 (by decide) ?_
            rw [hQ]
            exact W.iret (v := σ.2.1 9 i) hx hb hr (fun zt ht _ => ⟨⟨_, (pm_uI σ 0 (nI 0)), rfl, Or.inl ⟨i, hi, rfl, by rw [(hv i hi).2, if_pos hen], rfl⟩, ps_hp ht hP⟩, hS.F ht⟩) hS.2.2 d_Model_row_59
        · exact absurd (by decide) c_33

def rm_Model_fetch : Room := { frames := 0, cells := 0, slots := 0, locals := 0 }
abbrev ws_Model_fetch : List Cond := .code y_Model_fetch b_Model_fetch 3 (some .int) :: ps_tb
set_option maxHeartbeats 4000000 in
set_option maxRecDepth 100000 in
theorem c_Model_fetch {l : Launch} {D : va_G} {g : Nat → Nat} {cI cZ : ClassId} {σ : pm_τ} (hg : ps_inj 13 g) (P : List (Nat × Nat)) (hPl : P.length ≤ 2048) (hcn : σ.1 21 = nI P.length) (hv : ∀ i, (hi : i < P.length) → σ.2.1 10 i = nI P[i].1 ∧ σ.2.1 11 i = nI P[i].2) (hk0 : σ.1 14 = -1 → P = []) (x : Int32) (en : Bool) : Met l y_Model_fetch ws_Model_fetch rm_Model_fetch (ps_Pc D pm_cl (pm_tys cI cZ) 13 g (pm_E g cI cZ σ) [.ref (g 0), .int x, .int (ps_bI en)]) (ps_Qi (S := pm_τ) D pm_cl 13 g (fun u => pm_E g cI cZ u) (fun r u => (∃ (i : Nat) (hi : i < P.length), x = nI i ∧ r = nI (if en = true then P[i].2 else P[i].1) ∧ u = pm_uI σ 0 (nI 0)) ∨ ((x < 0 ∨ nI P.length ≤ x) ∧ u = pm_uI σ 0 (nI 1)))) 0 0 (ps_wA 13 g) := by
  refine ps_met (by decide) ?_
  intro p e s m args below meth c hx hb hr hml hts hown hlocks hname hv Q hQ
  obtain ⟨ha, hP, hK⟩ := hv
  have hT : ∀ w ∈ ps_tb, w.before args s = true := fun w h => hts w (List.mem_cons_of_mem _ h)
  have hown : s.vm.findClass R_Model = some m.cls := hown
  have hS : va_S (ps_wA 13 g) s.heap s.heap [] := va_S.rf
  refine ps_enter ha (Nat.le_of_ble_eq_true rfl) (fun ls hl => ?_)
  have hl : lv_has ls 3 [(0, .ref (g 0)), (1, .int x), (2, .int (ps_bI en))] := hl
  refine lv_aload_n hx hb d_Model_fetch_0 rfl (lv_at hl 0 rfl) ?_
  refine lv_aload_n hx hb d_Model_fetch_1 rfl (lv_at hl 0 rfl) ?_
  refine ps_get (v := .int (σ.1 14)) hx hb hT i_Model hown hK hP (k := 0) (by decide) pm_E_0 rfl 14 (by decide) (hT _ fl_Model_39) (fun _ h9 => h9) rfl d_Model_fetch_2 ?_
  refine lv_iconst (v := -1) hx hb d_Model_fetch_5 (by decide) ?_
  refine lv_icmp_eq (tgt := 25) hx hb d_Model_fetch_6 (by decide) (fun c_6 => ?_) (fun c_6 => ?_)
  · have he0 := hk0 c_6
    refine lv_iconst (v := nI 1) hx hb d_Model_fetch_25 (by decide) ?_
    refine ps_put (v := .int (nI 1)) (ty := .int) hx hb hT i_Model t_Model t_Model_ok n_Model hown hK hg hP hS (k := 0) (by decide) pm_E_0 rfl 0 (by decide) (hT _ fl_Model_57) (fun _ h9 => h9) rfl (by decide +kernel) rfl rfl (Nat.le_of_ble_eq_true rfl) d_Model_fetch_26 (pm_E g cI cZ (pm_uI σ 0 (nI 1))) (pm_h1 (by decide)) (fun _ _ h => pm_E_uI h) (fun H locs hP hS => ?_)
    refine lv_aload_n hx hb d_Model_fetch_29 rfl (lv_at hl 0 rfl) ?_
    refine ps_get (v := .int (nI 1)) hx hb hT i_Model hown hK hP (k := 0) (by decide) pm_E_0 rfl 0 (by decide) (hT _ fl_Model_57) (fun _ h9 => h9) rfl d_Model_fetch_30 ?_
    refine lv_if_le (tgt := 40) hx hb d_Model_fetch_33 (by decide) (fun c_33 => ?_) (fun c_33 => ?_)
    · exact absurd c_33 (by decide)
    · refine lv_iconst (v := nI 0) hx hb d_Model_fetch_36 (by decide) ?_
      refine lv_goto (tgt := 59) hx hb d_Model_fetch_37 (by decide) ?_
      rw [hQ]
      exact W.iret (v := nI 0) hx hb hr (fun zt ht _ => ⟨⟨_, (pm_uI σ 0 (nI 1)), rfl, Or.inr ⟨by rw [he0]; exact pm_out0 x, rfl⟩, ps_hp ht hP⟩, hS.F ht⟩) hS.2.2 d_Model_fetch_59
  · refine lv_iload_n hx hb d_Model_fetch_9 rfl (lv_at hl 1 rfl) ?_
    refine lv_if_lt (tgt := 25) hx hb d_Model_fetch_10 (by decide) (fun c_10 => ?_) (fun c_10 => ?_)
    · refine lv_iconst (v := nI 1) hx hb d_Model_fetch_25 (by decide) ?_
      refine ps_put (v := .int (nI 1)) (ty := .int) hx hb hT i_Model t_Model t_Model_ok n_Model hown hK hg hP hS (k := 0) (by decide) pm_E_0 rfl 0 (by decide) (hT _ fl_Model_57) (fun _ h9 => h9) rfl (by decide +kernel) rfl rfl (Nat.le_of_ble_eq_true rfl) d_Model_fetch_26 (pm_E g cI cZ (pm_uI σ 0 (nI 1))) (pm_h1 (by decide)) (fun _ _ h => pm_E_uI h) (fun H locs hP hS => ?_)
      refine lv_aload_n hx hb d_Model_fetch_29 rfl (lv_at hl 0 rfl) ?_
      refine ps_get (v := .int (nI 1)) hx hb hT i_Model hown hK hP (k := 0) (by decide) pm_E_0 rfl 0 (by decide) (hT _ fl_Model_57) (fun _ h9 => h9) rfl d_Model_fetch_30 ?_
      refine lv_if_le (tgt := 40) hx hb d_Model_fetch_33 (by decide) (fun c_33 => ?_) (fun c_33 => ?_)
      · exact absurd c_33 (by decide)
      · refine lv_iconst (v := nI 0) hx hb d_Model_fetch_36 (by decide) ?_
        refine lv_goto (tgt := 59) hx hb d_Model_fetch_37 (by decide) ?_
        rw [hQ]
        exact W.iret (v := nI 0) hx hb hr (fun zt ht _ => ⟨⟨_, (pm_uI σ 0 (nI 1)), rfl, Or.inr ⟨Or.inl c_10, rfl⟩, ps_hp ht hP⟩, hS.F ht⟩) hS.2.2 d_Model_fetch_59
    · refine lv_iload_n hx hb d_Model_fetch_13 rfl (lv_at hl 1 rfl) ?_
      refine lv_aload_n hx hb d_Model_fetch_14 rfl (lv_at hl 0 rfl) ?_
      refine ps_get (v := .int (σ.1 21)) hx hb hT i_Model hown hK hP (k := 0) (by decide) pm_E_0 rfl 21 (by decide) (hT _ fl_Model_118) (fun _ h9 => h9) rfl d_Model_fetch_15 ?_
      refine ps_seti (y := nI P.length) hcn ?_
      refine lv_icmp_ge (tgt := 25) hx hb d_Model_fetch_18 (by decide) (fun c_18 => ?_) (fun c_18 => ?_)
      · refine lv_iconst (v := nI 1) hx hb d_Model_fetch_25 (by decide) ?_
        refine ps_put (v := .int (nI 1)) (ty := .int) hx hb hT i_Model t_Model t_Model_ok n_Model hown hK hg hP hS (k := 0) (by decide) pm_E_0 rfl 0 (by decide) (hT _ fl_Model_57) (fun _ h9 => h9) rfl (by decide +kernel) rfl rfl (Nat.le_of_ble_eq_true rfl) d_Model_fetch_26 (pm_E g cI cZ (pm_uI σ 0 (nI 1))) (pm_h1 (by decide)) (fun _ _ h => pm_E_uI h) (fun H locs hP hS => ?_)
        refine lv_aload_n hx hb d_Model_fetch_29 rfl (lv_at hl 0 rfl) ?_
        refine ps_get (v := .int (nI 1)) hx hb hT i_Model hown hK hP (k := 0) (by decide) pm_E_0 rfl 0 (by decide) (hT _ fl_Model_57) (fun _ h9 => h9) rfl d_Model_fetch_30 ?_
        refine lv_if_le (tgt := 40) hx hb d_Model_fetch_33 (by decide) (fun c_33 => ?_) (fun c_33 => ?_)
        · exact absurd c_33 (by decide)
        · refine lv_iconst (v := nI 0) hx hb d_Model_fetch_36 (by decide) ?_
          refine lv_goto (tgt := 59) hx hb d_Model_fetch_37 (by decide) ?_
          rw [hQ]
          exact W.iret (v := nI 0) hx hb hr (fun zt ht _ => ⟨⟨_, (pm_uI σ 0 (nI 1)), rfl, Or.inr ⟨Or.inr c_18, rfl⟩, ps_hp ht hP⟩, hS.F ht⟩) hS.2.2 d_Model_fetch_59
      · obtain ⟨i, hi0, rfl⟩ := nI_of c_10
        have hi : i < P.length := ps_ltOf c_18 hi0 (by omega)
        refine lv_iconst (v := nI 0) hx hb d_Model_fetch_21 (by decide) ?_
        refine lv_goto (tgt := 26) hx hb d_Model_fetch_22 (by decide) ?_
        refine ps_put (v := .int (nI 0)) (ty := .int) hx hb hT i_Model t_Model t_Model_ok n_Model hown hK hg hP hS (k := 0) (by decide) pm_E_0 rfl 0 (by decide) (hT _ fl_Model_57) (fun _ h9 => h9) rfl (by decide +kernel) rfl rfl (Nat.le_of_ble_eq_true rfl) d_Model_fetch_26 (pm_E g cI cZ (pm_uI σ 0 (nI 0))) (pm_h1 (by decide)) (fun _ _ h => pm_E_uI h) (fun H locs hP hS => ?_)
        refine lv_aload_n hx hb d_Model_fetch_29 rfl (lv_at hl 0 rfl) ?_
        refine ps_get (v := .int (nI 0)) hx hb hT i_Model hown hK hP (k := 0) (by decide) pm_E_0 rfl 0 (by decide) (hT _ fl_Model_57) (fun _ h9 => h9) rfl d_Model_fetch_30 ?_
        refine lv_if_le (tgt := 40) hx hb d_Model_fetch_33 (by decide) (fun c_33 => ?_) (fun c_33 => ?_)
        · refine lv_iload_n hx hb d_Model_fetch_40 rfl (lv_at hl 2 rfl) ?_
          refine lv_if_eq (tgt := 53) hx hb d_Model_fetch_41 (by decide) (fun c_41 => ?_) (fun c_41 => ?_)
          · have hen : en = false := ps_bI_0.mp c_41
            refine lv_aload_n hx hb d_Model_fetch_53 rfl (lv_at hl 0 rfl) ?_
            refine ps_get (v := .ref (g 10)) hx hb hT i_Model hown hK hP (k := 0) (by decide) pm_E_0 rfl 22 (by decide) (hT _ fl_Model_48) (fun _ h9 => h9) rfl d_Model_fetch_54 ?_
            refine lv_iload_n hx hb d_Model_fetch_57 rfl (lv_at hl 1 rfl) ?_
            refine ps_iald (f := σ.2.1 10) hx hb hK hP (k := 10) (by decide) 0 pm_E_10 rfl (i := i) (by omega) (by decide) d_Model_fetch_58 ?_
            rw [hQ]
            exact W.iret (v := σ.2.1 10 i) hx hb hr (fun zt ht _ => ⟨⟨_, (pm_uI σ 0 (nI 0)), rfl, Or.inl ⟨i, hi, rfl, by rw [(hv i hi).1, if_neg (by rw [hen]; decide)], rfl⟩, ps_hp ht hP⟩, hS.F ht⟩) hS.2.2 d_Model_fetch_59
          · have hen : en = true := ps_bI_n0.mp c_41
            refine lv_aload_n hx hb d_Model_fetch_44 rfl (lv_at hl 0 rfl) ?_
            refine ps_get (v := .ref (g 11)) hx hb hT i_Model hown hK hP (k := 0) (by decide) pm_E_0 rfl 23 (by decide) (hT _ fl_Model_51) (fun _ h9 => h9) rfl d_Model_fetch_45 ?_
            refine lv_iload_n hx hb d_Model_fetch_48 rfl (lv_at hl 1 rfl) ?_
            refine ps_iald (f := σ.2.1 11) hx hb hK hP (k := 11) (by decide) 0 pm_E_11 rfl (i := i) (by omega) (by decide) d_Model_fetch_49 ?_
            refine lv_goto (tgt := 59) hx hb d_Model_fetch_50 (by decide) ?_
            rw [hQ]
            exact W.iret (v := σ.2.1 11 i) hx hb hr (fun zt ht _ => ⟨⟨_, (pm_uI σ 0 (nI 0)), rfl, Or.inl ⟨i, hi, rfl, by rw [(hv i hi).2, if_pos hen], rfl⟩, ps_hp ht hP⟩, hS.F ht⟩) hS.2.2 d_Model_fetch_59
        · exact absurd (by decide) c_33
