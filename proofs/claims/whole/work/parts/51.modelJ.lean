theorem ml_Model_130 : (.methodLink R_Model 130 y_Model_raise : Cond) ∈ ps_tb := ps_in 651 (by decide +kernel) rfl
theorem co_Model_raise : (.code y_Model_raise b_Model_raise 2 (some .int) : Cond) ∈ ps_tb := ps_in 654 (by decide +kernel) rfl
theorem im_Model_raise : (.instanceMethod y_Model_raise : Cond) ∈ ps_tb := ps_in 653 (by decide +kernel) rfl
theorem se_Model_raise : (.selects R_Model y_Model_raise y_Model_raise : Cond) ∈ ps_tb := ps_inS 20 (by decide +kernel) rfl
theorem ml_Model_133 : (.methodLink R_Model 133 y_Model_isText : Cond) ∈ ps_tb := ps_in 655 (by decide +kernel) rfl
theorem co_Model_isText : (.code y_Model_isText b_Model_isText 3 (some .boolean) : Cond) ∈ ps_tb := ps_in 658 (by decide +kernel) rfl
theorem im_Model_isText : (.instanceMethod y_Model_isText : Cond) ∈ ps_tb := ps_in 657 (by decide +kernel) rfl
theorem se_Model_isText : (.selects R_Model y_Model_isText y_Model_isText : Cond) ∈ ps_tb := ps_inS 21 (by decide +kernel) rfl
theorem ml_Model_139 : (.methodLink R_Model 139 y_Model_unite : Cond) ∈ ps_tb := ps_in 681 (by decide +kernel) rfl
theorem co_Model_unite : (.code y_Model_unite b_Model_unite 3 none : Cond) ∈ ps_tb := ps_in 684 (by decide +kernel) rfl
theorem im_Model_unite : (.instanceMethod y_Model_unite : Cond) ∈ ps_tb := ps_in 683 (by decide +kernel) rfl
theorem se_Model_unite : (.selects R_Model y_Model_unite y_Model_unite : Cond) ∈ ps_tb := ps_inS 26 (by decide +kernel) rfl
theorem ml_Model_142 : (.methodLink R_Model 142 y_Model_isAsTold : Cond) ∈ ps_tb := ps_in 685 (by decide +kernel) rfl
theorem co_Model_isAsTold : (.code y_Model_isAsTold b_Model_isAsTold 4 (some .boolean) : Cond) ∈ ps_tb := ps_in 688 (by decide +kernel) rfl
theorem im_Model_isAsTold : (.instanceMethod y_Model_isAsTold : Cond) ∈ ps_tb := ps_in 687 (by decide +kernel) rfl
theorem se_Model_isAsTold : (.selects R_Model y_Model_isAsTold y_Model_isAsTold : Cond) ∈ ps_tb := ps_inS 27 (by decide +kernel) rfl
theorem ml_Model_149 : (.methodLink R_Model 149 y_Model_plan : Cond) ∈ ps_tb := ps_in 693 (by decide +kernel) rfl
theorem co_Model_plan : (.code y_Model_plan b_Model_plan 4 none : Cond) ∈ ps_tb := ps_in 696 (by decide +kernel) rfl
theorem im_Model_plan : (.instanceMethod y_Model_plan : Cond) ∈ ps_tb := ps_in 695 (by decide +kernel) rfl
theorem se_Model_plan : (.selects R_Model y_Model_plan y_Model_plan : Cond) ∈ ps_tb := ps_inS 29 (by decide +kernel) rfl
theorem ml_Model_146 : (.methodLink R_Model 146 y_Model_spans : Cond) ∈ ps_tb := ps_in 689 (by decide +kernel) rfl
theorem co_Model_spans : (.code y_Model_spans b_Model_spans 2 none : Cond) ∈ ps_tb := ps_in 692 (by decide +kernel) rfl
theorem im_Model_spans : (.instanceMethod y_Model_spans : Cond) ∈ ps_tb := ps_in 691 (by decide +kernel) rfl
theorem se_Model_spans : (.selects R_Model y_Model_spans y_Model_spans : Cond) ∈ ps_tb := ps_inS 28 (by decide +kernel) rfl
theorem cd_Model_isAsTold : y_Model_isAsTold.cls = R_Model ∧ y_Model_isAsTold.cls ≠ "java/lang/invoke/MethodHandle" ∧ y_Model_isAsTold.cls ≠ "java/lang/invoke/VarHandle" ∧ (parseMethodDescriptor y_Model_isAsTold.desc).map (fun d => d.parameters.length) = some 0 := by decide +kernel
theorem cd_Model_isText : y_Model_isText.cls = R_Model ∧ y_Model_isText.cls ≠ "java/lang/invoke/MethodHandle" ∧ y_Model_isText.cls ≠ "java/lang/invoke/VarHandle" ∧ (parseMethodDescriptor y_Model_isText.desc).map (fun d => d.parameters.length) = some 1 := by decide +kernel
theorem cd_Model_plan : y_Model_plan.cls = R_Model ∧ y_Model_plan.cls ≠ "java/lang/invoke/MethodHandle" ∧ y_Model_plan.cls ≠ "java/lang/invoke/VarHandle" ∧ (parseMethodDescriptor y_Model_plan.desc).map (fun d => d.parameters.length) = some 1 := by decide +kernel
theorem cd_Model_raise : y_Model_raise.cls = R_Model ∧ y_Model_raise.cls ≠ "java/lang/invoke/MethodHandle" ∧ y_Model_raise.cls ≠ "java/lang/invoke/VarHandle" ∧ (parseMethodDescriptor y_Model_raise.desc).map (fun d => d.parameters.length) = some 1 := by decide +kernel
theorem cd_Model_spans : y_Model_spans.cls = R_Model ∧ y_Model_spans.cls ≠ "java/lang/invoke/MethodHandle" ∧ y_Model_spans.cls ≠ "java/lang/invoke/VarHandle" ∧ (parseMethodDescriptor y_Model_spans.desc).map (fun d => d.parameters.length) = some 0 := by decide +kernel
theorem cd_Model_unite : y_Model_unite.cls = R_Model ∧ y_Model_unite.cls ≠ "java/lang/invoke/MethodHandle" ∧ y_Model_unite.cls ≠ "java/lang/invoke/VarHandle" ∧ (parseMethodDescriptor y_Model_unite.desc).map (fun d => d.parameters.length) = some 0 := by decide +kernel
def rm_Model_answer : Room := { frames := 4, cells := 0, slots := 0, locals := 89 }
abbrev ws_Model_answer : List Cond := .code y_Model_answer b_Model_answer 5 (some .int) :: ps_tb
set_option maxHeartbeats 4000000 in
set_option maxRecDepth 100000 in
theorem c_Model_answer {l : Launch} {D : va_G} {g : Nat → Nat} {cI cZ : ClassId} {σ : pm_τ} (hg : ps_inj 13 g) (n : Nat) (hn : σ.1 2 = nI n) (hn60 : n ≤ 60) (c1 : Nat) (hc1 : σ.1 9 = nI c1) (cc1 : Nat) (hcc : cc1 ≤ 1000) (hco : σ.1 4 = nI cc1) (hln : ∀ t, t < 6 → σ.2.1 2 t = -1 ∨ ∃ z : Nat, z ≤ 4095 ∧ σ.2.1 2 t = nI z) (x : Int32) : Met l y_Model_answer ws_Model_answer rm_Model_answer (ps_Pc D pm_cl (pm_tys cI cZ) 13 g (pm_E g cI cZ σ) [.ref (g 0), .int x]) (ps_Qi (S := pm_τ) D pm_cl 13 g (fun u => pm_E g cI cZ u) (fun r u => (∃ j Ln : Nat, j < 6 ∧ x = nI j ∧ σ.2.1 2 j = nI Ln ∧ Ln ≤ 4095 ∧ r = (ps_kd (ps_prs (σ.2.1 1) n) (ps_rws Ln (ps_prs (σ.2.1 1) n))) ∧ u.1 0 = nI 0 ∧ u.1 2 = nI 0 ∧ pm_sm [0, 2, 9, 10, 11, 14, 15, 16, 19, 20, 21, 24] [5, 6, 7, 8, 9, 10, 11] [12] σ u ∧ (((ps_kd (ps_prs (σ.2.1 1) n) (ps_rws Ln (ps_prs (σ.2.1 1) n))) = nI 2 ∧ u.1 9 = nI c1 ∧ u.2.1 5 = σ.2.1 5) ∨ (¬ (ps_kd (ps_prs (σ.2.1 1) n) (ps_rws Ln (ps_prs (σ.2.1 1) n))) = nI 2 ∧ u.1 9 = nI (c1 + 1) ∧ u.2.1 5 = va_up (σ.2.1 5) j (nI (c1 + 1)))) ∧ pm_rpA u (ps_kd (ps_prs (σ.2.1 1) n) (ps_rws Ln (ps_prs (σ.2.1 1) n))) (nI j) (ps_rws Ln (ps_prs (σ.2.1 1) n)) (pm_SS (σ.2.2 4) j) cc1) ∨ (((x < 0 ∨ nI 6 ≤ x) ∨ ∃ j : Nat, j < 6 ∧ x = nI j ∧ σ.2.1 2 j = -1) ∧ u = pm_uI (pm_uI σ 2 (nI 0)) 0 (nI 1)))) 0 0 (ps_wA 13 g) := by
  refine ps_met (by decide) ?_
  intro p e s m args below meth c hx hb hr hml hts hown hlocks hname hv Q hQ
  obtain ⟨ha, hP, hK⟩ := hv
  have hT : ∀ w ∈ ps_tb, w.before args s = true := fun w h => hts w (List.mem_cons_of_mem _ h)
  have hown : s.vm.findClass R_Model = some m.cls := hown
  have hS : va_S (ps_wA 13 g) s.heap s.heap [] := va_S.rf
  refine ps_enter ha (Nat.le_of_ble_eq_true rfl) (fun ls hl => ?_)
  have hl : lv_has ls 5 [(0, .ref (g 0)), (1, .int x)] := hl
  rcases pk_ix x (n := 6) (by decide) with h | h | ⟨j, hj, rfl⟩
  · refine lv_aload_n hx hb d_Model_answer_0 rfl (lv_at hl 0 rfl) ?_
    refine lv_iload_n hx hb d_Model_answer_1 rfl (lv_at hl 1 rfl) ?_
    refine ps_roi (k := 0) (As := [.int x]) (rest := []) ⟨hx, hb, hml, hown, hT⟩ (c_Model_isKnown (σ := σ) x) (cwV 1 hT (ps_gV ml_Model_80 im_Model_isKnown se_Model_isKnown in_Model co_Model_isKnown) rfl rfl rfl cd_Model_isKnown ⟨Nat.le_of_ble_eq_true rfl, Nat.le_of_ble_eq_true rfl⟩) hK hP (by omega) pm_E_0 rfl rfl hl.1 rfl (Nat.le_of_ble_eq_true rfl) d_Model_answer_2 ⟨Nat.zero_le _, Nat.zero_le _⟩ (fun rr hrr => ?_)
    have hrr := pm_kn0 (Or.inl h) hrr
    subst hrr
    refine lv_if_ne (tgt := 19) hx hb d_Model_answer_5 (by decide) (fun c_5 => ?_) (fun c_5 => ?_)
    · exact absurd (by decide) c_5
    · refine lv_aload_n hx hb d_Model_answer_8 rfl (lv_at hl 0 rfl) ?_
      refine lv_iconst (v := nI 0) hx hb d_Model_answer_9 (by decide) ?_
      refine ps_put (v := .int (nI 0)) (ty := .int) hx hb hT i_Model t_Model t_Model_ok n_Model hown hK hg hP hS (k := 0) (by decide) pm_E_0 rfl 2 (by decide) (hT _ fl_Model_64) (fun _ h9 => h9) rfl (by decide +kernel) rfl rfl (Nat.le_of_ble_eq_true rfl) d_Model_answer_10 (pm_E g cI cZ (pm_uI σ 2 (nI 0))) (pm_h1 (by decide)) (fun _ _ h => pm_E_uI h) (fun H locs hP hS => ?_)
      refine lv_aload_n hx hb d_Model_answer_13 rfl (lv_at hl 0 rfl) ?_
      refine lv_iconst (v := nI 1) hx hb d_Model_answer_14 (by decide) ?_
      refine ps_wri (k := 0) (As := [.int (nI 1)]) (rest := []) ⟨hx, hb, hml, hown, hT⟩ (c_Model_raise (σ := (pm_uI σ 2 (nI 0))) hg (nI 1)) (cwV 1 hT (ps_gV ml_Model_130 im_Model_raise se_Model_raise in_Model co_Model_raise) rfl rfl rfl cd_Model_raise ⟨Nat.le_of_ble_eq_true rfl, Nat.le_of_ble_eq_true rfl⟩) hK hP hS (fun _ h => h) (by omega) pm_E_0 rfl rfl hl.1 rfl (Nat.le_of_ble_eq_true rfl) d_Model_answer_15 ⟨Nat.zero_le _, Nat.zero_le _⟩ (fun rr u3 H locs hu3 hP hS _ => ?_)
      obtain ⟨rfl, rfl⟩ := hu3
      rw [hQ]
      exact W.iret (v := nI 0) hx hb hr (fun zt ht _ => ⟨⟨_, (pm_uI (pm_uI σ 2 (nI 0)) 0 (nI 1)), rfl, Or.inr ⟨Or.inl (Or.inl h), rfl⟩, ps_hp ht hP⟩, hS.F ht⟩) hS.2.2 d_Model_answer_18
  · refine lv_aload_n hx hb d_Model_answer_0 rfl (lv_at hl 0 rfl) ?_
    refine lv_iload_n hx hb d_Model_answer_1 rfl (lv_at hl 1 rfl) ?_
    refine ps_roi (k := 0) (As := [.int x]) (rest := []) ⟨hx, hb, hml, hown, hT⟩ (c_Model_isKnown (σ := σ) x) (cwV 1 hT (ps_gV ml_Model_80 im_Model_isKnown se_Model_isKnown in_Model co_Model_isKnown) rfl rfl rfl cd_Model_isKnown ⟨Nat.le_of_ble_eq_true rfl, Nat.le_of_ble_eq_true rfl⟩) hK hP (by omega) pm_E_0 rfl rfl hl.1 rfl (Nat.le_of_ble_eq_true rfl) d_Model_answer_2 ⟨Nat.zero_le _, Nat.zero_le _⟩ (fun rr hrr => ?_)
    have hrr := pm_kn0 (Or.inr h) hrr
    subst hrr
    refine lv_if_ne (tgt := 19) hx hb d_Model_answer_5 (by decide) (fun c_5 => ?_) (fun c_5 => ?_)
    · exact absurd (by decide) c_5
    · refine lv_aload_n hx hb d_Model_answer_8 rfl (lv_at hl 0 rfl) ?_
      refine lv_iconst (v := nI 0) hx hb d_Model_answer_9 (by decide) ?_
      refine ps_put (v := .int (nI 0)) (ty := .int) hx hb hT i_Model t_Model t_Model_ok n_Model hown hK hg hP hS (k := 0) (by decide) pm_E_0 rfl 2 (by decide) (hT _ fl_Model_64) (fun _ h9 => h9) rfl (by decide +kernel) rfl rfl (Nat.le_of_ble_eq_true rfl) d_Model_answer_10 (pm_E g cI cZ (pm_uI σ 2 (nI 0))) (pm_h1 (by decide)) (fun _ _ h => pm_E_uI h) (fun H locs hP hS => ?_)
      refine lv_aload_n hx hb d_Model_answer_13 rfl (lv_at hl 0 rfl) ?_
      refine lv_iconst (v := nI 1) hx hb d_Model_answer_14 (by decide) ?_
      refine ps_wri (k := 0) (As := [.int (nI 1)]) (rest := []) ⟨hx, hb, hml, hown, hT⟩ (c_Model_raise (σ := (pm_uI σ 2 (nI 0))) hg (nI 1)) (cwV 1 hT (ps_gV ml_Model_130 im_Model_raise se_Model_raise in_Model co_Model_raise) rfl rfl rfl cd_Model_raise ⟨Nat.le_of_ble_eq_true rfl, Nat.le_of_ble_eq_true rfl⟩) hK hP hS (fun _ h => h) (by omega) pm_E_0 rfl rfl hl.1 rfl (Nat.le_of_ble_eq_true rfl) d_Model_answer_15 ⟨Nat.zero_le _, Nat.zero_le _⟩ (fun rr u3 H locs hu3 hP hS _ => ?_)
      obtain ⟨rfl, rfl⟩ := hu3
      rw [hQ]
      exact W.iret (v := nI 0) hx hb hr (fun zt ht _ => ⟨⟨_, (pm_uI (pm_uI σ 2 (nI 0)) 0 (nI 1)), rfl, Or.inr ⟨Or.inl (Or.inr h), rfl⟩, ps_hp ht hP⟩, hS.F ht⟩) hS.2.2 d_Model_answer_18
  · refine lv_aload_n hx hb d_Model_answer_0 rfl (lv_at hl 0 rfl) ?_
    refine lv_iload_n hx hb d_Model_answer_1 rfl (lv_at hl 1 rfl) ?_
    refine ps_roi (k := 0) (As := [.int (nI j)]) (rest := []) ⟨hx, hb, hml, hown, hT⟩ (c_Model_isKnown (σ := σ) (nI j)) (cwV 1 hT (ps_gV ml_Model_80 im_Model_isKnown se_Model_isKnown in_Model co_Model_isKnown) rfl rfl rfl cd_Model_isKnown ⟨Nat.le_of_ble_eq_true rfl, Nat.le_of_ble_eq_true rfl⟩) hK hP (by omega) pm_E_0 rfl rfl hl.1 rfl (Nat.le_of_ble_eq_true rfl) d_Model_answer_2 ⟨Nat.zero_le _, Nat.zero_le _⟩ (fun rr hrr => ?_)
    rcases pm_kn1 hj hrr with ⟨hkn, rfl⟩ | ⟨hkn, rfl⟩
    · refine lv_if_ne (tgt := 19) hx hb d_Model_answer_5 (by decide) (fun c_5 => ?_) (fun c_5 => ?_)
      · obtain ⟨Ln, hLn4, hLn⟩ := (hln j hj).resolve_left hkn
        obtain ⟨hp6, hpok⟩ := ps_prs_ok (σ.2.1 1) n
        refine lv_aload_n hx hb d_Model_answer_19 rfl (lv_at hl 0 rfl) ?_
        refine lv_iconst (v := nI 0) hx hb d_Model_answer_20 (by decide) ?_
        refine ps_put (v := .int (nI 0)) (ty := .int) hx hb hT i_Model t_Model t_Model_ok n_Model hown hK hg hP hS (k := 0) (by decide) pm_E_0 rfl 0 (by decide) (hT _ fl_Model_57) (fun _ h9 => h9) rfl (by decide +kernel) rfl rfl (Nat.le_of_ble_eq_true rfl) d_Model_answer_21 (pm_E g cI cZ (pm_uI σ 0 (nI 0))) (pm_h1 (by decide)) (fun _ _ h => pm_E_uI h) (fun H locs hP hS => ?_)
        refine lv_aload_n hx hb d_Model_answer_24 rfl (lv_at hl 0 rfl) ?_
        refine ps_get (v := .ref (g 2)) hx hb hT i_Model hown hK hP (k := 0) (by decide) pm_E_0 rfl 5 (by decide) (hT _ fl_Model_20) (fun _ h9 => h9) rfl d_Model_answer_25 ?_
        refine lv_iload_n hx hb d_Model_answer_28 rfl (lv_at hl 1 rfl) ?_
        refine ps_iald (f := σ.2.1 2) hx hb hK hP (k := 2) (by decide) 0 pm_E_2 rfl (i := j) (by omega) (by decide) d_Model_answer_29 ?_
        refine ps_seti (y := nI Ln) hLn ?_
        refine lv_istore_n (lv' := [(2, .int (nI Ln)), (0, .ref (g 0)), (1, .int (nI j))]) hx hb d_Model_answer_30 rfl hl (by decide) rfl (fun ls hl => ?_)
        refine lv_aload_n hx hb d_Model_answer_31 rfl (lv_at hl 1 rfl) ?_
        refine lv_iload_n hx hb d_Model_answer_32 rfl (lv_at hl 0 rfl) ?_
        refine ps_wri (k := 0) (As := [.int (nI Ln)]) (rest := []) ⟨hx, hb, hml, hown, hT⟩ (c_Model_isText (σ := (pm_uI σ 0 (nI 0))) hg n hn hn60 Ln hLn4) (cwV 1 hT (ps_gV ml_Model_133 im_Model_isText se_Model_isText in_Model co_Model_isText) rfl rfl rfl cd_Model_isText ⟨Nat.le_of_ble_eq_true rfl, Nat.le_of_ble_eq_true rfl⟩) hK hP hS (fun _ h => h) (by omega) pm_E_0 rfl rfl hl.1 rfl (Nat.le_of_ble_eq_true rfl) d_Model_answer_33 ⟨Nat.zero_le _, Nat.zero_le _⟩ (fun rr u3 H locs hu3 hP hS _ => ?_)
        rcases hu3 with ⟨rfl, hpn, hs3, hpm, hpv⟩ | ⟨rfl, hpn, hs3⟩
        · have hpn : ¬ (ps_prs (σ.2.1 1) n) = [] := hpn
          have hs0 := hs3
          have hpm : u3.1 11 = nI (ps_prs (σ.2.1 1) n).length := hpm
          have hpv : ∀ i, (hi : i < (ps_prs (σ.2.1 1) n).length) → u3.2.1 6 i = ps_fp (nI Ln) (ps_prs (σ.2.1 1) n)[i] ∧ u3.2.1 7 i = ps_lp (nI Ln) (ps_prs (σ.2.1 1) n)[i] := hpv
          refine lv_istore_n (lv' := [(3, .int (nI 1)), (2, .int (nI Ln)), (0, .ref (g 0)), (1, .int (nI j))]) hx hb d_Model_answer_36 rfl hl (by decide) rfl (fun ls hl => ?_)
          refine lv_aload_n hx hb d_Model_answer_37 rfl (lv_at hl 2 rfl) ?_
          refine lv_iconst (v := nI 0) hx hb d_Model_answer_38 (by decide) ?_
          refine ps_put (v := .int (nI 0)) (ty := .int) hx hb hT i_Model t_Model t_Model_ok n_Model hown hK hg hP hS (k := 0) (by decide) pm_E_0 rfl 2 (by decide) (hT _ fl_Model_64) (fun _ h9 => h9) rfl (by decide +kernel) rfl rfl (Nat.le_of_ble_eq_true rfl) d_Model_answer_39 (pm_E g cI cZ (pm_uI u3 2 (nI 0))) (pm_h1 (by decide)) (fun _ _ h => pm_E_uI h) (fun H locs hP hS => ?_)
          refine lv_aload_n hx hb d_Model_answer_42 rfl (lv_at hl 2 rfl) ?_
          refine lv_iconst (v := nI 0) hx hb d_Model_answer_43 (by decide) ?_
          refine ps_put (v := .int (nI 0)) (ty := .int) hx hb hT i_Model t_Model t_Model_ok n_Model hown hK hg hP hS (k := 0) (by decide) pm_E_0 rfl 16 (by decide) (hT _ fl_Model_111) (fun _ h9 => h9) rfl (by decide +kernel) rfl rfl (Nat.le_of_ble_eq_true rfl) d_Model_answer_44 (pm_E g cI cZ (pm_uI (pm_uI u3 2 (nI 0)) 16 (nI 0))) (pm_h1 (by decide)) (fun _ _ h => pm_E_uI h) (fun H locs hP hS => ?_)
          refine lv_aload_n hx hb d_Model_answer_47 rfl (lv_at hl 2 rfl) ?_
          refine lv_iload_n hx hb d_Model_answer_48 rfl (lv_at hl 3 rfl) ?_
          refine ps_put (v := .int (nI j)) (ty := .int) hx hb hT i_Model t_Model t_Model_ok n_Model hown hK hg hP hS (k := 0) (by decide) pm_E_0 rfl 15 (by decide) (hT _ fl_Model_136) (fun _ h9 => h9) rfl (by decide +kernel) rfl rfl (Nat.le_of_ble_eq_true rfl) d_Model_answer_49 (pm_E g cI cZ (pm_uI (pm_uI (pm_uI u3 2 (nI 0)) 16 (nI 0)) 15 (nI j))) (pm_h1 (by decide)) (fun _ _ h => pm_E_uI h) (fun H locs hP hS => ?_)
          refine lv_iload_n hx hb d_Model_answer_52 rfl (lv_at hl 0 rfl) ?_
          refine lv_if_ne (tgt := 76) hx hb d_Model_answer_53 (by decide) (fun c_53 => ?_) (fun c_53 => ?_)
          · refine lv_iconst (v := nI 0) hx hb d_Model_answer_76 (by decide) ?_
            refine lv_istore (lv' := [(4, .int (nI 0)), (3, .int (nI 1)), (2, .int (nI Ln)), (0, .ref (g 0)), (1, .int (nI j))]) hx hb d_Model_answer_77 hl (by decide) rfl (fun ls hl => ?_)
            have L_a : ∀ (n_a : Nat) (i : Nat) (u : pm_τ), (i ≤ (ps_prs (σ.2.1 1) n).length) → (pm_sm [16] [8, 9] [] (pm_uI (pm_uI (pm_uI u3 2 (nI 0)) 16 (nI 0)) 15 (nI j)) u) → (u.1 16 = nI (((ps_prs (σ.2.1 1) n).take i).filterMap (ps_row Ln)).length) → (pm_rw (u.2.1 8) (u.2.1 9) (((ps_prs (σ.2.1 1) n).take i).filterMap (ps_row Ln))) → (ps_prs (σ.2.1 1) n).length - i < n_a → ∀ (H : Heap) (locs : List Loc), va_P D pm_cl (ps_wl 13 g (pm_E g cI cZ u)) H → va_S (ps_wA 13 g) s.heap H locs → ∀ (ls : Array Slot), lv_has ls 5 [(0, .ref (g 0)), (1, .int (nI j)), (4, .int (nI i))] → W p l e rm_Model_answer s m args below meth c H locs 0 0 Q (F0 m 79 ls []) := by
              intro n_a
              induction n_a with
              | zero => intro i u hi hs hu hrv hf_a; exact absurd hf_a (Nat.not_lt_zero _)
              | succ n_a ih_a =>
                intro i u hi hs hu hrv hf_a H locs hP hS ls hl
                refine lv_iload hx hb d_Model_answer_79 (lv_at hl 2 rfl) ?_
                refine lv_aload_n hx hb d_Model_answer_81 rfl (lv_at hl 0 rfl) ?_
                refine ps_get (v := .int (u.1 11)) hx hb hT i_Model hown hK hP (k := 0) (by decide) pm_E_0 rfl 11 (by decide) (hT _ fl_Model_98) (fun _ h9 => h9) rfl d_Model_answer_82 ?_
                refine ps_seti (y := nI (ps_prs (σ.2.1 1) n).length) ((hs.1 11 (by decide)).trans hpm) ?_
                refine lv_icmp_ge (tgt := 129) hx hb d_Model_answer_85 (by decide) (fun c_85 => ?_) (fun c_85 => ?_)
                · have hiL : i = (ps_prs (σ.2.1 1) n).length := by have := ps_leT c_85 (by omega) (by omega); omega
                  have eRW : (((ps_prs (σ.2.1 1) n).take i).filterMap (ps_row Ln)) = (ps_rws Ln (ps_prs (σ.2.1 1) n)) := by rw [hiL, List.take_length, pm_rws_f hpn]
                  rw [eRW] at hu hrv
                  refine lv_aload_n hx hb d_Model_answer_129 rfl (lv_at hl 0 rfl) ?_
                  refine lv_aload_n hx hb d_Model_answer_130 rfl (lv_at hl 0 rfl) ?_
                  refine ps_get (v := .int (u.1 16)) hx hb hT i_Model hown hK hP (k := 0) (by decide) pm_E_0 rfl 16 (by decide) (hT _ fl_Model_111) (fun _ h9 => h9) rfl d_Model_answer_131 ?_
                  refine ps_seti (y := nI (ps_rws Ln (ps_prs (σ.2.1 1) n)).length) hu ?_
                  refine lv_if_ne (tgt := 141) hx hb d_Model_answer_134 (by decide) (fun c_134 => ?_) (fun c_134 => ?_)
                  · have hRe : ¬ (ps_rws Ln (ps_prs (σ.2.1 1) n)) = [] := fun q => c_134 (by rw [q]; rfl)
                    refine lv_iconst (v := nI 1) hx hb d_Model_answer_141 (by decide) ?_
                    refine ps_put (v := .int (nI 1)) (ty := .int) hx hb hT i_Model t_Model t_Model_ok n_Model hown hK hg hP hS (k := 0) (by decide) pm_E_0 rfl 14 (by decide) (hT _ fl_Model_39) (fun _ h9 => h9) rfl (by decide +kernel) rfl rfl (Nat.le_of_ble_eq_true rfl) d_Model_answer_142 (pm_E g cI cZ (pm_uI u 14 (nI 1))) (pm_h1 (by decide)) (fun _ _ h => pm_E_uI h) (fun H locs hP hS => ?_)
                    obtain ⟨w1, ew1⟩ : ∃ z, z = (pm_uI u 14 (nI 1)) := ⟨_, rfl⟩
                    have hP : va_P D pm_cl (ps_wl 13 g (pm_E g cI cZ w1)) H := by rw [ew1]; exact hP
                    have hsw : pm_sm [0, 2, 9, 10, 11, 14, 15, 16, 19, 20, 21, 24] [5, 6, 7, 8, 9, 10, 11] [12] σ w1 := by rw [ew1]; exact (((((((pm_sm_rf [0, 2, 9, 10, 11, 14, 15, 16, 19, 20, 21, 24] [5, 6, 7, 8, 9, 10, 11] [12] σ).I (by decide)).to hs0 (by decide) (by decide) (by decide)).I (by decide)).I (by decide)).I (by decide)).to hs (by decide) (by decide) (by decide)).I (by decide)
                    have h16 : w1.1 16 = nI (ps_rws Ln (ps_prs (σ.2.1 1) n)).length := by rw [ew1]; exact hu
                    have hrv : pm_rw (w1.2.1 8) (w1.2.1 9) (ps_rws Ln (ps_prs (σ.2.1 1) n)) := by rw [ew1]; exact hrv
                    have hkdl : nI 1 = (ps_kd (ps_prs (σ.2.1 1) n) (ps_rws Ln (ps_prs (σ.2.1 1) n))) := pm_kd_1 hpn hRe
                    have h00 : w1.1 0 = nI 0 := by rw [ew1]; exact (hs.1 0 (by decide)).trans (hs0.1 0 (by decide))
                    have h09 : w1.1 9 = nI c1 := by rw [ew1]; exact (hs.1 9 (by decide)).trans ((hs0.1 9 (by decide)).trans hc1)
                    have h05 : w1.2.1 5 = σ.2.1 5 := by rw [ew1]; exact (hs.2.1 5 (by decide)).trans (hs0.2.1 5 (by decide))
                    have h02 : w1.1 2 = nI 0 := by rw [ew1]; exact hs.1 2 (by decide)
                    have h15 : w1.1 15 = nI j := by rw [ew1]; exact hs.1 15 (by decide)
                    have h14 : w1.1 14 = nI 1 := by rw [ew1]; rfl
                    have hord := pm_rws_ord hLn4 hpok
                    have hR6 := ps_rws_len (n := Ln) hp6
                    clear ew1
                    have hl : lv_has ls 5 [(0, .ref (g 0)), (1, .int (nI j))] := lv_sub hl [0, 1] rfl
                    refine lv_aload_n hx hb d_Model_answer_145 rfl (lv_at hl 0 rfl) ?_
                    refine ps_wrv (k := 0) (As := []) (rest := []) ⟨hx, hb, hml, hown, hT⟩ (c_Model_unite (σ := w1) hg (ps_rws Ln (ps_prs (σ.2.1 1) n)) hR6 h16 hrv hord) (cwV 0 hT (ps_gV ml_Model_139 im_Model_unite se_Model_unite in_Model co_Model_unite) rfl rfl rfl cd_Model_unite ⟨Nat.le_of_ble_eq_true rfl, Nat.le_of_ble_eq_true rfl⟩) hK hP hS (fun _ h => h) (by omega) pm_E_0 rfl rfl hl.1 rfl (Nat.le_of_ble_eq_true rfl) d_Model_answer_146 ⟨Nat.zero_le _, Nat.zero_le _⟩ (fun u4 H locs hu4 hP hS _ => ?_)
                    obtain ⟨hs4, hw4⟩ := hu4
                    have hrv4 : pm_rw (u4.2.1 8) (u4.2.1 9) (ps_rws Ln (ps_prs (σ.2.1 1) n)) := by rw [hs4.2.1 8 (by decide), hs4.2.1 9 (by decide)]; exact hrv
                    have h164 := (hs4.1 16 (by decide)).trans h16
                    refine lv_aload_n hx hb d_Model_answer_149 rfl (lv_at hl 0 rfl) ?_
                    refine ps_get (v := .int (u4.1 14)) hx hb hT i_Model hown hK hP (k := 0) (by decide) pm_E_0 rfl 14 (by decide) (hT _ fl_Model_39) (fun _ h9 => h9) rfl d_Model_answer_150 ?_
                    refine ps_seti (y := nI 1) ((hs4.1 14 (by decide)).trans h14) ?_
                    refine lv_iconst (v := nI 1) hx hb d_Model_answer_153 (by decide) ?_
                    refine lv_icmp_ne (tgt := 168) hx hb d_Model_answer_154 (by decide) (fun c_154 => ?_) (fun c_154 => ?_)
                    · exact absurd (by decide) c_154
                    · refine lv_aload_n hx hb d_Model_answer_157 rfl (lv_at hl 0 rfl) ?_
                      refine ps_roi (k := 0) (As := []) (rest := []) ⟨hx, hb, hml, hown, hT⟩ (c_Model_isAsTold (σ := u4) (ps_rws Ln (ps_prs (σ.2.1 1) n)) hR6 h164 hrv4 hord) (cwV 0 hT (ps_gV ml_Model_142 im_Model_isAsTold se_Model_isAsTold in_Model co_Model_isAsTold) rfl rfl rfl cd_Model_isAsTold ⟨Nat.le_of_ble_eq_true rfl, Nat.le_of_ble_eq_true rfl⟩) hK hP (by omega) pm_E_0 rfl rfl hl.1 rfl (Nat.le_of_ble_eq_true rfl) d_Model_answer_158 ⟨Nat.zero_le _, Nat.zero_le _⟩ (fun rr hrr => ?_)
                      rcases hrr with ⟨rfl, hat⟩ | ⟨rfl, hat⟩
                      · refine lv_if_ne (tgt := 168) hx hb d_Model_answer_161 (by decide) (fun c_161 => ?_) (fun c_161 => ?_)
                        · have hsz : pm_sm [0, 2, 9, 10, 11, 14, 15, 16, 19, 20, 21, 24] [5, 6, 7, 8, 9, 10, 11] [12] σ u4 := hsw.to hs4 (by decide) (by decide) (by decide)
                          have eRR := pm_RR_t hat
                          have h16z : u4.1 16 = nI (ps_RR (ps_rws Ln (ps_prs (σ.2.1 1) n))).length := by rw [eRR]; exact h164
                          have hrvz : pm_rw (u4.2.1 8) (u4.2.1 9) (ps_RR (ps_rws Ln (ps_prs (σ.2.1 1) n))) := by rw [eRR]; exact hrv4
                          have h00z := (hs4.1 0 (by decide)).trans h00
                          have h02z := (hs4.1 2 (by decide)).trans h02
                          have h09z := (hs4.1 9 (by decide)).trans h09
                          have h15z := (hs4.1 15 (by decide)).trans h15
                          have h14z := (hs4.1 14 (by decide)).trans h14
                          have h05z := (hs4.2.1 5 (by decide)).trans h05
                          have hwz : ∀ q, q < 4096 → u4.2.2 12 q = ps_any (ps_rws Ln (ps_prs (σ.2.1 1) n)) q := hw4
                          have hkz : ∀ q, q < 4096 → u4.2.2 4 (4096 * j + q) = pm_SS (σ.2.2 4) j q := fun q hq => by rw [hsz.2.2 4 (by decide)]
                          refine lv_aload_n hx hb d_Model_answer_168 rfl (lv_at hl 0 rfl) ?_
                          refine lv_iload_n hx hb d_Model_answer_169 rfl (lv_at hl 1 rfl) ?_
                          refine ps_wrv (k := 0) (As := [.int (nI j)]) (rest := []) ⟨hx, hb, hml, hown, hT⟩ (c_Model_plan (σ := u4) hg j hj (ps_any (ps_rws Ln (ps_prs (σ.2.1 1) n))) (pm_SS (σ.2.2 4) j) hwz hkz cc1 hcc ((hsz.1 4 (by decide)).trans hco)) (cwV 1 hT (ps_gV ml_Model_149 im_Model_plan se_Model_plan in_Model co_Model_plan) rfl rfl rfl cd_Model_plan ⟨Nat.le_of_ble_eq_true rfl, Nat.le_of_ble_eq_true rfl⟩) hK hP hS (fun _ h => h) (by omega) pm_E_0 rfl rfl hl.1 rfl (Nat.le_of_ble_eq_true rfl) d_Model_answer_170 ⟨Nat.zero_le _, Nat.zero_le _⟩ (fun u6 H locs hu6 hP hS _ => ?_)
                          obtain ⟨hs6, h19, h20, h21, h24, hrwP⟩ := hu6
                          refine lv_aload_n hx hb d_Model_answer_173 rfl (lv_at hl 0 rfl) ?_
                          refine ps_get (v := .int (u6.1 14)) hx hb hT i_Model hown hK hP (k := 0) (by decide) pm_E_0 rfl 14 (by decide) (hT _ fl_Model_39) (fun _ h9 => h9) rfl d_Model_answer_174 ?_
                          refine ps_seti (y := nI 1) ((hs6.1 14 (by decide)).trans h14z) ?_
                          refine lv_iconst (v := nI 2) hx hb d_Model_answer_177 (by decide) ?_
                          refine lv_icmp_eq (tgt := 186) hx hb d_Model_answer_178 (by decide) (fun c_178 => ?_) (fun c_178 => ?_)
                          · exact absurd c_178 (by decide)
                          · refine lv_aload_n hx hb d_Model_answer_181 rfl (lv_at hl 0 rfl) ?_
                            refine lv_iload_n hx hb d_Model_answer_182 rfl (lv_at hl 1 rfl) ?_
                            refine ps_wrv (k := 0) (As := [.int (nI j)]) (rest := []) ⟨hx, hb, hml, hown, hT⟩ (c_Model_use (σ := u6) hg c1 ((hs6.1 9 (by decide)).trans h09z) j hj) (cwV 1 hT (ps_gV ml_Model_83 im_Model_use se_Model_use in_Model co_Model_use) rfl rfl rfl cd_Model_use ⟨Nat.le_of_ble_eq_true rfl, Nat.le_of_ble_eq_true rfl⟩) hK hP hS (fun _ h => h) (by omega) pm_E_0 rfl rfl hl.1 rfl (Nat.le_of_ble_eq_true rfl) d_Model_answer_183 ⟨Nat.zero_le _, Nat.zero_le _⟩ (fun u7 H locs hu7 hP hS _ => ?_)
                            subst hu7
                            refine lv_aload_n hx hb d_Model_answer_186 rfl (lv_at hl 0 rfl) ?_
                            refine ps_get (v := .int (u6.1 14)) hx hb hT i_Model hown hK hP (k := 0) (by decide) pm_E_0 rfl 14 (by decide) (hT _ fl_Model_39) (fun _ h9 => h9) rfl d_Model_answer_187 ?_
                            refine ps_seti (y := nI 1) ((hs6.1 14 (by decide)).trans h14z) ?_
                            rw [hQ]
                            exact W.iret (v := nI 1) hx hb hr (fun zt ht _ => ⟨⟨_, (pm_uA (pm_uI u6 9 (nI (c1 + 1))) 5 (va_up (u6.2.1 5) j (nI (c1 + 1)))), rfl, Or.inl ⟨j, Ln, hj, rfl, hLn, hLn4, hkdl, (hs6.1 0 (by decide)).trans h00z, (hs6.1 2 (by decide)).trans h02z, ((hsz.to hs6 (by decide) (by decide) (by decide)).I (by decide)).A (by decide), Or.inr ⟨by rw [← hkdl]; decide, rfl, by show va_up (u6.2.1 5) j _ = _; rw [hs6.2.1 5 (by decide), h05z]⟩, ⟨(hs6.1 14 (by decide)).trans (h14z.trans hkdl), (hs6.1 15 (by decide)).trans h15z, (hs6.1 16 (by decide)).trans h16z, by show pm_rw (u6.2.1 8) (u6.2.1 9) _; rw [hs6.2.1 8 (by decide), hs6.2.1 9 (by decide)]; exact hrvz, h19, h20.trans (congrArg nI pm_kept), h21, h24, hrwP⟩⟩, ps_hp ht hP⟩, hS.F ht⟩) hS.2.2 d_Model_answer_190
                        · exact absurd c_161 (by decide)
                      · refine lv_if_ne (tgt := 168) hx hb d_Model_answer_161 (by decide) (fun c_161 => ?_) (fun c_161 => ?_)
                        · exact absurd (by decide) c_161
                        · refine lv_aload_n hx hb d_Model_answer_164 rfl (lv_at hl 0 rfl) ?_
                          refine ps_wrv (k := 0) (As := []) (rest := []) ⟨hx, hb, hml, hown, hT⟩ (c_Model_spans (σ := u4) hg (ps_rws Ln (ps_prs (σ.2.1 1) n)) hR6 h164 hrv4 hord hw4) (cwV 0 hT (ps_gV ml_Model_146 im_Model_spans se_Model_spans in_Model co_Model_spans) rfl rfl rfl cd_Model_spans ⟨Nat.le_of_ble_eq_true rfl, Nat.le_of_ble_eq_true rfl⟩) hK hP hS (fun _ h => h) (by omega) pm_E_0 rfl rfl hl.1 rfl (Nat.le_of_ble_eq_true rfl) d_Model_answer_165 ⟨Nat.zero_le _, Nat.zero_le _⟩ (fun u5 H locs hu5 hP hS _ => ?_)
                          obtain ⟨hs5, h165, hrv5⟩ := hu5
                          have hsz : pm_sm [0, 2, 9, 10, 11, 14, 15, 16, 19, 20, 21, 24] [5, 6, 7, 8, 9, 10, 11] [12] σ u5 := (hsw.to hs4 (by decide) (by decide) (by decide)).to hs5 (by decide) (by decide) (by decide)
                          have eRR := pm_RR_f hat
                          have h16z : u5.1 16 = nI (ps_RR (ps_rws Ln (ps_prs (σ.2.1 1) n))).length := by rw [eRR]; exact h165
                          have hrvz : pm_rw (u5.2.1 8) (u5.2.1 9) (ps_RR (ps_rws Ln (ps_prs (σ.2.1 1) n))) := by rw [eRR]; exact hrv5
                          have h00z := (hs5.1 0 (by decide)).trans ((hs4.1 0 (by decide)).trans h00)
                          have h02z := (hs5.1 2 (by decide)).trans ((hs4.1 2 (by decide)).trans h02)
                          have h09z := (hs5.1 9 (by decide)).trans ((hs4.1 9 (by decide)).trans h09)
                          have h15z := (hs5.1 15 (by decide)).trans ((hs4.1 15 (by decide)).trans h15)
                          have h14z := (hs5.1 14 (by decide)).trans ((hs4.1 14 (by decide)).trans h14)
                          have h05z := (hs5.2.1 5 (by decide)).trans ((hs4.2.1 5 (by decide)).trans h05)
                          have hwz : ∀ q, q < 4096 → u5.2.2 12 q = ps_any (ps_rws Ln (ps_prs (σ.2.1 1) n)) q := fun q hq => by rw [hs5.2.2 12 (by decide)]; exact hw4 q hq
                          have hkz : ∀ q, q < 4096 → u5.2.2 4 (4096 * j + q) = pm_SS (σ.2.2 4) j q := fun q hq => by rw [hsz.2.2 4 (by decide)]
                          refine lv_aload_n hx hb d_Model_answer_168 rfl (lv_at hl 0 rfl) ?_
                          refine lv_iload_n hx hb d_Model_answer_169 rfl (lv_at hl 1 rfl) ?_
                          refine ps_wrv (k := 0) (As := [.int (nI j)]) (rest := []) ⟨hx, hb, hml, hown, hT⟩ (c_Model_plan (σ := u5) hg j hj (ps_any (ps_rws Ln (ps_prs (σ.2.1 1) n))) (pm_SS (σ.2.2 4) j) hwz hkz cc1 hcc ((hsz.1 4 (by decide)).trans hco)) (cwV 1 hT (ps_gV ml_Model_149 im_Model_plan se_Model_plan in_Model co_Model_plan) rfl rfl rfl cd_Model_plan ⟨Nat.le_of_ble_eq_true rfl, Nat.le_of_ble_eq_true rfl⟩) hK hP hS (fun _ h => h) (by omega) pm_E_0 rfl rfl hl.1 rfl (Nat.le_of_ble_eq_true rfl) d_Model_answer_170 ⟨Nat.zero_le _, Nat.zero_le _⟩ (fun u6 H locs hu6 hP hS _ => ?_)
                          obtain ⟨hs6, h19, h20, h21, h24, hrwP⟩ := hu6
                          refine lv_aload_n hx hb d_Model_answer_173 rfl (lv_at hl 0 rfl) ?_
                          refine ps_get (v := .int (u6.1 14)) hx hb hT i_Model hown hK hP (k := 0) (by decide) pm_E_0 rfl 14 (by decide) (hT _ fl_Model_39) (fun _ h9 => h9) rfl d_Model_answer_174 ?_
                          refine ps_seti (y := nI 1) ((hs6.1 14 (by decide)).trans h14z) ?_
                          refine lv_iconst (v := nI 2) hx hb d_Model_answer_177 (by decide) ?_
                          refine lv_icmp_eq (tgt := 186) hx hb d_Model_answer_178 (by decide) (fun c_178 => ?_) (fun c_178 => ?_)
                          · exact absurd c_178 (by decide)
                          · refine lv_aload_n hx hb d_Model_answer_181 rfl (lv_at hl 0 rfl) ?_
                            refine lv_iload_n hx hb d_Model_answer_182 rfl (lv_at hl 1 rfl) ?_
                            refine ps_wrv (k := 0) (As := [.int (nI j)]) (rest := []) ⟨hx, hb, hml, hown, hT⟩ (c_Model_use (σ := u6) hg c1 ((hs6.1 9 (by decide)).trans h09z) j hj) (cwV 1 hT (ps_gV ml_Model_83 im_Model_use se_Model_use in_Model co_Model_use) rfl rfl rfl cd_Model_use ⟨Nat.le_of_ble_eq_true rfl, Nat.le_of_ble_eq_true rfl⟩) hK hP hS (fun _ h => h) (by omega) pm_E_0 rfl rfl hl.1 rfl (Nat.le_of_ble_eq_true rfl) d_Model_answer_183 ⟨Nat.zero_le _, Nat.zero_le _⟩ (fun u7 H locs hu7 hP hS _ => ?_)
                            subst hu7
                            refine lv_aload_n hx hb d_Model_answer_186 rfl (lv_at hl 0 rfl) ?_
                            refine ps_get (v := .int (u6.1 14)) hx hb hT i_Model hown hK hP (k := 0) (by decide) pm_E_0 rfl 14 (by decide) (hT _ fl_Model_39) (fun _ h9 => h9) rfl d_Model_answer_187 ?_
                            refine ps_seti (y := nI 1) ((hs6.1 14 (by decide)).trans h14z) ?_
                            rw [hQ]
                            exact W.iret (v := nI 1) hx hb hr (fun zt ht _ => ⟨⟨_, (pm_uA (pm_uI u6 9 (nI (c1 + 1))) 5 (va_up (u6.2.1 5) j (nI (c1 + 1)))), rfl, Or.inl ⟨j, Ln, hj, rfl, hLn, hLn4, hkdl, (hs6.1 0 (by decide)).trans h00z, (hs6.1 2 (by decide)).trans h02z, ((hsz.to hs6 (by decide) (by decide) (by decide)).I (by decide)).A (by decide), Or.inr ⟨by rw [← hkdl]; decide, rfl, by show va_up (u6.2.1 5) j _ = _; rw [hs6.2.1 5 (by decide), h05z]⟩, ⟨(hs6.1 14 (by decide)).trans (h14z.trans hkdl), (hs6.1 15 (by decide)).trans h15z, (hs6.1 16 (by decide)).trans h16z, by show pm_rw (u6.2.1 8) (u6.2.1 9) _; rw [hs6.2.1 8 (by decide), hs6.2.1 9 (by decide)]; exact hrvz, h19, h20.trans (congrArg nI pm_kept), h21, h24, hrwP⟩⟩, ps_hp ht hP⟩, hS.F ht⟩) hS.2.2 d_Model_answer_190
                  · have hRe : (ps_rws Ln (ps_prs (σ.2.1 1) n)) = [] := ps_len0 c_134 (by have := ps_rws_len (n := Ln) hp6; omega)
                    refine lv_iconst (v := nI 2) hx hb d_Model_answer_137 (by decide) ?_
                    refine lv_goto (tgt := 142) hx hb d_Model_answer_138 (by decide) ?_
                    refine ps_put (v := .int (nI 2)) (ty := .int) hx hb hT i_Model t_Model t_Model_ok n_Model hown hK hg hP hS (k := 0) (by decide) pm_E_0 rfl 14 (by decide) (hT _ fl_Model_39) (fun _ h9 => h9) rfl (by decide +kernel) rfl rfl (Nat.le_of_ble_eq_true rfl) d_Model_answer_142 (pm_E g cI cZ (pm_uI u 14 (nI 2))) (pm_h1 (by decide)) (fun _ _ h => pm_E_uI h) (fun H locs hP hS => ?_)
                    obtain ⟨w1, ew1⟩ : ∃ z, z = (pm_uI u 14 (nI 2)) := ⟨_, rfl⟩
                    have hP : va_P D pm_cl (ps_wl 13 g (pm_E g cI cZ w1)) H := by rw [ew1]; exact hP
                    have hsw : pm_sm [0, 2, 9, 10, 11, 14, 15, 16, 19, 20, 21, 24] [5, 6, 7, 8, 9, 10, 11] [12] σ w1 := by rw [ew1]; exact (((((((pm_sm_rf [0, 2, 9, 10, 11, 14, 15, 16, 19, 20, 21, 24] [5, 6, 7, 8, 9, 10, 11] [12] σ).I (by decide)).to hs0 (by decide) (by decide) (by decide)).I (by decide)).I (by decide)).I (by decide)).to hs (by decide) (by decide) (by decide)).I (by decide)
                    have h16 : w1.1 16 = nI (ps_rws Ln (ps_prs (σ.2.1 1) n)).length := by rw [ew1]; exact hu
                    have hrv : pm_rw (w1.2.1 8) (w1.2.1 9) (ps_rws Ln (ps_prs (σ.2.1 1) n)) := by rw [ew1]; exact hrv
                    have hkdl : nI 2 = (ps_kd (ps_prs (σ.2.1 1) n) (ps_rws Ln (ps_prs (σ.2.1 1) n))) := pm_kd_2 hpn hRe
                    have h00 : w1.1 0 = nI 0 := by rw [ew1]; exact (hs.1 0 (by decide)).trans (hs0.1 0 (by decide))
                    have h09 : w1.1 9 = nI c1 := by rw [ew1]; exact (hs.1 9 (by decide)).trans ((hs0.1 9 (by decide)).trans hc1)
                    have h05 : w1.2.1 5 = σ.2.1 5 := by rw [ew1]; exact (hs.2.1 5 (by decide)).trans (hs0.2.1 5 (by decide))
                    have h02 : w1.1 2 = nI 0 := by rw [ew1]; exact hs.1 2 (by decide)
                    have h15 : w1.1 15 = nI j := by rw [ew1]; exact hs.1 15 (by decide)
                    have h14 : w1.1 14 = nI 2 := by rw [ew1]; rfl
                    have hord := pm_rws_ord hLn4 hpok
                    have hR6 := ps_rws_len (n := Ln) hp6
                    clear ew1
                    have hl : lv_has ls 5 [(0, .ref (g 0)), (1, .int (nI j))] := lv_sub hl [0, 1] rfl
                    refine lv_aload_n hx hb d_Model_answer_145 rfl (lv_at hl 0 rfl) ?_
                    refine ps_wrv (k := 0) (As := []) (rest := []) ⟨hx, hb, hml, hown, hT⟩ (c_Model_unite (σ := w1) hg (ps_rws Ln (ps_prs (σ.2.1 1) n)) hR6 h16 hrv hord) (cwV 0 hT (ps_gV ml_Model_139 im_Model_unite se_Model_unite in_Model co_Model_unite) rfl rfl rfl cd_Model_unite ⟨Nat.le_of_ble_eq_true rfl, Nat.le_of_ble_eq_true rfl⟩) hK hP hS (fun _ h => h) (by omega) pm_E_0 rfl rfl hl.1 rfl (Nat.le_of_ble_eq_true rfl) d_Model_answer_146 ⟨Nat.zero_le _, Nat.zero_le _⟩ (fun u4 H locs hu4 hP hS _ => ?_)
                    obtain ⟨hs4, hw4⟩ := hu4
                    have hrv4 : pm_rw (u4.2.1 8) (u4.2.1 9) (ps_rws Ln (ps_prs (σ.2.1 1) n)) := by rw [hs4.2.1 8 (by decide), hs4.2.1 9 (by decide)]; exact hrv
                    have h164 := (hs4.1 16 (by decide)).trans h16
                    refine lv_aload_n hx hb d_Model_answer_149 rfl (lv_at hl 0 rfl) ?_
                    refine ps_get (v := .int (u4.1 14)) hx hb hT i_Model hown hK hP (k := 0) (by decide) pm_E_0 rfl 14 (by decide) (hT _ fl_Model_39) (fun _ h9 => h9) rfl d_Model_answer_150 ?_
                    refine ps_seti (y := nI 2) ((hs4.1 14 (by decide)).trans h14) ?_
                    refine lv_iconst (v := nI 1) hx hb d_Model_answer_153 (by decide) ?_
                    refine lv_icmp_ne (tgt := 168) hx hb d_Model_answer_154 (by decide) (fun c_154 => ?_) (fun c_154 => ?_)
                    · have hsz : pm_sm [0, 2, 9, 10, 11, 14, 15, 16, 19, 20, 21, 24] [5, 6, 7, 8, 9, 10, 11] [12] σ u4 := hsw.to hs4 (by decide) (by decide) (by decide)
                      have eRR : ps_RR (ps_rws Ln (ps_prs (σ.2.1 1) n)) = (ps_rws Ln (ps_prs (σ.2.1 1) n)) := by rw [hRe]; exact pm_RR_nil
                      have h16z : u4.1 16 = nI (ps_RR (ps_rws Ln (ps_prs (σ.2.1 1) n))).length := by rw [eRR]; exact h164
                      have hrvz : pm_rw (u4.2.1 8) (u4.2.1 9) (ps_RR (ps_rws Ln (ps_prs (σ.2.1 1) n))) := by rw [eRR]; exact hrv4
                      have h00z := (hs4.1 0 (by decide)).trans h00
                      have h02z := (hs4.1 2 (by decide)).trans h02
                      have h09z := (hs4.1 9 (by decide)).trans h09
                      have h15z := (hs4.1 15 (by decide)).trans h15
                      have h14z := (hs4.1 14 (by decide)).trans h14
                      have h05z := (hs4.2.1 5 (by decide)).trans h05
                      have hwz : ∀ q, q < 4096 → u4.2.2 12 q = ps_any (ps_rws Ln (ps_prs (σ.2.1 1) n)) q := hw4
                      have hkz : ∀ q, q < 4096 → u4.2.2 4 (4096 * j + q) = pm_SS (σ.2.2 4) j q := fun q hq => by rw [hsz.2.2 4 (by decide)]
                      refine lv_aload_n hx hb d_Model_answer_168 rfl (lv_at hl 0 rfl) ?_
                      refine lv_iload_n hx hb d_Model_answer_169 rfl (lv_at hl 1 rfl) ?_
                      refine ps_wrv (k := 0) (As := [.int (nI j)]) (rest := []) ⟨hx, hb, hml, hown, hT⟩ (c_Model_plan (σ := u4) hg j hj (ps_any (ps_rws Ln (ps_prs (σ.2.1 1) n))) (pm_SS (σ.2.2 4) j) hwz hkz cc1 hcc ((hsz.1 4 (by decide)).trans hco)) (cwV 1 hT (ps_gV ml_Model_149 im_Model_plan se_Model_plan in_Model co_Model_plan) rfl rfl rfl cd_Model_plan ⟨Nat.le_of_ble_eq_true rfl, Nat.le_of_ble_eq_true rfl⟩) hK hP hS (fun _ h => h) (by omega) pm_E_0 rfl rfl hl.1 rfl (Nat.le_of_ble_eq_true rfl) d_Model_answer_170 ⟨Nat.zero_le _, Nat.zero_le _⟩ (fun u6 H locs hu6 hP hS _ => ?_)
                      obtain ⟨hs6, h19, h20, h21, h24, hrwP⟩ := hu6
                      refine lv_aload_n hx hb d_Model_answer_173 rfl (lv_at hl 0 rfl) ?_
                      refine ps_get (v := .int (u6.1 14)) hx hb hT i_Model hown hK hP (k := 0) (by decide) pm_E_0 rfl 14 (by decide) (hT _ fl_Model_39) (fun _ h9 => h9) rfl d_Model_answer_174 ?_
                      refine ps_seti (y := nI 2) ((hs6.1 14 (by decide)).trans h14z) ?_
                      refine lv_iconst (v := nI 2) hx hb d_Model_answer_177 (by decide) ?_
                      refine lv_icmp_eq (tgt := 186) hx hb d_Model_answer_178 (by decide) (fun c_178 => ?_) (fun c_178 => ?_)
                      · refine lv_aload_n hx hb d_Model_answer_186 rfl (lv_at hl 0 rfl) ?_
                        refine ps_get (v := .int (u6.1 14)) hx hb hT i_Model hown hK hP (k := 0) (by decide) pm_E_0 rfl 14 (by decide) (hT _ fl_Model_39) (fun _ h9 => h9) rfl d_Model_answer_187 ?_
                        refine ps_seti (y := nI 2) ((hs6.1 14 (by decide)).trans h14z) ?_
                        rw [hQ]
                        exact W.iret (v := nI 2) hx hb hr (fun zt ht _ => ⟨⟨_, u6, rfl, Or.inl ⟨j, Ln, hj, rfl, hLn, hLn4, hkdl, (hs6.1 0 (by decide)).trans h00z, (hs6.1 2 (by decide)).trans h02z, (hsz.to hs6 (by decide) (by decide) (by decide)), Or.inl ⟨hkdl.symm, (hs6.1 9 (by decide)).trans h09z, (hs6.2.1 5 (by decide)).trans h05z⟩, ⟨(hs6.1 14 (by decide)).trans (h14z.trans hkdl), (hs6.1 15 (by decide)).trans h15z, (hs6.1 16 (by decide)).trans h16z, by show pm_rw (u6.2.1 8) (u6.2.1 9) _; rw [hs6.2.1 8 (by decide), hs6.2.1 9 (by decide)]; exact hrvz, h19, h20.trans (congrArg nI pm_kept), h21, h24, hrwP⟩⟩, ps_hp ht hP⟩, hS.F ht⟩) hS.2.2 d_Model_answer_190
                      · exact absurd (by decide) c_178
                    · exact absurd c_154 (by decide)
                · have hiL : i < (ps_prs (σ.2.1 1) n).length := ps_ltOf c_85 (by omega) (by omega)
                  refine lv_aload_n hx hb d_Model_answer_88 rfl (lv_at hl 0 rfl) ?_
                  refine ps_get (v := .ref (g 6)) hx hb hT i_Model hown hK hP (k := 0) (by decide) pm_E_0 rfl 12 (by decide) (hT _ fl_Model_33) (fun _ h9 => h9) rfl d_Model_answer_89 ?_
                  refine lv_iload hx hb d_Model_answer_92 (lv_at hl 2 rfl) ?_
                  refine ps_iald (f := u.2.1 6) hx hb hK hP (k := 6) (by decide) 0 pm_E_6 rfl (i := i) (by omega) (by decide) d_Model_answer_94 ?_
                  refine ps_seti (y := ps_fp (nI Ln) ((ps_prs (σ.2.1 1) n)[i]'hiL)) (by rw [hs.2.1 6 (by decide)]; exact (hpv i hiL).1) ?_
                  refine lv_aload_n hx hb d_Model_answer_95 rfl (lv_at hl 0 rfl) ?_
                  refine ps_get (v := .ref (g 7)) hx hb hT i_Model hown hK hP (k := 0) (by decide) pm_E_0 rfl 13 (by decide) (hT _ fl_Model_36) (fun _ h9 => h9) rfl d_Model_answer_96 ?_
                  refine lv_iload hx hb d_Model_answer_99 (lv_at hl 2 rfl) ?_
                  refine ps_iald (f := u.2.1 7) hx hb hK hP (k := 7) (by decide) 0 pm_E_7 rfl (i := i) (by omega) (by decide) d_Model_answer_101 ?_
                  refine ps_seti (y := ps_lp (nI Ln) ((ps_prs (σ.2.1 1) n)[i]'hiL)) (by rw [hs.2.1 7 (by decide)]; exact (hpv i hiL).2) ?_
                  refine lv_icmp_gt (tgt := 123) hx hb d_Model_answer_102 (by decide) (fun c_102 => ?_) (fun c_102 => ?_)
                  · have hrow : ps_row Ln ((ps_prs (σ.2.1 1) n)[i]'hiL) = none := by
                      rcases ps_row_spec hLn4 (hpok _ (List.getElem_mem hiL)) with ⟨z, -⟩ | ⟨a, b, -, z1, z2, z3, z4⟩
                      · exact z
                      · rw [z1, z2] at c_102; exact absurd c_102 (nI_nlt z3 (by omega))
                    refine lv_iinc (v := (nI (i + 1))) (lv' := [(4, .int (nI (i + 1))), (0, .ref (g 0)), (1, .int (nI j))]) hx hb d_Model_answer_123 hl (k := 2) rfl (nI_1 _) (by decide) rfl (fun ls hl => ?_)
                    refine lv_goto (tgt := 79) hx hb d_Model_answer_126 (by decide) ?_
                    exact ih_a (i + 1) u (by omega) hs (by rw [ps_rk hiL, hrow]; simpa using hu) (by rw [ps_rk hiL, hrow]; simpa using hrv) (by omega) _ _ hP hS ls (lv_sub hl [1, 2, 0] rfl)
                  · obtain ⟨a, b, hrow, ea, eb, hab, hbL⟩ := (ps_row_spec hLn4 (hpok _ (List.getElem_mem hiL))).resolve_left (fun z => c_102 z.2)
                    have hl6 : (((ps_prs (σ.2.1 1) n).take i).filterMap (ps_row Ln)).length < 6 := by have := ps_rk_len (n := Ln) (k := i) (L := (ps_prs (σ.2.1 1) n)); omega
                    refine lv_aload_n hx hb d_Model_answer_105 rfl (lv_at hl 0 rfl) ?_
                    refine lv_aload_n hx hb d_Model_answer_106 rfl (lv_at hl 0 rfl) ?_
                    refine ps_get (v := .ref (g 6)) hx hb hT i_Model hown hK hP (k := 0) (by decide) pm_E_0 rfl 12 (by decide) (hT _ fl_Model_33) (fun _ h9 => h9) rfl d_Model_answer_107 ?_
                    refine lv_iload hx hb d_Model_answer_110 (lv_at hl 2 rfl) ?_
                    refine ps_iald (f := u.2.1 6) hx hb hK hP (k := 6) (by decide) 0 pm_E_6 rfl (i := i) (by omega) (by decide) d_Model_answer_112 ?_
                    refine ps_seti (y := nI a) (by rw [hs.2.1 6 (by decide)]; exact ((hpv i hiL).1).trans ea) ?_
                    refine lv_aload_n hx hb d_Model_answer_113 rfl (lv_at hl 0 rfl) ?_
                    refine ps_get (v := .ref (g 7)) hx hb hT i_Model hown hK hP (k := 0) (by decide) pm_E_0 rfl 13 (by decide) (hT _ fl_Model_36) (fun _ h9 => h9) rfl d_Model_answer_114 ?_
                    refine lv_iload hx hb d_Model_answer_117 (lv_at hl 2 rfl) ?_
                    refine ps_iald (f := u.2.1 7) hx hb hK hP (k := 7) (by decide) 0 pm_E_7 rfl (i := i) (by omega) (by decide) d_Model_answer_119 ?_
                    refine ps_seti (y := nI b) (by rw [hs.2.1 7 (by decide)]; exact ((hpv i hiL).2).trans eb) ?_
                    refine ps_wrv (k := 0) (As := [.int (nI a), .int (nI b)]) (rest := []) ⟨hx, hb, hml, hown, hT⟩ (c_Model_addRow (σ := u) hg (((ps_prs (σ.2.1 1) n).take i).filterMap (ps_row Ln)).length hl6 hu (nI a) (nI b)) (cwV 2 hT (ps_gV ml_Model_114 im_Model_addRow se_Model_addRow in_Model co_Model_addRow) rfl rfl rfl cd_Model_addRow ⟨Nat.le_of_ble_eq_true rfl, Nat.le_of_ble_eq_true rfl⟩) hK hP hS (fun _ h => h) (by omega) pm_E_0 rfl rfl hl.1 rfl (Nat.le_of_ble_eq_true rfl) d_Model_answer_120 ⟨Nat.zero_le _, Nat.zero_le _⟩ (fun u5 H locs hu5 hP hS _ => ?_)
                    subst hu5
                    refine lv_iinc (v := (nI (i + 1))) (lv' := [(4, .int (nI (i + 1))), (0, .ref (g 0)), (1, .int (nI j))]) hx hb d_Model_answer_123 hl (k := 2) rfl (nI_1 _) (by decide) rfl (fun ls hl => ?_)
                    refine lv_goto (tgt := 79) hx hb d_Model_answer_126 (by decide) ?_
                    exact ih_a (i + 1) (pm_uI (pm_uA (pm_uA u 8 (va_up (u.2.1 8) (((ps_prs (σ.2.1 1) n).take i).filterMap (ps_row Ln)).length (nI a))) 9 (va_up (u.2.1 9) (((ps_prs (σ.2.1 1) n).take i).filterMap (ps_row Ln)).length (nI b))) 16 (nI ((((ps_prs (σ.2.1 1) n).take i).filterMap (ps_row Ln)).length + 1))) (by omega) (((hs.A (by decide)).A (by decide)).I (by decide)) (by rw [ps_rk hiL, hrow]; exact congrArg nI (pm_len1 _ _)) (by rw [ps_rk hiL, hrow]; exact pm_rw_add hrv) (by omega) _ _ hP hS ls (lv_sub hl [1, 2, 0] rfl)
            exact L_a ((ps_prs (σ.2.1 1) n).length - 0 + 1) 0 (pm_uI (pm_uI (pm_uI u3 2 (nI 0)) 16 (nI 0)) 15 (nI j)) (Nat.zero_le _) (pm_sm_rf _ _ _ _) rfl (pm_rw_0 _ _) (by omega) _ _ hP hS ls (lv_sub hl [3, 4, 0] rfl)
          · exact absurd c_53 (by decide)
        · have hpn : (ps_prs (σ.2.1 1) n) = [] := hpn
          have hs0 := hs3
          refine lv_istore_n (lv' := [(3, .int (nI 0)), (2, .int (nI Ln)), (0, .ref (g 0)), (1, .int (nI j))]) hx hb d_Model_answer_36 rfl hl (by decide) rfl (fun ls hl => ?_)
          refine lv_aload_n hx hb d_Model_answer_37 rfl (lv_at hl 2 rfl) ?_
          refine lv_iconst (v := nI 0) hx hb d_Model_answer_38 (by decide) ?_
          refine ps_put (v := .int (nI 0)) (ty := .int) hx hb hT i_Model t_Model t_Model_ok n_Model hown hK hg hP hS (k := 0) (by decide) pm_E_0 rfl 2 (by decide) (hT _ fl_Model_64) (fun _ h9 => h9) rfl (by decide +kernel) rfl rfl (Nat.le_of_ble_eq_true rfl) d_Model_answer_39 (pm_E g cI cZ (pm_uI u3 2 (nI 0))) (pm_h1 (by decide)) (fun _ _ h => pm_E_uI h) (fun H locs hP hS => ?_)
          refine lv_aload_n hx hb d_Model_answer_42 rfl (lv_at hl 2 rfl) ?_
          refine lv_iconst (v := nI 0) hx hb d_Model_answer_43 (by decide) ?_
          refine ps_put (v := .int (nI 0)) (ty := .int) hx hb hT i_Model t_Model t_Model_ok n_Model hown hK hg hP hS (k := 0) (by decide) pm_E_0 rfl 16 (by decide) (hT _ fl_Model_111) (fun _ h9 => h9) rfl (by decide +kernel) rfl rfl (Nat.le_of_ble_eq_true rfl) d_Model_answer_44 (pm_E g cI cZ (pm_uI (pm_uI u3 2 (nI 0)) 16 (nI 0))) (pm_h1 (by decide)) (fun _ _ h => pm_E_uI h) (fun H locs hP hS => ?_)
          refine lv_aload_n hx hb d_Model_answer_47 rfl (lv_at hl 2 rfl) ?_
          refine lv_iload_n hx hb d_Model_answer_48 rfl (lv_at hl 3 rfl) ?_
          refine ps_put (v := .int (nI j)) (ty := .int) hx hb hT i_Model t_Model t_Model_ok n_Model hown hK hg hP hS (k := 0) (by decide) pm_E_0 rfl 15 (by decide) (hT _ fl_Model_136) (fun _ h9 => h9) rfl (by decide +kernel) rfl rfl (Nat.le_of_ble_eq_true rfl) d_Model_answer_49 (pm_E g cI cZ (pm_uI (pm_uI (pm_uI u3 2 (nI 0)) 16 (nI 0)) 15 (nI j))) (pm_h1 (by decide)) (fun _ _ h => pm_E_uI h) (fun H locs hP hS => ?_)
          refine lv_iload_n hx hb d_Model_answer_52 rfl (lv_at hl 0 rfl) ?_
          refine lv_if_ne (tgt := 76) hx hb d_Model_answer_53 (by decide) (fun c_53 => ?_) (fun c_53 => ?_)
          · exact absurd (by decide) c_53
          · refine lv_aload_n hx hb d_Model_answer_56 rfl (lv_at hl 2 rfl) ?_
            refine lv_iconst (v := nI 0) hx hb d_Model_answer_57 (by decide) ?_
            refine ps_put (v := .int (nI 0)) (ty := .int) hx hb hT i_Model t_Model t_Model_ok n_Model hown hK hg hP hS (k := 0) (by decide) pm_E_0 rfl 14 (by decide) (hT _ fl_Model_39) (fun _ h9 => h9) rfl (by decide +kernel) rfl rfl (Nat.le_of_ble_eq_true rfl) d_Model_answer_58 (pm_E g cI cZ (pm_uI (pm_uI (pm_uI (pm_uI u3 2 (nI 0)) 16 (nI 0)) 15 (nI j)) 14 (nI 0))) (pm_h1 (by decide)) (fun _ _ h => pm_E_uI h) (fun H locs hP hS => ?_)
            refine lv_iload_n hx hb d_Model_answer_61 rfl (lv_at hl 1 rfl) ?_
            refine lv_if_le (tgt := 145) hx hb d_Model_answer_62 (by decide) (fun c_62 => ?_) (fun c_62 => ?_)
            · have hL0 : Ln = 0 := ps_le0 (by omega) c_62
              obtain ⟨w1, ew1⟩ : ∃ z, z = (pm_uI (pm_uI (pm_uI (pm_uI u3 2 (nI 0)) 16 (nI 0)) 15 (nI j)) 14 (nI 0)) := ⟨_, rfl⟩
              have hP : va_P D pm_cl (ps_wl 13 g (pm_E g cI cZ w1)) H := by rw [ew1]; exact hP
              have hsw : pm_sm [0, 2, 9, 10, 11, 14, 15, 16, 19, 20, 21, 24] [5, 6, 7, 8, 9, 10, 11] [12] σ w1 := by rw [ew1]; exact ((((((pm_sm_rf [0, 2, 9, 10, 11, 14, 15, 16, 19, 20, 21, 24] [5, 6, 7, 8, 9, 10, 11] [12] σ).I (by decide)).to hs0 (by decide) (by decide) (by decide)).I (by decide)).I (by decide)).I (by decide)).I (by decide)
              have eRW : (ps_rws Ln (ps_prs (σ.2.1 1) n)) = [] := by rw [hpn]; unfold ps_rws; rw [if_pos rfl, if_pos hL0]
              have h16 : w1.1 16 = nI (ps_rws Ln (ps_prs (σ.2.1 1) n)).length := by rw [eRW, ew1]; rfl
              have hrv : pm_rw (w1.2.1 8) (w1.2.1 9) (ps_rws Ln (ps_prs (σ.2.1 1) n)) := by rw [eRW]; exact pm_rw_0 _ _
              have hkdl : nI 0 = (ps_kd (ps_prs (σ.2.1 1) n) (ps_rws Ln (ps_prs (σ.2.1 1) n))) := pm_kd_0 hpn
              have h00 : w1.1 0 = nI 0 := by rw [ew1]; exact hs0.1 0 (by decide)
              have h09 : w1.1 9 = nI c1 := by rw [ew1]; exact (hs0.1 9 (by decide)).trans hc1
              have h05 : w1.2.1 5 = σ.2.1 5 := by rw [ew1]; exact hs0.2.1 5 (by decide)
              have h02 : w1.1 2 = nI 0 := by rw [ew1]; rfl
              have h15 : w1.1 15 = nI j := by rw [ew1]; rfl
              have h14 : w1.1 14 = nI 0 := by rw [ew1]; rfl
              have hord := pm_rws_ord hLn4 hpok
              have hR6 := ps_rws_len (n := Ln) hp6
              clear ew1
              have hl : lv_has ls 5 [(0, .ref (g 0)), (1, .int (nI j))] := lv_sub hl [2, 3] rfl
              refine lv_aload_n hx hb d_Model_answer_145 rfl (lv_at hl 0 rfl) ?_
              refine ps_wrv (k := 0) (As := []) (rest := []) ⟨hx, hb, hml, hown, hT⟩ (c_Model_unite (σ := w1) hg (ps_rws Ln (ps_prs (σ.2.1 1) n)) hR6 h16 hrv hord) (cwV 0 hT (ps_gV ml_Model_139 im_Model_unite se_Model_unite in_Model co_Model_unite) rfl rfl rfl cd_Model_unite ⟨Nat.le_of_ble_eq_true rfl, Nat.le_of_ble_eq_true rfl⟩) hK hP hS (fun _ h => h) (by omega) pm_E_0 rfl rfl hl.1 rfl (Nat.le_of_ble_eq_true rfl) d_Model_answer_146 ⟨Nat.zero_le _, Nat.zero_le _⟩ (fun u4 H locs hu4 hP hS _ => ?_)
              obtain ⟨hs4, hw4⟩ := hu4
              have hrv4 : pm_rw (u4.2.1 8) (u4.2.1 9) (ps_rws Ln (ps_prs (σ.2.1 1) n)) := by rw [hs4.2.1 8 (by decide), hs4.2.1 9 (by decide)]; exact hrv
              have h164 := (hs4.1 16 (by decide)).trans h16
              refine lv_aload_n hx hb d_Model_answer_149 rfl (lv_at hl 0 rfl) ?_
              refine ps_get (v := .int (u4.1 14)) hx hb hT i_Model hown hK hP (k := 0) (by decide) pm_E_0 rfl 14 (by decide) (hT _ fl_Model_39) (fun _ h9 => h9) rfl d_Model_answer_150 ?_
              refine ps_seti (y := nI 0) ((hs4.1 14 (by decide)).trans h14) ?_
              refine lv_iconst (v := nI 1) hx hb d_Model_answer_153 (by decide) ?_
              refine lv_icmp_ne (tgt := 168) hx hb d_Model_answer_154 (by decide) (fun c_154 => ?_) (fun c_154 => ?_)
              · have hsz : pm_sm [0, 2, 9, 10, 11, 14, 15, 16, 19, 20, 21, 24] [5, 6, 7, 8, 9, 10, 11] [12] σ u4 := hsw.to hs4 (by decide) (by decide) (by decide)
                have eRR : ps_RR (ps_rws Ln (ps_prs (σ.2.1 1) n)) = (ps_rws Ln (ps_prs (σ.2.1 1) n)) := by rw [hpn]; exact pm_RR_w
                have h16z : u4.1 16 = nI (ps_RR (ps_rws Ln (ps_prs (σ.2.1 1) n))).length := by rw [eRR]; exact h164
                have hrvz : pm_rw (u4.2.1 8) (u4.2.1 9) (ps_RR (ps_rws Ln (ps_prs (σ.2.1 1) n))) := by rw [eRR]; exact hrv4
                have h00z := (hs4.1 0 (by decide)).trans h00
                have h02z := (hs4.1 2 (by decide)).trans h02
                have h09z := (hs4.1 9 (by decide)).trans h09
                have h15z := (hs4.1 15 (by decide)).trans h15
                have h14z := (hs4.1 14 (by decide)).trans h14
                have h05z := (hs4.2.1 5 (by decide)).trans h05
                have hwz : ∀ q, q < 4096 → u4.2.2 12 q = ps_any (ps_rws Ln (ps_prs (σ.2.1 1) n)) q := hw4
                have hkz : ∀ q, q < 4096 → u4.2.2 4 (4096 * j + q) = pm_SS (σ.2.2 4) j q := fun q hq => by rw [hsz.2.2 4 (by decide)]
                refine lv_aload_n hx hb d_Model_answer_168 rfl (lv_at hl 0 rfl) ?_
                refine lv_iload_n hx hb d_Model_answer_169 rfl (lv_at hl 1 rfl) ?_
                refine ps_wrv (k := 0) (As := [.int (nI j)]) (rest := []) ⟨hx, hb, hml, hown, hT⟩ (c_Model_plan (σ := u4) hg j hj (ps_any (ps_rws Ln (ps_prs (σ.2.1 1) n))) (pm_SS (σ.2.2 4) j) hwz hkz cc1 hcc ((hsz.1 4 (by decide)).trans hco)) (cwV 1 hT (ps_gV ml_Model_149 im_Model_plan se_Model_plan in_Model co_Model_plan) rfl rfl rfl cd_Model_plan ⟨Nat.le_of_ble_eq_true rfl, Nat.le_of_ble_eq_true rfl⟩) hK hP hS (fun _ h => h) (by omega) pm_E_0 rfl rfl hl.1 rfl (Nat.le_of_ble_eq_true rfl) d_Model_answer_170 ⟨Nat.zero_le _, Nat.zero_le _⟩ (fun u6 H locs hu6 hP hS _ => ?_)
                obtain ⟨hs6, h19, h20, h21, h24, hrwP⟩ := hu6
                refine lv_aload_n hx hb d_Model_answer_173 rfl (lv_at hl 0 rfl) ?_
                refine ps_get (v := .int (u6.1 14)) hx hb hT i_Model hown hK hP (k := 0) (by decide) pm_E_0 rfl 14 (by decide) (hT _ fl_Model_39) (fun _ h9 => h9) rfl d_Model_answer_174 ?_
                refine ps_seti (y := nI 0) ((hs6.1 14 (by decide)).trans h14z) ?_
                refine lv_iconst (v := nI 2) hx hb d_Model_answer_177 (by decide) ?_
                refine lv_icmp_eq (tgt := 186) hx hb d_Model_answer_178 (by decide) (fun c_178 => ?_) (fun c_178 => ?_)
                · exact absurd c_178 (by decide)
                · refine lv_aload_n hx hb d_Model_answer_181 rfl (lv_at hl 0 rfl) ?_
                  refine lv_iload_n hx hb d_Model_answer_182 rfl (lv_at hl 1 rfl) ?_
                  refine ps_wrv (k := 0) (As := [.int (nI j)]) (rest := []) ⟨hx, hb, hml, hown, hT⟩ (c_Model_use (σ := u6) hg c1 ((hs6.1 9 (by decide)).trans h09z) j hj) (cwV 1 hT (ps_gV ml_Model_83 im_Model_use se_Model_use in_Model co_Model_use) rfl rfl rfl cd_Model_use ⟨Nat.le_of_ble_eq_true rfl, Nat.le_of_ble_eq_true rfl⟩) hK hP hS (fun _ h => h) (by omega) pm_E_0 rfl rfl hl.1 rfl (Nat.le_of_ble_eq_true rfl) d_Model_answer_183 ⟨Nat.zero_le _, Nat.zero_le _⟩ (fun u7 H locs hu7 hP hS _ => ?_)
                  subst hu7
                  refine lv_aload_n hx hb d_Model_answer_186 rfl (lv_at hl 0 rfl) ?_
                  refine ps_get (v := .int (u6.1 14)) hx hb hT i_Model hown hK hP (k := 0) (by decide) pm_E_0 rfl 14 (by decide) (hT _ fl_Model_39) (fun _ h9 => h9) rfl d_Model_answer_187 ?_
                  refine ps_seti (y := nI 0) ((hs6.1 14 (by decide)).trans h14z) ?_
                  rw [hQ]
                  exact W.iret (v := nI 0) hx hb hr (fun zt ht _ => ⟨⟨_, (pm_uA (pm_uI u6 9 (nI (c1 + 1))) 5 (va_up (u6.2.1 5) j (nI (c1 + 1)))), rfl, Or.inl ⟨j, Ln, hj, rfl, hLn, hLn4, hkdl, (hs6.1 0 (by decide)).trans h00z, (hs6.1 2 (by decide)).trans h02z, ((hsz.to hs6 (by decide) (by decide) (by decide)).I (by decide)).A (by decide), Or.inr ⟨by rw [← hkdl]; decide, rfl, by show va_up (u6.2.1 5) j _ = _; rw [hs6.2.1 5 (by decide), h05z]⟩, ⟨(hs6.1 14 (by decide)).trans (h14z.trans hkdl), (hs6.1 15 (by decide)).trans h15z, (hs6.1 16 (by decide)).trans h16z, by show pm_rw (u6.2.1 8) (u6.2.1 9) _; rw [hs6.2.1 8 (by decide), hs6.2.1 9 (by decide)]; exact hrvz, h19, h20.trans (congrArg nI pm_kept), h21, h24, hrwP⟩⟩, ps_hp ht hP⟩, hS.F ht⟩) hS.2.2 d_Model_answer_190
              · exact absurd c_154 (by decide)
            · have hL0 : 0 < Ln := ps_nle0 c_62
              refine lv_aload_n hx hb d_Model_answer_65 rfl (lv_at hl 2 rfl) ?_
              refine lv_iconst (v := nI 0) hx hb d_Model_answer_66 (by decide) ?_
              refine lv_iload_n hx hb d_Model_answer_67 rfl (lv_at hl 1 rfl) ?_
              refine lv_iconst (v := nI 1) hx hb d_Model_answer_68 (by decide) ?_
              refine lv_isub hx hb d_Model_answer_69 ?_
              refine ps_seti (y := nI (Ln - 1)) (pk_sub (by omega)) ?_
              refine ps_wrv (k := 0) (As := [.int (nI 0), .int (nI (Ln - 1))]) (rest := []) ⟨hx, hb, hml, hown, hT⟩ (c_Model_addRow (σ := (pm_uI (pm_uI (pm_uI (pm_uI u3 2 (nI 0)) 16 (nI 0)) 15 (nI j)) 14 (nI 0))) hg 0 (by decide) rfl (nI 0) (nI (Ln - 1))) (cwV 2 hT (ps_gV ml_Model_114 im_Model_addRow se_Model_addRow in_Model co_Model_addRow) rfl rfl rfl cd_Model_addRow ⟨Nat.le_of_ble_eq_true rfl, Nat.le_of_ble_eq_true rfl⟩) hK hP hS (fun _ h => h) (by omega) pm_E_0 rfl rfl hl.1 rfl (Nat.le_of_ble_eq_true rfl) d_Model_answer_70 ⟨Nat.zero_le _, Nat.zero_le _⟩ (fun u5 H locs hu5 hP hS _ => ?_)
              subst hu5
              refine lv_goto (tgt := 145) hx hb d_Model_answer_73 (by decide) ?_
              obtain ⟨w1, ew1⟩ : ∃ z, z = (pm_uI (pm_uA (pm_uA (pm_uI (pm_uI (pm_uI (pm_uI u3 2 (nI 0)) 16 (nI 0)) 15 (nI j)) 14 (nI 0)) 8 (va_up (u3.2.1 8) 0 (nI 0))) 9 (va_up (u3.2.1 9) 0 (nI (Ln - 1)))) 16 (nI (0 + 1))) := ⟨_, rfl⟩
              have hP : va_P D pm_cl (ps_wl 13 g (pm_E g cI cZ w1)) H := by rw [ew1]; exact hP
              have hsw : pm_sm [0, 2, 9, 10, 11, 14, 15, 16, 19, 20, 21, 24] [5, 6, 7, 8, 9, 10, 11] [12] σ w1 := by rw [ew1]; exact (((((((((pm_sm_rf [0, 2, 9, 10, 11, 14, 15, 16, 19, 20, 21, 24] [5, 6, 7, 8, 9, 10, 11] [12] σ).I (by decide)).to hs0 (by decide) (by decide) (by decide)).I (by decide)).I (by decide)).I (by decide)).I (by decide)).A (by decide)).A (by decide)).I (by decide)
              have eRW : (ps_rws Ln (ps_prs (σ.2.1 1) n)) = [(0, Ln - 1)] := by rw [hpn]; unfold ps_rws; rw [if_pos rfl, if_neg (by omega)]
              have h16 : w1.1 16 = nI (ps_rws Ln (ps_prs (σ.2.1 1) n)).length := by rw [eRW, ew1]; rfl
              have hrv : pm_rw (w1.2.1 8) (w1.2.1 9) (ps_rws Ln (ps_prs (σ.2.1 1) n)) := by rw [eRW, ew1]; exact pm_rw_add (P := []) (pm_rw_0 _ _)
              have hkdl : nI 0 = (ps_kd (ps_prs (σ.2.1 1) n) (ps_rws Ln (ps_prs (σ.2.1 1) n))) := pm_kd_0 hpn
              have h00 : w1.1 0 = nI 0 := by rw [ew1]; exact hs0.1 0 (by decide)
              have h09 : w1.1 9 = nI c1 := by rw [ew1]; exact (hs0.1 9 (by decide)).trans hc1
              have h05 : w1.2.1 5 = σ.2.1 5 := by rw [ew1]; exact hs0.2.1 5 (by decide)
              have h02 : w1.1 2 = nI 0 := by rw [ew1]; rfl
              have h15 : w1.1 15 = nI j := by rw [ew1]; rfl
              have h14 : w1.1 14 = nI 0 := by rw [ew1]; rfl
              have hord := pm_rws_ord hLn4 hpok
              have hR6 := ps_rws_len (n := Ln) hp6
              clear ew1
              have hl : lv_has ls 5 [(0, .ref (g 0)), (1, .int (nI j))] := lv_sub hl [2, 3] rfl
              refine lv_aload_n hx hb d_Model_answer_145 rfl (lv_at hl 0 rfl) ?_
              refine ps_wrv (k := 0) (As := []) (rest := []) ⟨hx, hb, hml, hown, hT⟩ (c_Model_unite (σ := w1) hg (ps_rws Ln (ps_prs (σ.2.1 1) n)) hR6 h16 hrv hord) (cwV 0 hT (ps_gV ml_Model_139 im_Model_unite se_Model_unite in_Model co_Model_unite) rfl rfl rfl cd_Model_unite ⟨Nat.le_of_ble_eq_true rfl, Nat.le_of_ble_eq_true rfl⟩) hK hP hS (fun _ h => h) (by omega) pm_E_0 rfl rfl hl.1 rfl (Nat.le_of_ble_eq_true rfl) d_Model_answer_146 ⟨Nat.zero_le _, Nat.zero_le _⟩ (fun u4 H locs hu4 hP hS _ => ?_)
              obtain ⟨hs4, hw4⟩ := hu4
              have hrv4 : pm_rw (u4.2.1 8) (u4.2.1 9) (ps_rws Ln (ps_prs (σ.2.1 1) n)) := by rw [hs4.2.1 8 (by decide), hs4.2.1 9 (by decide)]; exact hrv
              have h164 := (hs4.1 16 (by decide)).trans h16
              refine lv_aload_n hx hb d_Model_answer_149 rfl (lv_at hl 0 rfl) ?_
              refine ps_get (v := .int (u4.1 14)) hx hb hT i_Model hown hK hP (k := 0) (by decide) pm_E_0 rfl 14 (by decide) (hT _ fl_Model_39) (fun _ h9 => h9) rfl d_Model_answer_150 ?_
              refine ps_seti (y := nI 0) ((hs4.1 14 (by decide)).trans h14) ?_
              refine lv_iconst (v := nI 1) hx hb d_Model_answer_153 (by decide) ?_
              refine lv_icmp_ne (tgt := 168) hx hb d_Model_answer_154 (by decide) (fun c_154 => ?_) (fun c_154 => ?_)
              · have hsz : pm_sm [0, 2, 9, 10, 11, 14, 15, 16, 19, 20, 21, 24] [5, 6, 7, 8, 9, 10, 11] [12] σ u4 := hsw.to hs4 (by decide) (by decide) (by decide)
                have eRR : ps_RR (ps_rws Ln (ps_prs (σ.2.1 1) n)) = (ps_rws Ln (ps_prs (σ.2.1 1) n)) := by rw [hpn]; exact pm_RR_w
                have h16z : u4.1 16 = nI (ps_RR (ps_rws Ln (ps_prs (σ.2.1 1) n))).length := by rw [eRR]; exact h164
                have hrvz : pm_rw (u4.2.1 8) (u4.2.1 9) (ps_RR (ps_rws Ln (ps_prs (σ.2.1 1) n))) := by rw [eRR]; exact hrv4
                have h00z := (hs4.1 0 (by decide)).trans h00
                have h02z := (hs4.1 2 (by decide)).trans h02
                have h09z := (hs4.1 9 (by decide)).trans h09
                have h15z := (hs4.1 15 (by decide)).trans h15
                have h14z := (hs4.1 14 (by decide)).trans h14
                have h05z := (hs4.2.1 5 (by decide)).trans h05
                have hwz : ∀ q, q < 4096 → u4.2.2 12 q = ps_any (ps_rws Ln (ps_prs (σ.2.1 1) n)) q := hw4
                have hkz : ∀ q, q < 4096 → u4.2.2 4 (4096 * j + q) = pm_SS (σ.2.2 4) j q := fun q hq => by rw [hsz.2.2 4 (by decide)]
                refine lv_aload_n hx hb d_Model_answer_168 rfl (lv_at hl 0 rfl) ?_
                refine lv_iload_n hx hb d_Model_answer_169 rfl (lv_at hl 1 rfl) ?_
                refine ps_wrv (k := 0) (As := [.int (nI j)]) (rest := []) ⟨hx, hb, hml, hown, hT⟩ (c_Model_plan (σ := u4) hg j hj (ps_any (ps_rws Ln (ps_prs (σ.2.1 1) n))) (pm_SS (σ.2.2 4) j) hwz hkz cc1 hcc ((hsz.1 4 (by decide)).trans hco)) (cwV 1 hT (ps_gV ml_Model_149 im_Model_plan se_Model_plan in_Model co_Model_plan) rfl rfl rfl cd_Model_plan ⟨Nat.le_of_ble_eq_true rfl, Nat.le_of_ble_eq_true rfl⟩) hK hP hS (fun _ h => h) (by omega) pm_E_0 rfl rfl hl.1 rfl (Nat.le_of_ble_eq_true rfl) d_Model_answer_170 ⟨Nat.zero_le _, Nat.zero_le _⟩ (fun u6 H locs hu6 hP hS _ => ?_)
                obtain ⟨hs6, h19, h20, h21, h24, hrwP⟩ := hu6
                refine lv_aload_n hx hb d_Model_answer_173 rfl (lv_at hl 0 rfl) ?_
                refine ps_get (v := .int (u6.1 14)) hx hb hT i_Model hown hK hP (k := 0) (by decide) pm_E_0 rfl 14 (by decide) (hT _ fl_Model_39) (fun _ h9 => h9) rfl d_Model_answer_174 ?_
                refine ps_seti (y := nI 0) ((hs6.1 14 (by decide)).trans h14z) ?_
                refine lv_iconst (v := nI 2) hx hb d_Model_answer_177 (by decide) ?_
                refine lv_icmp_eq (tgt := 186) hx hb d_Model_answer_178 (by decide) (fun c_178 => ?_) (fun c_178 => ?_)
                · exact absurd c_178 (by decide)
                · refine lv_aload_n hx hb d_Model_answer_181 rfl (lv_at hl 0 rfl) ?_
                  refine lv_iload_n hx hb d_Model_answer_182 rfl (lv_at hl 1 rfl) ?_
                  refine ps_wrv (k := 0) (As := [.int (nI j)]) (rest := []) ⟨hx, hb, hml, hown, hT⟩ (c_Model_use (σ := u6) hg c1 ((hs6.1 9 (by decide)).trans h09z) j hj) (cwV 1 hT (ps_gV ml_Model_83 im_Model_use se_Model_use in_Model co_Model_use) rfl rfl rfl cd_Model_use ⟨Nat.le_of_ble_eq_true rfl, Nat.le_of_ble_eq_true rfl⟩) hK hP hS (fun _ h => h) (by omega) pm_E_0 rfl rfl hl.1 rfl (Nat.le_of_ble_eq_true rfl) d_Model_answer_183 ⟨Nat.zero_le _, Nat.zero_le _⟩ (fun u7 H locs hu7 hP hS _ => ?_)
                  subst hu7
                  refine lv_aload_n hx hb d_Model_answer_186 rfl (lv_at hl 0 rfl) ?_
                  refine ps_get (v := .int (u6.1 14)) hx hb hT i_Model hown hK hP (k := 0) (by decide) pm_E_0 rfl 14 (by decide) (hT _ fl_Model_39) (fun _ h9 => h9) rfl d_Model_answer_187 ?_
                  refine ps_seti (y := nI 0) ((hs6.1 14 (by decide)).trans h14z) ?_
                  rw [hQ]
                  exact W.iret (v := nI 0) hx hb hr (fun zt ht _ => ⟨⟨_, (pm_uA (pm_uI u6 9 (nI (c1 + 1))) 5 (va_up (u6.2.1 5) j (nI (c1 + 1)))), rfl, Or.inl ⟨j, Ln, hj, rfl, hLn, hLn4, hkdl, (hs6.1 0 (by decide)).trans h00z, (hs6.1 2 (by decide)).trans h02z, ((hsz.to hs6 (by decide) (by decide) (by decide)).I (by decide)).A (by decide), Or.inr ⟨by rw [← hkdl]; decide, rfl, by show va_up (u6.2.1 5) j _ = _; rw [hs6.2.1 5 (by decide), h05z]⟩, ⟨(hs6.1 14 (by decide)).trans (h14z.trans hkdl), (hs6.1 15 (by decide)).trans h15z, (hs6.1 16 (by decide)).trans h16z, by show pm_rw (u6.2.1 8) (u6.2.1 9) _; rw [hs6.2.1 8 (by decide), hs6.2.1 9 (by decide)]; exact hrvz, h19, h20.trans (congrArg nI pm_kept), h21, h24, hrwP⟩⟩, ps_hp ht hP⟩, hS.F ht⟩) hS.2.2 d_Model_answer_190
              · exact absurd c_154 (by decide)
      · exact absurd c_5 (by decide)
    · refine lv_if_ne (tgt := 19) hx hb d_Model_answer_5 (by decide) (fun c_5 => ?_) (fun c_5 => ?_)
      · exact absurd (by decide) c_5
      · refine lv_aload_n hx hb d_Model_answer_8 rfl (lv_at hl 0 rfl) ?_
        refine lv_iconst (v := nI 0) hx hb d_Model_answer_9 (by decide) ?_
        refine ps_put (v := .int (nI 0)) (ty := .int) hx hb hT i_Model t_Model t_Model_ok n_Model hown hK hg hP hS (k := 0) (by decide) pm_E_0 rfl 2 (by decide) (hT _ fl_Model_64) (fun _ h9 => h9) rfl (by decide +kernel) rfl rfl (Nat.le_of_ble_eq_true rfl) d_Model_answer_10 (pm_E g cI cZ (pm_uI σ 2 (nI 0))) (pm_h1 (by decide)) (fun _ _ h => pm_E_uI h) (fun H locs hP hS => ?_)
        refine lv_aload_n hx hb d_Model_answer_13 rfl (lv_at hl 0 rfl) ?_
        refine lv_iconst (v := nI 1) hx hb d_Model_answer_14 (by decide) ?_
        refine ps_wri (k := 0) (As := [.int (nI 1)]) (rest := []) ⟨hx, hb, hml, hown, hT⟩ (c_Model_raise (σ := (pm_uI σ 2 (nI 0))) hg (nI 1)) (cwV 1 hT (ps_gV ml_Model_130 im_Model_raise se_Model_raise in_Model co_Model_raise) rfl rfl rfl cd_Model_raise ⟨Nat.le_of_ble_eq_true rfl, Nat.le_of_ble_eq_true rfl⟩) hK hP hS (fun _ h => h) (by omega) pm_E_0 rfl rfl hl.1 rfl (Nat.le_of_ble_eq_true rfl) d_Model_answer_15 ⟨Nat.zero_le _, Nat.zero_le _⟩ (fun rr u3 H locs hu3 hP hS _ => ?_)
        obtain ⟨rfl, rfl⟩ := hu3
        rw [hQ]
        exact W.iret (v := nI 0) hx hb hr (fun zt ht _ => ⟨⟨_, (pm_uI (pm_uI σ 2 (nI 0)) 0 (nI 1)), rfl, Or.inr ⟨Or.inr ⟨j, hj, rfl, hkn⟩, rfl⟩, ps_hp ht hP⟩, hS.F ht⟩) hS.2.2 d_Model_answer_18
