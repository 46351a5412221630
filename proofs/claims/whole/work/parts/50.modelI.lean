
def rm_Model_plan : Room := { frames := 0, cells := 0, slots := 0, locals := 0 }
abbrev ws_Model_plan : List Cond := .code y_Model_plan b_Model_plan 4 none :: ps_tb
set_option maxHeartbeats 4000000 in
set_option maxRecDepth 100000 in
theorem c_Model_plan {l : Launch} {D : va_G} {g : Nat → Nat} {cI cZ : ClassId} {σ : pm_τ} (hg : ps_inj 13 g) (t : Nat) (ht6 : t < 6) (Wn Kp : Nat → Bool) (hw : ∀ q, q < 4096 → σ.2.2 12 q = Wn q) (hkp : ∀ q, q < 4096 → σ.2.2 4 (4096 * t + q) = Kp q) (cc1 : Nat) (hc1 : cc1 ≤ 1000) (hco : σ.1 4 = nI cc1) : Met l y_Model_plan ws_Model_plan rm_Model_plan (ps_Pc D pm_cl (pm_tys cI cZ) 13 g (pm_E g cI cZ σ) [.ref (g 0), .int (nI t)]) (ps_Qv (S := pm_τ) D pm_cl 13 g (fun u => pm_E g cI cZ u) (fun u => pm_sm [19, 20, 21, 24] [10, 11] [] σ u ∧ u.1 19 = nI (ps_cn Wn 4096) ∧ u.1 20 = nI (ps_cn (fun q => Wn q && Kp q) 4096) ∧ u.1 21 = nI (ps_plF (fun q => Wn q && !Kp q) cc1 4096 0).length ∧ u.1 24 = nI (ps_pr1 cc1 (ps_plF (fun q => Wn q && !Kp q) cc1 4096 0)) ∧ pm_rw (u.2.1 10) (u.2.1 11) (ps_plF (fun q => Wn q && !Kp q) cc1 4096 0))) 0 0 (ps_wA 13 g) := by
  refine ps_met (by decide) ?_
  intro p e s m args below meth c hx hb hr hml hts hown hlocks hname hv Q hQ
  obtain ⟨ha, hP, hK⟩ := hv
  have hT : ∀ w ∈ ps_tb, w.before args s = true := fun w h => hts w (List.mem_cons_of_mem _ h)
  have hown : s.vm.findClass R_Model = some m.cls := hown
  have hS : va_S (ps_wA 13 g) s.heap s.heap [] := va_S.rf
  refine ps_enter ha (Nat.le_of_ble_eq_true rfl) (fun ls hl => ?_)
  have hl : lv_has ls 4 [(0, .ref (g 0)), (1, .int (nI t))] := hl
  refine lv_aload_n hx hb d_Model_plan_0 rfl (lv_at hl 0 rfl) ?_
  refine lv_iconst (v := nI 0) hx hb d_Model_plan_1 (by decide) ?_
  refine ps_put (v := .int (nI 0)) (ty := .int) hx hb hT i_Model t_Model t_Model_ok n_Model hown hK hg hP hS (k := 0) (by decide) pm_E_0 rfl 21 (by decide) (hT _ fl_Model_118) (fun _ h9 => h9) rfl (by decide +kernel) rfl rfl (Nat.le_of_ble_eq_true rfl) d_Model_plan_2 (pm_E g cI cZ (pm_uI σ 21 (nI 0))) (pm_h1 (by decide)) (fun _ _ h => pm_E_uI h) (fun H locs hP hS => ?_)
  refine lv_aload_n hx hb d_Model_plan_5 rfl (lv_at hl 0 rfl) ?_
  refine lv_iconst (v := nI 0) hx hb d_Model_plan_6 (by decide) ?_
  refine ps_put (v := .int (nI 0)) (ty := .int) hx hb hT i_Model t_Model t_Model_ok n_Model hown hK hg hP hS (k := 0) (by decide) pm_E_0 rfl 24 (by decide) (hT _ fl_Model_121) (fun _ h9 => h9) rfl (by decide +kernel) rfl rfl (Nat.le_of_ble_eq_true rfl) d_Model_plan_7 (pm_E g cI cZ (pm_uI (pm_uI σ 21 (nI 0)) 24 (nI 0))) (pm_h1 (by decide)) (fun _ _ h => pm_E_uI h) (fun H locs hP hS => ?_)
  refine lv_aload_n hx hb d_Model_plan_10 rfl (lv_at hl 0 rfl) ?_
  refine lv_iconst (v := nI 0) hx hb d_Model_plan_11 (by decide) ?_
  refine ps_put (v := .int (nI 0)) (ty := .int) hx hb hT i_Model t_Model t_Model_ok n_Model hown hK hg hP hS (k := 0) (by decide) pm_E_0 rfl 19 (by decide) (hT _ fl_Model_124) (fun _ h9 => h9) rfl (by decide +kernel) rfl rfl (Nat.le_of_ble_eq_true rfl) d_Model_plan_12 (pm_E g cI cZ (pm_uI (pm_uI (pm_uI σ 21 (nI 0)) 24 (nI 0)) 19 (nI 0))) (pm_h1 (by decide)) (fun _ _ h => pm_E_uI h) (fun H locs hP hS => ?_)
  refine lv_aload_n hx hb d_Model_plan_15 rfl (lv_at hl 0 rfl) ?_
  refine lv_iconst (v := nI 0) hx hb d_Model_plan_16 (by decide) ?_
  refine ps_put (v := .int (nI 0)) (ty := .int) hx hb hT i_Model t_Model t_Model_ok n_Model hown hK hg hP hS (k := 0) (by decide) pm_E_0 rfl 20 (by decide) (hT _ fl_Model_127) (fun _ h9 => h9) rfl (by decide +kernel) rfl rfl (Nat.le_of_ble_eq_true rfl) d_Model_plan_17 (pm_E g cI cZ (pm_uI (pm_uI (pm_uI (pm_uI σ 21 (nI 0)) 24 (nI 0)) 19 (nI 0)) 20 (nI 0))) (pm_h1 (by decide)) (fun _ _ h => pm_E_uI h) (fun H locs hP hS => ?_)
  refine lv_iconst (v := nI 0) hx hb d_Model_plan_20 (by decide) ?_
  refine lv_istore_n (lv' := [(2, .int (nI 0)), (0, .ref (g 0)), (1, .int (nI t))]) hx hb d_Model_plan_21 rfl hl (by decide) rfl (fun ls hl => ?_)
  have L_a : ∀ (n_a : Nat) (k : Nat) (A : List (Nat × Nat)) (o : Option (Nat × Nat)) (u : pm_τ), (k ≤ 4096) → (pm_lo k A o) → (ps_plF (fun q => Wn q && !Kp q) cc1 4096 0 = A ++ pm_run (fun q => Wn q && !Kp q) cc1 (4096 - k) k o) → (pm_sm [19, 20, 21, 24] [10, 11] [] σ u) → (u.1 19 = nI (ps_cn Wn k)) → (u.1 20 = nI (ps_cn (fun q => Wn q && Kp q) k)) → (u.1 21 = nI (A ++ o.toList).length) → (u.1 24 = nI (ps_pr1 cc1 (A ++ o.toList))) → (pm_rw (u.2.1 10) (u.2.1 11) (A ++ o.toList)) → 4096 - k < n_a → ∀ (H : Heap) (locs : List Loc), va_P D pm_cl (ps_wl 13 g (pm_E g cI cZ u)) H → va_S (ps_wA 13 g) s.heap H locs → ∀ (ls : Array Slot), lv_has ls 4 [(0, .ref (g 0)), (1, .int (nI t)), (2, .int (nI k))] → W p l e rm_Model_plan s m args below meth c H locs 0 0 Q (F0 m 22 ls []) := by
    intro n_a
    induction n_a with
    | zero => intro k A o u hk hlo hrun hs h19 h20 h21 h24 hrw hf_a; exact absurd hf_a (Nat.not_lt_zero _)
    | succ n_a ih_a =>
      intro k A o u hk hlo hrun hs h19 h20 h21 h24 hrw hf_a H locs hP hS ls hl
      refine lv_iload_n hx hb d_Model_plan_22 rfl (lv_at hl 2 rfl) ?_
      refine lv_sipush (v := nI 4096) hx hb d_Model_plan_23 (by decide) ?_
      refine lv_icmp_ge (tgt := 206) hx hb d_Model_plan_26 (by decide) (fun c_26 => ?_) (fun c_26 => ?_)
      · have hi9 : k = 4096 := by have := ps_leT c_26 (by omega) (by omega); omega
        rw [hQ]
        exact W.vret hx hb hr (fun zt ht _ => ⟨⟨u, rfl, (by
          have e : ps_plF (fun q => Wn q && !Kp q) cc1 4096 0 = (A ++ o.toList) := by rw [hrun, hi9]; rfl
          rw [e]; rw [hi9] at h19 h20; exact ⟨hs, h19, h20, h21, h24, hrw⟩), ps_hp ht hP⟩, hS.F ht⟩) hS.2.2 d_Model_plan_206
      · have hi9 : k < 4096 := by have := ps_ltOf c_26 (by omega) (by omega); omega
        refine lv_aload_n hx hb d_Model_plan_29 rfl (lv_at hl 0 rfl) ?_
        refine ps_get (v := .ref (g 12)) hx hb hT i_Model hown hK hP (k := 0) (by decide) pm_E_0 rfl 25 (by decide) (hT _ fl_Model_54) (fun _ h9 => h9) rfl d_Model_plan_30 ?_
        refine lv_iload_n hx hb d_Model_plan_33 rfl (lv_at hl 2 rfl) ?_
        refine ps_zald (T := u.2.2 12) hx hb hK hP (k := 12) (by decide) 1 pm_E_12 rfl (i := k) (by omega) (by decide) d_Model_plan_34 ?_
        refine lv_if_ne (tgt := 41) hx hb d_Model_plan_35 (by decide) (fun c_35 => ?_) (fun c_35 => ?_)
        · have hWk : Wn k = true := by rw [← hw k (by omega), ← hs.2.2 12 (by decide)]; exact ps_bI_n0.mp c_35
          refine lv_aload_n hx hb d_Model_plan_41 rfl (lv_at hl 0 rfl) ?_
          refine lv_dup hx hb d_Model_plan_42 rfl ?_
          refine ps_get (v := .int (u.1 19)) hx hb hT i_Model hown hK hP (k := 0) (by decide) pm_E_0 rfl 19 (by decide) (hT _ fl_Model_124) (fun _ h9 => h9) rfl d_Model_plan_43 ?_
          refine ps_seti (y := nI (ps_cn Wn k)) h19 ?_
          refine lv_iconst (v := nI 1) hx hb d_Model_plan_46 (by decide) ?_
          refine lv_iadd hx hb d_Model_plan_47 ?_
          refine ps_seti (y := nI (ps_cn Wn k + 1)) (nI_add _ _) ?_
          refine ps_put (v := .int (nI (ps_cn Wn k + 1))) (ty := .int) hx hb hT i_Model t_Model t_Model_ok n_Model hown hK hg hP hS (k := 0) (by decide) pm_E_0 rfl 19 (by decide) (hT _ fl_Model_124) (fun _ h9 => h9) rfl (by decide +kernel) rfl rfl (Nat.le_of_ble_eq_true rfl) d_Model_plan_48 (pm_E g cI cZ (pm_uI u 19 (nI (ps_cn Wn k + 1)))) (pm_h1 (by decide)) (fun _ _ h => pm_E_uI h) (fun H locs hP hS => ?_)
          refine lv_aload_n hx hb d_Model_plan_51 rfl (lv_at hl 0 rfl) ?_
          refine ps_get (v := .ref (g 4)) hx hb hT i_Model hown hK hP (k := 0) (by decide) pm_E_0 rfl 7 (by decide) (hT _ fl_Model_26) (fun _ h9 => h9) rfl d_Model_plan_52 ?_
          refine lv_sipush (v := nI 4096) hx hb d_Model_plan_55 (by decide) ?_
          refine lv_iload_n hx hb d_Model_plan_58 rfl (lv_at hl 1 rfl) ?_
          refine lv_imul hx hb d_Model_plan_59 ?_
          refine ps_seti (y := nI (4096 * t)) (pk_mul _ _) ?_
          refine lv_iload_n hx hb d_Model_plan_60 rfl (lv_at hl 2 rfl) ?_
          refine lv_iadd hx hb d_Model_plan_61 ?_
          refine ps_seti (y := nI (4096 * t + k)) (nI_add _ _) ?_
          refine ps_zald (T := u.2.2 4) hx hb hK hP (k := 4) (by decide) 1 pm_E_4 rfl (i := 4096 * t + k) (by omega) (by decide) d_Model_plan_62 ?_
          refine lv_if_eq (tgt := 79) hx hb d_Model_plan_63 (by decide) (fun c_63 => ?_) (fun c_63 => ?_)
          · have hKk : Kp k = false := by rw [← hkp k (by omega), ← hs.2.2 4 (by decide)]; exact ps_bI_0.mp c_63
            have hM : (fun q => Wn q && !Kp q) k = true := pm_mis_yes hWk hKk
            cases o with
            | none =>
              have hgp : pm_gp cc1 k (none : Option (Nat × Nat)) := trivial
              refine lv_aload_n hx hb d_Model_plan_79 rfl (lv_at hl 0 rfl) ?_
              refine ps_get (v := .int (u.1 21)) hx hb hT i_Model hown hK hP (k := 0) (by decide) pm_E_0 rfl 21 (by decide) (hT _ fl_Model_118) (fun _ h9 => h9) rfl d_Model_plan_80 ?_
              refine ps_seti (y := nI 0) (h21.trans (by have e : A = [] := hlo; rw [e]; rfl)) ?_
              refine lv_if_le (tgt := 112) hx hb d_Model_plan_83 (by decide) (fun c_83 => ?_) (fun c_83 => ?_)
              · refine lv_iconst (v := nI 0) hx hb d_Model_plan_112 (by decide) ?_
                refine lv_istore_n (lv' := [(3, .int (nI 0)), (0, .ref (g 0)), (1, .int (nI t)), (2, .int (nI k))]) hx hb d_Model_plan_113 rfl hl (by decide) rfl (fun ls hl => ?_)
                refine lv_iload_n hx hb d_Model_plan_114 rfl (lv_at hl 0 rfl) ?_
                refine lv_if_ne (tgt := 166) hx hb d_Model_plan_115 (by decide) (fun c_115 => ?_) (fun c_115 => ?_)
                · exact absurd (by decide) c_115
                · have hcut := pm_run_cutO (M := (fun q => Wn q && !Kp q)) (A := A) hi9 hM hgp
                  have hl2 := pm_lo_bd hlo hgp hi9
                  refine lv_aload_n hx hb d_Model_plan_118 rfl (lv_at hl 1 rfl) ?_
                  refine ps_get (v := .ref (g 10)) hx hb hT i_Model hown hK hP (k := 0) (by decide) pm_E_0 rfl 22 (by decide) (hT _ fl_Model_48) (fun _ h9 => h9) rfl d_Model_plan_119 ?_
                  refine lv_aload_n hx hb d_Model_plan_122 rfl (lv_at hl 1 rfl) ?_
                  refine ps_get (v := .int (u.1 21)) hx hb hT i_Model hown hK hP (k := 0) (by decide) pm_E_0 rfl 21 (by decide) (hT _ fl_Model_118) (fun _ h9 => h9) rfl d_Model_plan_123 ?_
                  refine ps_seti (y := nI (A ++ (none : Option (Nat × Nat)).toList).length) h21 ?_
                  refine lv_iload_n hx hb d_Model_plan_126 rfl (lv_at hl 3 rfl) ?_
                  refine ps_iast (f := u.2.1 10) hx hb hK hg hP hS (k := 10) (by decide) 0 pm_E_10 rfl (i := (A ++ (none : Option (Nat × Nat)).toList).length) hl2 (by decide) d_Model_plan_127 (pm_E g cI cZ (pm_uA (pm_uI u 19 (nI (ps_cn Wn k + 1))) 10 (va_up (u.2.1 10) ((A ++ (none : Option (Nat × Nat)).toList).length) (nI k)))) rfl (fun _ _ h => pm_E_uA h) (fun H locs hP hS => ?_)
                  refine lv_aload_n hx hb d_Model_plan_128 rfl (lv_at hl 1 rfl) ?_
                  refine ps_get (v := .ref (g 11)) hx hb hT i_Model hown hK hP (k := 0) (by decide) pm_E_0 rfl 23 (by decide) (hT _ fl_Model_51) (fun _ h9 => h9) rfl d_Model_plan_129 ?_
                  refine lv_aload_n hx hb d_Model_plan_132 rfl (lv_at hl 1 rfl) ?_
                  refine ps_get (v := .int (u.1 21)) hx hb hT i_Model hown hK hP (k := 0) (by decide) pm_E_0 rfl 21 (by decide) (hT _ fl_Model_118) (fun _ h9 => h9) rfl d_Model_plan_133 ?_
                  refine ps_seti (y := nI (A ++ (none : Option (Nat × Nat)).toList).length) h21 ?_
                  refine lv_iload_n hx hb d_Model_plan_136 rfl (lv_at hl 3 rfl) ?_
                  refine ps_iast (f := u.2.1 11) hx hb hK hg hP hS (k := 11) (by decide) 0 pm_E_11 rfl (i := (A ++ (none : Option (Nat × Nat)).toList).length) hl2 (by decide) d_Model_plan_137 (pm_E g cI cZ (pm_uA (pm_uA (pm_uI u 19 (nI (ps_cn Wn k + 1))) 10 (va_up (u.2.1 10) ((A ++ (none : Option (Nat × Nat)).toList).length) (nI k))) 11 (va_up (u.2.1 11) ((A ++ (none : Option (Nat × Nat)).toList).length) (nI k)))) rfl (fun _ _ h => pm_E_uA h) (fun H locs hP hS => ?_)
                  refine lv_aload_n hx hb d_Model_plan_138 rfl (lv_at hl 1 rfl) ?_
                  refine lv_dup hx hb d_Model_plan_139 rfl ?_
                  refine ps_get (v := .int (u.1 21)) hx hb hT i_Model hown hK hP (k := 0) (by decide) pm_E_0 rfl 21 (by decide) (hT _ fl_Model_118) (fun _ h9 => h9) rfl d_Model_plan_140 ?_
                  refine ps_seti (y := nI (A ++ (none : Option (Nat × Nat)).toList).length) h21 ?_
                  refine lv_iconst (v := nI 1) hx hb d_Model_plan_143 (by decide) ?_
                  refine lv_iadd hx hb d_Model_plan_144 ?_
                  refine ps_put (v := .int ((nI (A ++ (none : Option (Nat × Nat)).toList).length) + (nI 1))) (ty := .int) hx hb hT i_Model t_Model t_Model_ok n_Model hown hK hg hP hS (k := 0) (by decide) pm_E_0 rfl 21 (by decide) (hT _ fl_Model_118) (fun _ h9 => h9) rfl (by decide +kernel) rfl rfl (Nat.le_of_ble_eq_true rfl) d_Model_plan_145 (pm_E g cI cZ (pm_uI (pm_uA (pm_uA (pm_uI u 19 (nI (ps_cn Wn k + 1))) 10 (va_up (u.2.1 10) ((A ++ (none : Option (Nat × Nat)).toList).length) (nI k))) 11 (va_up (u.2.1 11) ((A ++ (none : Option (Nat × Nat)).toList).length) (nI k))) 21 ((nI (A ++ (none : Option (Nat × Nat)).toList).length) + (nI 1)))) (pm_h1 (by decide)) (fun _ _ h => pm_E_uI h) (fun H locs hP hS => ?_)
                  refine lv_aload_n hx hb d_Model_plan_148 rfl (lv_at hl 1 rfl) ?_
                  refine lv_dup hx hb d_Model_plan_149 rfl ?_
                  refine ps_get (v := .int (u.1 24)) hx hb hT i_Model hown hK hP (k := 0) (by decide) pm_E_0 rfl 24 (by decide) (hT _ fl_Model_121) (fun _ h9 => h9) rfl d_Model_plan_150 ?_
                  refine ps_seti (y := nI (ps_pr1 cc1 (A ++ (none : Option (Nat × Nat)).toList))) h24 ?_
                  refine lv_aload_n hx hb d_Model_plan_153 rfl (lv_at hl 1 rfl) ?_
                  refine ps_get (v := .int (u.1 4)) hx hb hT i_Model hown hK hP (k := 0) (by decide) pm_E_0 rfl 4 (by decide) (hT _ fl_Model_17) (fun _ h9 => h9) rfl d_Model_plan_154 ?_
                  refine ps_seti (y := nI cc1) ((hs.1 4 (by decide)).trans hco) ?_
                  refine lv_iconst (v := nI 1) hx hb d_Model_plan_157 (by decide) ?_
                  refine lv_iadd hx hb d_Model_plan_158 ?_
                  refine ps_seti (y := nI (cc1 + 1)) (nI_add _ _) ?_
                  refine lv_iadd hx hb d_Model_plan_159 ?_
                  refine ps_seti (y := nI (ps_pr1 cc1 (A ++ (none : Option (Nat × Nat)).toList) + (cc1 + 1))) (nI_add _ _) ?_
                  refine ps_put (v := .int (nI (ps_pr1 cc1 (A ++ (none : Option (Nat × Nat)).toList) + (cc1 + 1)))) (ty := .int) hx hb hT i_Model t_Model t_Model_ok n_Model hown hK hg hP hS (k := 0) (by decide) pm_E_0 rfl 24 (by decide) (hT _ fl_Model_121) (fun _ h9 => h9) rfl (by decide +kernel) rfl rfl (Nat.le_of_ble_eq_true rfl) d_Model_plan_160 (pm_E g cI cZ (pm_uI (pm_uI (pm_uA (pm_uA (pm_uI u 19 (nI (ps_cn Wn k + 1))) 10 (va_up (u.2.1 10) ((A ++ (none : Option (Nat × Nat)).toList).length) (nI k))) 11 (va_up (u.2.1 11) ((A ++ (none : Option (Nat × Nat)).toList).length) (nI k))) 21 ((nI (A ++ (none : Option (Nat × Nat)).toList).length) + (nI 1))) 24 (nI (ps_pr1 cc1 (A ++ (none : Option (Nat × Nat)).toList) + (cc1 + 1))))) (pm_h1 (by decide)) (fun _ _ h => pm_E_uI h) (fun H locs hP hS => ?_)
                  refine lv_goto (tgt := 200) hx hb d_Model_plan_163 (by decide) ?_
                  refine lv_iinc (v := (nI (k + 1))) (lv' := [(2, .int (nI (k + 1))), (3, .int (nI 0)), (0, .ref (g 0)), (1, .int (nI t))]) hx hb d_Model_plan_200 hl (k := 3) rfl (nI_1 _) (by decide) rfl (fun ls hl => ?_)
                  refine lv_goto (tgt := 22) hx hb d_Model_plan_203 (by decide) ?_
                  exact ih_a (k + 1) (A ++ (none : Option (Nat × Nat)).toList) (some (k, k)) (pm_uI (pm_uI (pm_uA (pm_uA (pm_uI u 19 (nI (ps_cn Wn k + 1))) 10 (va_up (u.2.1 10) ((A ++ (none : Option (Nat × Nat)).toList).length) (nI k))) 11 (va_up (u.2.1 11) ((A ++ (none : Option (Nat × Nat)).toList).length) (nI k))) 21 ((nI (A ++ (none : Option (Nat × Nat)).toList).length) + (nI 1))) 24 (nI (ps_pr1 cc1 (A ++ (none : Option (Nat × Nat)).toList) + (cc1 + 1)))) (by omega) (pm_lo_new hlo hgp) (by rw [hrun, hcut]) (((((hs.I (by decide)).A (by decide)).A (by decide)).I (by decide)).I (by decide)) (congrArg nI (pm_cnT (S := Wn) hWk)) (h20.trans (congrArg nI (pm_cnF (S := (fun q => Wn q && Kp q)) (pm_and_no (Or.inr hKk))))) ((nI_add _ 1).trans (congrArg nI (pm_len1 _ _))) (congrArg nI pm_pr_new) (pm_rw_add hrw) (by omega) _ _ hP hS ls (lv_sub hl [2, 3, 0] rfl)
              · exact absurd (by decide) c_83
            | some r =>
              have hr1 := hlo.1
              have hr2 := hlo.2.1
              have hr3 := hlo.2.2
              refine lv_aload_n hx hb d_Model_plan_79 rfl (lv_at hl 0 rfl) ?_
              refine ps_get (v := .int (u.1 21)) hx hb hT i_Model hown hK hP (k := 0) (by decide) pm_E_0 rfl 21 (by decide) (hT _ fl_Model_118) (fun _ h9 => h9) rfl d_Model_plan_80 ?_
              refine ps_seti (y := nI (A.length + 1)) (h21.trans (by simp)) ?_
              refine lv_if_le (tgt := 112) hx hb d_Model_plan_83 (by decide) (fun c_83 => ?_) (fun c_83 => ?_)
              · exact absurd c_83 (nI_nle (by omega) (by omega))
              · refine lv_iload_n hx hb d_Model_plan_86 rfl (lv_at hl 2 rfl) ?_
                refine lv_aload_n hx hb d_Model_plan_87 rfl (lv_at hl 0 rfl) ?_
                refine ps_get (v := .ref (g 11)) hx hb hT i_Model hown hK hP (k := 0) (by decide) pm_E_0 rfl 23 (by decide) (hT _ fl_Model_51) (fun _ h9 => h9) rfl d_Model_plan_88 ?_
                refine lv_aload_n hx hb d_Model_plan_91 rfl (lv_at hl 0 rfl) ?_
                refine ps_get (v := .int (u.1 21)) hx hb hT i_Model hown hK hP (k := 0) (by decide) pm_E_0 rfl 21 (by decide) (hT _ fl_Model_118) (fun _ h9 => h9) rfl d_Model_plan_92 ?_
                refine ps_seti (y := nI (A.length + 1)) (h21.trans (by simp)) ?_
                refine lv_iconst (v := nI 1) hx hb d_Model_plan_95 (by decide) ?_
                refine lv_isub hx hb d_Model_plan_96 ?_
                refine ps_seti (y := nI A.length) (by rw [pk_sub (by omega), Nat.add_sub_cancel]) ?_
                refine ps_iald (f := u.2.1 11) hx hb hK hP (k := 11) (by decide) 0 pm_E_11 rfl (i := A.length) (by omega) (by decide) d_Model_plan_97 ?_
                refine ps_seti (y := nI r.2) (pm_last hrw) ?_
                refine lv_isub hx hb d_Model_plan_98 ?_
                refine ps_seti (y := nI (k - r.2)) (pk_sub (by omega)) ?_
                refine lv_iconst (v := nI 1) hx hb d_Model_plan_99 (by decide) ?_
                refine lv_isub hx hb d_Model_plan_100 ?_
                refine ps_seti (y := nI (k - r.2 - 1)) (pk_sub (by omega)) ?_
                refine lv_aload_n hx hb d_Model_plan_101 rfl (lv_at hl 0 rfl) ?_
                refine ps_get (v := .int (u.1 4)) hx hb hT i_Model hown hK hP (k := 0) (by decide) pm_E_0 rfl 4 (by decide) (hT _ fl_Model_17) (fun _ h9 => h9) rfl d_Model_plan_102 ?_
                refine ps_seti (y := nI cc1) ((hs.1 4 (by decide)).trans hco) ?_
                refine lv_icmp_gt (tgt := 112) hx hb d_Model_plan_105 (by decide) (fun c_105 => ?_) (fun c_105 => ?_)
                · have hgp : pm_gp cc1 k (some r) := by have := ps_ltT c_105 (by omega) (by omega); show ¬ k - r.2 - 1 ≤ cc1; omega
                  refine lv_iconst (v := nI 0) hx hb d_Model_plan_112 (by decide) ?_
                  refine lv_istore_n (lv' := [(3, .int (nI 0)), (0, .ref (g 0)), (1, .int (nI t)), (2, .int (nI k))]) hx hb d_Model_plan_113 rfl hl (by decide) rfl (fun ls hl => ?_)
                  refine lv_iload_n hx hb d_Model_plan_114 rfl (lv_at hl 0 rfl) ?_
                  refine lv_if_ne (tgt := 166) hx hb d_Model_plan_115 (by decide) (fun c_115 => ?_) (fun c_115 => ?_)
                  · exact absurd (by decide) c_115
                  · have hcut := pm_run_cutO (M := (fun q => Wn q && !Kp q)) (A := A) hi9 hM hgp
                    have hl2 := pm_lo_bd hlo hgp hi9
                    refine lv_aload_n hx hb d_Model_plan_118 rfl (lv_at hl 1 rfl) ?_
                    refine ps_get (v := .ref (g 10)) hx hb hT i_Model hown hK hP (k := 0) (by decide) pm_E_0 rfl 22 (by decide) (hT _ fl_Model_48) (fun _ h9 => h9) rfl d_Model_plan_119 ?_
                    refine lv_aload_n hx hb d_Model_plan_122 rfl (lv_at hl 1 rfl) ?_
                    refine ps_get (v := .int (u.1 21)) hx hb hT i_Model hown hK hP (k := 0) (by decide) pm_E_0 rfl 21 (by decide) (hT _ fl_Model_118) (fun _ h9 => h9) rfl d_Model_plan_123 ?_
                    refine ps_seti (y := nI (A ++ ((some r) : Option (Nat × Nat)).toList).length) h21 ?_
                    refine lv_iload_n hx hb d_Model_plan_126 rfl (lv_at hl 3 rfl) ?_
                    refine ps_iast (f := u.2.1 10) hx hb hK hg hP hS (k := 10) (by decide) 0 pm_E_10 rfl (i := (A ++ ((some r) : Option (Nat × Nat)).toList).length) hl2 (by decide) d_Model_plan_127 (pm_E g cI cZ (pm_uA (pm_uI u 19 (nI (ps_cn Wn k + 1))) 10 (va_up (u.2.1 10) ((A ++ ((some r) : Option (Nat × Nat)).toList).length) (nI k)))) rfl (fun _ _ h => pm_E_uA h) (fun H locs hP hS => ?_)
                    refine lv_aload_n hx hb d_Model_plan_128 rfl (lv_at hl 1 rfl) ?_
                    refine ps_get (v := .ref (g 11)) hx hb hT i_Model hown hK hP (k := 0) (by decide) pm_E_0 rfl 23 (by decide) (hT _ fl_Model_51) (fun _ h9 => h9) rfl d_Model_plan_129 ?_
                    refine lv_aload_n hx hb d_Model_plan_132 rfl (lv_at hl 1 rfl) ?_
                    refine ps_get (v := .int (u.1 21)) hx hb hT i_Model hown hK hP (k := 0) (by decide) pm_E_0 rfl 21 (by decide) (hT _ fl_Model_118) (fun _ h9 => h9) rfl d_Model_plan_133 ?_
                    refine ps_seti (y := nI (A ++ ((some r) : Option (Nat × Nat)).toList).length) h21 ?_
                    refine lv_iload_n hx hb d_Model_plan_136 rfl (lv_at hl 3 rfl) ?_
                    refine ps_iast (f := u.2.1 11) hx hb hK hg hP hS (k := 11) (by decide) 0 pm_E_11 rfl (i := (A ++ ((some r) : Option (Nat × Nat)).toList).length) hl2 (by decide) d_Model_plan_137 (pm_E g cI cZ (pm_uA (pm_uA (pm_uI u 19 (nI (ps_cn Wn k + 1))) 10 (va_up (u.2.1 10) ((A ++ ((some r) : Option (Nat × Nat)).toList).length) (nI k))) 11 (va_up (u.2.1 11) ((A ++ ((some r) : Option (Nat × Nat)).toList).length) (nI k)))) rfl (fun _ _ h => pm_E_uA h) (fun H locs hP hS => ?_)
                    refine lv_aload_n hx hb d_Model_plan_138 rfl (lv_at hl 1 rfl) ?_
                    refine lv_dup hx hb d_Model_plan_139 rfl ?_
                    refine ps_get (v := .int (u.1 21)) hx hb hT i_Model hown hK hP (k := 0) (by decide) pm_E_0 rfl 21 (by decide) (hT _ fl_Model_118) (fun _ h9 => h9) rfl d_Model_plan_140 ?_
                    refine ps_seti (y := nI (A ++ ((some r) : Option (Nat × Nat)).toList).length) h21 ?_
                    refine lv_iconst (v := nI 1) hx hb d_Model_plan_143 (by decide) ?_
                    refine lv_iadd hx hb d_Model_plan_144 ?_
                    refine ps_put (v := .int ((nI (A ++ ((some r) : Option (Nat × Nat)).toList).length) + (nI 1))) (ty := .int) hx hb hT i_Model t_Model t_Model_ok n_Model hown hK hg hP hS (k := 0) (by decide) pm_E_0 rfl 21 (by decide) (hT _ fl_Model_118) (fun _ h9 => h9) rfl (by decide +kernel) rfl rfl (Nat.le_of_ble_eq_true rfl) d_Model_plan_145 (pm_E g cI cZ (pm_uI (pm_uA (pm_uA (pm_uI u 19 (nI (ps_cn Wn k + 1))) 10 (va_up (u.2.1 10) ((A ++ ((some r) : Option (Nat × Nat)).toList).length) (nI k))) 11 (va_up (u.2.1 11) ((A ++ ((some r) : Option (Nat × Nat)).toList).length) (nI k))) 21 ((nI (A ++ ((some r) : Option (Nat × Nat)).toList).length) + (nI 1)))) (pm_h1 (by decide)) (fun _ _ h => pm_E_uI h) (fun H locs hP hS => ?_)
                    refine lv_aload_n hx hb d_Model_plan_148 rfl (lv_at hl 1 rfl) ?_
                    refine lv_dup hx hb d_Model_plan_149 rfl ?_
                    refine ps_get (v := .int (u.1 24)) hx hb hT i_Model hown hK hP (k := 0) (by decide) pm_E_0 rfl 24 (by decide) (hT _ fl_Model_121) (fun _ h9 => h9) rfl d_Model_plan_150 ?_
                    refine ps_seti (y := nI (ps_pr1 cc1 (A ++ ((some r) : Option (Nat × Nat)).toList))) h24 ?_
                    refine lv_aload_n hx hb d_Model_plan_153 rfl (lv_at hl 1 rfl) ?_
                    refine ps_get (v := .int (u.1 4)) hx hb hT i_Model hown hK hP (k := 0) (by decide) pm_E_0 rfl 4 (by decide) (hT _ fl_Model_17) (fun _ h9 => h9) rfl d_Model_plan_154 ?_
                    refine ps_seti (y := nI cc1) ((hs.1 4 (by decide)).trans hco) ?_
                    refine lv_iconst (v := nI 1) hx hb d_Model_plan_157 (by decide) ?_
                    refine lv_iadd hx hb d_Model_plan_158 ?_
                    refine ps_seti (y := nI (cc1 + 1)) (nI_add _ _) ?_
                    refine lv_iadd hx hb d_Model_plan_159 ?_
                    refine ps_seti (y := nI (ps_pr1 cc1 (A ++ ((some r) : Option (Nat × Nat)).toList) + (cc1 + 1))) (nI_add _ _) ?_
                    refine ps_put (v := .int (nI (ps_pr1 cc1 (A ++ ((some r) : Option (Nat × Nat)).toList) + (cc1 + 1)))) (ty := .int) hx hb hT i_Model t_Model t_Model_ok n_Model hown hK hg hP hS (k := 0) (by decide) pm_E_0 rfl 24 (by decide) (hT _ fl_Model_121) (fun _ h9 => h9) rfl (by decide +kernel) rfl rfl (Nat.le_of_ble_eq_true rfl) d_Model_plan_160 (pm_E g cI cZ (pm_uI (pm_uI (pm_uA (pm_uA (pm_uI u 19 (nI (ps_cn Wn k + 1))) 10 (va_up (u.2.1 10) ((A ++ ((some r) : Option (Nat × Nat)).toList).length) (nI k))) 11 (va_up (u.2.1 11) ((A ++ ((some r) : Option (Nat × Nat)).toList).length) (nI k))) 21 ((nI (A ++ ((some r) : Option (Nat × Nat)).toList).length) + (nI 1))) 24 (nI (ps_pr1 cc1 (A ++ ((some r) : Option (Nat × Nat)).toList) + (cc1 + 1))))) (pm_h1 (by decide)) (fun _ _ h => pm_E_uI h) (fun H locs hP hS => ?_)
                    refine lv_goto (tgt := 200) hx hb d_Model_plan_163 (by decide) ?_
                    refine lv_iinc (v := (nI (k + 1))) (lv' := [(2, .int (nI (k + 1))), (3, .int (nI 0)), (0, .ref (g 0)), (1, .int (nI t))]) hx hb d_Model_plan_200 hl (k := 3) rfl (nI_1 _) (by decide) rfl (fun ls hl => ?_)
                    refine lv_goto (tgt := 22) hx hb d_Model_plan_203 (by decide) ?_
                    exact ih_a (k + 1) (A ++ ((some r) : Option (Nat × Nat)).toList) (some (k, k)) (pm_uI (pm_uI (pm_uA (pm_uA (pm_uI u 19 (nI (ps_cn Wn k + 1))) 10 (va_up (u.2.1 10) ((A ++ ((some r) : Option (Nat × Nat)).toList).length) (nI k))) 11 (va_up (u.2.1 11) ((A ++ ((some r) : Option (Nat × Nat)).toList).length) (nI k))) 21 ((nI (A ++ ((some r) : Option (Nat × Nat)).toList).length) + (nI 1))) 24 (nI (ps_pr1 cc1 (A ++ ((some r) : Option (Nat × Nat)).toList) + (cc1 + 1)))) (by omega) (pm_lo_new hlo hgp) (by rw [hrun, hcut]) (((((hs.I (by decide)).A (by decide)).A (by decide)).I (by decide)).I (by decide)) (congrArg nI (pm_cnT (S := Wn) hWk)) (h20.trans (congrArg nI (pm_cnF (S := (fun q => Wn q && Kp q)) (pm_and_no (Or.inr hKk))))) ((nI_add _ 1).trans (congrArg nI (pm_len1 _ _))) (congrArg nI pm_pr_new) (pm_rw_add hrw) (by omega) _ _ hP hS ls (lv_sub hl [2, 3, 0] rfl)
                · have hgp : k - r.2 - 1 ≤ cc1 := ps_leOf c_105 (by omega) (by omega)
                  refine lv_iconst (v := nI 1) hx hb d_Model_plan_108 (by decide) ?_
                  refine lv_goto (tgt := 113) hx hb d_Model_plan_109 (by decide) ?_
                  refine lv_istore_n (lv' := [(3, .int (nI 1)), (0, .ref (g 0)), (1, .int (nI t)), (2, .int (nI k))]) hx hb d_Model_plan_113 rfl hl (by decide) rfl (fun ls hl => ?_)
                  refine lv_iload_n hx hb d_Model_plan_114 rfl (lv_at hl 0 rfl) ?_
                  refine lv_if_ne (tgt := 166) hx hb d_Model_plan_115 (by decide) (fun c_115 => ?_) (fun c_115 => ?_)
                  · refine lv_aload_n hx hb d_Model_plan_166 rfl (lv_at hl 1 rfl) ?_
                    refine lv_dup hx hb d_Model_plan_167 rfl ?_
                    refine ps_get (v := .int (u.1 24)) hx hb hT i_Model hown hK hP (k := 0) (by decide) pm_E_0 rfl 24 (by decide) (hT _ fl_Model_121) (fun _ h9 => h9) rfl d_Model_plan_168 ?_
                    refine ps_seti (y := nI (ps_pr1 cc1 (A ++ ((some r) : Option (Nat × Nat)).toList))) h24 ?_
                    refine lv_iload_n hx hb d_Model_plan_171 rfl (lv_at hl 3 rfl) ?_
                    refine lv_aload_n hx hb d_Model_plan_172 rfl (lv_at hl 1 rfl) ?_
                    refine ps_get (v := .ref (g 11)) hx hb hT i_Model hown hK hP (k := 0) (by decide) pm_E_0 rfl 23 (by decide) (hT _ fl_Model_51) (fun _ h9 => h9) rfl d_Model_plan_173 ?_
                    refine lv_aload_n hx hb d_Model_plan_176 rfl (lv_at hl 1 rfl) ?_
                    refine ps_get (v := .int (u.1 21)) hx hb hT i_Model hown hK hP (k := 0) (by decide) pm_E_0 rfl 21 (by decide) (hT _ fl_Model_118) (fun _ h9 => h9) rfl d_Model_plan_177 ?_
                    refine ps_seti (y := nI (A.length + 1)) (h21.trans (by simp)) ?_
                    refine lv_iconst (v := nI 1) hx hb d_Model_plan_180 (by decide) ?_
                    refine lv_isub hx hb d_Model_plan_181 ?_
                    refine ps_seti (y := nI A.length) (by rw [pk_sub (by omega), Nat.add_sub_cancel]) ?_
                    refine ps_iald (f := u.2.1 11) hx hb hK hP (k := 11) (by decide) 0 pm_E_11 rfl (i := A.length) (by omega) (by decide) d_Model_plan_182 ?_
                    refine ps_seti (y := nI r.2) (pm_last hrw) ?_
                    refine lv_isub hx hb d_Model_plan_183 ?_
                    refine ps_seti (y := nI (k - r.2)) (pk_sub (by omega)) ?_
                    refine lv_iadd hx hb d_Model_plan_184 ?_
                    refine ps_seti (y := nI (ps_pr1 cc1 (A ++ ((some r) : Option (Nat × Nat)).toList) + (k - r.2))) (nI_add _ _) ?_
                    refine ps_put (v := .int (nI (ps_pr1 cc1 (A ++ ((some r) : Option (Nat × Nat)).toList) + (k - r.2)))) (ty := .int) hx hb hT i_Model t_Model t_Model_ok n_Model hown hK hg hP hS (k := 0) (by decide) pm_E_0 rfl 24 (by decide) (hT _ fl_Model_121) (fun _ h9 => h9) rfl (by decide +kernel) rfl rfl (Nat.le_of_ble_eq_true rfl) d_Model_plan_185 (pm_E g cI cZ (pm_uI (pm_uI u 19 (nI (ps_cn Wn k + 1))) 24 (nI (ps_pr1 cc1 (A ++ ((some r) : Option (Nat × Nat)).toList) + (k - r.2))))) (pm_h1 (by decide)) (fun _ _ h => pm_E_uI h) (fun H locs hP hS => ?_)
                    refine lv_aload_n hx hb d_Model_plan_188 rfl (lv_at hl 1 rfl) ?_
                    refine ps_get (v := .ref (g 11)) hx hb hT i_Model hown hK hP (k := 0) (by decide) pm_E_0 rfl 23 (by decide) (hT _ fl_Model_51) (fun _ h9 => h9) rfl d_Model_plan_189 ?_
                    refine lv_aload_n hx hb d_Model_plan_192 rfl (lv_at hl 1 rfl) ?_
                    refine ps_get (v := .int (u.1 21)) hx hb hT i_Model hown hK hP (k := 0) (by decide) pm_E_0 rfl 21 (by decide) (hT _ fl_Model_118) (fun _ h9 => h9) rfl d_Model_plan_193 ?_
                    refine ps_seti (y := nI (A.length + 1)) (h21.trans (by simp)) ?_
                    refine lv_iconst (v := nI 1) hx hb d_Model_plan_196 (by decide) ?_
                    refine lv_isub hx hb d_Model_plan_197 ?_
                    refine ps_seti (y := nI A.length) (by rw [pk_sub (by omega), Nat.add_sub_cancel]) ?_
                    refine lv_iload_n hx hb d_Model_plan_198 rfl (lv_at hl 3 rfl) ?_
                    refine ps_iast (f := u.2.1 11) hx hb hK hg hP hS (k := 11) (by decide) 0 pm_E_11 rfl (i := A.length) (by omega) (by decide) d_Model_plan_199 (pm_E g cI cZ (pm_uA (pm_uI (pm_uI u 19 (nI (ps_cn Wn k + 1))) 24 (nI (ps_pr1 cc1 (A ++ ((some r) : Option (Nat × Nat)).toList) + (k - r.2)))) 11 (va_up (u.2.1 11) A.length (nI k)))) rfl (fun _ _ h => pm_E_uA h) (fun H locs hP hS => ?_)
                    refine lv_iinc (v := (nI (k + 1))) (lv' := [(2, .int (nI (k + 1))), (3, .int (nI 1)), (0, .ref (g 0)), (1, .int (nI t))]) hx hb d_Model_plan_200 hl (k := 3) rfl (nI_1 _) (by decide) rfl (fun ls hl => ?_)
                    refine lv_goto (tgt := 22) hx hb d_Model_plan_203 (by decide) ?_
                    exact ih_a (k + 1) A (some (r.1, k)) (pm_uA (pm_uI (pm_uI u 19 (nI (ps_cn Wn k + 1))) 24 (nI (ps_pr1 cc1 (A ++ ((some r) : Option (Nat × Nat)).toList) + (k - r.2)))) 11 (va_up (u.2.1 11) A.length (nI k))) (by omega) (pm_lo_on hlo) (by rw [hrun, pm_run_onO (M := (fun q => Wn q && !Kp q)) hi9 hM hgp]) (((hs.I (by decide)).I (by decide)).A (by decide)) (congrArg nI (pm_cnT (S := Wn) hWk)) (h20.trans (congrArg nI (pm_cnF (S := (fun q => Wn q && Kp q)) (pm_and_no (Or.inr hKk))))) (h21.trans (by simp)) (congrArg nI (pm_pr_mv hr2 (by omega))) (pm_rw_mv hrw) (by omega) _ _ hP hS ls (lv_sub hl [2, 3, 0] rfl)
                  · exact absurd c_115 (by decide)
          · have hKk : Kp k = true := by rw [← hkp k (by omega), ← hs.2.2 4 (by decide)]; exact ps_bI_n0.mp c_63
            refine lv_aload_n hx hb d_Model_plan_66 rfl (lv_at hl 0 rfl) ?_
            refine lv_dup hx hb d_Model_plan_67 rfl ?_
            refine ps_get (v := .int (u.1 20)) hx hb hT i_Model hown hK hP (k := 0) (by decide) pm_E_0 rfl 20 (by decide) (hT _ fl_Model_127) (fun _ h9 => h9) rfl d_Model_plan_68 ?_
            refine ps_seti (y := nI (ps_cn (fun q => Wn q && Kp q) k)) h20 ?_
            refine lv_iconst (v := nI 1) hx hb d_Model_plan_71 (by decide) ?_
            refine lv_iadd hx hb d_Model_plan_72 ?_
            refine ps_seti (y := nI (ps_cn (fun q => Wn q && Kp q) k + 1)) (nI_add _ _) ?_
            refine ps_put (v := .int (nI (ps_cn (fun q => Wn q && Kp q) k + 1))) (ty := .int) hx hb hT i_Model t_Model t_Model_ok n_Model hown hK hg hP hS (k := 0) (by decide) pm_E_0 rfl 20 (by decide) (hT _ fl_Model_127) (fun _ h9 => h9) rfl (by decide +kernel) rfl rfl (Nat.le_of_ble_eq_true rfl) d_Model_plan_73 (pm_E g cI cZ (pm_uI (pm_uI u 19 (nI (ps_cn Wn k + 1))) 20 (nI (ps_cn (fun q => Wn q && Kp q) k + 1)))) (pm_h1 (by decide)) (fun _ _ h => pm_E_uI h) (fun H locs hP hS => ?_)
            refine lv_goto (tgt := 200) hx hb d_Model_plan_76 (by decide) ?_
            refine lv_iinc (v := (nI (k + 1))) (lv' := [(2, .int (nI (k + 1))), (0, .ref (g 0)), (1, .int (nI t))]) hx hb d_Model_plan_200 hl (k := 2) rfl (nI_1 _) (by decide) rfl (fun ls hl => ?_)
            refine lv_goto (tgt := 22) hx hb d_Model_plan_203 (by decide) ?_
            exact ih_a (k + 1) A o (pm_uI (pm_uI u 19 (nI (ps_cn Wn k + 1))) 20 (nI (ps_cn (fun q => Wn q && Kp q) k + 1))) (by omega) hlo.up (by rw [hrun, pm_run_no hi9 (pm_mis_hold hWk hKk)]) ((hs.I (by decide)).I (by decide)) (congrArg nI (pm_cnT (S := Wn) hWk)) (congrArg nI (pm_cnT (S := (fun q => Wn q && Kp q)) (pm_and_yes hWk hKk))) h21 h24 hrw (by omega) _ _ hP hS ls (lv_sub hl [1, 2, 0] rfl)
        · have hWk : Wn k = false := by rw [← hw k (by omega), ← hs.2.2 12 (by decide)]; exact ps_bI_0.mp c_35
          refine lv_goto (tgt := 200) hx hb d_Model_plan_38 (by decide) ?_
          refine lv_iinc (v := (nI (k + 1))) (lv' := [(2, .int (nI (k + 1))), (0, .ref (g 0)), (1, .int (nI t))]) hx hb d_Model_plan_200 hl (k := 2) rfl (nI_1 _) (by decide) rfl (fun ls hl => ?_)
          refine lv_goto (tgt := 22) hx hb d_Model_plan_203 (by decide) ?_
          exact ih_a (k + 1) A o u (by omega) hlo.up (by rw [hrun, pm_run_no hi9 (pm_mis_no hWk)]) hs (h19.trans (congrArg nI (pm_cnF (S := Wn) hWk))) (h20.trans (congrArg nI (pm_cnF (S := (fun q => Wn q && Kp q)) (pm_and_no (Or.inl hWk))))) h21 h24 hrw (by omega) _ _ hP hS ls (lv_sub hl [1, 2, 0] rfl)
  exact L_a (4096 - 0 + 1) 0 ([]) none (pm_uI (pm_uI (pm_uI (pm_uI σ 21 (nI 0)) 24 (nI 0)) 19 (nI 0)) 20 (nI 0)) (Nat.zero_le _) rfl (((pm_run_eq 4096 0 rfl).1).symm) (((((pm_sm_rf _ _ _ _).I (by decide)).I (by decide)).I (by decide)).I (by decide)) rfl rfl rfl rfl (pm_rw_0 _ _) (by omega) _ _ hP hS ls (lv_sub hl [1, 2, 0] rfl)
